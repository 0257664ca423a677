/-! ===== pure: the kind at hand, an item laid down ===== -/
theorem tbl_word : ∀ k, k < 7 → f_X2_wordOf (nI k) = some k := by decide +kernel
theorem words_apart : ∀ w, w < 7 → ∀ v, v < 7 → slen w = slen v → sch w 0 = sch v 0 → w = v := by decide +kernel
theorem kind_both {τ m : K2} {n a b : Nat} (h : TT τ m n a b) : (f_X2_kindAtHand τ = some (-1) ∧ f_X4_readItem m = f_X4_readItem_B38 m (-1)) ∨ (∃ k, k ≤ 6 ∧ a < b ∧ f_X2_kindAtHand τ = some (nI k) ∧ f_X4_readItem m = f_X4_readItem_B38 m (nI k)) := by
  obtain ⟨q, hq⟩ : ∃ q : Nat → Bool, ∀ w, w < 7 → f_X2_isWord τ w = some (bI (q w)) ∧ f_X4_isWord m w = some (bI (q w)) ∧ (q w = true → a < b ∧ τ 1 1 = 1 ∧ b = a + slen w ∧ ∀ i, i < slen w → τ 0 (a + i) = sch w i) := by
    refine ⟨fun w => decide (f_X2_isWord τ w = some 1), fun w hw => ?_⟩
    obtain ⟨z, e1, e2, e3⟩ := word_both h (w := w) (by omega)
    have ez : decide (f_X2_isWord τ w = some 1) = z := by
      rw [e1]
      cases z
      · rfl
      · rfl
    have ez' : (fun w => decide (f_X2_isWord τ w = some 1)) w = z := ez
    rw [ez']
    exact ⟨e1, e2, e3⟩
  have xs : ∀ n1 k, k < 7 → f_X2_kindAtHand_L2 τ (n1 + 1) (nI k) = if bI (q k) = 0 then f_X2_kindAtHand_L2 τ n1 (nI (k + 1)) else some (nI k) := by
    intro n1 k hk
    rw [f_X2_kindAtHand_L2, if_neg (g7 hk), tbl_word k hk, bd_some, if_pos (show k < 15 by omega), (hq k hk).1, bd_some, nI_1]
  have xe : ∀ n1, f_X2_kindAtHand_L2 τ (n1 + 1) (nI 7) = some (-1) := by
    intro n1
    rw [f_X2_kindAtHand_L2, if_pos e7]
  have ms : ∀ n1 x k, k < 7 → f_X4_readItem_L4 (n1 + 1) m x (nI k) = if bI (q k) = 0 then f_X4_readItem_L4 n1 m x (nI (k + 1)) else f_X4_readItem_L4 n1 m (nI k) (nI (k + 1)) := by
    intro n1 x k hk
    have ck : (nI k).toNatClampNeg = k := nI_clamp (by omega)
    rw [f_X4_readItem_L4, if_neg (g7 hk), if_pos (ix_nI hk (by omega)), ck, (hq k hk).2.1, bd_some, nI_1]
  have me : ∀ n1 x, f_X4_readItem_L4 (n1 + 1) m x (nI 7) = f_X4_readItem_B38 m x := by
    intro n1 x
    rw [f_X4_readItem_L4, if_pos e7]
  have mnone : ∀ t k, k + t = 7 → (∀ w, k ≤ w → w < 7 → q w = false) → ∀ n2 x, t < n2 → f_X4_readItem_L4 n2 m x (nI k) = f_X4_readItem_B38 m x := by
    intro t
    induction t with
    | zero =>
      intro k hk hf n2 x hn
      obtain ⟨n2, rfl⟩ : ∃ z, n2 = z + 1 := ⟨n2 - 1, by omega⟩
      have hk7 : k = 7 := by omega
      subst hk7
      exact me n2 x
    | succ t ih =>
      intro k hk hf n2 x hn
      obtain ⟨n2, rfl⟩ : ∃ z, n2 = z + 1 := ⟨n2 - 1, by omega⟩
      rw [ms n2 x k (by omega), hf k (Nat.le_refl _) (by omega), if_pos (show bI false = 0 from rfl)]
      exact ih (k + 1) (by omega) (fun w h1 h2 => hf w (by omega) h2) n2 x (by omega)
  by_cases c : ∃ w, w < 7 ∧ q w = true
  · obtain ⟨w, hw, ew⟩ := c
    have ho : ∀ v, v < 7 → v ≠ w → q v = false := by
      intro v hv hne
      cases e : q v
      · rfl
      · obtain ⟨-, -, b1, b2⟩ := (hq w hw).2.2 ew
        obtain ⟨-, -, d1, d2⟩ := (hq v hv).2.2 e
        have s1 := slen_b w (by omega)
        have s2 := slen_b v (by omega)
        have z1 := b2 0 (by omega)
        have z2 := d2 0 (by omega)
        exact absurd (words_apart v hv w hw (by omega) (z2.symm.trans z1)) hne
    obtain ⟨hab, -⟩ := (hq w hw).2.2 ew
    refine Or.inr ⟨w, by omega, hab, ?_, ?_⟩
    · have key : ∀ t k, k + t = w → ∀ n1, t < n1 → f_X2_kindAtHand_L2 τ n1 (nI k) = some (nI w) := by
        intro t
        induction t with
        | zero =>
          intro k hk n1 hn
          obtain ⟨n1, rfl⟩ : ∃ z, n1 = z + 1 := ⟨n1 - 1, by omega⟩
          have hkw : k = w := by omega
          subst hkw
          rw [xs n1 k hw, ew, if_neg (show ¬ bI true = 0 by decide)]
        | succ t ih =>
          intro k hk n1 hn
          obtain ⟨n1, rfl⟩ : ∃ z, n1 = z + 1 := ⟨n1 - 1, by omega⟩
          rw [xs n1 k (by omega), ho k (by omega) (by omega), if_pos (show bI false = 0 from rfl)]
          exact ih (k + 1) (by omega) n1 (by omega)
      exact key w 0 (by omega) 1000 (by omega)
    · have key : ∀ t k, k + t = w → ∀ n2 x, t + 8 < n2 → f_X4_readItem_L4 n2 m x (nI k) = f_X4_readItem_B38 m (nI w) := by
        intro t
        induction t with
        | zero =>
          intro k hk n2 x hn
          obtain ⟨n2, rfl⟩ : ∃ z, n2 = z + 1 := ⟨n2 - 1, by omega⟩
          have hkw : k = w := by omega
          subst hkw
          rw [ms n2 x k hw, ew, if_neg (show ¬ bI true = 0 by decide)]
          exact mnone (6 - k) (k + 1) (by omega) (fun v h1 h2 => ho v h2 (by omega)) n2 _ (by omega)
        | succ t ih =>
          intro k hk n2 x hn
          obtain ⟨n2, rfl⟩ : ∃ z, n2 = z + 1 := ⟨n2 - 1, by omega⟩
          rw [ms n2 x k (by omega), ho k (by omega) (by omega), if_pos (show bI false = 0 from rfl)]
          exact ih (k + 1) (by omega) n2 x (by omega)
      exact key w 0 (by omega) 1000 (-1) (by omega)
  · have hf : ∀ w, w < 7 → q w = false := by
      intro w hw
      cases e : q w
      · rfl
      · exact absurd ⟨w, hw, e⟩ c
    refine Or.inl ⟨?_, mnone 7 0 (by omega) (fun w _ h2 => hf w h2) 1000 (-1) (by omega)⟩
    have key : ∀ t k, k + t = 7 → ∀ n1, t < n1 → f_X2_kindAtHand_L2 τ n1 (nI k) = some (-1) := by
      intro t
      induction t with
      | zero =>
        intro k hk n1 hn
        obtain ⟨n1, rfl⟩ : ∃ z, n1 = z + 1 := ⟨n1 - 1, by omega⟩
        have hk7 : k = 7 := by omega
        subst hk7
        exact xe n1
      | succ t ih =>
        intro k hk n1 hn
        obtain ⟨n1, rfl⟩ : ∃ z, n1 = z + 1 := ⟨n1 - 1, by omega⟩
        rw [xs n1 k (by omega), hf k (by omega), if_pos (show bI false = 0 from rfl)]
        exact ih (k + 1) (by omega) n1 (by omega)
    exact key 7 0 (by omega) 1000 (by omega)
/-! an item laid down -/
def row6 (f : Nat → Int32) (k : Nat) (a1 a2 a3 a4 a5 a6 : Int32) : Nat → Int32 := upd (upd (upd (upd (upd (upd f (6 * k) a1) (6 * k + 1) a2) (6 * k + 2) a3) (6 * k + 3) a4) (6 * k + 4) a5) (6 * k + 5) a6
theorem M_addItem {m : K2} {k : Nat} (hk : k < 120) (h7 : m 11 7 = nI k) (a1 a2 a3 a4 a5 a6 : Int32) : f_X4_addItem m a1 a2 a3 a4 a5 a6 = some (va_up (va_up m 6 (row6 (m 6) k a1 a2 a3 a4 a5 a6)) 11 (upd (m 11) 7 (nI (k + 1)))) := by
  have e0 : (6 : Int32) * nI k = nI (6 * k) := (Int32.ofNat_mul 6 k).symm
  have e1 : nI (6 * k) + 1 = nI (6 * k + 1) := nI_add (6 * k) 1
  have e2 : nI (6 * k) + 2 = nI (6 * k + 2) := nI_add (6 * k) 2
  have e3 : nI (6 * k) + 3 = nI (6 * k + 3) := nI_add (6 * k) 3
  have e4 : nI (6 * k) + 4 = nI (6 * k + 4) := nI_add (6 * k) 4
  have e5 : nI (6 * k) + 5 = nI (6 * k + 5) := nI_add (6 * k) 5
  have c0 : (nI (6 * k)).toNatClampNeg = 6 * k := nI_clamp (by omega)
  have c1 : (nI (6 * k + 1)).toNatClampNeg = 6 * k + 1 := nI_clamp (by omega)
  have c2 : (nI (6 * k + 2)).toNatClampNeg = 6 * k + 2 := nI_clamp (by omega)
  have c3 : (nI (6 * k + 3)).toNatClampNeg = 6 * k + 3 := nI_clamp (by omega)
  have c4 : (nI (6 * k + 4)).toNatClampNeg = 6 * k + 4 := nI_clamp (by omega)
  have c5 : (nI (6 * k + 5)).toNatClampNeg = 6 * k + 5 := nI_clamp (by omega)
  unfold f_X4_addItem row6
  rw [h7, e0, e1, e2, e3, e4, e5, if_pos (ix_nI (by omega) (by omega)), if_pos (ix_nI (by omega) (by omega)), if_pos (ix_nI (by omega) (by omega)), if_pos (ix_nI (by omega) (by omega)), if_pos (ix_nI (by omega) (by omega)), if_pos (ix_nI (by omega) (by omega)), c0, c1, c2, c3, c4, c5, nI_1]
theorem row6_0 {f : Nat → Int32} {k : Nat} {a1 a2 a3 a4 a5 a6 : Int32} : row6 f k a1 a2 a3 a4 a5 a6 (6 * k) = a1 := by
  unfold row6; rw [upd_n (by omega), upd_n (by omega), upd_n (by omega), upd_n (by omega), upd_n (by omega), upd_s]
theorem row6_1 {f : Nat → Int32} {k : Nat} {a1 a2 a3 a4 a5 a6 : Int32} : row6 f k a1 a2 a3 a4 a5 a6 (6 * k + 1) = a2 := by
  unfold row6; rw [upd_n (by omega), upd_n (by omega), upd_n (by omega), upd_n (by omega), upd_s]
theorem row6_2 {f : Nat → Int32} {k : Nat} {a1 a2 a3 a4 a5 a6 : Int32} : row6 f k a1 a2 a3 a4 a5 a6 (6 * k + 2) = a3 := by
  unfold row6; rw [upd_n (by omega), upd_n (by omega), upd_n (by omega), upd_s]
theorem row6_3 {f : Nat → Int32} {k : Nat} {a1 a2 a3 a4 a5 a6 : Int32} : row6 f k a1 a2 a3 a4 a5 a6 (6 * k + 3) = a4 := by
  unfold row6; rw [upd_n (by omega), upd_n (by omega), upd_s]
theorem row6_4 {f : Nat → Int32} {k : Nat} {a1 a2 a3 a4 a5 a6 : Int32} : row6 f k a1 a2 a3 a4 a5 a6 (6 * k + 4) = a5 := by
  unfold row6; rw [upd_n (by omega), upd_s]
theorem row6_5 {f : Nat → Int32} {k : Nat} {a1 a2 a3 a4 a5 a6 : Int32} : row6 f k a1 a2 a3 a4 a5 a6 (6 * k + 5) = a6 := by
  unfold row6; rw [upd_s]
theorem row6_n {f : Nat → Int32} {k j : Nat} {a1 a2 a3 a4 a5 a6 : Int32} (h : j < 6 * k) : row6 f k a1 a2 a3 a4 a5 a6 j = f j := by
  unfold row6; rw [upd_n (by omega), upd_n (by omega), upd_n (by omega), upd_n (by omega), upd_n (by omega), upd_n (by omega)]
theorem TT.keep {τ m m' : K2} {n a b : Nat} (h : TT τ m n a b) (h5 : m' 5 = m 5) (h11 : ∀ i, 1 ≤ i → i ≤ 5 → m' 11 i = m 11 i) : TT τ m' n a b := by
  unfold TT TB Tk HB at *
  rw [h5, h11 1 (by omega) (by omega), h11 2 (by omega) (by omega), h11 3 (by omega) (by omega), h11 4 (by omega) (by omega), h11 5 (by omega) (by omega)]
  exact h
/-! what an item does to a kingdom -/
def birdS (σ : K2) (f : Nat → Int32) : K2 := va_up (va_up (va_up (addS σ (f 0) (f 1) (f 2)) 3 (upd (addS σ (f 0) (f 1) (f 2) 3) (nb σ) (f 3))) 4 (upd (addS σ (f 0) (f 1) (f 2) 4) (nb σ) (f 4))) 5 (upd (addS σ (f 0) (f 1) (f 2) 5) (nb σ) (f 5))
def It (f : Nat → Int32) (σ σ' : K2) : Prop :=
  (f 0 = 10 ∧ ∃ i, i ≤ 5 ∧ f 1 = nI i ∧ (∃ w, w ≤ 99 ∧ f 2 = nI w) ∧ σ' = va_up σ 9 (upd (σ 9) i (f 2))) ∨
  (f 0 = 11 ∧ (∃ w, w ≤ 9999 ∧ f 1 = nI w) ∧ σ' = va_up σ 11 (upd (σ 11) 1 (f 1))) ∨
  (f 0 = 12 ∧ ∃ i, i < nb σ ∧ f 1 = nI i ∧ σ' = va_up σ 6 (upd (σ 6) i 1)) ∨
  (nb σ < 8 ∧ (∃ k, k ≤ 6 ∧ f 0 = nI k) ∧ (∃ l, l ≤ 5 ∧ f 1 = nI l) ∧ (f 2 = -1 ∨ ∃ p, p < nb σ ∧ f 2 = nI p) ∧ (∃ g, g ≤ 9999 ∧ f 3 = nI g) ∧ (f 4 = 0 ∨ f 4 = 1) ∧ (f 5 = 0 ∨ f 5 = 1) ∧ σ' = birdS σ f)
theorem Cz_addS {σ : K2} (h : Cz σ) (hb : nb σ < 8) (k l f : Int32) : Cz (addS σ k l f) := by
  obtain ⟨a1, a2, a3, a4, a5⟩ := h
  refine ⟨fun c i h1 h2 => ?_, fun i hi => ?_, fun i hi => ?_, fun i hi => ?_, fun c i hc => ?_⟩
  · unfold addS; rw [if_neg (by omega), if_neg (by omega)]; exact a1 c i h1 h2
  · unfold addS; rw [if_neg (by omega), if_neg (by omega)]; exact a2 i hi
  · unfold addS; rw [if_neg (by omega), if_neg (by omega)]; exact a3 i hi
  · unfold addS; rw [if_neg (by omega), if_neg (by omega)]; exact a4 i hi
  · unfold addS; rw [if_neg (by omega), if_neg (by omega)]; exact a5 c i hc
theorem nb_addS {σ : K2} (hb : nb σ < 8) (k l f : Int32) : nb (addS σ k l f) = nb σ + 1 := by
  have : addS σ k l f 11 3 = nI (nb σ + 1) := by
    unfold addS; rw [if_neg (by omega), if_pos ⟨rfl, rfl⟩]
  unfold nb at this ⊢
  rw [this]
  exact nI_clamp (by unfold nb at hb; omega)
theorem It.ki {f : Nat → Int32} {σ σ' : K2} (h : It f σ σ') (hK : KI σ) : KI σ' := by
  rcases h with ⟨-, i, -, -, hw, rfl⟩ | ⟨-, ⟨w, hw, e⟩, rfl⟩ | ⟨-, i, -, -, rfl⟩ | ⟨hb, h0, h1, h2, h3, h4, h5, rfl⟩
  · exact KI_list hK hw
  · exact KI_corn hK ⟨w, by omega, e⟩
  · exact KI_t6 hK (Or.inr rfl)
  · have hA := KI_add hK hb h0 h1 h2
    exact KI_t5 (KI_t4 (KI_t3 hA h3) h4) h5
theorem It.cz {f : Nat → Int32} {σ σ' : K2} (h : It f σ σ') (hK : KI σ) (hC : Cz σ) : Cz σ' := by
  have hb8 := hK.1.2
  rcases h with ⟨-, i, hi, -, hw, rfl⟩ | ⟨-, ⟨w, hw, e⟩, rfl⟩ | ⟨-, i, hi, -, rfl⟩ | ⟨hb, h0, h1, h2, h3, h4, h5, rfl⟩
  · exact Cz_up hC (Or.inr (Or.inl ⟨rfl, by omega⟩))
  · exact Cz_up hC (Or.inr (Or.inr (Or.inr ⟨rfl, by omega⟩)))
  · exact Cz_up hC (Or.inl ⟨by omega, by omega⟩)
  · have hA := Cz_addS hC hb (f 0) (f 1) (f 2)
    exact Cz_up (Cz_up (Cz_up hA (Or.inl ⟨by omega, hb⟩)) (Or.inl ⟨by omega, hb⟩)) (Or.inl ⟨by omega, hb⟩)
