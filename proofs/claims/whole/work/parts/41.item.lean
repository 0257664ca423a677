/-! ===== pure: an item read on both sides ===== -/
def Good (m σ : K2) (k n a : Nat) (τ' m' σ' : K2) : Prop := (∃ a' b', TT τ' m' n a' b' ∧ a < a') ∧ m' 11 6 = 0 ∧ m' 11 7 = nI (k + 1) ∧ m' 11 8 = nI (nb σ') ∧ It (fun j => m' 6 (6 * k + j)) σ σ' ∧ (∀ j, j < 6 * k → m' 6 j = m 6 j) ∧ (∀ c, c ≠ 6 → c ≠ 11 → m' c = m c) ∧ m' 11 0 = m 11 0
def At (τ' m' : K2) : Prop := m' 11 2 = τ' 1 2 ∧ ∃ p, p ≤ 120 ∧ τ' 1 2 = nI p
def Bad (m τ' m' : K2) : Prop := m' 11 6 = 1 ∧ At τ' m' ∧ (∀ c, c ≠ 6 → c ≠ 11 → m' c = m c) ∧ m' 11 0 = m 11 0
/-- wrong, with nothing laid down yet -/
def Wr (m τ' m' : K2) : Prop := m' 11 6 = 1 ∧ At τ' m' ∧ (∀ c, c ≠ 11 → m' c = m c) ∧ m' 11 0 = m 11 0 ∧ m' 11 7 = m 11 7 ∧ m' 11 8 = m 11 8
theorem Wr.of {m τ : K2} {n a b : Nat} (h : TT τ m n a b) : Wr m τ (wrong m) := by
  have hn := h.1.1
  have hbn := h.1.2.1
  have hab := h.2.1
  unfold wrong
  refine ⟨by rw [up_s, upd_s], ⟨by rw [up_s, upd_n (by decide), h.2.2.1, h.2.2.2.1], a, by omega, h.2.2.1⟩, fun c hc => up_n hc, by rw [up_s, upd_n (by decide)], by rw [up_s, upd_n (by decide)], by rw [up_s, upd_n (by decide)]⟩
theorem Wr.km {m m1 τ m2 : K2} (h : KM m m1) (g : Wr m1 τ m2) : Wr m τ m2 :=
  ⟨g.1, g.2.1, fun c hc => (g.2.2.1 c hc).trans (h.1 c hc), g.2.2.2.1.trans h.2.1, g.2.2.2.2.1.trans h.2.2.2.2.1, g.2.2.2.2.2.trans h.2.2.2.2.2⟩
theorem Wr.bad {m τ m' : K2} (h : Wr m τ m') : Bad m τ m' := ⟨h.1, h.2.1, fun c _ hc => h.2.2.1 c hc, h.2.2.2.1⟩
theorem bad_add {m τ m1 : K2} {k : Nat} (h : Wr m τ m1) (h7 : m 11 7 = nI k) (hk : k < 120) (a1 a2 a3 a4 a5 a6 : Int32) : ∃ m', f_X4_addItem m1 a1 a2 a3 a4 a5 a6 = some m' ∧ Bad m τ m' := by
  refine ⟨_, M_addItem hk (h.2.2.2.2.1.trans h7) a1 a2 a3 a4 a5 a6, ?_, ?_, fun c h6 h11 => ?_, ?_⟩
  · rw [up_s, upd_n (by decide)]; exact h.1
  · exact ⟨by rw [up_s, upd_n (by decide)]; exact h.2.1.1, h.2.1.2⟩
  · rw [up_n h11, up_n h6]; exact h.2.2.1 c h11
  · rw [up_s, upd_n (by decide)]; exact h.2.2.2.1
theorem good_add {m m1 τ1 σ σ' : K2} {k n a a1 b1 : Nat} (h : TT τ1 m1 n a1 b1) (ha : a < a1) (hm : KM m m1) (h6 : m 11 6 = 0) (h7 : m 11 7 = nI k) (hk : k < 120) (h8 : m 11 8 = nI (nb σ')) {x1 x2 x3 x4 x5 x6 : Int32} (hI : It (fun j => row6 (m 6) k x1 x2 x3 x4 x5 x6 (6 * k + j)) σ σ') : ∃ m', f_X4_addItem m1 x1 x2 x3 x4 x5 x6 = some m' ∧ Good m σ k n a τ1 m' σ' := by
  have e6 : m1 6 = m 6 := hm.1 6 (by decide)
  refine ⟨_, M_addItem hk (hm.2.2.2.2.1.trans h7) x1 x2 x3 x4 x5 x6, ⟨a1, b1, h.keep ?_ ?_, ha⟩, ?_, ?_, ?_, ?_, fun j hj => ?_, fun c hc6 hc11 => ?_, ?_⟩
  · rw [up_n (by decide), up_n (by decide)]
  · intro i h1 h5
    rw [up_s, upd_n (by omega)]
  · rw [up_s, upd_n (by decide)]; exact hm.2.2.2.1.trans h6
  · rw [up_s, upd_s]
  · rw [up_s, upd_n (by decide)]; exact hm.2.2.2.2.2.trans h8
  · rw [up_n (by decide), up_s, e6]; exact hI
  · rw [up_n (by decide), up_s, row6_n hj, e6]
  · rw [up_n hc11, up_n hc6]; exact hm.1 c hc11
  · rw [up_s, upd_n (by decide)]; exact hm.2.1
theorem ne_m2 {v : Nat} (h : v ≤ 10000) : ¬ nI v = -2 := fun q => by
  have := nI_pos' (n := v) (by omega)
  rw [q] at this
  exact absurd this (by decide)
theorem le_of_nI {v M : Nat} {x : Int32} (hx : x = nI M) (hM : M < 2 ^ 31) (hv : v ≤ 10000) (h : nI v ≤ x) : v ≤ M := by
  rw [hx] at h
  exact (nI_leI (by omega) hM).mp h
section ITEM
variable {τ m σ : K2} {n a b k : Nat}
/-- harvest -/
theorem harvest_both {m0 : K2} (h : TT τ m n a b) (hm : KM m0 m) (ha0 : ∃ a0, a0 < a ∧ k ≤ a0) (h6 : m0 11 6 = 0) (h7 : m0 11 7 = nI k) (h8 : m0 11 8 = nI (nb σ)) (hK : KI σ) {a0 : Nat} (ha : a0 < a) :
    (∃ τ' m' σ', f_X2_readHarvest τ σ = some (1, τ', σ') ∧ Option.bind (f_X4_number m 0 5) (fun q22 => Option.bind (f_X4_number q22.2 0 99) (fun q24 => Option.bind (f_X4_addItem q24.2 10 q22.1 q24.1 0 0 0) (fun q26 => some (q26)))) = some m' ∧ Good m0 σ k n a0 τ' m' σ') ∨ (∃ τ' m', f_X2_readHarvest τ σ = some (0, τ', σ) ∧ Option.bind (f_X4_number m 0 5) (fun q22 => Option.bind (f_X4_number q22.2 0 99) (fun q24 => Option.bind (f_X4_addItem q24.2 10 q22.1 q24.1 0 0 0) (fun q26 => some (q26)))) = some m' ∧ Bad m0 τ' m') := by
  have hn := h.1.1
  have hbn := h.1.2.1
  have hab := h.2.1
  obtain ⟨az, hz1, hz2⟩ := ha0
  have hk : k < 120 := by omega
  have hm6 : m 11 6 = 0 := hm.2.2.2.1.trans h6
  have ht2 : m 11 2 = τ 1 2 := by rw [h.2.2.1, h.2.2.2.1]
  unfold f_X2_readHarvest
  rcases num_both h hm6 5 with ⟨v, τ1, m1, a1, b1, hv, hv5, e1, e2, t1, hab1, hba1, -, km1⟩ | ⟨e1, e2⟩
  · have v5 : v ≤ 5 := le_of_nI (M := 5) rfl (by omega) hv hv5
    have hm61 : m1 11 6 = 0 := km1.2.2.2.1.trans hm6
    have ht21 : m1 11 2 = τ1 1 2 := by rw [t1.2.2.1, t1.2.2.2.1]
    rcases num_both t1 hm61 99 with ⟨w, τ2, m2, a2, b2, hw, hw9, f1, f2, t2, hab2, hba2, -, km2⟩ | ⟨f1, f2⟩
    · have w9 : w ≤ 99 := le_of_nI (M := 99) rfl (by omega) hw hw9
      have cv : (nI v).toNatClampNeg = v := nI_clamp (by omega)
      have hN : nb (va_up σ 9 (upd (σ 9) v (nI w))) = nb σ := nb_eq rfl
      obtain ⟨m', g1, g2⟩ := good_add (σ := σ) (σ' := va_up σ 9 (upd (σ 9) v (nI w))) (a := a0) t2 (by omega) ((hm.trans km1).trans km2) h6 h7 hk (by rw [hN]; exact h8) (x1 := 10) (x2 := nI v) (x3 := nI w) (x4 := 0) (x5 := 0) (x6 := 0) (Or.inl ⟨row6_0, v, v5, row6_1, ⟨w, w9, row6_2⟩, congrArg (fun z => va_up σ 9 (upd (σ 9) v z)) row6_2.symm⟩)
      refine Or.inl ⟨τ2, m', _, ?_, ?_, g2⟩
      · rw [e1, bd_some, if_neg (ne_m2 hv), f1, bd_some, if_neg (ne_m2 hw), if_pos (ix_nI (by omega) (by omega)), cv]
      · rw [e2, bd_some, f2, bd_some, g1, bd_some]
    · obtain ⟨m', g1, g2⟩ := bad_add (Wr.km (hm.trans km1) (Wr.of t1)) h7 hk 10 (nI v) (m1 11 5) 0 0 0
      refine Or.inr ⟨τ1, m', ?_, ?_, g2⟩
      · rw [e1, bd_some, if_neg (ne_m2 hv), f1, bd_some, if_pos rfl]
      · rw [e2, bd_some, f2, bd_some, g1, bd_some]
  · have hw6 : wrong m 11 6 = 1 := by unfold wrong; rw [up_s, upd_s]
    obtain ⟨m', g1, g2⟩ := bad_add (Wr.km hm (Wr.of h)) h7 hk 10 (m 11 5) (wrong m 11 5) 0 0 0
    refine Or.inr ⟨τ, m', ?_, ?_, g2⟩
    · rw [e1, bd_some, if_pos rfl]
    · rw [e2, bd_some, numberW hw6, bd_some, g1, bd_some]
/-- corn -/
theorem corn_both {m0 : K2} (h : TT τ m n a b) (hm : KM m0 m) (h6 : m0 11 6 = 0) (h7 : m0 11 7 = nI k) (h8 : m0 11 8 = nI (nb σ)) {a0 : Nat} (ha : a0 < a) (hka : k ≤ a0) :
    (∃ τ' m' σ', f_X2_readCorn τ σ = some (1, τ', σ') ∧ Option.bind (f_X4_number m 0 9999) (fun q18 => Option.bind (f_X4_addItem q18.2 11 q18.1 0 0 0 0) (fun q20 => some (q20))) = some m' ∧ Good m0 σ k n a0 τ' m' σ') ∨ (∃ τ' m', f_X2_readCorn τ σ = some (0, τ', σ) ∧ Option.bind (f_X4_number m 0 9999) (fun q18 => Option.bind (f_X4_addItem q18.2 11 q18.1 0 0 0 0) (fun q20 => some (q20))) = some m' ∧ Bad m0 τ' m') := by
  have hn := h.1.1
  have hbn := h.1.2.1
  have hab := h.2.1
  have hk : k < 120 := by omega
  have hm6 : m 11 6 = 0 := hm.2.2.2.1.trans h6
  have ht2 : m 11 2 = τ 1 2 := by rw [h.2.2.1, h.2.2.2.1]
  unfold f_X2_readCorn
  rcases num_both h hm6 9999 with ⟨v, τ1, m1, a1, b1, hv, hv5, e1, e2, t1, hab1, hba1, -, km1⟩ | ⟨e1, e2⟩
  · have v5 : v ≤ 9999 := le_of_nI (M := 9999) rfl (by omega) hv hv5
    have hN : nb (va_up σ 11 (upd (σ 11) 1 (nI v))) = nb σ := nb_eq rfl
    obtain ⟨m', g1, g2⟩ := good_add (σ := σ) (σ' := va_up σ 11 (upd (σ 11) 1 (nI v))) (a := a0) t1 (by omega) (hm.trans km1) h6 h7 hk (by rw [hN]; exact h8) (x1 := 11) (x2 := nI v) (x3 := 0) (x4 := 0) (x5 := 0) (x6 := 0) (Or.inr (Or.inl ⟨row6_0, ⟨v, v5, row6_1⟩, congrArg (fun z => va_up σ 11 (upd (σ 11) 1 z)) row6_1.symm⟩))
    refine Or.inl ⟨τ1, m', _, ?_, ?_, g2⟩
    · rw [e1, bd_some, if_neg (ne_m2 hv)]
    · rw [e2, bd_some, g1, bd_some]
  · obtain ⟨m', g1, g2⟩ := bad_add (Wr.km hm (Wr.of h)) h7 hk 11 (m 11 5) 0 0 0 0
    refine Or.inr ⟨τ, m', ?_, ?_, g2⟩
    · rw [e1, bd_some, if_pos rfl]
    · rw [e2, bd_some, g1, bd_some]
/-- strike -/
theorem strike_both {m0 : K2} (h : TT τ m n a b) (hm : KM m0 m) (h6 : m0 11 6 = 0) (h7 : m0 11 7 = nI k) (h8 : m0 11 8 = nI (nb σ)) (hK : KI σ) {a0 : Nat} (ha : a0 < a) (hka : k ≤ a0) :
    (∃ τ' m' σ', f_X2_readStrike τ σ = some (1, τ', σ') ∧ Option.bind (f_X4_number m 0 ((m 11 8) - 1)) (fun q14 => Option.bind (f_X4_addItem q14.2 12 q14.1 0 0 0 0) (fun q16 => some (q16))) = some m' ∧ Good m0 σ k n a0 τ' m' σ') ∨ (∃ τ' m', f_X2_readStrike τ σ = some (0, τ', σ) ∧ Option.bind (f_X4_number m 0 ((m 11 8) - 1)) (fun q14 => Option.bind (f_X4_addItem q14.2 12 q14.1 0 0 0 0) (fun q16 => some (q16))) = some m' ∧ Bad m0 τ' m') := by
  have hn := h.1.1
  have hbn := h.1.2.1
  have hab := h.2.1
  have hk : k < 120 := by omega
  have hb8 := hK.1.2
  have hm6 : m 11 6 = 0 := hm.2.2.2.1.trans h6
  have hm8 : m 11 8 = nI (nb σ) := hm.2.2.2.2.2.trans h8
  have ht2 : m 11 2 = τ 1 2 := by rw [h.2.2.1, h.2.2.2.1]
  unfold f_X2_readStrike
  rw [hm8, hK.1.1]
  rcases num_both h hm6 (nI (nb σ) - 1) with ⟨v, τ1, m1, a1, b1, hv, hv5, e1, e2, t1, hab1, hba1, -, km1⟩ | ⟨e1, e2⟩
  · have v5 : v < nb σ := by
      rw [i32_le, nI_toInt (by omega)] at hv5
      have e1 : (nI (nb σ) - 1).toInt = (nb σ : Int) - 1 := pk_sub_toInt (b := 1) (by omega) (by omega)
      omega
    have cv : (nI v).toNatClampNeg = v := nI_clamp (by omega)
    have hN : nb (va_up σ 6 (upd (σ 6) v 1)) = nb σ := nb_eq rfl
    obtain ⟨m', g1, g2⟩ := good_add (σ := σ) (σ' := va_up σ 6 (upd (σ 6) v 1)) (a := a0) t1 (by omega) (hm.trans km1) h6 h7 hk (by rw [hN]; exact h8) (x1 := 12) (x2 := nI v) (x3 := 0) (x4 := 0) (x5 := 0) (x6 := 0) (Or.inr (Or.inr (Or.inl ⟨row6_0, v, v5, row6_1, rfl⟩)))
    refine Or.inl ⟨τ1, m', _, ?_, ?_, g2⟩
    · rw [e1, bd_some, if_neg (ne_m2 hv), if_pos (ix_nI (by omega) (by omega)), cv]
    · rw [e2, bd_some, g1, bd_some]
  · obtain ⟨m', g1, g2⟩ := bad_add (Wr.km hm (Wr.of h)) h7 hk 12 (m 11 5) 0 0 0 0
    refine Or.inr ⟨τ, m', ?_, ?_, g2⟩
    · rw [e1, bd_some, if_pos rfl]
    · rw [e2, bd_some, g1, bd_some]
end ITEM
