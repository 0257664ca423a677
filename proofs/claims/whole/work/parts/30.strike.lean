/-! ===== pure: the harvest that would do, the fewest struck off ===== -/
theorem KI_list {σ : K2} (h : KI σ) {i : Nat} {v : Int32} (hv : ∃ k, k ≤ 99 ∧ v = nI k) : KI (va_up σ 9 (upd (σ 9) i v)) := by
  obtain ⟨k1, k2, k3, k4, k5, k6⟩ := h
  refine ⟨k1, k2, k3, fun j hj => ?_, k5, k6⟩
  show ∃ w, w ≤ 99 ∧ upd (σ 9) i v j = nI w
  by_cases e : j = i
  · subst e; rw [upd_s]; exact hv
  · rw [upd_n e]; exact k4 j hj
theorem nI_dn (t : Nat) : nI (t + 1) + (-1) = nI t := by
  rw [← nI_1, Int32.add_assoc]
  exact Int32.add_zero _
theorem dn_neg : nI 0 + (-1) < (0 : Int32) := by decide
section OPS
variable {X : K3} {μ : K2}
theorem s_harvestFor (h : R X μ) (a b : Int32) : Sim (f_X3_harvestFor X a b) (f_X4_harvestFor μ a b) := by
  have hb8 := h.ki.1.2
  unfold f_X3_harvestFor f_X4_harvestFor
  simp only [within_X3, M_isThought, M_isPlace, bd_some]
  by_cases c : 0 ≤ a ∧ a ≤ 5
  · simp only [if_pos c, ite10]
    by_cases d : 0 ≤ b ∧ b ≤ 60
    · simp only [if_pos d, ite10]
      obtain ⟨i, hi, rfl⟩ := rng (n := 5) c rfl (by omega)
      obtain ⟨n, hn, rfl⟩ := rng (n := 60) d rfl (by omega)
      have e : (4 : Int32) + nI i = nI (4 + i) := nI_add 4 i
      rw [e, if_pos (ix_nI (by omega) (by omega)), nI_clamp (by omega)]
      obtain ⟨gd, hgd⟩ : ∃ gd : Nat → Prop, gd = fun v => setOf (owes (daysS n (va_up (dec (μ 0)) 9 (upd (dec (μ 0) 9) i (nI v))))) (nb (dec (μ 0))) = 0 := ⟨_, rfl⟩
      have kx : ∀ t k, k + t = 100 → ∀ n1, t < n1 → ∀ Y, R Y μ → ∃ Y', R Y' μ ∧ ((∃ j, k ≤ j ∧ j < 100 ∧ gd j ∧ (∀ l, k ≤ l → l < j → ¬ gd l) ∧ f_X3_harvestFor_L27 n1 Y (nI i) (nI n) (nI k) = some (nI j, Y')) ∨ ((∀ l, k ≤ l → l < 100 → ¬ gd l) ∧ f_X3_harvestFor_L27 n1 Y (nI i) (nI n) (nI k) = Option.bind (f_X3_finding Y' 3) (fun q => some (q.1, q.2)))) := by
        intro t
        induction t with
        | zero =>
          intro k hk n1 h1 Y hY
          obtain ⟨n1, rfl⟩ : ∃ z, n1 = z + 1 := ⟨n1 - 1, by omega⟩
          refine ⟨Y, hY, Or.inr ⟨fun l h1 h2 => by omega, ?_⟩⟩
          rw [f_X3_harvestFor_L27, if_pos (show (99 : Int32) < nI k from nI_lt (a := 99) (by omega) (by omega)), f_X3_harvestFor_B80]
        | succ t ih =>
          intro k hk n1 h1 Y hY
          obtain ⟨n1, rfl⟩ : ∃ z, n1 = z + 1 := ⟨n1 - 1, by omega⟩
          have hK : KI (va_up (Y 0) 9 (upd (Y 0 9) i (nI k))) := KI_list hY.ki ⟨k, by omega, rfl⟩
          have hY' := hY.X2 (hY.czw (n := n) (v := nI k) (Or.inr (Or.inl ⟨rfl, by omega⟩)) hK)
          have hg : gd k ↔ setOf (owes (daysS n (va_up (Y 0) 9 (upd (Y 0 9) i (nI k))))) (nb (daysS n (va_up (Y 0) 9 (upd (Y 0 9) i (nI k))))) = 0 := by
            rw [hgd, nb_days, show nb (va_up (Y 0) 9 (upd (Y 0 9) i (nI k))) = nb (Y 0) from nb_eq rfl, hY.d0]
          rw [f_X3_harvestFor_L27, if_neg (show ¬ (99 : Int32) < nI k from nI_nlt (a := 99) (by omega) (by omega)), hY.trial, bd_some, if_pos (ix_nI (by omega) (by omega)), nI_clamp (by omega), X0_passDays hK (by omega), bd_some, X0_owedSet (KI_days hK n), bd_some, nI_1]
          by_cases z : gd k
          · rw [if_pos (hg.mp z)]
            exact ⟨_, hY', Or.inl ⟨k, by omega, by omega, z, fun l h1 h2 => by omega, rfl⟩⟩
          · rw [if_neg (fun y => z (hg.mpr y))]
            obtain ⟨Y', r1, r2⟩ := ih (k + 1) (by omega) n1 (by omega) _ hY'
            refine ⟨Y', r1, ?_⟩
            rcases r2 with ⟨j, q1, q2, q3, q4, q5⟩ | ⟨q1, q2⟩
            · refine Or.inl ⟨j, by omega, q2, q3, fun l h1 h2 => ?_, q5⟩
              by_cases e : l = k
              · subst e; exact z
              · exact q4 l (by omega) h2
            · refine Or.inr ⟨fun l h1 h2 => ?_, q2⟩
              by_cases e : l = k
              · subst e; exact z
              · exact q1 l (by omega) h2
      obtain ⟨inv, hinv⟩ : ∃ inv : Nat → Int32 → Prop, inv = fun t cur => (cur = -1 ∧ ∀ l, t ≤ l → l < 100 → ¬ gd l) ∨ (∃ j, t ≤ j ∧ j < 100 ∧ gd j ∧ (∀ l, t ≤ l → l < j → ¬ gd l) ∧ cur = nI j) := ⟨_, rfl⟩
      have km : ∀ t, t ≤ 100 → ∀ n2, t < n2 → ∀ m cur, NearP μ (4 + i) m → inv t cur → ∃ m' cur', NearP μ (4 + i) m' ∧ inv 0 cur' ∧ f_X4_harvestFor_L37 n2 m (nI i) (nI n) (μ 0 (4 + i)) cur (nI t + (-1)) = f_X4_harvestFor_B75 m' (nI i) (μ 0 (4 + i)) cur' := by
        intro t
        induction t with
        | zero =>
          intro ht n2 h2 m cur hm hi0
          obtain ⟨n2, rfl⟩ : ∃ z, n2 = z + 1 := ⟨n2 - 1, by omega⟩
          refine ⟨m, cur, hm, hi0, ?_⟩
          rw [f_X4_harvestFor_L37, if_pos dn_neg]
        | succ t ih =>
          intro ht n2 h2 m cur hm hi0
          obtain ⟨n2, rfl⟩ : ∃ z, n2 = z + 1 := ⟨n2 - 1, by omega⟩
          have hK : KI (va_up (dec (μ 0)) 9 (upd (dec (μ 0) 9) i (nI t))) := KI_list h.kim ⟨t, by omega, rfl⟩
          have hN := hm.put (nI t)
          have hd : dec (putE m (4 + i) (nI t) 0) = va_up (dec (μ 0)) 9 (upd (dec (μ 0) 9) i (nI t)) := by
            rw [hN.dec]
            show dec (upd (μ 0) (4 + i) (nI t)) = _
            rw [dec_wl (by omega)]
          obtain ⟨m', f1, f2⟩ := M_owed (m := putE m (4 + i) (nI t)) (by rw [hd]; exact hK) (n := n) (by omega)
          rw [hd] at f1
          have f1' : f_X4_owedBehind (va_up m 0 (upd (m 0) (4 + i) (nI t))) (nI n) = some (setOf (owes (daysS n (va_up (dec (μ 0)) 9 (upd (dec (μ 0) 9) i (nI t))))) (nb (dec (μ 0))), m') := f1
          have hm' := NearP.of (hN.trans f2)
          have hg : gd t ↔ setOf (owes (daysS n (va_up (dec (μ 0)) 9 (upd (dec (μ 0) 9) i (nI t))))) (nb (dec (μ 0))) = 0 := by rw [hgd]
          rw [f_X4_harvestFor_L37, nI_dn, if_neg (nI_pos (by omega)), e, if_pos (ix_nI (by omega) (by omega)), nI_clamp (by omega), f1', bd_some]
          rw [hinv] at hi0
          by_cases z : gd t
          · rw [if_pos (hg.mp z)]
            refine ih (by omega) n2 (by omega) m' _ hm' ?_
            rw [hinv]
            exact Or.inr ⟨t, Nat.le_refl _, by omega, z, fun l h1 h2 => by omega, rfl⟩
          · rw [if_neg (fun y => z (hg.mpr y))]
            refine ih (by omega) n2 (by omega) m' _ hm' ?_
            rw [hinv]
            rcases hi0 with ⟨q1, q2⟩ | ⟨j, q1, q2, q3, q4, q5⟩
            · refine Or.inl ⟨q1, fun l h1 h2 => ?_⟩
              by_cases e : l = t
              · subst e; exact z
              · exact q2 l (by omega) h2
            · refine Or.inr ⟨j, by omega, q2, q3, fun l h1 h2 => ?_, q5⟩
              by_cases e : l = t
              · subst e; exact z
              · exact q4 l (by omega) h2
      obtain ⟨Y', hY', hx⟩ := kx 100 0 (by omega) 1000 (by omega) X h
      obtain ⟨m', cur', hm', hc', hq⟩ := km 100 (by omega) 1000 (by omega) μ (-1) (NearP.rf _ _) (by rw [hinv]; exact Or.inl ⟨rfl, fun l h1 h2 => by omega⟩)
      have hq' : f_X4_harvestFor_L37 1000 μ (nI i) (nI n) (μ 0 (4 + i)) (-1) 99 = f_X4_harvestFor_B75 m' (nI i) (μ 0 (4 + i)) cur' := hq
      rw [hq', f_X4_harvestFor_B75, e, if_pos (ix_nI (by omega) (by omega)), nI_clamp (by omega)]
      have hR : R Y' (putE m' (4 + i) (μ 0 (4 + i))) := hm'.fin.R hY'
      rw [hinv] at hc'
      show Sim (f_X3_harvestFor_L27 1000 X (nI i) (nI n) (nI 0)) (Option.bind (f_X4_orNone (putE m' (4 + i) (μ 0 (4 + i))) cur') _)
      rcases hx with ⟨j, q1, q2, q3, q4, q5⟩ | ⟨q1, q2⟩
      · rcases hc' with ⟨y1, y2⟩ | ⟨j', y1, y2, y3, y4, y5⟩
        · exact absurd q3 (y2 j (by omega) q2)
        · have ej : j' = j := by
            by_cases z1 : j' < j
            · exact absurd y3 (q4 j' (by omega) z1)
            · by_cases z2 : j < j'
              · exact absurd q3 (y4 j (by omega) z2)
              · omega
          rw [q5, y5, ej, M_orNone_ok _ (by omega), bd_some]
          exact Sim.of hR
      · rcases hc' with ⟨y1, y2⟩ | ⟨j', y1, y2, y3, y4, y5⟩
        · rw [q2, y1, M_orNone_no, bd_pair]
          exact find3 hR
        · exact absurd y3 (q1 j' (by omega) y2)
    · simp only [if_neg d, ite00]; exact find0 h
  · simp only [if_neg c, ite00]; exact find0 h
end OPS
/-! who is struck off -/
def offN (σ : K2) (s : Nat) : Nat → K2
  | 0 => σ
  | k + 1 => if s.testBit k then va_up (offN σ s k) 6 (upd (offN σ s k 6) k 1) else offN σ s k
theorem offN_t {σ : K2} {s k : Nat} (h : s.testBit k = true) : offN σ s (k + 1) = va_up (offN σ s k) 6 (upd (offN σ s k 6) k 1) := by rw [offN, if_pos h]
theorem offN_f {σ : K2} {s k : Nat} (h : s.testBit k = false) : offN σ s (k + 1) = offN σ s k := by rw [offN, h]; rfl
theorem KI_off {σ : K2} (h : KI σ) (s : Nat) : ∀ k, KI (offN σ s k)
  | 0 => h
  | k + 1 => by
    cases e : s.testBit k
    · rw [offN_f e]; exact KI_off h s k
    · rw [offN_t e]; exact KI_t6 (KI_off h s k) (Or.inr rfl)
theorem Cz_off {σ : K2} (h : Cz σ) (s : Nat) : ∀ k, k ≤ 8 → Cz (offN σ s k)
  | 0, _ => h
  | k + 1, hk => by
    cases e : s.testBit k
    · rw [offN_f e]; exact Cz_off h s k (by omega)
    · rw [offN_t e]; exact Cz_up (Cz_off h s k (by omega)) (Or.inl ⟨by omega, by omega⟩)
theorem nb_off (σ : K2) (s : Nat) : ∀ k, nb (offN σ s k) = nb σ
  | 0 => rfl
  | k + 1 => by
    cases e : s.testBit k
    · rw [offN_f e]; exact nb_off σ s k
    · rw [offN_t e]; exact (nb_eq rfl).trans (nb_off σ s k)
theorem off_row {σ : K2} {s c : Nat} (hc : c ≠ 6) : ∀ k, offN σ s k c = σ c
  | 0 => rfl
  | k + 1 => by
    cases e : s.testBit k
    · rw [offN_f e]; exact off_row hc k
    · rw [offN_t e, up_n hc]; exact off_row hc k
theorem off_6 {σ : K2} {s j : Nat} : ∀ k, k ≤ j → offN σ s k 6 j = σ 6 j
  | 0, _ => rfl
  | k + 1, h => by
    cases e : s.testBit k
    · rw [offN_f e]; exact off_6 k (by omega)
    · rw [offN_t e, up_s, upd_n (by omega)]; exact off_6 k (by omega)
theorem bt_nI {s k : Nat} (hk : k < 32) : bt (nI s) k = s.testBit k := by
  unfold bt
  show (BitVec.ofNat 32 s).getLsbD k = _
  rw [BitVec.getLsbD_ofNat]
  simp [hk]
def enB (σ : K2) (s n : Nat) : Bool := decide ((setOf (owes (daysS n (offN σ s (nb σ)))) (nb σ) &&& (nI s ^^^ (-1))) = 0)
theorem X_only {X : K3} {μ : K2} (h : R X μ) {s n : Nat} (hn : n ≤ 100) : f_X3_onlyTheseOwed X (nI s) (nI n) = some (bI (enB (X 0) s n), va_up X 2 (daysS n (offN (X 0) s (nb (X 0))))) := by
  have hb := h.ki.1.1
  have hb8 := h.ki.1.2
  unfold f_X3_onlyTheseOwed
  rw [h.trial, bd_some]
  refine for_seq (fun n1 Y k => f_X3_onlyTheseOwed_L13 n1 Y (nI s) (nI n) k) (fun k => va_up X 2 (offN (X 0) s k)) (nb (X 0)) _ ?_ ?_ (nb (X 0)) 0 1000 (by omega) (by omega)
  · intro n1 k hk
    show f_X3_onlyTheseOwed_L13 (n1 + 1) _ _ _ _ = f_X3_onlyTheseOwed_L13 n1 _ _ _ _
    have e3 : offN (X 0) s k 11 3 = nI (nb (X 0)) := by rw [off_row (by decide)]; exact hb
    rw [f_X3_onlyTheseOwed_L13, up_s, e3, if_neg (nI_ge hk (by omega)), nI_1]
    have hq := bitq (s := nI s) (i := k) (by omega)
    rw [bt_nI (by omega)] at hq
    cases e : s.testBit k
    · rw [if_neg (by rw [hq, e]; decide), offN_f e]
    · rw [if_pos (by rw [hq, e]), if_pos (ix_nI (by omega) (by omega)), nI_clamp (by omega), bx_uu, offN_t e]
  · intro n1
    show f_X3_onlyTheseOwed_L13 (n1 + 1) _ _ _ _ = _
    have e3 : offN (X 0) s (nb (X 0)) 11 3 = nI (nb (X 0)) := by rw [off_row (by decide)]; exact hb
    have hK := KI_off h.ki s (nb (X 0))
    rw [f_X3_onlyTheseOwed_L13, up_s, e3, if_pos (nI_le (Nat.le_refl _) (by omega)), f_X3_onlyTheseOwed_B49, up_s, X0_passDays hK hn, bd_some, X0_owedSet (KI_days hK n), bd_some, nb_days, nb_off, bx_uu]
    unfold enB
    by_cases z : (setOf (owes (daysS n (offN (X 0) s (nb (X 0))))) (nb (X 0)) &&& (nI s ^^^ (-1))) = 0
    · rw [if_pos z, decide_eq_true z]; rfl
    · rw [if_neg z, decide_eq_false z]; rfl
theorem n1_of {μ : K2} (h : KI (dec (μ 0))) : μ 0 1 = nI (nb (dec (μ 0))) := n1 h
def Near4 (μ m : K2) : Prop := (∀ k, k < 92 → m 0 k = μ 0 k) ∧ ∀ c, c ≠ 0 → c ≠ 2 → c ≠ 4 → m c = μ c
theorem Near4.rf (μ : K2) : Near4 μ μ := ⟨fun _ _ => rfl, fun _ _ _ _ => rfl⟩
theorem Near4.trans {a b c : K2} (h : Near4 a b) (g : Near4 b c) : Near4 a c := ⟨fun k hk => (g.1 k hk).trans (h.1 k hk), fun r h0 h2 h4 => (g.2 r h0 h2 h4).trans (h.2 r h0 h2 h4)⟩
theorem Near4.dec {μ m : K2} (h : Near4 μ m) : dec (m 0) = dec (μ 0) := dec_same h.1
theorem Near4.R {X : K3} {μ m : K2} (n : Near4 μ m) (h : R X μ) : R X m :=
  h.mu n.dec (n.2 1 (by decide) (by decide) (by decide)) (n.2 3 (by decide) (by decide) (by decide)) (n.2 5 (by decide) (by decide) (by decide)) (n.2 7 (by decide) (by decide) (by decide)) (n.2 8 (by decide) (by decide) (by decide)) (n.2 9 (by decide) (by decide) (by decide)) (congrFun (n.2 11 (by decide) (by decide) (by decide)) 0) (congrFun (n.2 11 (by decide) (by decide) (by decide)) 1)
theorem or1 {x : Int32} (h : x = 0 ∨ x = 1) : x ||| 1 = 1 := by rcases h with e | e <;> (rw [e]; decide)
theorem upd_same {f : Nat → Int32} {k : Nat} : upd f k (f k) = f := by
  funext j
  by_cases e : j = k
  · subst e; rw [upd_s]
  · rw [upd_n e]
theorem M_back6 {μ : K2} {b : Nat} (hb8 : b ≤ 8) (r : Int32) (hr : r = 0 ∨ r = 1) : ∀ t k, k + t = b → ∀ n m, t < n → m 0 1 = nI b → (∀ j, j < 92 → (∀ i, k ≤ i → i < b → j ≠ 20 + 9 * i + 6) → m 0 j = μ 0 j) → (∀ i, i < b → m 4 i = μ 0 (20 + 9 * i + 6)) → (∀ c, c ≠ 0 → c ≠ 2 → c ≠ 4 → m c = μ c) → ∃ m', f_X4_isEnough_L71 n m r (nI k) = some (r, m') ∧ Near4 μ m' := by
  intro t
  induction t with
  | zero =>
    intro k hk n m hn h1 h2 h3 h4
    obtain ⟨n, rfl⟩ : ∃ z, n = z + 1 := ⟨n - 1, by omega⟩
    refine ⟨m, ?_, fun j hj => h2 j hj (fun i a b => by omega), h4⟩
    rw [f_X4_isEnough_L71, h1, if_pos (nI_le (by omega) (by omega)), if_pos hr]
  | succ t ih =>
    intro k hk n m hn h1 h2 h3 h4
    obtain ⟨n, rfl⟩ : ∃ z, n = z + 1 := ⟨n - 1, by omega⟩
    have a6 : f_X4_birdAt (nI k) 6 = some (nI (20 + 9 * k + 6)) := M_birdAt k 6
    rw [f_X4_isEnough_L71, h1, if_neg (nI_ge (by omega) (by omega)), a6, bd_some, if_pos (ix_nI (by omega) (by omega)), if_pos (ix_nI (by omega) (by omega)), nI_clamp (by omega), nI_clamp (by omega), nI_1]
    refine ih (k + 1) (by omega) n _ (by omega) ?_ ?_ ?_ ?_
    · rw [up_s, upd_n (by omega)]; exact h1
    · intro j hj hne
      show upd (m 0) (20 + 9 * k + 6) (m 4 k) j = _
      by_cases e : j = 20 + 9 * k + 6
      · subst e; rw [upd_s]; exact h3 k (by omega)
      · rw [upd_n e]
        refine h2 j hj (fun i a b => ?_)
        by_cases e2 : i = k
        · subst e2; exact e
        · exact hne i (by omega) b
    · intro i hi
      show va_up m 0 _ 4 i = _
      rw [up_n (by decide)]; exact h3 i hi
    · intro c h0 hc2 hc4
      rw [up_n h0]; exact h4 c h0 hc2 hc4
theorem M_enough {μ : K2} (h : KI (dec (μ 0))) {s n : Nat} (hn : n ≤ 200) : ∃ m', f_X4_isEnough μ (nI s) (nI n) = some (bI (enB (dec (μ 0)) s n), m') ∧ Near4 μ m' := by
  have hb8 := h.1.2
  have hB := h.2.2.2.2.2
  obtain ⟨b, hbe⟩ : ∃ b, b = nb (dec (μ 0)) := ⟨_, rfl⟩
  rw [← hbe] at hb8 hB
  have key : ∀ t k, k + t = b → ∀ n1 m, t < n1 → dec (m 0) = offN (dec (μ 0)) s k → (∀ j, j < 92 → (∀ i, i < k → j ≠ 20 + 9 * i + 6) → m 0 j = μ 0 j) → (∀ i, i < k → m 4 i = μ 0 (20 + 9 * i + 6)) → (∀ c, c ≠ 0 → c ≠ 2 → c ≠ 4 → m c = μ c) → ∃ m', f_X4_isEnough_L2 n1 m (nI s) (nI n) (nI k) = some (bI (enB (dec (μ 0)) s n), m') ∧ Near4 μ m' := by
    intro t
    induction t with
    | zero =>
      intro k hk n1 m h1 hd h2 h3 h4
      obtain ⟨n1, rfl⟩ : ∃ z, n1 = z + 1 := ⟨n1 - 1, by omega⟩
      have hkb : k = b := by omega
      subst hkb
      have hK : KI (dec (m 0)) := by rw [hd]; exact KI_off h s k
      have hm1 : m 0 1 = nI k := by rw [n1_of hK, hd, nb_off, ← hbe]
      obtain ⟨m', f1, f2⟩ := M_owed hK hn
      rw [hd, nb_off, ← hbe] at f1
      rw [f_X4_isEnough_L2, hm1, if_pos (nI_le (Nat.le_refl _) (by omega)), f_X4_isEnough_B50, f1, bd_some]
      have hm1' : m' 0 1 = nI k := by rw [f2.1 1 (by omega)]; exact hm1
      have b2 : ∀ j, j < 92 → (∀ i, 0 ≤ i → i < k → j ≠ 20 + 9 * i + 6) → m' 0 j = μ 0 j := fun j hj hne => by rw [f2.1 j hj]; exact h2 j hj (fun i hi => hne i (by omega) hi)
      have b3 : ∀ i, i < k → m' 4 i = μ 0 (20 + 9 * i + 6) := fun i hi => by rw [f2.2 4 (by decide) (by decide)]; exact h3 i hi
      have b4 : ∀ c, c ≠ 0 → c ≠ 2 → c ≠ 4 → m' c = μ c := fun c h0 hc2 hc4 => by rw [f2.2 c h0 hc2]; exact h4 c h0 hc2 hc4
      unfold enB
      rw [← hbe]
      by_cases z : (setOf (owes (daysS n (offN (dec (μ 0)) s k))) k &&& (nI s ^^^ (-1))) = 0
      · rw [if_pos z, decide_eq_true z]
        exact M_back6 hb8 1 (Or.inr rfl) k 0 (by omega) 1000 m' (by omega) hm1' b2 b3 b4
      · rw [if_neg z, decide_eq_false z]
        exact M_back6 hb8 0 (Or.inl rfl) k 0 (by omega) 1000 m' (by omega) hm1' b2 b3 b4
    | succ t ih =>
      intro k hk n1 m h1 hd h2 h3 h4
      obtain ⟨n1, rfl⟩ : ∃ z, n1 = z + 1 := ⟨n1 - 1, by omega⟩
      have hK : KI (dec (m 0)) := by rw [hd]; exact KI_off h s k
      have hm1 : m 0 1 = nI b := by rw [n1_of hK, hd, nb_off, ← hbe]
      have a6 : f_X4_birdAt (nI k) 6 = some (nI (20 + 9 * k + 6)) := M_birdAt k 6
      have ev : m 0 (20 + 9 * k + 6) = μ 0 (20 + 9 * k + 6) := h2 _ (by omega) (fun i hi => by omega)
      have ev2 : dec (m 0) 6 k = m 0 (20 + 9 * k + 6) := dec_t (by omega) (by omega)
      have e01 : m 0 (20 + 9 * k + 6) = 0 ∨ m 0 (20 + 9 * k + 6) = 1 := by
        rw [← ev2, hd, off_6 k (Nat.le_refl _)]
        exact (hB k (by omega)).2.2.2.2.2.2.1
      rw [f_X4_isEnough_L2, hm1, if_neg (nI_ge (by omega) (by omega)), M_b6 m (by omega), bd_some, if_pos (ix_nI (by omega) (by omega)), a6, bd_some, if_pos (ix_nI (by omega) (by omega)), nI_clamp (by omega), nI_clamp (by omega), nI_1, bitv (by omega), bt_nI (by omega), ev2]
      refine ih (k + 1) (by omega) n1 _ (by omega) ?_ ?_ ?_ ?_
      · show dec (upd (m 0) _ _) = _
        cases e : s.testBit k
        · rw [offN_f e, ← hd]
          show dec (upd (m 0) (20 + 9 * k + 6) (m 0 (20 + 9 * k + 6) ||| 0)) = _
          rw [or0, upd_same]
        · rw [offN_t e, ← hd]
          show dec (upd (m 0) (20 + 9 * k + 6) (m 0 (20 + 9 * k + 6) ||| 1)) = _
          rw [or1 e01, dec_w (by omega) (by omega)]
      · intro j hj hne
        show upd (m 0) (20 + 9 * k + 6) _ j = _
        rw [upd_n (hne k (by omega))]
        exact h2 j hj (fun i hi => hne i (by omega))
      · intro i hi
        show upd (m 4) k (m 0 (20 + 9 * k + 6)) i = _
        by_cases e : i = k
        · subst e; rw [upd_s]; exact ev
        · rw [upd_n e]; exact h3 i (by omega)
      · intro c h0 hc2 hc4
        rw [up_n hc4, up_n h0]; exact h4 c h0 hc2 hc4
  exact key b 0 (by omega) 1000 μ (by omega) rfl (fun j _ _ => rfl) (fun i hi => by omega) (fun _ _ _ _ => rfl)
