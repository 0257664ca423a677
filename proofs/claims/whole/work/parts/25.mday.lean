/-! ===== pure: the reference's day ===== -/
theorem up_self0 {α : Type} (f : Nat → α) (k : Nat) : va_up f k (f k) = f := by
  funext j
  by_cases e : j = k
  · subst e; rw [up_s]
  · rw [up_n e]
/-- the reference's row as its state -/
def Mst (μ : K2) (σ : K2) (a : K2) : Prop := ∃ n, a = va_up μ 0 n ∧ dec n = σ
theorem Mst.row {μ σ a : K2} (h : Mst μ σ a) : dec (a 0) = σ := by
  obtain ⟨n, rfl, e⟩ := h
  rw [up_s]; exact e
theorem Mst.rf (μ : K2) : Mst μ (dec (μ 0)) μ := ⟨μ 0, (up_self0 μ 0).symm, rfl⟩
theorem Mst.set {μ σ a : K2} (h : Mst μ σ a) {n : Nat → Int32} {σ' : K2} (e : dec n = σ') : Mst μ σ' (va_up a 0 n) := by
  obtain ⟨m, rfl, -⟩ := h
  exact ⟨n, by rw [bx_uu], e⟩
theorem Mst.trans {μ σ a σ' b : K2} (h : Mst μ σ a) (h2 : Mst a σ' b) : Mst μ σ' b := by
  obtain ⟨m, rfl, -⟩ := h
  obtain ⟨n, rfl, e⟩ := h2
  exact ⟨n, by rw [bx_uu], e⟩
theorem Mst.other {μ σ a : K2} (h : Mst μ σ a) {c : Nat} (hc : c ≠ 0) : a c = μ c := by
  obtain ⟨n, rfl, -⟩ := h
  rw [up_n hc]
theorem M_day_B149 {μ : K2} : ∃ a, f_X4_day_B149 μ = some a ∧ Mst μ (va_up (dec (μ 0)) 11 (upd (dec (μ 0) 11) 0 (imin 99999 (dec (μ 0) 11 0 + 1)))) a := by
  unfold f_X4_day_B149
  have e : f_X4_more μ 0 1 99999 = some (va_up μ 0 (upd (μ 0) 0 (imin 99999 (μ 0 0 + 1)))) := M_more μ (k := 0) (by omega) 1 99999
  rw [e, bd_some]
  exact ⟨_, rfl, (Mst.rf μ).set (by rw [dec_w0, dec_0])⟩
theorem day_end {σ a : K2} (h : σ = a) : va_up σ 11 (upd (σ 11) 0 (imin 99999 (σ 11 0 + 1))) = va_up a 11 (upd (a 11) 0 (imin 99999 (a 11 0 + 1))) := by rw [h]
theorem M_day_B105 {μ σ : K2} (h : KI σ) (e : dec (μ 0) = day1 σ) : ∃ a, f_X4_day_B105 μ = some a ∧ Mst μ (dayS σ) a := by
  have hb8 := h.1.2
  have hK1 := KI_day1 h
  have e0 : ∀ a : K2, dec (a 0) 11 0 = nI (nd σ) → irem (a 0 0) 6 = nI (nd σ % 6) := by
    intro a ha
    rw [dec_0] at ha
    rw [ha]
    exact irem_nI (d := 6) (by have := h.2.1.2; omega) (by omega) (by omega)
  have hlit : (nI (nd σ % 6) = (5 : Int32)) = (nd σ % 6 = 5) := nI_lit (k := 5) (by omega) (by omega)
  unfold f_X4_day_B105
  by_cases c : nd σ % 6 = 5
  · have key := for_up (fun n a i => f_X4_day_L107 n a i) (fun a i => if draws (day1 σ) i then (f_X4_isPaid a (nI i)).getD a else a) f_X4_day_B149 (nb σ) (fun i a => Mst μ (payN (draws (day1 σ)) (day1 σ) i) a) ?_ ?_ (nb σ) 0 μ 1000 (by omega) (by omega) (by rw [← e]; exact Mst.rf μ)
    · obtain ⟨a, e1, e2, -⟩ := key
      obtain ⟨b, e3, e4⟩ := M_day_B149 (μ := a)
      refine ⟨b, ?_, ?_⟩
      · rw [← e3]; exact e1
      · have e5 := e2.trans e4
        rw [e2.row] at e5
        unfold dayS day2
        rw [if_pos c]
        exact e5
    · intro n a i hi hI
      have hrow := hI.row
      have hKa : KI (dec (a 0)) := by rw [hrow]; exact KI_payN hK1 i (by rw [nb_day1]; omega)
      have enb : nb (dec (a 0)) = nb σ := by rw [hrow]; exact (nb_eq (payN_11 (by decide) i)).trans (nb_day1 σ)
      have end0 : dec (a 0) 11 0 = nI (nd σ) := by
        rw [hrow, payN_11 (by decide)]
        exact h.2.1.1
      have edr : draws (dec (a 0)) i = draws (day1 σ) i := by
        rw [hrow]
        exact draws_congr (payN_row (by decide) (by decide) (by decide) i) (payN_row (by decide) (by decide) (by decide) i) (payN_row (by decide) (by decide) (by decide) i) (payN_row (by decide) (by decide) (by decide) i) (payN_row (by decide) (by decide) (by decide) i) (payN_row (by decide) (by decide) (by decide) i) i
      have hn1 : a 0 1 = nI (nb σ) := by rw [n1 hKa, enb]
      obtain ⟨n', f1, f2⟩ := M_isPaid hKa (i := i) (by omega)
      constructor
      · show f_X4_day_L107 (n + 1) _ _ = f_X4_day_L107 n _ _
        rw [f_X4_day_L107, hn1, if_neg (nI_ge hi (by omega)), e0 a end0, if_pos (by rw [hlit]; exact c), M_doesDraw hKa (by omega), bd_some, f1, bd_some, nI_1, edr]
        cases draws (day1 σ) i <;> simp [bI]
      · show Mst μ (payN (draws (day1 σ)) (day1 σ) (i + 1)) (if draws (day1 σ) i then (f_X4_isPaid a (nI i)).getD a else a)
        rw [payN]
        cases hd : draws (day1 σ) i
        · exact hI
        · rw [f1]
          exact hI.set (by rw [f2, hrow]; rfl)
    · intro n a hI
      have hrow := hI.row
      have hn1 : a 0 1 = nI (nb σ) := by
        rw [← dec_3 (n := a 0), hrow, payN_11 (by decide)]
        exact h.1.1
      show f_X4_day_L107 (n + 1) _ _ = _
      rw [f_X4_day_L107, hn1, if_pos (nI_le (Nat.le_refl _) (by omega))]
  · have hn1 : μ 0 1 = nI (nb σ) := by rw [← dec_3 (n := μ 0), e]; exact h.1.1
    obtain ⟨b, e3, e4⟩ := M_day_B149 (μ := μ)
    have e5 : Mst μ (dayS σ) b := by
      rw [e] at e4
      unfold dayS day2
      rw [if_neg c]
      exact e4
    refine ⟨b, ?_, e5⟩
    rw [f_X4_day_L107, hn1, e0 μ (by rw [e]; exact h.2.1.1)]
    by_cases z : nI (nb σ) ≤ 0
    · rw [if_pos z]; exact e3
    · rw [if_neg z, if_neg (by rw [hlit]; exact c)]; exact e3
theorem M_day {μ : K2} (h : KI (dec (μ 0))) : ∃ a, f_X4_day μ = some a ∧ Mst μ (dayS (dec (μ 0))) a := by
  have hb8 := h.1.2
  have hd := h.2.1
  generalize hσ : dec (μ 0) = σ at *
  have k1 : f_X4_day μ = f_X4_day_B40 μ (mealsS σ) := by
    refine for_seq (fun n a i => f_X4_day_L4 n μ a i) (sumI (fun i => if draws σ i then eatsS σ i else 0)) (nb σ) _ ?_ ?_ (nb σ) 0 1000 (by omega) (by omega)
    · intro n i hi
      show f_X4_day_L4 (n + 1) _ _ _ = f_X4_day_L4 n _ _ _
      have hn1 : μ 0 1 = nI (nb σ) := by rw [n1 (μ := μ) (by rw [hσ]; exact h), hσ]
      have hdr := M_doesDraw (μ := μ) (by rw [hσ]; exact h) (i := i) (by rw [hσ]; exact hi)
      have hea := M_eats (μ := μ) (i := i) (by omega)
      rw [hσ] at hdr hea
      rw [f_X4_day_L4, hn1, if_neg (nI_ge hi (by omega)), hdr, bd_some, hea, bd_some, nI_1, sumI]
      cases draws σ i <;> simp [bI]
    · intro n
      show f_X4_day_L4 (n + 1) _ _ _ = _
      have hn1 : μ 0 1 = nI (nb σ) := by rw [n1 (μ := μ) (by rw [hσ]; exact h), hσ]
      rw [f_X4_day_L4, hn1, if_pos (nI_le (Nat.le_refl _) (by omega))]
      rfl
  rw [k1]
  unfold f_X4_day_B40 f_X4_placeNow
  have e6 : (4 : Int32) + irem (μ 0 0) 6 = nI (4 + nd σ % 6) := by
    have : irem (μ 0 0) 6 = nI (nd σ % 6) := by
      rw [← dec_0 (n := μ 0), hσ, hd.1]
      exact irem_nI (d := 6) (by omega) (by omega) (by omega)
    rw [this]
    exact nI_add 4 _
  have em : f_X4_more μ 3 (μ 0 (4 + nd σ % 6)) 99999 = some (va_up μ 0 (upd (μ 0) 3 (imin 99999 (μ 0 3 + μ 0 (4 + nd σ % 6))))) := M_more μ (k := 3) (by omega) _ _
  rw [bd_some, e6, if_pos (ix_nI (by omega) (by omega)), nI_clamp (by omega), em, bd_some, up_s, upd_s, upd_upd, bx_uu]
  have hst : Mst μ (va_up σ 11 (upd (σ 11) 1 (cornS σ))) (va_up μ 0 (upd (μ 0) 3 (imax 0 (imin 99999 (μ 0 3 + μ 0 (4 + nd σ % 6)) - mealsS σ)))) := by
    refine (Mst.rf μ).set ?_
    rw [dec_w3, hσ]
    unfold cornS
    rw [← hσ, dec_1, dec_l (by omega)]
  generalize hμ1 : va_up μ 0 (upd (μ 0) 3 (imax 0 (imin 99999 (μ 0 3 + μ 0 (4 + nd σ % 6)) - mealsS σ))) = μ1 at hst ⊢
  have key := for_up (fun n a i => f_X4_day_L76 n a i) (fun a i => va_up a 0 (upd (a 0) (20 + 9 * i + 3) (imin 9999 (a 0 (20 + 9 * i + 3) + 1)))) f_X4_day_B105 (nb σ) (fun i a => Mst μ (growS (va_up σ 11 (upd (σ 11) 1 (cornS σ))) i) a) ?_ ?_ (nb σ) 0 μ1 1000 (by omega) (by omega) (by rw [growS_0]; exact hst)
  · obtain ⟨a, e1, e2, -⟩ := key
    obtain ⟨b, e3, e4⟩ := M_day_B105 (μ := a) h e2.row
    exact ⟨b, by rw [← e3]; exact e1, e2.trans e4⟩
  · intro n a i hi hI
    have hrow := hI.row
    have hn1 : a 0 1 = nI (nb σ) := by
      rw [← dec_3 (n := a 0), hrow]
      exact h.1.1
    have a3 : f_X4_birdAt (nI i) 3 = some (nI (20 + 9 * i + 3)) := M_birdAt i 3
    constructor
    · show f_X4_day_L76 (n + 1) _ _ = f_X4_day_L76 n _ _
      rw [f_X4_day_L76, hn1, if_neg (nI_ge hi (by omega)), a3, bd_some, M_more a (by omega), bd_some, nI_1]
    · refine hI.set ?_
      rw [dec_w (by omega) (by omega), ← dec_t (n := a 0) (c := 3) (i := i) (by omega) (by omega), hrow, growS_1]
  · intro n a hI
    have hrow := hI.row
    have hn1 : a 0 1 = nI (nb σ) := by
      rw [← dec_3 (n := a 0), hrow]
      exact h.1.1
    show f_X4_day_L76 (n + 1) _ _ = _
    rw [f_X4_day_L76, hn1, if_pos (nI_le (Nat.le_refl _) (by omega))]
theorem M_daysGo {μ : K2} (h : KI (dec (μ 0))) {n : Nat} (hn : n ≤ 200) : ∃ a, f_X4_daysGo μ (nI n) = some a ∧ Mst μ (daysS n (dec (μ 0))) a := by
  have key := for_up (fun k a i => f_X4_daysGo_L2 k a (nI n) i) (fun a _ => (f_X4_day a).getD a) some n (fun i a => Mst μ (daysS i (dec (μ 0))) a) ?_ ?_ n 0 μ 1000 (by omega) (by omega) (Mst.rf μ)
  · obtain ⟨a, e1, e2, -⟩ := key
    exact ⟨a, e1, e2⟩
  · intro k a i hi hI
    have hrow := hI.row
    obtain ⟨b, f1, f2⟩ := M_day (μ := a) (by rw [hrow]; exact KI_days h i)
    constructor
    · show f_X4_daysGo_L2 (k + 1) _ _ _ = f_X4_daysGo_L2 k _ _ _
      rw [f_X4_daysGo_L2, if_neg (nI_ge hi (by omega)), f1, bd_some, nI_1]
      rfl
    · show Mst μ (daysS (i + 1) (dec (μ 0))) ((f_X4_day a).getD a)
      rw [f1, daysS_succ, ← hrow]
      exact hI.trans f2
  · intro k a hI
    show f_X4_daysGo_L2 (k + 1) _ _ _ = _
    rw [f_X4_daysGo_L2, if_pos (nI_le (Nat.le_refl _) (by omega))]
def cpy92 (f g : Nat → Int32) : Nat → Int32 := fun k => if k < 92 then f k else g k
theorem dec_cpy (f g : Nat → Int32) : dec (cpy92 f g) = dec f := dec_same (fun k hk => by unfold cpy92; rw [if_pos hk])
theorem M_copyRow (f g : Nat → Int32) : f_X4_copyRow f g = some (cpy92 f g) := by
  have key := for_seq (fun n a i => f_X4_copyRow_L2 f n a i) (fun i => (fun k => if k < i then f k else g k)) 92 (some (cpy92 f g)) ?_ ?_ 92 0 1000 (by omega) (by omega)
  · have e : (fun k => if k < 0 then f k else g k : Nat → Int32) = g := by funext k; simp
    rw [e] at key
    exact key
  · intro n i hi
    show f_X4_copyRow_L2 f (n + 1) _ _ = f_X4_copyRow_L2 f n _ _
    rw [f_X4_copyRow_L2, if_neg (g92 hi), if_pos (ix_nI hi (by omega)), nI_clamp (by omega), nI_1]
    congr 1
    funext k
    by_cases e : k = i
    · subst e; rw [upd_s, if_pos (by omega)]
    · rw [upd_n e]
      by_cases c : k < i
      · rw [if_pos c, if_pos (by omega)]
      · rw [if_neg c, if_neg (by omega)]
  · intro n
    show f_X4_copyRow_L2 f (n + 1) _ _ = _
    rw [f_X4_copyRow_L2, if_pos e92]
    rfl
theorem copyRow2_L (f : Nat → Int32) : ∀ n g x, f_X4_copyRow2_L2 f n g x = f_X4_copyRow_L2 f n g x
  | 0, _, _ => rfl
  | n + 1, g, x => by rw [f_X4_copyRow2_L2, f_X4_copyRow_L2, copyRow2_L f n]
theorem M_copyRow2 (f g : Nat → Int32) : f_X4_copyRow2 f g = some (cpy92 f g) := by
  unfold f_X4_copyRow2
  rw [copyRow2_L]
  exact M_copyRow f g
/-- what is only thought: the row laid aside, and put back -/
theorem M_putBack (μ : K2) (v : Int32) : f_X4_putBack μ v = some (v, va_up μ 0 (cpy92 (μ 2) (μ 0))) := by
  unfold f_X4_putBack
  rw [M_copyRow2, bd_some]
