/-! ===== pure: the reference's questions, by the same words ===== -/
theorem M_birdAt (i c : Nat) : f_X4_birdAt (nI i) (nI c) = some (nI (20 + 9 * i + c)) := by
  unfold f_X4_birdAt
  have e1 : (9 : Int32) * nI i = nI (9 * i) := pk_mul 9 i
  have e2 : (20 : Int32) + nI (9 * i) = nI (20 + 9 * i) := nI_add 20 _
  rw [e1, e2, nI_add]
theorem M_birdIs (μ : K2) {i c : Nat} (hi : i < 8) (hc : c < 9) : f_X4_birdIs μ (nI i) (nI c) = some (dec (μ 0) c i) := by
  unfold f_X4_birdIs
  rw [M_birdAt, bd_some, if_pos (ix_nI (by omega) (by omega)), nI_clamp (by omega), dec_t hc hi]
theorem M_b0 (μ : K2) {i : Nat} (hi : i < 8) : f_X4_birdIs μ (nI i) 0 = some (dec (μ 0) 0 i) := M_birdIs μ (c := 0) hi (by omega)
theorem M_b1 (μ : K2) {i : Nat} (hi : i < 8) : f_X4_birdIs μ (nI i) 1 = some (dec (μ 0) 1 i) := M_birdIs μ (c := 1) hi (by omega)
theorem M_b2 (μ : K2) {i : Nat} (hi : i < 8) : f_X4_birdIs μ (nI i) 2 = some (dec (μ 0) 2 i) := M_birdIs μ (c := 2) hi (by omega)
theorem M_b3 (μ : K2) {i : Nat} (hi : i < 8) : f_X4_birdIs μ (nI i) 3 = some (dec (μ 0) 3 i) := M_birdIs μ (c := 3) hi (by omega)
theorem M_b4 (μ : K2) {i : Nat} (hi : i < 8) : f_X4_birdIs μ (nI i) 4 = some (dec (μ 0) 4 i) := M_birdIs μ (c := 4) hi (by omega)
theorem M_b5 (μ : K2) {i : Nat} (hi : i < 8) : f_X4_birdIs μ (nI i) 5 = some (dec (μ 0) 5 i) := M_birdIs μ (c := 5) hi (by omega)
theorem M_b6 (μ : K2) {i : Nat} (hi : i < 8) : f_X4_birdIs μ (nI i) 6 = some (dec (μ 0) 6 i) := M_birdIs μ (c := 6) hi (by omega)
theorem M_b7 (μ : K2) {i : Nat} (hi : i < 8) : f_X4_birdIs μ (nI i) 7 = some (dec (μ 0) 7 i) := M_birdIs μ (c := 7) hi (by omega)
theorem M_b8 (μ : K2) {i : Nat} (hi : i < 8) : f_X4_birdIs μ (nI i) 8 = some (dec (μ 0) 8 i) := M_birdIs μ (c := 8) hi (by omega)
theorem tbl_lives : ∀ k, k < 7 → (if nI k = 1 then (some 80 : Option Int32) else if nI k = 2 then some 50 else if nI k = 3 then some 100 else if nI k = 4 then some 200 else if nI k = 5 then some 9999 else if nI k = 6 then some 100 else some 60) = some (tbLife k) := by decide +kernel
/-- s as a set: its elements counted -/
theorem cnt_cut {p : Nat → Bool} {n : Nat} : ∀ {m : Nat}, n ≤ m → cnt (fun i => decide (i < n) && p i) m = cnt p n := by
  intro m
  induction m with
  | zero => intro h; rw [show n = 0 by omega]; rfl
  | succ m ih =>
    intro h
    by_cases e : n = m + 1
    · subst e
      exact cnt_congr (fun i hi => by simp [hi])
    · rw [cnt, ih (by omega)]
      simp [show ¬ m < n by omega]
theorem tbl_bits : ∀ s, s < 256 → f_X4_bits (nI s) = some (nI (cnt (fun i => s.testBit i) 8)) := by decide +kernel
theorem tbl_bitc : ∀ s, s < 256 → f_J6_bitCount_0f7a4 (nI s) = some (nI (cnt (fun i => s.testBit i) 8)) := by decide +kernel
theorem set_num {p : Nat → Bool} {n : Nat} (hn : n ≤ 8) : ∃ s, s < 256 ∧ setOf p n = nI s ∧ ∀ i, i < 8 → s.testBit i = (decide (i < n) && p i) := by
  refine ⟨(setOf p n).toBitVec.toNat, ?_, ?_, ?_⟩
  · have : (setOf p n).toBitVec.toNat < 2 ^ 8 := by
      apply Nat.lt_pow_two_of_testBit
      intro i hi
      by_cases h : i < 32
      · have := bt_setOf (p := p) (n := n) (by omega) h
        unfold bt at this
        rw [BitVec.getLsbD] at this
        rw [this, decide_eq_false (by omega)]; rfl
      · rw [← BitVec.getLsbD]; exact BitVec.getLsbD_of_ge _ _ (by omega)
    omega
  · apply Int32.toBitVec_inj.mp
    apply BitVec.eq_of_toNat_eq
    rw [pk_tn (setOf p n).toBitVec.isLt]
  · intro i hi
    have := bt_setOf (p := p) (n := n) (by omega) (i := i) (by omega)
    unfold bt at this
    rw [BitVec.getLsbD] at this
    exact this
theorem M_bits {p : Nat → Bool} {n : Nat} (hn : n ≤ 8) : f_X4_bits (setOf p n) = some (nI (cnt p n)) := by
  obtain ⟨s, hs, e, ht⟩ := set_num (p := p) hn
  rw [e, tbl_bits s hs, cnt_congr ht, cnt_cut hn]
section PM
variable {μ : K2}
theorem M_lives {i : Nat} (hi : i < 8) (hB : BI (dec (μ 0)) i) : f_X4_lives μ (nI i) = some (tbLife (dec (μ 0) 0 i).toNatClampNeg) := by
  unfold f_X4_lives
  obtain ⟨⟨k, hk, e⟩, -⟩ := hB
  rw [M_b0 μ hi, bd_some, e, nI_clamp (by omega)]
  exact tbl_lives k (by omega)
theorem M_isDead {i : Nat} (hi : i < 8) (hB : BI (dec (μ 0)) i) : f_X4_isDead μ (nI i) = some (if dead (dec (μ 0)) i then 1 else 0) := by
  unfold f_X4_isDead dead
  rw [M_b3 μ hi, bd_some, M_lives hi hB, bd_some]
  by_cases h : dec (μ 0) 3 i ≤ tbLife (dec (μ 0) 0 i).toNatClampNeg
  · rw [if_pos h, if_neg]
    rw [decide_eq_true_eq, i32_lt]
    rw [i32_le] at h
    omega
  · rw [if_neg h, if_pos]
    rw [decide_eq_true_eq, i32_lt]
    rw [i32_le] at h
    omega
theorem M_isOfLine (h : KI (dec (μ 0))) {i : Nat} (hi : i < nb (dec (μ 0))) : f_X4_isOfLine μ (nI i) = some (bI (line (dec (μ 0)) i)) := by
  obtain ⟨⟨hb, hb8⟩, -, -, -, -, hB⟩ := h
  have key : ∀ m k n, k < m → k < nb (dec (μ 0)) → k + 1 < n → f_X4_isOfLine_L2 μ n (nI k) = some (bI (line (dec (μ 0)) k)) := by
    intro m
    induction m with
    | zero => intro k n h; omega
    | succ m ih =>
      intro k n h1 h2 h3
      obtain ⟨n, rfl⟩ : ∃ z, n = z + 1 := ⟨n - 1, by omega⟩
      rw [f_X4_isOfLine_L2, if_neg (nI_pos (by omega)), M_b4 μ (by omega), bd_some, M_b2 μ (by omega), bd_some]
      rcases (hB k h2).2.2.2.2.1 with h4 | h4
      · rw [if_pos h4]
        rcases (hB k h2).2.2.1 with e | ⟨j, hj, e⟩
        · rw [e, line_none h4 e]
          obtain ⟨n, rfl⟩ : ∃ z, n = z + 1 := ⟨n - 1, by omega⟩
          rw [f_X4_isOfLine_L2, if_pos (by decide), f_X4_isOfLine_B25, if_pos (by decide)]
          rfl
        · rw [e, line_par hb8 hB h2 h4 hj e]
          exact ih j n (by omega) (by omega) (by omega)
      · rw [if_neg (by rw [h4]; decide), line_car h4, f_X4_isOfLine_B25, if_neg (nI_pos (by omega))]
        rfl
  exact key (i + 1) i 1000 (by omega) hi (by omega)
theorem M_doesDraw (h : KI (dec (μ 0))) {i : Nat} (hi : i < nb (dec (μ 0))) : f_X4_doesDraw μ (nI i) = some (bI (draws (dec (μ 0)) i)) := by
  have hb8 := h.1.2
  have hB := h.2.2.2.2.2 i hi
  unfold f_X4_doesDraw draws
  rw [M_b6 μ (by omega), bd_some, M_b5 μ (by omega), bd_some, M_isDead (by omega) hB, bd_some, M_isOfLine h hi, bd_some]
  by_cases h6 : dec (μ 0) 6 i = 0
  · rw [if_pos h6]
    by_cases h5 : dec (μ 0) 5 i = 1
    · rw [if_pos h5]; simp [h6, h5, bI]
    · rw [if_neg h5]
      cases hd : dead (dec (μ 0)) i <;> cases hl : line (dec (μ 0)) i <;> simp [h6, h5, bI]
  · rw [if_neg h6]; simp [h6, bI]
theorem M_setLoop {L : Nat → Int32 → Int32 → Option Int32} {p : Nat → Bool} {b : Nat} (hb : b ≤ 8) (hs : ∀ n a i, i < b → L (n + 1) a (nI i) = L n (if p i then a ||| (1 <<< (nI i &&& 31)) else a) (nI (i + 1))) (he : ∀ n a, L (n + 1) a (nI b) = some a) : L 1000 0 0 = some (setOf p b) := by
  refine for_seq L (setOf p) b _ ?_ (fun n => he n _) b 0 1000 (by omega) (by omega)
  intro n i hi
  rw [hs n _ i hi]
  rfl
theorem n1 (h : KI (dec (μ 0))) : μ 0 1 = nI (nb (dec (μ 0))) := by rw [← h.1.1, dec_3]
theorem M_inLoft (h : KI (dec (μ 0))) (w : Int32) : f_X4_inLoft μ w = some (setOf (fun i => decide (dec (μ 0) 1 i = w)) (nb (dec (μ 0)))) := by
  have hb8 := h.1.2
  refine M_setLoop (L := fun n a i => f_X4_inLoft_L4 μ n w a i) hb8 (fun n a i hi => ?_) (fun n a => ?_)
  · show f_X4_inLoft_L4 μ (n + 1) _ _ _ = f_X4_inLoft_L4 μ n _ _ _
    rw [f_X4_inLoft_L4, n1 h, if_neg (nI_ge hi (by omega)), M_b1 μ (by omega), bd_some, nI_1, or0]
    by_cases e : dec (μ 0) 1 i = w
    · rw [if_pos e]; simp [e]
    · rw [if_neg e]; simp [e]
  · show f_X4_inLoft_L4 μ (n + 1) _ _ _ = _
    rw [f_X4_inLoft_L4, n1 h, if_pos (nI_le (Nat.le_refl _) (by omega))]
theorem M_drawers (h : KI (dec (μ 0))) : f_X4_drawers μ = some (setOf (draws (dec (μ 0))) (nb (dec (μ 0)))) := by
  have hb8 := h.1.2
  refine M_setLoop (L := fun n a i => f_X4_drawers_L4 μ n a i) hb8 (fun n a i hi => ?_) (fun n a => ?_)
  · show f_X4_drawers_L4 μ (n + 1) _ _ = f_X4_drawers_L4 μ n _ _
    rw [f_X4_drawers_L4, n1 h, if_neg (nI_ge hi (by omega)), M_doesDraw h hi, bd_some, nI_1, or0]
    cases draws (dec (μ 0)) i <;> simp [bI]
  · show f_X4_drawers_L4 μ (n + 1) _ _ = _
    rw [f_X4_drawers_L4, n1 h, if_pos (nI_le (Nat.le_refl _) (by omega))]
theorem M_deadOnes (h : KI (dec (μ 0))) : f_X4_deadOnes μ = some (setOf (dead (dec (μ 0))) (nb (dec (μ 0)))) := by
  have hb8 := h.1.2
  refine M_setLoop (L := fun n a i => f_X4_deadOnes_L4 μ n a i) hb8 (fun n a i hi => ?_) (fun n a => ?_)
  · show f_X4_deadOnes_L4 μ (n + 1) _ _ = f_X4_deadOnes_L4 μ n _ _
    rw [f_X4_deadOnes_L4, n1 h, if_neg (nI_ge hi (by omega)), M_isDead (by omega) (h.2.2.2.2.2 i hi), bd_some, nI_1, or0]
    cases dead (dec (μ 0)) i <;> simp
  · show f_X4_deadOnes_L4 μ (n + 1) _ _ = _
    rw [f_X4_deadOnes_L4, n1 h, if_pos (nI_le (Nat.le_refl _) (by omega))]
theorem M_lineOnes (h : KI (dec (μ 0))) : f_X4_lineOnes μ = some (setOf (line (dec (μ 0))) (nb (dec (μ 0)))) := by
  have hb8 := h.1.2
  refine M_setLoop (L := fun n a i => f_X4_lineOnes_L4 μ n a i) hb8 (fun n a i hi => ?_) (fun n a => ?_)
  · show f_X4_lineOnes_L4 μ (n + 1) _ _ = f_X4_lineOnes_L4 μ n _ _
    rw [f_X4_lineOnes_L4, n1 h, if_neg (nI_ge hi (by omega)), M_isOfLine h hi, bd_some, nI_1, or0]
    cases line (dec (μ 0)) i <;> simp [bI]
  · show f_X4_lineOnes_L4 μ (n + 1) _ _ = _
    rw [f_X4_lineOnes_L4, n1 h, if_pos (nI_le (Nat.le_refl _) (by omega))]
theorem M_chicks (h : KI (dec (μ 0))) {i : Nat} (hi : i < nb (dec (μ 0))) : f_X4_chicks μ (nI i) = some (chicksS (dec (μ 0)) i) := by
  have hb8 := h.1.2
  refine for_seq (fun n a k => f_X4_chicks_L4 μ n (nI i) a k) (fun k => nI (cnt (fun k => decide (dec (μ 0) 2 k = nI i) && !dead (dec (μ 0)) k) k)) (nb (dec (μ 0))) _ ?_ ?_ (nb (dec (μ 0))) 0 1000 (by omega) (by omega)
  · intro n k hk
    show f_X4_chicks_L4 μ (n + 1) _ _ _ = f_X4_chicks_L4 μ n _ _ _
    rw [f_X4_chicks_L4, n1 h, if_neg (nI_ge hk (by omega)), M_b2 μ (by omega), bd_some, M_isDead (by omega) (h.2.2.2.2.2 k hk), bd_some, nI_1, nI_1, add0, cnt]
    by_cases e : dec (μ 0) 2 k = nI i
    · rw [if_pos e]
      cases hd : dead (dec (μ 0)) k <;> simp [e]
    · rw [if_neg e]; simp [e]
  · intro n
    show f_X4_chicks_L4 μ (n + 1) _ _ _ = _
    rw [f_X4_chicks_L4, n1 h, if_pos (nI_le (Nat.le_refl _) (by omega))]
    rfl
theorem M_rate (h : KI (dec (μ 0))) {i : Nat} (hi : i < nb (dec (μ 0))) : f_X4_rate μ (nI i) = some (rateS (dec (μ 0)) i) := by
  have hb8 := h.1.2
  unfold f_X4_rate rateS
  rw [M_b1 μ (by omega), bd_some, M_inLoft h, bd_some, M_bits hb8, bd_some, M_b0 μ (by omega), bd_some, M_chicks h hi]
  simp only [bd_some]
  have e : (10 : Int32) + nI (cnt (fun k => decide (dec (μ 0) 1 k = dec (μ 0) 1 i)) (nb (dec (μ 0)))) = cockS (dec (μ 0)) i := nI_add 10 _
  rw [e, dec_1]
  by_cases h1 : dec (μ 0) 0 i = 1
  · rw [if_pos h1, if_pos h1]
  · rw [if_neg h1, if_neg h1]
    by_cases h2 : dec (μ 0) 0 i = 2
    · rw [if_pos h2, if_pos h2]
    · rw [if_neg h2, if_neg h2]
      by_cases h3 : dec (μ 0) 0 i = 3
      · rw [if_pos h3, if_pos h3]
      · rw [if_neg h3, if_neg h3]
        by_cases h4 : dec (μ 0) 0 i = 4
        · rw [if_pos h4, if_pos h4]
        · rw [if_neg h4, if_neg h4]
          by_cases h5 : dec (μ 0) 0 i = 5
          · rw [if_pos h5, if_pos h5]
          · rw [if_neg h5, if_neg h5]
            by_cases h6 : dec (μ 0) 0 i = 6
            · rw [if_pos h6, if_pos h6]
            · rw [if_neg h6, if_neg h6]
theorem M_eats {i : Nat} (hi : i < 8) : f_X4_eats μ (nI i) = some (eatsS (dec (μ 0)) i) := by
  unfold f_X4_eats eatsS
  rw [M_b0 μ hi, bd_some, dec_0]
  by_cases h3 : dec (μ 0) 0 i = 3
  · rw [if_pos h3, if_pos h3]
  · rw [if_neg h3, if_neg h3]
    by_cases h4 : dec (μ 0) 0 i = 4
    · rw [if_pos h4, if_pos h4]
    · rw [if_neg h4, if_neg h4]
      by_cases h5 : dec (μ 0) 0 i = 5
      · rw [if_pos h5, if_pos h5]
      · rw [if_neg h5, if_neg h5]
theorem M_told (h : KI (dec (μ 0))) {i w : Nat} (hi : i < nb (dec (μ 0))) (hw : w ≤ 13) : f_X4_told μ (nI i) (nI w) = some (tellS (dec (μ 0)) i w) := by
  have hb8 := h.1.2
  have hB := h.2.2.2.2.2 i hi
  unfold f_X4_told tellS
  have e9 : (nI w = (9 : Int32)) = (w = 9) := nI_lit (k := 9) (by omega) (by omega)
  have e10 : (nI w = (10 : Int32)) = (w = 10) := nI_lit (k := 10) (by omega) (by omega)
  have e11 : (nI w = (11 : Int32)) = (w = 11) := nI_lit (k := 11) (by omega) (by omega)
  have e12 : (nI w = (12 : Int32)) = (w = 12) := nI_lit (k := 12) (by omega) (by omega)
  have e13 : (nI w = (13 : Int32)) = (w = 13) := nI_lit (k := 13) (by omega) (by omega)
  simp only [e9, e10, e11, e12, e13]
  rw [M_lives (by omega) hB, M_rate h hi, M_eats (by omega), M_isOfLine h hi, M_doesDraw h hi]
  simp only [bd_some]
  by_cases h9 : w = 9
  · rw [if_pos h9, if_pos h9]
  · rw [if_neg h9, if_neg h9]
    by_cases h10 : w = 10
    · rw [if_pos h10, if_pos h10]
    · rw [if_neg h10, if_neg h10]
      by_cases h11 : w = 11
      · rw [if_pos h11, if_pos h11]
      · rw [if_neg h11, if_neg h11]
        by_cases h12 : w = 12
        · rw [if_pos h12, if_pos h12]; cases line (dec (μ 0)) i <;> simp [bI]
        · rw [if_neg h12, if_neg h12]
          by_cases h13 : w = 13
          · rw [if_pos h13, if_pos h13]; cases draws (dec (μ 0)) i <;> simp [bI]
          · rw [if_neg h13, if_neg h13, M_birdIs μ (by omega) (by omega), bd_some]
theorem M_sumOf (h : KI (dec (μ 0))) {w : Nat} (hw : w < 9) : f_X4_sumOf μ (nI w) = some (sumI (dec (μ 0) w) (nb (dec (μ 0)))) := by
  have hb8 := h.1.2
  refine for_seq (fun n a i => f_X4_sumOf_L4 μ n (nI w) a i) (sumI (dec (μ 0) w)) (nb (dec (μ 0))) _ ?_ ?_ (nb (dec (μ 0))) 0 1000 (by omega) (by omega)
  · intro n i hi
    show f_X4_sumOf_L4 μ (n + 1) _ _ _ = f_X4_sumOf_L4 μ n _ _ _
    rw [f_X4_sumOf_L4, n1 h, if_neg (nI_ge hi (by omega)), M_birdIs μ (by omega) hw, bd_some, nI_1]
    rfl
  · intro n
    show f_X4_sumOf_L4 μ (n + 1) _ _ _ = _
    rw [f_X4_sumOf_L4, n1 h, if_pos (nI_le (Nat.le_refl _) (by omega))]
theorem M_rates (h : KI (dec (μ 0))) : f_X4_rates μ = some (ratesS (dec (μ 0))) := by
  have hb8 := h.1.2
  refine for_seq (fun n a i => f_X4_rates_L4 μ n a i) (sumI (fun i => if draws (dec (μ 0)) i then rateS (dec (μ 0)) i else 0)) (nb (dec (μ 0))) _ ?_ ?_ (nb (dec (μ 0))) 0 1000 (by omega) (by omega)
  · intro n i hi
    show f_X4_rates_L4 μ (n + 1) _ _ = f_X4_rates_L4 μ n _ _
    rw [f_X4_rates_L4, n1 h, if_neg (nI_ge hi (by omega)), M_doesDraw h hi, bd_some, M_rate h hi, bd_some, nI_1, sumI]
    cases draws (dec (μ 0)) i <;> simp [bI]
  · intro n
    show f_X4_rates_L4 μ (n + 1) _ _ = _
    rw [f_X4_rates_L4, n1 h, if_pos (nI_le (Nat.le_refl _) (by omega))]
    rfl
theorem M_more (μ : K2) {k : Nat} (hk : k < 92) (by_ high : Int32) : f_X4_more μ (nI k) by_ high = some (va_up μ 0 (upd (μ 0) k (imin high (μ 0 k + by_)))) := by
  unfold f_X4_more
  rw [if_pos (ix_nI hk (by omega)), nI_clamp (by omega)]
end PM
theorem up_comm {α : Type} {f : Nat → α} {a b : Nat} {x y : α} (h : a ≠ b) : va_up (va_up f a x) b y = va_up (va_up f b y) a x := by
  funext j
  by_cases e1 : j = a
  · subst e1; rw [up_n h, up_s, up_s]
  · by_cases e2 : j = b
    · subst e2; rw [up_s, up_n e1, up_s]
    · rw [up_n e2, up_n e1, up_n e1, up_n e2]
theorem upd_upd {f : Nat → Int32} {k : Nat} {x y : Int32} : upd (upd f k x) k y = upd f k y := by
  funext j
  by_cases e : j = k
  · subst e; rw [upd_s, upd_s]
  · rw [upd_n e, upd_n e, upd_n e]
theorem M_isPaid {μ : K2} (h : KI (dec (μ 0))) {i : Nat} (hi : i < nb (dec (μ 0))) : ∃ n, f_X4_isPaid μ (nI i) = some (va_up μ 0 n) ∧ dec n = pay1 (dec (μ 0)) i := by
  have hb8 := h.1.2
  have a8 : f_X4_birdAt (nI i) 8 = some (nI (20 + 9 * i + 8)) := M_birdAt i 8
  have a7 : f_X4_birdAt (nI i) 7 = some (nI (20 + 9 * i + 7)) := M_birdAt i 7
  unfold f_X4_isPaid
  rw [M_rate h hi, bd_some, M_b7 μ (by omega), bd_some, a8, bd_some, M_more _ (by omega), bd_some, a7, bd_some, if_pos (ix_nI (by omega) (by omega)), nI_clamp (by omega)]
  have ed : rateS (dec (μ 0)) i + dec (μ 0) 7 i = dueS (dec (μ 0)) i := rfl
  have eg : imin (dueS (dec (μ 0)) i) (μ 0 3) = getsS (dec (μ 0)) i := by unfold getsS; rw [dec_1]
  rw [ed, eg]
  refine ⟨_, by rw [bx_uu, bx_uu], ?_⟩
  simp only [up_s]
  rw [dec_w (by omega) (by omega), dec_w (by omega) (by omega), dec_w3, upd_n (by omega)]
  unfold pay1
  rw [up_n (by decide), up_n (by decide), up_n (by decide), ← dec_1 (n := μ 0), ← dec_t (n := μ 0) (c := 8) (i := i) (by omega) (by omega)]
  rw [up_comm (a := 11) (b := 8) (by decide), up_comm (a := 11) (b := 7) (by decide), up_comm (a := 8) (b := 7) (by decide)]
