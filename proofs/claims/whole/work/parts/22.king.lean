/-! ===== pure: rates, sets, sums ===== -/
theorem cnt_zero {p : Nat → Bool} : ∀ {n : Nat}, (∀ i, i < n → p i = false) → cnt p n = 0
  | 0, _ => rfl
  | n + 1, h => by rw [cnt, h n (by omega), cnt_zero (fun i hi => h i (by omega))]; rfl
theorem imin_nI {a b : Nat} (ha : a < 2 ^ 31) (hb : b < 2 ^ 31) : imin (nI a) (nI b) = nI (min a b) := by
  unfold imin
  by_cases h : b < a
  · rw [if_pos (nI_lt h ha), Nat.min_eq_right (by omega)]
  · rw [if_neg (nI_nlt (by omega) hb), Nat.min_eq_left (by omega)]
theorem imax_nI {a b : Nat} (ha : a < 2 ^ 31) (hb : b < 2 ^ 31) : imax (nI a) (nI b) = nI (max a b) := by
  unfold imax
  by_cases h : a < b
  · rw [if_pos (nI_lt h hb), Nat.max_eq_right (by omega)]
  · rw [if_neg (nI_nlt (by omega) ha), Nat.max_eq_left (by omega)]
theorem irem_nI {a d : Nat} (ha : a < 2 ^ 31) (h0 : 0 < d) (hd : d < 2 ^ 31) : irem (nI a) (nI d) = nI (a % d) := pk_rem ha h0 hd
/-- how a program's question after the sort of a number reads -/
theorem nI_lit {w k : Nat} (hw : w < 2 ^ 31) (hk : k < 2 ^ 31) : (nI w = nI k) = (w = k) := propext (nI_eq hw hk)
section PX
variable {σ : K2}
theorem X0_livingChildren (h : KI σ) {i : Nat} (hi : i < nb σ) : f_X0_livingChildren σ (nI i) = some (chicksS σ i) := by
  obtain ⟨⟨hb, hb8⟩, -, -, -, -, hB⟩ := h
  have h0 : cnt (fun k => decide (σ 2 k = nI i) && !dead σ k) (i + 1) = 0 := by
    apply cnt_zero
    intro k hk
    rcases (hB k (by omega)).2.2.1 with h2 | ⟨j, hj, h2⟩
    · rw [h2, decide_eq_false]; rfl
      intro e
      have := congrArg Int32.toInt e
      rw [nI_toInt (by omega)] at this
      have e1 : (-1 : Int32).toInt = -1 := rfl
      omega
    · rw [h2, decide_eq_false]; rfl
      rw [nI_eq (by omega) (by omega)]
      omega
  have key := for_seq (fun n a k => f_X0_livingChildren_L6 σ n (nI i) a k) (fun k => nI (cnt (fun k => decide (σ 2 k = nI i) && !dead σ k) k)) (nb σ) (some (chicksS σ i)) ?_ ?_ (nb σ - (i + 1)) (i + 1) 1000 (by omega) (by omega)
  · rw [h0] at key
    unfold f_X0_livingChildren
    rw [nI_1]
    exact key
  · intro n k hk
    show f_X0_livingChildren_L6 σ (n + 1) _ _ _ = f_X0_livingChildren_L6 σ n _ _ _
    rw [f_X0_livingChildren_L6, hb, if_neg (nI_ge hk (by omega)), if_pos (ix_nI (by omega) (by omega)), nI_clamp (by omega), nI_1, nI_1, X0_isDead (by omega) (hB k hk), bd_some, cnt]
    by_cases e : σ 2 k = nI i
    · rw [if_pos e]
      cases hd : dead σ k <;> simp [e, hd]
    · rw [if_neg e]
      simp [e]
  · intro n
    show f_X0_livingChildren_L6 σ (n + 1) _ _ _ = _
    rw [f_X0_livingChildren_L6, hb, if_pos (nI_le (Nat.le_refl _) (by omega))]
    rfl
theorem X0_rateOf (h : KI σ) {i : Nat} (hi : i < nb σ) : f_X0_rateOf σ (nI i) = some (rateS σ i) := by
  have hb8 := h.1.2
  unfold f_X0_rateOf rateS
  rw [if_pos (ix_nI (by omega) (by omega)), nI_clamp (by omega), X0_cockRate h hi, X0_livingChildren h hi]
  simp only [bd_some]
  by_cases h1 : σ 0 i = 1
  · rw [if_pos h1, if_pos h1]
  · rw [if_neg h1, if_neg h1]
    by_cases h2 : σ 0 i = 2
    · rw [if_pos h2, if_pos h2]
    · rw [if_neg h2, if_neg h2]
      by_cases h3 : σ 0 i = 3
      · rw [if_pos h3, if_pos h3]
      · rw [if_neg h3, if_neg h3]
        by_cases h4 : σ 0 i = 4
        · rw [if_pos h4, if_pos h4]
        · rw [if_neg h4, if_neg h4]
          by_cases h5 : σ 0 i = 5
          · rw [if_pos h5, if_pos h5]
          · rw [if_neg h5, if_neg h5]
            by_cases h6 : σ 0 i = 6
            · rw [if_pos h6, if_pos h6]
            · rw [if_neg h6, if_neg h6]
theorem X0_mealOf {i : Nat} (hi : i < 8) : f_X0_mealOf σ (nI i) = some (eatsS σ i) := by
  unfold f_X0_mealOf eatsS
  rw [if_pos (ix_nI (by omega) (by omega)), nI_clamp (by omega)]
  by_cases h3 : σ 0 i = 3
  · rw [if_pos h3, if_pos h3]
  · rw [if_neg h3, if_neg h3]
    by_cases h4 : σ 0 i = 4
    · rw [if_pos h4, if_pos h4]
    · rw [if_neg h4, if_neg h4]
      by_cases h5 : σ 0 i = 5
      · rw [if_pos h5, if_pos h5]
      · rw [if_neg h5, if_neg h5]
theorem X0_deadSet (h : KI σ) : f_X0_deadSet σ = some (setOf (dead σ) (nb σ)) := by
  obtain ⟨⟨hb, hb8⟩, -, -, -, -, hB⟩ := h
  refine for_seq (fun n a i => f_X0_deadSet_L4 σ n a i) (setOf (dead σ)) (nb σ) _ ?_ ?_ (nb σ) 0 1000 (by omega) (by omega)
  · intro n i hi
    show f_X0_deadSet_L4 σ (n + 1) _ _ = f_X0_deadSet_L4 σ n _ _
    rw [f_X0_deadSet_L4, hb, if_neg (nI_ge hi (by omega)), X0_isDead (by omega) (hB i hi), bd_some, nI_1]
    cases hd : dead σ i
    · simp only [Bool.false_eq_true, if_false, if_true]; rw [setOf_f hd]
    · simp only [if_true]; rw [if_neg (by decide), setOf_t hd]
  · intro n
    show f_X0_deadSet_L4 σ (n + 1) _ _ = _
    rw [f_X0_deadSet_L4, hb, if_pos (nI_le (Nat.le_refl _) (by omega))]
theorem X0_loftSet (h : KI σ) (w : Int32) : f_X0_loftSet σ w = some (setOf (fun i => decide (σ 1 i = w)) (nb σ)) := by
  obtain ⟨⟨hb, hb8⟩, -, -, -, -, hB⟩ := h
  refine for_seq (fun n a i => f_X0_loftSet_L4 σ n w a i) (setOf (fun i => decide (σ 1 i = w))) (nb σ) _ ?_ ?_ (nb σ) 0 1000 (by omega) (by omega)
  · intro n i hi
    show f_X0_loftSet_L4 σ (n + 1) _ _ _ = f_X0_loftSet_L4 σ n _ _ _
    rw [f_X0_loftSet_L4, hb, if_neg (nI_ge hi (by omega)), if_pos (ix_nI (by omega) (by omega)), nI_clamp (by omega), nI_1]
    by_cases e : σ 1 i = w
    · rw [if_pos e, setOf_t (by simp [e])]
    · rw [if_neg e, setOf_f (by simp [e])]
  · intro n
    show f_X0_loftSet_L4 σ (n + 1) _ _ _ = _
    rw [f_X0_loftSet_L4, hb, if_pos (nI_le (Nat.le_refl _) (by omega))]
def owes (σ : K2) (i : Nat) : Bool := decide (0 < σ 7 i)
theorem X0_owedSet (h : KI σ) : f_X0_owedSet σ = some (setOf (owes σ) (nb σ)) := by
  obtain ⟨⟨hb, hb8⟩, -, -, -, -, hB⟩ := h
  refine for_seq (fun n a i => f_X0_owedSet_L4 σ n a i) (setOf (owes σ)) (nb σ) _ ?_ ?_ (nb σ) 0 1000 (by omega) (by omega)
  · intro n i hi
    show f_X0_owedSet_L4 σ (n + 1) _ _ = f_X0_owedSet_L4 σ n _ _
    rw [f_X0_owedSet_L4, hb, if_neg (nI_ge hi (by omega)), if_pos (ix_nI (by omega) (by omega)), nI_clamp (by omega), nI_1]
    by_cases e : σ 7 i ≤ 0
    · rw [if_pos e, setOf_f]
      unfold owes
      rw [decide_eq_false]
      rw [i32_le] at e; rw [i32_lt]; omega
    · rw [if_neg e, setOf_t]
      unfold owes
      rw [decide_eq_true]
      rw [i32_le] at e; rw [i32_lt]; omega
  · intro n
    show f_X0_owedSet_L4 σ (n + 1) _ _ = _
    rw [f_X0_owedSet_L4, hb, if_pos (nI_le (Nat.le_refl _) (by omega))]
def isS (σ : K2) (i : Nat) : Nat → Int32
  | 0 => 1 <<< (nI i &&& 31)
  | m + 1 => if ¬ σ 2 (i + 1 + m) < 0 ∧ (isS σ i m >>> (σ 2 (i + 1 + m) &&& 31)) &&& 1 = 1 then isS σ i m ||| (1 <<< (nI (i + 1 + m) &&& 31)) else isS σ i m
theorem X0_issueSet (h : KI σ) {i : Nat} (hi : i < nb σ) : f_X0_issueSet σ (nI i) = some (isS σ i (nb σ - (i + 1))) := by
  obtain ⟨⟨hb, hb8⟩, -, -, -, -, hB⟩ := h
  have key : ∀ m k n, k + m = nb σ - (i + 1) → m < n → f_X0_issueSet_L8 σ n (isS σ i k) (nI (i + 1 + k)) = some (isS σ i (nb σ - (i + 1))) := by
    intro m
    induction m with
    | zero =>
      intro k n h1 h2
      obtain ⟨n, rfl⟩ : ∃ z, n = z + 1 := ⟨n - 1, by omega⟩
      rw [f_X0_issueSet_L8, hb, if_pos (nI_le (by omega) (by omega)), show k = nb σ - (i + 1) by omega]
    | succ m ih =>
      intro k n h1 h2
      obtain ⟨n, rfl⟩ : ∃ z, n = z + 1 := ⟨n - 1, by omega⟩
      have := ih (k + 1) n (by omega) (by omega)
      rw [f_X0_issueSet_L8, hb, if_neg (nI_ge (by omega) (by omega)), if_pos (ix_nI (by omega) (by omega)), nI_clamp (by omega), nI_1]
      rw [isS, ← Nat.add_assoc] at this
      by_cases e : σ 2 (i + 1 + k) < 0
      · rw [if_pos e]
        rw [if_neg (fun z => z.1 e)] at this
        exact this
      · rw [if_neg e]
        by_cases e2 : (isS σ i k >>> (σ 2 (i + 1 + k) &&& 31)) &&& 1 = 1
        · rw [if_pos e2]
          rw [if_pos ⟨e, e2⟩] at this
          exact this
        · rw [if_neg e2]
          rw [if_neg (fun z => e2 z.2)] at this
          exact this
  unfold f_X0_issueSet
  rw [nI_1]
  exact key (nb σ - (i + 1)) 0 1000 (by omega) (by omega)
def chainS (σ : K2) : Nat → Int32 → Nat → Int32
  | 0, s, _ => s
  | n + 1, s, k => if σ 2 k < 0 then (if σ 4 k = 1 then s ||| (1 <<< (nI k &&& 31)) else s) else chainS σ n (if σ 4 k = 1 then s ||| (1 <<< (nI k &&& 31)) else s) (σ 2 k).toNatClampNeg
theorem X0_carriersAbove (h : KI σ) {i : Nat} (hi : i < nb σ) : f_X0_carriersAbove σ (nI i) = some (chainS σ 8 0 i) := by
  obtain ⟨⟨hb, hb8⟩, -, -, -, -, hB⟩ := h
  have key : ∀ m k n s t, k < m → k < nb σ → k + 1 < n → t + k < 8 → f_X0_carriersAbove_L7 σ n s (nI k) (nI t) = some (chainS σ (8 - t) s k) := by
    intro m
    induction m with
    | zero => intro k n s t h; omega
    | succ m ih =>
      intro k n s t h1 h2 h3 h4
      obtain ⟨n, rfl⟩ : ∃ z, n = z + 1 := ⟨n - 1, by omega⟩
      obtain ⟨u, hu⟩ : ∃ z, 8 - t = z + 1 := ⟨7 - t, by omega⟩
      rw [hu, f_X0_carriersAbove_L7, if_neg (g8 (by omega)), if_neg (nI_pos (by omega)), if_pos (ix_nI (by omega) (by omega)), nI_clamp (by omega), nI_1, chainS]
      have fin : ∀ s', f_X0_carriersAbove_L7 σ n s' (σ 2 k) (nI (t + 1)) = some (if σ 2 k < 0 then s' else chainS σ u s' (σ 2 k).toNatClampNeg) := by
        intro s'
        rcases (hB k h2).2.2.1 with e | ⟨j, hj, e⟩
        · rw [e, if_pos (by decide)]
          obtain ⟨n, rfl⟩ : ∃ z, n = z + 1 := ⟨n - 1, by omega⟩
          rw [f_X0_carriersAbove_L7]
          by_cases z : (8 : Int32) ≤ nI (t + 1)
          · rw [if_pos z]
          · rw [if_neg z, if_pos (by decide)]
        · rw [e, if_neg (nI_pos (by omega)), nI_clamp (by omega), show u = 8 - (t + 1) by omega]
          exact ih j n s' (t + 1) (by omega) (by omega) (by omega) (by omega)
      by_cases e4 : σ 4 k = 1
      · rw [if_pos e4, fin]
        by_cases z : σ 2 k < 0
        · rw [if_pos z, if_pos z, if_pos e4]
        · rw [if_neg z, if_neg z, if_pos e4]
      · rw [if_neg e4, fin]
        by_cases z : σ 2 k < 0
        · rw [if_pos z, if_pos z, if_neg e4]
        · rw [if_neg z, if_neg z, if_neg e4]
  exact key (i + 1) i 1000 0 0 (by omega) hi (by omega) (by omega)
theorem X0_together (h : KI σ) {w : Nat} (hw : w < 9) : f_X0_together σ (nI w) = some (sumI (σ w) (nb σ)) := by
  obtain ⟨⟨hb, hb8⟩, -, -, -, -, hB⟩ := h
  refine for_seq (fun n a i => f_X0_together_L4 σ n (nI w) a i) (sumI (σ w)) (nb σ) _ ?_ ?_ (nb σ) 0 1000 (by omega) (by omega)
  · intro n i hi
    show f_X0_together_L4 σ (n + 1) _ _ _ = f_X0_together_L4 σ n _ _ _
    rw [f_X0_together_L4, hb, if_neg (nI_ge hi (by omega)), if_pos (ix_nI (by omega) (by omega)), if_pos (ix_nI (by omega) (by omega)), nI_clamp (by omega), nI_clamp (by omega), nI_1]
    rfl
  · intro n
    show f_X0_together_L4 σ (n + 1) _ _ _ = _
    rw [f_X0_together_L4, hb, if_pos (nI_le (Nat.le_refl _) (by omega))]
def ratesS (σ : K2) : Int32 := sumI (fun i => if draws σ i then rateS σ i else 0) (nb σ)
theorem X0_ratesTogether (h : KI σ) : f_X0_ratesTogether σ = some (ratesS σ) := by
  have h0 := h
  obtain ⟨⟨hb, hb8⟩, -, -, -, -, hB⟩ := h
  unfold f_X0_ratesTogether
  rw [X0_lineSet h0, bd_some, X0_drawSet h0 (fun _ _ => rfl), bd_some]
  refine for_seq (fun n a i => f_X0_ratesTogether_L13 σ n (setOf (draws σ) (nb σ)) a i) (sumI (fun i => if draws σ i then rateS σ i else 0)) (nb σ) _ ?_ ?_ (nb σ) 0 1000 (by omega) (by omega)
  · intro n i hi
    show f_X0_ratesTogether_L13 σ (n + 1) _ _ _ = f_X0_ratesTogether_L13 σ n _ _ _
    have hq := bitq (s := setOf (draws σ) (nb σ)) (i := i) (by omega)
    rw [bt_set (by omega) hi] at hq
    rw [f_X0_ratesTogether_L13, hb, if_neg (nI_ge hi (by omega)), X0_rateOf h0 hi, bd_some, nI_1, sumI]
    cases hd : draws σ i
    · rw [if_neg (by rw [hq, hd]; decide), if_neg (by decide), add0]
    · rw [if_pos (by rw [hq, hd]), if_pos rfl]
  · intro n
    show f_X0_ratesTogether_L13 σ (n + 1) _ _ _ = _
    rw [f_X0_ratesTogether_L13, hb, if_pos (nI_le (Nat.le_refl _) (by omega))]
    rfl
def mealsS (σ : K2) : Int32 := sumI (fun i => if draws σ i then eatsS σ i else 0) (nb σ)
theorem X0_mealsTogether (h : KI σ) {p : Nat → Bool} : f_X0_mealsTogether σ (setOf p (nb σ)) = some (sumI (fun i => if p i then eatsS σ i else 0) (nb σ)) := by
  obtain ⟨⟨hb, hb8⟩, -, -, -, -, hB⟩ := h
  refine for_seq (fun n a i => f_X0_mealsTogether_L4 σ n (setOf p (nb σ)) a i) (sumI (fun i => if p i then eatsS σ i else 0)) (nb σ) _ ?_ ?_ (nb σ) 0 1000 (by omega) (by omega)
  · intro n i hi
    show f_X0_mealsTogether_L4 σ (n + 1) _ _ _ = f_X0_mealsTogether_L4 σ n _ _ _
    have hq := bitq (s := setOf p (nb σ)) (i := i) (by omega)
    rw [bt_set (by omega) hi] at hq
    rw [f_X0_mealsTogether_L4, hb, if_neg (nI_ge hi (by omega)), X0_mealOf (by omega), bd_some, nI_1, sumI]
    cases hd : p i
    · rw [if_neg (by rw [hq, hd]; decide), if_neg (by decide), add0]
    · rw [if_pos (by rw [hq, hd]), if_pos rfl]
  · intro n
    show f_X0_mealsTogether_L4 σ (n + 1) _ _ _ = _
    rw [f_X0_mealsTogether_L4, hb, if_pos (nI_le (Nat.le_refl _) (by omega))]
def heldS (σ : K2) : Int32 := nI (cnt (fun i => decide (¬ σ 10 i = -1)) 10)
theorem X0_spotsHeld : f_X0_spotsHeld σ = some (heldS σ) := by
  refine for_seq (fun n a i => f_X0_spotsHeld_L4 σ n a i) (fun k => nI (cnt (fun i => decide (¬ σ 10 i = -1)) k)) 10 _ ?_ ?_ 10 0 1000 (by omega) (by omega)
  · intro n i hi
    show f_X0_spotsHeld_L4 σ (n + 1) _ _ = f_X0_spotsHeld_L4 σ n _ _
    rw [f_X0_spotsHeld_L4, if_neg (g10 hi), if_pos (ix_nI hi (by omega)), nI_clamp (by omega), nI_1, nI_1, cnt]
    by_cases e : σ 10 i = -1
    · rw [if_pos e]; simp [e]
    · rw [if_neg e]; simp [e]
  · intro n
    show f_X0_spotsHeld_L4 σ (n + 1) _ _ = _
    rw [f_X0_spotsHeld_L4, if_pos e10]
    rfl
def bI (b : Bool) : Int32 := if b then 1 else 0
def tellS (σ : K2) (i w : Nat) : Int32 := if w = 9 then tbLife (σ 0 i).toNatClampNeg else if w = 10 then rateS σ i else if w = 11 then eatsS σ i else if w = 12 then bI (line σ i) else if w = 13 then bI (draws σ i) else σ w i
theorem X0_tell (h : KI σ) {i w : Nat} (hi : i < nb σ) (hw : w ≤ 13) : f_X0_tell σ (nI i) (nI w) = some (tellS σ i w) := by
  have h0 := h
  obtain ⟨⟨hb, hb8⟩, -, -, -, -, hB⟩ := h
  unfold f_X0_tell tellS
  have e9 : (nI w = (9 : Int32)) = (w = 9) := nI_lit (k := 9) (by omega) (by omega)
  have e10 : (nI w = (10 : Int32)) = (w = 10) := nI_lit (k := 10) (by omega) (by omega)
  have e11 : (nI w = (11 : Int32)) = (w = 11) := nI_lit (k := 11) (by omega) (by omega)
  have e12 : (nI w = (12 : Int32)) = (w = 12) := nI_lit (k := 12) (by omega) (by omega)
  have e13 : (nI w = (13 : Int32)) = (w = 13) := nI_lit (k := 13) (by omega) (by omega)
  simp only [e9, e10, e11, e12, e13]
  rw [X0_rateOf h0 hi, X0_mealOf (by omega), X0_lineSet h0]
  have ci : (nI i).toNatClampNeg = i := nI_clamp (by omega)
  have cw : (nI w).toNatClampNeg = w := nI_clamp (by omega)
  simp only [bd_some, ci, cw]
  rw [X0_drawSet h0 (fun _ _ => rfl)]
  simp only [bd_some]
  rw [bitv (by omega), bitv (by omega), bt_set (by omega) hi, bt_set (by omega) hi]
  by_cases h9 : w = 9
  · rw [if_pos h9, if_pos h9, if_pos (ix_nI (by omega) (by omega)), if_pos (kind_ix (hB i hi))]
  · rw [if_neg h9, if_neg h9]
    by_cases h10 : w = 10
    · rw [if_pos h10, if_pos h10]
    · rw [if_neg h10, if_neg h10]
      by_cases h11 : w = 11
      · rw [if_pos h11, if_pos h11]
      · rw [if_neg h11, if_neg h11]
        by_cases h12 : w = 12
        · rw [if_pos h12, if_pos h12]; rfl
        · rw [if_neg h12, if_neg h12]
          by_cases h13 : w = 13
          · rw [if_pos h13, if_pos h13]; rfl
          · rw [if_neg h13, if_neg h13, if_pos (ix_nI (by omega) (by omega)), if_pos (ix_nI (by omega) (by omega))]
end PX
