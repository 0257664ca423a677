/-! ===== pure: a day ===== -/
def growS (σ : K2) (k : Nat) : K2 := va_up σ 3 (fun i => if i < k then imin 9999 (σ 3 i + 1) else σ 3 i)
theorem growS_0 (σ : K2) : growS σ 0 = σ := by
  funext c i
  unfold growS
  by_cases e : c = 3
  · subst e; rw [up_s, if_neg (by omega)]
  · rw [up_n e]
theorem growS_1 (σ : K2) (k : Nat) : va_up (growS σ k) 3 (upd (growS σ k 3) k (imin 9999 (growS σ k 3 k + 1))) = growS σ (k + 1) := by
  funext c i
  unfold growS
  rw [bx_uu]
  by_cases e : c = 3
  · subst e
    rw [up_s, up_s]
    by_cases e2 : i = k
    · subst e2
      rw [upd_s, up_s, if_neg (by omega), if_pos (by omega)]
    · rw [upd_n e2, up_s]
      by_cases e3 : i < k
      · rw [if_pos e3, if_pos (by omega)]
      · rw [if_neg e3, if_neg (by omega)]
  · rw [up_n e, up_n e]
theorem X0_growOlder {σ : K2} (h : KI σ) : f_X0_growOlder σ = some (growS σ (nb σ)) := by
  obtain ⟨⟨hb, hb8⟩, -⟩ := h
  have key := for_seq (fun n a i => f_X0_growOlder_L2 n a i) (growS σ) (nb σ) (some (growS σ (nb σ))) ?_ ?_ (nb σ) 0 1000 (by omega) (by omega)
  · rw [growS_0] at key
    exact key
  · intro n i hi
    show f_X0_growOlder_L2 (n + 1) _ _ = f_X0_growOlder_L2 n _ _
    have e : growS σ i 11 3 = nI (nb σ) := hb
    rw [f_X0_growOlder_L2, e, if_neg (nI_ge hi (by omega)), if_pos (ix_nI (by omega) (by omega)), nI_clamp (by omega), nI_1, growS_1]
  · intro n
    show f_X0_growOlder_L2 (n + 1) _ _ = _
    have e : growS σ (nb σ) 11 3 = nI (nb σ) := hb
    rw [f_X0_growOlder_L2, e, if_pos (nI_le (Nat.le_refl _) (by omega))]
def dueS (σ : K2) (i : Nat) : Int32 := rateS σ i + σ 7 i
def getsS (σ : K2) (i : Nat) : Int32 := imin (dueS σ i) (σ 11 1)
def pay1 (σ : K2) (i : Nat) : K2 := va_up (va_up (va_up σ 7 (upd (σ 7) i (imin 9999 (dueS σ i - getsS σ i)))) 8 (upd (σ 8) i (imin 9999 (σ 8 i + getsS σ i)))) 11 (upd (σ 11) 1 (σ 11 1 - getsS σ i))
def payN (p : Nat → Bool) (σ : K2) : Nat → K2
  | 0 => σ
  | n + 1 => if p n then pay1 (payN p σ n) n else payN p σ n
theorem nb_eq {σ σ' : K2} (h : σ' 11 3 = σ 11 3) : nb σ' = nb σ := by unfold nb; rw [h]
theorem nd_eq {σ σ' : K2} (h : σ' 11 0 = σ 11 0) : nd σ' = nd σ := by unfold nd; rw [h]
theorem cock_b (σ : K2) (i : Nat) (hb8 : nb σ ≤ 8) : ∃ r, 10 ≤ r ∧ r ≤ 18 ∧ cockS σ i = nI r := ⟨_, by omega, by have := cnt_le (p := fun k => decide (σ 1 k = σ 1 i)) (nb σ); omega, rfl⟩
theorem rate_b {σ : K2} (h : KI σ) {i : Nat} (hi : i < nb σ) : ∃ r, r ≤ 100 ∧ rateS σ i = nI r := by
  obtain ⟨⟨hb, hb8⟩, -, ⟨t, ht, et⟩, -, -, hB⟩ := h
  unfold rateS
  obtain ⟨r, h1, h2, e⟩ := cock_b σ i hb8
  rw [e]
  by_cases c1 : σ 0 i = 1
  · rw [if_pos c1]; exact ⟨8, by omega, rfl⟩
  · rw [if_neg c1]
    by_cases c2 : σ 0 i = 2
    · rw [if_pos c2]; exact ⟨r, by omega, rfl⟩
    · rw [if_neg c2]
      by_cases c3 : σ 0 i = 3
      · rw [if_pos c3]; exact ⟨2 * r, by omega, (pk_mul 2 r)⟩
      · rw [if_neg c3]
        by_cases c4 : σ 0 i = 4
        · rw [if_pos c4, et]
          have e2 : (2 : Int32) * nI r = nI (2 * r) := pk_mul 2 r
          have e3 : nI t / (10 : Int32) = nI (t / 10) := pk_div (d := 10) (by omega) (by omega) (by omega)
          rw [e2, e3]
          by_cases c : t / 10 ≤ 2 * r
          · rw [pk_sub c]
            refine ⟨max 5 (2 * r - t / 10), by omega, ?_⟩
            exact imax_nI (a := 5) (by omega) (by omega)
          · refine ⟨5, by omega, ?_⟩
            unfold imax
            rw [if_neg]
            · rfl
            · have := pk_sneg (a := 2 * r) (b := t / 10) (by omega) (by omega)
              rw [i32_lt] at this ⊢
              have e0 : (0 : Int32).toInt = 0 := rfl
              have e5 : (5 : Int32).toInt = 5 := rfl
              omega
        · rw [if_neg c4]
          by_cases c5 : σ 0 i = 5
          · rw [if_pos c5]; exact ⟨3, by omega, rfl⟩
          · rw [if_neg c5]
            by_cases c6 : σ 0 i = 6
            · rw [if_pos c6]
              have hc := cnt_le (p := fun k => decide (σ 2 k = nI i) && !dead σ k) (nb σ)
              refine ⟨8 + 4 * cnt (fun k => decide (σ 2 k = nI i) && !dead σ k) (nb σ), by omega, ?_⟩
              unfold chicksS
              have e4 : (4 : Int32) * nI (cnt (fun k => decide (σ 2 k = nI i) && !dead σ k) (nb σ)) = nI (4 * cnt (fun k => decide (σ 2 k = nI i) && !dead σ k) (nb σ)) := pk_mul 4 _
              rw [e4]
              exact nI_add 8 _
            · rw [if_neg c6]; exact ⟨10, by omega, rfl⟩
theorem due_b {σ : K2} (h : KI σ) {i : Nat} (hi : i < nb σ) : ∃ d t, d ≤ 10099 ∧ t ≤ 99999 ∧ dueS σ i = nI d ∧ σ 11 1 = nI t ∧ getsS σ i = nI (min d t) := by
  obtain ⟨r, hr, er⟩ := rate_b h hi
  obtain ⟨-, -, ⟨t, ht, et⟩, -, -, hB⟩ := h
  obtain ⟨o, ho, eo⟩ := (hB i hi).2.2.2.2.2.2.2.1
  have ed : dueS σ i = nI (r + o) := by unfold dueS; rw [er, eo, nI_add]
  refine ⟨r + o, t, by omega, ht, ed, et, ?_⟩
  unfold getsS
  rw [ed, et, imin_nI (by omega) (by omega)]
/-- a write of what a bird is owed or paid, and of the treasury, keeps the kingdom -/
theorem KI_pay1 {σ : K2} (h : KI σ) {i : Nat} (hi : i < nb σ) : KI (pay1 σ i) := by
  obtain ⟨d, t, hd, ht, ed, et, eg⟩ := due_b h hi
  obtain ⟨hb, hd0, -, hL, hSp, hB⟩ := h
  have enb : nb (pay1 σ i) = nb σ := nb_eq rfl
  refine ⟨⟨?_, ?_⟩, ⟨?_, ?_⟩, ⟨t - min d t, by omega, ?_⟩, hL, ?_, ?_⟩
  · rw [enb]; exact hb.1
  · rw [enb]; exact hb.2
  · rw [nd_eq (σ' := pay1 σ i) (σ := σ) rfl]; exact hd0.1
  · rw [nd_eq (σ' := pay1 σ i) (σ := σ) rfl]; exact hd0.2
  · show σ 11 1 - getsS σ i = _
    rw [et, eg, pk_sub (by omega)]
  · rw [enb]; exact hSp
  · rw [enb]
    intro j hj
    obtain ⟨b0, b1, b2, b3, b4, b5, b6, b7, b8⟩ := hB j hj
    refine ⟨b0, b1, b2, b3, b4, b5, b6, ?_, ?_⟩
    · show ∃ k, k ≤ 9999 ∧ upd (σ 7) i (imin 9999 (dueS σ i - getsS σ i)) j = nI k
      by_cases e : j = i
      · subst e
        rw [upd_s, ed, eg, pk_sub (by omega)]
        exact ⟨min 9999 (d - min d t), by omega, imin_nI (a := 9999) (by omega) (by omega)⟩
      · rw [upd_n e]; exact b7
    · show ∃ k, k ≤ 9999 ∧ upd (σ 8) i (imin 9999 (σ 8 i + getsS σ i)) j = nI k
      by_cases e : j = i
      · subst e
        obtain ⟨k, hk, ek⟩ := b8
        rw [upd_s, ek, eg, nI_add]
        exact ⟨min 9999 (k + min d t), by omega, imin_nI (a := 9999) (by omega) (by omega)⟩
      · rw [upd_n e]; exact b8
theorem payN_row {p : Nat → Bool} {σ : K2} {c : Nat} (h7 : c ≠ 7) (h8 : c ≠ 8) (h11 : c ≠ 11) : ∀ n, payN p σ n c = σ c
  | 0 => rfl
  | n + 1 => by
    rw [payN]
    split
    · unfold pay1
      rw [up_n h11, up_n h8, up_n h7]
      exact payN_row h7 h8 h11 n
    · exact payN_row h7 h8 h11 n
theorem payN_11 {p : Nat → Bool} {σ : K2} {j : Nat} (hj : j ≠ 1) : ∀ n, payN p σ n 11 j = σ 11 j
  | 0 => rfl
  | n + 1 => by
    rw [payN]
    split
    · unfold pay1
      rw [up_s, upd_n hj]
      exact payN_11 hj n
    · exact payN_11 hj n
theorem KI_payN {p : Nat → Bool} {σ : K2} (h : KI σ) : ∀ n, n ≤ nb σ → KI (payN p σ n)
  | 0, _ => h
  | n + 1, hn => by
    have ih := KI_payN (p := p) h n (by omega)
    have e : nb (payN p σ n) = nb σ := nb_eq (payN_11 (by decide) n)
    rw [payN]
    split
    · exact KI_pay1 ih (by omega)
    · exact ih
theorem X0_payQuarter {σ : K2} (h : KI σ) (p : Nat → Bool) : f_X0_payQuarter σ (setOf p (nb σ)) = some (payN p σ (nb σ)) := by
  have hb8 := h.1.2
  refine for_seq (fun n a i => f_X0_payQuarter_L2 n a (setOf p (nb σ)) i) (payN p σ) (nb σ) _ ?_ ?_ (nb σ) 0 1000 (by omega) (by omega)
  · intro n i hi
    show f_X0_payQuarter_L2 (n + 1) _ _ _ = f_X0_payQuarter_L2 n _ _ _
    have hK := KI_payN (p := p) h i (by omega)
    have e : nb (payN p σ i) = nb σ := nb_eq (payN_11 (by decide) i)
    have e3 : payN p σ i 11 3 = nI (nb σ) := by rw [payN_11 (by decide)]; exact h.1.1
    have hq := bitq (s := setOf p (nb σ)) (i := i) (by omega)
    rw [bt_set (by omega) hi] at hq
    rw [f_X0_payQuarter_L2, e3, if_neg (nI_ge hi (by omega)), X0_rateOf hK (by omega), bd_some, if_pos (ix_nI (by omega) (by omega)), nI_clamp (by omega), nI_1, payN]
    cases hp : p i
    · rw [if_neg (by rw [hq, hp]; decide), if_neg (by decide)]
    · rw [if_pos (by rw [hq, hp]), if_pos rfl]
      rfl
  · intro n
    show f_X0_payQuarter_L2 (n + 1) _ _ _ = _
    have e3 : payN p σ (nb σ) 11 3 = nI (nb σ) := by rw [payN_11 (by decide)]; exact h.1.1
    rw [f_X0_payQuarter_L2, e3, if_pos (nI_le (Nat.le_refl _) (by omega))]
/-- the treasury behind harvest and meals -/
def cornS (σ : K2) : Int32 := imax 0 (imin 99999 (σ 11 1 + σ 9 (nd σ % 6)) - mealsS σ)
def day1 (σ : K2) : K2 := growS (va_up σ 11 (upd (σ 11) 1 (cornS σ))) (nb σ)
def day2 (σ : K2) : K2 := if nd σ % 6 = 5 then payN (draws (day1 σ)) (day1 σ) (nb σ) else day1 σ
def dayS (σ : K2) : K2 := va_up (day2 σ) 11 (upd (day2 σ 11) 0 (imin 99999 (day2 σ 11 0 + 1)))
theorem sumI_b {g : Nat → Int32} {B : Nat} : ∀ {n : Nat}, (∀ i, i < n → ∃ k, k ≤ B ∧ g i = nI k) → ∃ k, k ≤ n * B ∧ sumI g n = nI k
  | 0, _ => ⟨0, by omega, rfl⟩
  | n + 1, h => by
    obtain ⟨k, hk, e⟩ := sumI_b (n := n) (fun i hi => h i (by omega))
    obtain ⟨j, hj, e2⟩ := h n (by omega)
    refine ⟨k + j, ?_, by rw [sumI, e, e2, nI_add]⟩
    rw [Nat.succ_mul]; omega
theorem eats_b {σ : K2} (h : KI σ) (i : Nat) : ∃ k, k ≤ 3 ∧ eatsS σ i = nI k := by
  obtain ⟨-, ⟨hd, hd9⟩, -⟩ := h
  unfold eatsS
  by_cases c3 : σ 0 i = 3
  · rw [if_pos c3]; exact ⟨1, by omega, rfl⟩
  · rw [if_neg c3]
    by_cases c4 : σ 0 i = 4
    · rw [if_pos c4]; exact ⟨3, by omega, rfl⟩
    · rw [if_neg c4]
      by_cases c5 : σ 0 i = 5
      · rw [if_pos c5, hd]
        exact ⟨nd σ % 2, by omega, irem_nI (d := 2) (by omega) (by omega) (by omega)⟩
      · rw [if_neg c5]; exact ⟨0, by omega, rfl⟩
theorem meals_b {σ : K2} (h : KI σ) : ∃ k, k ≤ 24 ∧ mealsS σ = nI k := by
  obtain ⟨k, hk, e⟩ := sumI_b (g := fun i => if draws σ i then eatsS σ i else 0) (B := 3) (n := nb σ) (fun i hi => by
    by_cases hd : draws σ i
    · simp only [hd, if_true]; exact eats_b h i
    · simp only [hd]; exact ⟨0, by omega, rfl⟩)
  have := h.1.2
  exact ⟨k, by omega, e⟩
theorem corn_b {σ : K2} (h : KI σ) : ∃ t, t ≤ 99999 ∧ cornS σ = nI t := by
  obtain ⟨m, hm, em⟩ := meals_b h
  obtain ⟨-, -, ⟨t, ht, et⟩, hL, -⟩ := h
  obtain ⟨v, hv, ev⟩ := hL (nd σ % 6) (by omega)
  unfold cornS
  have e1 : imin 99999 (nI (t + v)) = nI (min 99999 (t + v)) := imin_nI (a := 99999) (by omega) (by omega)
  rw [em, et, ev, nI_add, e1]
  by_cases c : m ≤ min 99999 (t + v)
  · rw [pk_sub c]
    exact ⟨max 0 (min 99999 (t + v) - m), by omega, imax_nI (a := 0) (by omega) (by omega)⟩
  · refine ⟨0, by omega, ?_⟩
    unfold imax
    rw [if_neg]
    · rfl
    · have := pk_sneg (a := min 99999 (t + v)) (b := m) (by omega) (by omega)
      rw [i32_lt] at this ⊢
      have e0 : (0 : Int32).toInt = 0 := rfl
      omega
theorem KI_corn {σ : K2} (h : KI σ) {v : Int32} (hv : ∃ t, t ≤ 99999 ∧ v = nI t) : KI (va_up σ 11 (upd (σ 11) 1 v)) := by
  obtain ⟨hb, hd, -, hL, hSp, hB⟩ := h
  exact ⟨hb, hd, hv, hL, hSp, hB⟩
theorem KI_grow {σ : K2} (h : KI σ) (k : Nat) : KI (growS σ k) := by
  obtain ⟨hb, hd, ht, hL, hSp, hB⟩ := h
  refine ⟨hb, hd, ht, hL, hSp, fun i hi => ?_⟩
  obtain ⟨b0, b1, b2, ⟨a, ha, ea⟩, b4⟩ := hB i hi
  refine ⟨b0, b1, b2, ?_, b4⟩
  show ∃ z, z ≤ 9999 ∧ (if i < k then imin 9999 (σ 3 i + 1) else σ 3 i) = nI z
  by_cases c : i < k
  · rw [if_pos c, ea, nI_1]
    exact ⟨min 9999 (a + 1), by omega, imin_nI (a := 9999) (by omega) (by omega)⟩
  · rw [if_neg c]; exact ⟨a, ha, ea⟩
theorem KI_day1 {σ : K2} (h : KI σ) : KI (day1 σ) := KI_grow (KI_corn h (corn_b h)) _
theorem nb_day1 (σ : K2) : nb (day1 σ) = nb σ := nb_eq rfl
theorem KI_day2 {σ : K2} (h : KI σ) : KI (day2 σ) := by
  unfold day2
  split
  · exact KI_payN (KI_day1 h) _ (by rw [nb_day1]; exact Nat.le_refl _)
  · exact KI_day1 h
theorem day2_11 {σ : K2} {j : Nat} (hj : j ≠ 1) : day2 σ 11 j = σ 11 j := by
  unfold day2
  split
  · rw [payN_11 hj]
    show upd (σ 11) 1 (cornS σ) j = _
    rw [upd_n hj]
  · show upd (σ 11) 1 (cornS σ) j = _
    rw [upd_n hj]
theorem KI_day {σ : K2} (h : KI σ) : KI (dayS σ) := by
  obtain ⟨hb, hd, ht, hL, hSp, hB⟩ := KI_day2 h
  have hd0 := h.2.1
  have e0 : day2 σ 11 0 = nI (nd σ) := by rw [day2_11 (by decide)]; exact hd0.1
  have ev : imin 99999 (day2 σ 11 0 + 1) = nI (min 99999 (nd σ + 1)) := by
    rw [e0, nI_1]; exact imin_nI (a := 99999) (by omega) (by omega)
  have en : nd (dayS σ) = min 99999 (nd σ + 1) := by
    unfold nd dayS
    rw [up_s, upd_s, ev, nI_clamp (by omega)]
    rfl
  refine ⟨hb, ⟨?_, by omega⟩, ht, hL, hSp, hB⟩
  rw [en]
  exact ev
theorem nb_day (σ : K2) : nb (dayS σ) = nb σ := nb_eq (by show day2 σ 11 3 = _; exact day2_11 (by decide))
theorem day_row {σ : K2} {c : Nat} (h3 : c ≠ 3) (h7 : c ≠ 7) (h8 : c ≠ 8) (h11 : c ≠ 11) : dayS σ c = σ c := by
  unfold dayS
  rw [up_n h11]
  unfold day2
  split
  · rw [payN_row h7 h8 h11]; unfold day1 growS; rw [up_n h3, up_n h11]
  · unfold day1 growS; rw [up_n h3, up_n h11]
theorem X0_passDay {σ : K2} (h : KI σ) {p : Nat → Bool} (hp : ∀ i, i < nb σ → p i = line σ i) : f_X0_passDay σ (setOf p (nb σ)) = some (dayS σ) := by
  have hb8 := h.1.2
  have hd := h.2.1
  have e6 : irem (σ 11 0) 6 = nI (nd σ % 6) := by rw [hd.1]; exact irem_nI (d := 6) (by omega) (by omega) (by omega)
  have hK1 : KI (va_up σ 11 (upd (σ 11) 1 (imin 99999 (σ 11 1 + σ 9 (nd σ % 6))))) := by
    refine KI_corn h ?_
    obtain ⟨-, -, ⟨t, ht, et⟩, hL, -⟩ := h
    obtain ⟨v, hv, ev⟩ := hL (nd σ % 6) (by omega)
    rw [et, ev, nI_add]
    exact ⟨min 99999 (t + v), by omega, imin_nI (a := 99999) (by omega) (by omega)⟩
  have en1 : nb (va_up σ 11 (upd (σ 11) 1 (imin 99999 (σ 11 1 + σ 9 (nd σ % 6))))) = nb σ := nb_eq rfl
  have d1 := X0_drawSet hK1 (p := p) (fun i hi => by rw [hp i (by omega)]; exact (line_congr (σ := σ) (σ' := va_up σ 11 (upd (σ 11) 1 (imin 99999 (σ 11 1 + σ 9 (nd σ % 6))))) rfl rfl i).symm)
  rw [en1] at d1
  rw [setOf_congr (p := draws (va_up σ 11 (upd (σ 11) 1 (imin 99999 (σ 11 1 + σ 9 (nd σ % 6)))))) (q := draws σ) (fun i _ => draws_congr (σ := σ) (σ' := va_up σ 11 (upd (σ 11) 1 (imin 99999 (σ 11 1 + σ 9 (nd σ % 6))))) rfl rfl rfl rfl rfl rfl i)] at d1
  have d2 := X0_mealsTogether hK1 (p := draws σ)
  rw [en1] at d2
  have d2' : f_X0_mealsTogether (va_up σ 11 (upd (σ 11) 1 (imin 99999 (σ 11 1 + σ 9 (nd σ % 6))))) (setOf (draws σ) (nb σ)) = some (mealsS σ) := d2
  unfold f_X0_passDay
  rw [e6, if_pos (ix_nI (by omega) (by omega)), nI_clamp (by omega), d1, bd_some, d2', bd_some]
  have d3 := X0_growOlder (KI_corn h (corn_b h))
  rw [show nb (va_up σ 11 (upd (σ 11) 1 (cornS σ))) = nb σ from nb_eq rfl] at d3
  have d3' : f_X0_growOlder (va_up σ 11 (upd (σ 11) 1 (imax 0 (imin 99999 (σ 11 1 + σ 9 (nd σ % 6)) - mealsS σ)))) = some (day1 σ) := d3
  rw [d3', bd_some]
  have e7 : irem (day1 σ 11 0) 6 = nI (nd σ % 6) := e6
  have d4 := X0_drawSet (KI_day1 h) (p := p) (fun i hi => by rw [hp i (by rw [nb_day1] at hi; exact hi)]; exact (line_congr (σ := σ) (σ' := day1 σ) rfl rfl i).symm)
  rw [nb_day1] at d4
  have d5 := X0_payQuarter (KI_day1 h) (draws (day1 σ))
  rw [nb_day1] at d5
  rw [e7, d4, bd_some, d5, bd_some]
  unfold dayS day2
  by_cases c : nd σ % 6 = 5
  · rw [if_pos c, if_pos (by rw [c]; rfl)]
  · rw [if_neg c, if_neg]
    have : (nI (nd σ % 6) = nI 5) = (nd σ % 6 = 5) := nI_lit (by omega) (by omega)
    intro z
    exact c (by rw [← this]; exact z)
def daysS : Nat → K2 → K2
  | 0, σ => σ
  | n + 1, σ => daysS n (dayS σ)
theorem daysS_succ : ∀ (n : Nat) (σ : K2), daysS (n + 1) σ = dayS (daysS n σ)
  | 0, _ => rfl
  | n + 1, σ => by rw [daysS, daysS_succ n, daysS]
theorem KI_days {σ : K2} (h : KI σ) : ∀ n, KI (daysS n σ)
  | 0 => h
  | n + 1 => by rw [daysS_succ]; exact KI_day (KI_days h n)
theorem nb_days (σ : K2) : ∀ n, nb (daysS n σ) = nb σ
  | 0 => rfl
  | n + 1 => by rw [daysS_succ, nb_day, nb_days σ n]
theorem days_row {σ : K2} {c : Nat} (h3 : c ≠ 3) (h7 : c ≠ 7) (h8 : c ≠ 8) (h11 : c ≠ 11) : ∀ n, daysS n σ c = σ c
  | 0 => rfl
  | n + 1 => by rw [daysS_succ, day_row h3 h7 h8 h11, days_row h3 h7 h8 h11 n]
theorem line_days (σ : K2) (n i : Nat) : line (daysS n σ) i = line σ i := line_congr (days_row (by decide) (by decide) (by decide) (by decide) n) (days_row (by decide) (by decide) (by decide) (by decide) n) i
theorem X0_passDays {σ : K2} (h : KI σ) {n : Nat} (hn : n ≤ 100) : f_X0_passDays σ (nI n) = some (daysS n σ) := by
  unfold f_X0_passDays
  rw [X0_lineSet h, bd_some]
  refine for_seq (fun k a i => f_X0_passDays_L7 k a (nI n) (setOf (line σ) (nb σ)) i) (fun i => daysS i σ) n _ ?_ ?_ n 0 1000 (by omega) (by omega)
  · intro k i hi
    show f_X0_passDays_L7 (k + 1) _ _ _ _ = f_X0_passDays_L7 k _ _ _ _
    have := X0_passDay (KI_days h i) (p := line σ) (fun j _ => (line_days σ i j).symm)
    rw [nb_days] at this
    rw [f_X0_passDays_L7, if_neg (nI_ge hi (by omega)), this, bd_some, nI_1, daysS_succ]
  · intro k
    show f_X0_passDays_L7 (k + 1) _ _ _ _ = _
    rw [f_X0_passDays_L7, if_pos (nI_le (Nat.le_refl _) (by omega))]
/-! canonical -/
theorem Cz_up {σ : K2} (h : Cz σ) {c i : Nat} {v : Int32} (hr : (c < 9 ∧ i < 8) ∨ (c = 9 ∧ i < 6) ∨ (c = 10 ∧ i < 10) ∨ (c = 11 ∧ i < 4)) : Cz (va_up σ c (upd (σ c) i v)) := by
  have key : ∀ c' i', (c' = c → i' ≠ i) → va_up σ c (upd (σ c) i v) c' i' = σ c' i' := by
    intro c' i' hn
    by_cases e : c' = c
    · subst e; rw [up_s, upd_n (hn rfl)]
    · rw [up_n e]
  obtain ⟨h1, h2, h3, h4, h5⟩ := h
  exact ⟨fun a b x y => by rw [key a b (by omega)]; exact h1 a b x y, fun b y => by rw [key 9 b (by omega)]; exact h2 b y, fun b y => by rw [key 10 b (by omega)]; exact h3 b y, fun b y => by rw [key 11 b (by omega)]; exact h4 b y, fun a b y => by rw [key a b (by omega)]; exact h5 a b y⟩
theorem Cz_grow {σ : K2} (h : Cz σ) {k : Nat} (hk : k ≤ 8) : Cz (growS σ k) := by
  induction k with
  | zero => rw [growS_0]; exact h
  | succ k ih => rw [← growS_1]; exact Cz_up (ih (by omega)) (Or.inl ⟨by omega, by omega⟩)
theorem Cz_pay1 {σ : K2} (h : Cz σ) {i : Nat} (hi : i < 8) : Cz (pay1 σ i) := by
  unfold pay1
  have a := Cz_up (v := imin 9999 (dueS σ i - getsS σ i)) h (c := 7) (i := i) (Or.inl ⟨by omega, hi⟩)
  have b := Cz_up (v := imin 9999 (σ 8 i + getsS σ i)) a (c := 8) (i := i) (Or.inl ⟨by omega, hi⟩)
  exact Cz_up (v := σ 11 1 - getsS σ i) b (c := 11) (i := 1) (Or.inr (Or.inr (Or.inr ⟨rfl, by omega⟩)))
theorem Cz_payN {p : Nat → Bool} {σ : K2} (h : Cz σ) : ∀ n, n ≤ 8 → Cz (payN p σ n)
  | 0, _ => h
  | n + 1, hn => by
    rw [payN]
    split
    · exact Cz_pay1 (Cz_payN h n (by omega)) (by omega)
    · exact Cz_payN h n (by omega)
theorem Cz_day {σ : K2} (h : Cz σ) (hb : nb σ ≤ 8) : Cz (dayS σ) := by
  have h1 : Cz (day1 σ) := Cz_grow (Cz_up h (Or.inr (Or.inr (Or.inr ⟨rfl, by omega⟩)))) hb
  have h2 : Cz (day2 σ) := by
    unfold day2
    split
    · exact Cz_payN h1 _ hb
    · exact h1
  exact Cz_up h2 (Or.inr (Or.inr (Or.inr ⟨rfl, by omega⟩)))
theorem Cz_days {σ : K2} (h : Cz σ) (hb : nb σ ≤ 8) : ∀ n, Cz (daysS n σ)
  | 0 => h
  | n + 1 => by rw [daysS_succ]; exact Cz_day (Cz_days h hb n) (by rw [nb_days]; exact hb)
/-! a copy -/
theorem cpy_row {f g : Nat → Int32} {N : Nat} (h : ∀ i, N ≤ i → f i = g i) : va_cpy f g 0 0 N = f := by
  funext k
  unfold va_cpy
  by_cases c : k < N
  · rw [if_pos ⟨by omega, by omega⟩]; congr 1; omega
  · rw [if_neg (by omega), h k (by omega)]
theorem X0_becomeL {κ : K2} (hκ : Cz κ) {σ : K2} (hσ : Cz σ) (h9 : σ 9 = κ 9) (h10 : σ 10 = κ 10) (h11 : σ 11 = κ 11) : f_X0_become_L64 κ 1000 σ 0 = some κ := by
  have hA : (fun c i => if c < 0 then κ c i else σ c i : K2) = σ := by funext c i; simp
  have key := for_seq (fun n a i => f_X0_become_L64 κ n a i) (fun w => (fun c i => if c < w then κ c i else σ c i : K2)) 9 (some κ) ?_ ?_ 9 0 1000 (by omega) (by omega)
  · rw [hA] at key; exact key
  · intro n w hw
    show f_X0_become_L64 κ (n + 1) _ _ = f_X0_become_L64 κ n _ _
    rw [f_X0_become_L64, if_neg (g9 hw), if_pos (ix_nI hw (by omega)), nI_clamp (by omega), nI_1]
    congr 1
    funext c i
    by_cases e : c = w
    · subst e
      rw [up_s, cpy_row]
      · rw [if_pos (by omega)]
      · intro j hj
        show κ c j = if c < c then _ else σ c j
        rw [if_neg (by omega), hκ.1 c j hw hj, hσ.1 c j hw hj]
    · rw [up_n e]
      show (if c < w then κ c i else σ c i) = if c < w + 1 then κ c i else σ c i
      by_cases c1 : c < w
      · rw [if_pos c1, if_pos (by omega)]
      · rw [if_neg c1, if_neg (by omega)]
  · intro n
    show f_X0_become_L64 κ (n + 1) _ _ = _
    rw [f_X0_become_L64, if_pos e9]
    congr 1
    funext c i
    show (if c < 9 then κ c i else σ c i) = κ c i
    by_cases c1 : c < 9
    · rw [if_pos c1]
    · rw [if_neg c1]
      by_cases c2 : c = 9
      · rw [c2, h9]
      · by_cases c3 : c = 10
        · rw [c3, h10]
        · by_cases c4 : c = 11
          · rw [c4, h11]
          · rw [hσ.2.2.2.2 c i (by omega), hκ.2.2.2.2 c i (by omega)]
theorem become_start {σ κ : K2} (hσ : Cz σ) (hκ : Cz κ) : va_up (va_up (va_up σ 10 (va_cpy (κ 10) (σ 10) 0 0 10)) 9 (va_cpy (κ 9) (σ 9) 0 0 6)) 11 (upd (upd (upd (upd (σ 11) 0 (κ 11 0)) 1 (κ 11 1)) 2 (κ 11 2)) 3 (κ 11 3)) = va_up (va_up (va_up σ 10 (κ 10)) 9 (κ 9)) 11 (κ 11) := by
  rw [cpy_row (fun i hi => by rw [hκ.2.2.1 i hi, hσ.2.2.1 i hi]), cpy_row (fun i hi => by rw [hκ.2.1 i hi, hσ.2.1 i hi])]
  congr 1
  funext i
  by_cases e3 : i = 3
  · subst e3; rw [upd_s]
  · rw [upd_n e3]
    by_cases e2 : i = 2
    · subst e2; rw [upd_s]
    · rw [upd_n e2]
      by_cases e1 : i = 1
      · subst e1; rw [upd_s]
      · rw [upd_n e1]
        by_cases e0 : i = 0
        · subst e0; rw [upd_s]
        · rw [upd_n e0, hσ.2.2.2.1 i (by omega), hκ.2.2.2.1 i (by omega)]
theorem become_Cz {σ κ : K2} (hσ : Cz σ) (hκ : Cz κ) : Cz (va_up (va_up (va_up σ 10 (κ 10)) 9 (κ 9)) 11 (κ 11)) := by
  obtain ⟨a1, a2, a3, a4, a5⟩ := hσ
  obtain ⟨b1, b2, b3, b4, b5⟩ := hκ
  refine ⟨fun c i h1 h2 => ?_, b2, b3, b4, fun c i h => ?_⟩
  · rw [up_n (by omega), up_n (by omega), up_n (by omega)]; exact a1 c i h1 h2
  · rw [up_n (by omega), up_n (by omega), up_n (by omega)]; exact a5 c i h
theorem X0_become {σ κ : K2} (hσ : Cz σ) (hκ : Cz κ) : f_X0_become σ κ = some κ := by
  unfold f_X0_become
  rw [become_start hσ hκ]
  exact X0_becomeL hκ (become_Cz hσ hκ) rfl rfl rfl
theorem become2_L (κ : K2) : ∀ n σ x, f_X0_become2_L64 κ n σ x = f_X0_become_L64 κ n σ x
  | 0, _, _ => rfl
  | n + 1, σ, x => by rw [f_X0_become2_L64, f_X0_become_L64, become2_L κ n]
theorem X0_become2 {σ κ : K2} (hσ : Cz σ) (hκ : Cz κ) : f_X0_become2 σ κ = some κ := by
  unfold f_X0_become2
  rw [become2_L, become_start hσ hκ]
  exact X0_becomeL hκ (become_Cz hσ hκ) rfl rfl rfl
