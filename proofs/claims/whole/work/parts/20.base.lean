/-! ===== pure: numbers, loops, the kingdom's picture ===== -/
theorem c0_nI : (0 : Int32) = nI 0 := rfl
theorem c1_nI : (1 : Int32) = nI 1 := rfl
theorem ix_nI {i n : Nat} (h : i < n) (hn : n < 2 ^ 31) : ix (nI i) n := vp_in_nI h hn
theorem ix_iff {x : Int32} {n : Nat} : ix x n ↔ 0 ≤ x.toInt ∧ x.toInt < n := vp_in_iff
theorem i32_le {a b : Int32} : a ≤ b ↔ a.toInt ≤ b.toInt := Int32.le_iff_toInt_le
theorem i32_lt {a b : Int32} : a < b ↔ a.toInt < b.toInt := Int32.lt_iff_toInt_lt
theorem i32_eq {a b : Int32} : a = b ↔ a.toInt = b.toInt := ⟨fun h => by rw [h], fun h => Int32.toInt_inj.mp h⟩
theorem bd_some {α β : Type} {a : α} {f : α → Option β} : Option.bind (some a) f = f a := rfl
/-- a number that is so and so many -/
theorem nI_of_range {x : Int32} {n : Nat} (h0 : 0 ≤ x.toInt) (h1 : x.toInt ≤ n) (hn : n < 2 ^ 31) : ∃ k, k ≤ n ∧ x = nI k := by
  refine ⟨x.toInt.toNat, by omega, ?_⟩
  rw [i32_eq, nI_toInt (by omega)]
  omega
theorem within_X3 (a b c : Int32) : f_X3_within a b c = some (if b ≤ a ∧ a ≤ c then 1 else 0) := by
  unfold f_X3_within
  by_cases h1 : a < b
  · rw [if_pos h1, if_neg]
    rintro ⟨h, -⟩
    rw [i32_le] at h; rw [i32_lt] at h1; omega
  · rw [if_neg h1]
    by_cases h2 : c < a
    · rw [if_pos h2, if_neg]
      rintro ⟨-, h⟩
      rw [i32_le] at h; rw [i32_lt] at h2; omega
    · rw [if_neg h2, if_pos]
      rw [i32_lt] at h1 h2
      exact ⟨by rw [i32_le]; omega, by rw [i32_le]; omega⟩
theorem within_X4 (a b c : Int32) : f_X4_within a b c = some (if b ≤ a ∧ a ≤ c then 1 else 0) := within_X3 a b c
/-- a loop upwards over a place of numbers, with a state -/
theorem for_up {α β : Type} (L : Nat → α → Int32 → Option β) (g : α → Nat → α) (k : α → Option β) (b : Nat) (I : Nat → α → Prop)
    (hs : ∀ n a i, i < b → I i a → L (n + 1) a (nI i) = L n (g a i) (nI (i + 1)) ∧ I (i + 1) (g a i)) (he : ∀ n a, I b a → L (n + 1) a (nI b) = k a) :
    ∀ (m i : Nat) (a : α) (n : Nat), i + m = b → m < n → I i a → ∃ a', L n a (nI i) = k a' ∧ I b a' ∧ a' = (List.range' i m).foldl g a := by
  intro m
  induction m with
  | zero =>
    intro i a n h1 h2 hI
    obtain ⟨n, rfl⟩ : ∃ z, n = z + 1 := ⟨n - 1, by omega⟩
    have : i = b := by omega
    subst this
    exact ⟨a, he n a hI, hI, rfl⟩
  | succ m ih =>
    intro i a n h1 h2 hI
    obtain ⟨n, rfl⟩ : ∃ z, n = z + 1 := ⟨n - 1, by omega⟩
    obtain ⟨e1, e2⟩ := hs n a i (by omega) hI
    obtain ⟨a', h3, h4, h5⟩ := ih (i + 1) (g a i) n (by omega) (by omega) e2
    exact ⟨a', by rw [e1]; exact h3, h4, by rw [h5, List.range'_succ, List.foldl_cons]⟩
/-- the same from 0, its end told by a sequence -/
theorem for_seq {α β : Type} (L : Nat → α → Int32 → Option β) (A : Nat → α) (b : Nat) (r : Option β)
    (hs : ∀ n i, i < b → L (n + 1) (A i) (nI i) = L n (A (i + 1)) (nI (i + 1))) (he : ∀ n, L (n + 1) (A b) (nI b) = r) :
    ∀ (m i n : Nat), i + m = b → m < n → L n (A i) (nI i) = r := by
  intro m
  induction m with
  | zero =>
    intro i n h1 h2
    obtain ⟨n, rfl⟩ : ∃ z, n = z + 1 := ⟨n - 1, by omega⟩
    have : i = b := by omega
    subst this
    exact he n
  | succ m ih =>
    intro i n h1 h2
    obtain ⟨n, rfl⟩ : ∃ z, n = z + 1 := ⟨n - 1, by omega⟩
    rw [hs n i (by omega)]
    exact ih (i + 1) n (by omega) (by omega)
/-! the kingdom -/
def dec (n : Nat → Int32) : K2 := fun c i =>
  if c < 9 then (if i < 8 then n (20 + 9 * i + c) else 0)
  else if c = 9 then (if i < 6 then n (4 + i) else 0)
  else if c = 10 then (if i < 10 then n (10 + i) else 0)
  else if c = 11 then (if i = 0 then n 0 else if i = 1 then n 3 else if i = 2 then n 2 else if i = 3 then n 1 else 0)
  else 0
/-- nothing beyond the rows' ends -/
def Cz (σ : K2) : Prop := (∀ c i, c < 9 → 8 ≤ i → σ c i = 0) ∧ (∀ i, 6 ≤ i → σ 9 i = 0) ∧ (∀ i, 10 ≤ i → σ 10 i = 0) ∧ (∀ i, 4 ≤ i → σ 11 i = 0) ∧ ∀ c i, 12 ≤ c → σ c i = 0
theorem dec_t {n : Nat → Int32} {c i : Nat} (hc : c < 9) (hi : i < 8) : dec n c i = n (20 + 9 * i + c) := by
  unfold dec; rw [if_pos hc, if_pos hi]
theorem dec_l {n : Nat → Int32} {i : Nat} (hi : i < 6) : dec n 9 i = n (4 + i) := by
  simp [dec, hi]
theorem dec_s {n : Nat → Int32} {i : Nat} (hi : i < 10) : dec n 10 i = n (10 + i) := by
  simp [dec, hi]
theorem dec_0 {n : Nat → Int32} : dec n 11 0 = n 0 := by simp [dec]
theorem dec_1 {n : Nat → Int32} : dec n 11 1 = n 3 := by simp [dec]
theorem dec_2 {n : Nat → Int32} : dec n 11 2 = n 2 := by simp [dec]
theorem dec_3 {n : Nat → Int32} : dec n 11 3 = n 1 := by simp [dec]
theorem dec_Cz (n : Nat → Int32) : Cz (dec n) := by
  refine ⟨fun c i h1 h2 => ?_, fun i h => ?_, fun i h => ?_, fun i h => ?_, fun c i h => ?_⟩
  · unfold dec; rw [if_pos h1, if_neg (by omega)]
  · simp [dec, show ¬ i < 6 by omega]
  · simp [dec, show ¬ i < 10 by omega]
  · simp [dec, show ¬ i = 0 by omega, show ¬ i = 1 by omega, show ¬ i = 2 by omega, show ¬ i = 3 by omega]
  · simp [dec, show ¬ c < 9 by omega, show ¬ c = 9 by omega, show ¬ c = 10 by omega, show ¬ c = 11 by omega]
theorem dec_same {n n' : Nat → Int32} (h : ∀ k, k < 92 → n' k = n k) : dec n' = dec n := by
  funext c i
  unfold dec
  by_cases h1 : c < 9
  · rw [if_pos h1, if_pos h1]
    by_cases h2 : i < 8
    · rw [if_pos h2, if_pos h2, h _ (by omega)]
    · rw [if_neg h2, if_neg h2]
  · rw [if_neg h1, if_neg h1]
    by_cases h2 : c = 9
    · rw [if_pos h2, if_pos h2]
      by_cases h3 : i < 6
      · rw [if_pos h3, if_pos h3, h _ (by omega)]
      · rw [if_neg h3, if_neg h3]
    · rw [if_neg h2, if_neg h2]
      by_cases h3 : c = 10
      · rw [if_pos h3, if_pos h3]
        by_cases h4 : i < 10
        · rw [if_pos h4, if_pos h4, h _ (by omega)]
        · rw [if_neg h4, if_neg h4]
      · rw [if_neg h3, if_neg h3, h 0 (by omega), h 1 (by omega), h 2 (by omega), h 3 (by omega)]
theorem upd_s {f : Nat → Int32} {k : Nat} {x : Int32} : upd f k x k = x := by simp [upd]
theorem upd_n {f : Nat → Int32} {k j : Nat} {x : Int32} (h : j ≠ k) : upd f k x j = f j := by simp [upd, h]
theorem up_s {α : Type} {f : Nat → α} {k : Nat} {x : α} : va_up f k x k = x := va_up_self ..
theorem up_n {α : Type} {f : Nat → α} {k j : Nat} {x : α} (h : j ≠ k) : va_up f k x j = f j := by simp [va_up, h]
theorem dec_w {n : Nat → Int32} {c i : Nat} {v : Int32} (hc : c < 9) (hi : i < 8) : dec (upd n (20 + 9 * i + c) v) = va_up (dec n) c (upd (dec n c) i v) := by
  funext c' i'
  by_cases e : c' = c
  · subst e
    rw [up_s]
    by_cases e2 : i' = i
    · subst e2
      rw [upd_s, dec_t hc hi, upd_s]
    · rw [upd_n e2]
      unfold dec
      rw [if_pos hc, if_pos hc]
      by_cases h2 : i' < 8
      · rw [if_pos h2, if_pos h2, upd_n (by omega)]
      · rw [if_neg h2, if_neg h2]
  · rw [up_n e]
    unfold dec
    by_cases h1 : c' < 9
    · rw [if_pos h1, if_pos h1]
      by_cases h2 : i' < 8
      · rw [if_pos h2, if_pos h2, upd_n (by omega)]
      · rw [if_neg h2, if_neg h2]
    · rw [if_neg h1, if_neg h1]
      by_cases h2 : c' = 9
      · rw [if_pos h2, if_pos h2]
        by_cases h3 : i' < 6
        · rw [if_pos h3, if_pos h3, upd_n (by omega)]
        · rw [if_neg h3, if_neg h3]
      · rw [if_neg h2, if_neg h2]
        by_cases h3 : c' = 10
        · rw [if_pos h3, if_pos h3]
          by_cases h4 : i' < 10
          · rw [if_pos h4, if_pos h4, upd_n (by omega)]
          · rw [if_neg h4, if_neg h4]
        · rw [if_neg h3, if_neg h3, upd_n (by omega), upd_n (by omega), upd_n (by omega), upd_n (by omega)]
theorem dec_wl {n : Nat → Int32} {i : Nat} {v : Int32} (hi : i < 6) : dec (upd n (4 + i) v) = va_up (dec n) 9 (upd (dec n 9) i v) := by
  funext c' i'
  by_cases e : c' = 9
  · subst e
    rw [up_s]
    by_cases e2 : i' = i
    · subst e2
      rw [upd_s, dec_l hi, upd_s]
    · rw [upd_n e2]
      by_cases h2 : i' < 6
      · rw [dec_l h2, dec_l h2, upd_n (by omega)]
      · rw [(dec_Cz _).2.1 i' (by omega), (dec_Cz _).2.1 i' (by omega)]
  · rw [up_n e]
    unfold dec
    by_cases h1 : c' < 9
    · rw [if_pos h1, if_pos h1]
      by_cases h2 : i' < 8
      · rw [if_pos h2, if_pos h2, upd_n (by omega)]
      · rw [if_neg h2, if_neg h2]
    · rw [if_neg h1, if_neg h1, if_neg e, if_neg e]
      by_cases h3 : c' = 10
      · rw [if_pos h3, if_pos h3]
        by_cases h4 : i' < 10
        · rw [if_pos h4, if_pos h4, upd_n (by omega)]
        · rw [if_neg h4, if_neg h4]
      · rw [if_neg h3, if_neg h3, upd_n (by omega), upd_n (by omega), upd_n (by omega), upd_n (by omega)]
theorem dec_ws {n : Nat → Int32} {i : Nat} {v : Int32} (hi : i < 10) : dec (upd n (10 + i) v) = va_up (dec n) 10 (upd (dec n 10) i v) := by
  funext c' i'
  by_cases e : c' = 10
  · subst e
    rw [up_s]
    by_cases e2 : i' = i
    · subst e2
      rw [upd_s, dec_s hi, upd_s]
    · rw [upd_n e2]
      by_cases h2 : i' < 10
      · rw [dec_s h2, dec_s h2, upd_n (by omega)]
      · rw [(dec_Cz _).2.2.1 i' (by omega), (dec_Cz _).2.2.1 i' (by omega)]
  · rw [up_n e]
    unfold dec
    by_cases h1 : c' < 9
    · rw [if_pos h1, if_pos h1]
      by_cases h2 : i' < 8
      · rw [if_pos h2, if_pos h2, upd_n (by omega)]
      · rw [if_neg h2, if_neg h2]
    · rw [if_neg h1, if_neg h1]
      by_cases h2 : c' = 9
      · rw [if_pos h2, if_pos h2]
        by_cases h3 : i' < 6
        · rw [if_pos h3, if_pos h3, upd_n (by omega)]
        · rw [if_neg h3, if_neg h3]
      · rw [if_neg h2, if_neg h2, if_neg e, if_neg e, upd_n (by omega), upd_n (by omega), upd_n (by omega), upd_n (by omega)]
/-- which place of the row a number of the kingdom has -/
def sP (i : Nat) : Nat := if i = 0 then 0 else if i = 1 then 3 else if i = 2 then 2 else 1
theorem dec_wn {n : Nat → Int32} {i : Nat} {v : Int32} (hi : i < 4) : dec (upd n (sP i) v) = va_up (dec n) 11 (upd (dec n 11) i v) := by
  have hs : sP i < 4 := by
    unfold sP
    by_cases a0 : i = 0
    · rw [if_pos a0]; omega
    · by_cases a1 : i = 1
      · rw [if_neg a0, if_pos a1]; omega
      · by_cases a2 : i = 2
        · rw [if_neg a0, if_neg a1, if_pos a2]; omega
        · rw [if_neg a0, if_neg a1, if_neg a2]; omega
  funext c' i'
  by_cases e : c' = 11
  · subst e
    rw [up_s]
    match i, hi with
    | 0, _ => by_cases e0 : i' = 0 <;> by_cases e1 : i' = 1 <;> by_cases e2 : i' = 2 <;> by_cases e3 : i' = 3 <;> simp_all [dec, upd, sP]
    | 1, _ => by_cases e0 : i' = 0 <;> by_cases e1 : i' = 1 <;> by_cases e2 : i' = 2 <;> by_cases e3 : i' = 3 <;> simp_all [dec, upd, sP]
    | 2, _ => by_cases e0 : i' = 0 <;> by_cases e1 : i' = 1 <;> by_cases e2 : i' = 2 <;> by_cases e3 : i' = 3 <;> simp_all [dec, upd, sP]
    | 3, _ => by_cases e0 : i' = 0 <;> by_cases e1 : i' = 1 <;> by_cases e2 : i' = 2 <;> by_cases e3 : i' = 3 <;> simp_all [dec, upd, sP]
  · rw [up_n e]
    unfold dec
    by_cases h1 : c' < 9
    · rw [if_pos h1, if_pos h1]
      by_cases h2 : i' < 8
      · rw [if_pos h2, if_pos h2, upd_n (by omega)]
      · rw [if_neg h2, if_neg h2]
    · rw [if_neg h1, if_neg h1]
      by_cases h2 : c' = 9
      · rw [if_pos h2, if_pos h2]
        by_cases h3 : i' < 6
        · rw [if_pos h3, if_pos h3, upd_n (by omega)]
        · rw [if_neg h3, if_neg h3]
      · rw [if_neg h2, if_neg h2]
        by_cases h3 : c' = 10
        · rw [if_pos h3, if_pos h3]
          by_cases h4 : i' < 10
          · rw [if_pos h4, if_pos h4, upd_n (by omega)]
          · rw [if_neg h4, if_neg h4]
        · rw [if_neg h3, if_neg h3, if_neg e, if_neg e]
theorem dec_w0 {n : Nat → Int32} {v : Int32} : dec (upd n 0 v) = va_up (dec n) 11 (upd (dec n 11) 0 v) := dec_wn (i := 0) (by omega)
theorem dec_w3 {n : Nat → Int32} {v : Int32} : dec (upd n 3 v) = va_up (dec n) 11 (upd (dec n 11) 1 v) := dec_wn (i := 1) (by omega)
theorem dec_w2 {n : Nat → Int32} {v : Int32} : dec (upd n 2 v) = va_up (dec n) 11 (upd (dec n 11) 2 v) := dec_wn (i := 2) (by omega)
theorem dec_w1 {n : Nat → Int32} {v : Int32} : dec (upd n 1 v) = va_up (dec n) 11 (upd (dec n 11) 3 v) := dec_wn (i := 3) (by omega)
/-! what a kingdom keeps to -/
def nb (σ : K2) : Nat := (σ 11 3).toNatClampNeg
def nd (σ : K2) : Nat := (σ 11 0).toNatClampNeg
def BI (σ : K2) (i : Nat) : Prop := (∃ k, k ≤ 6 ∧ σ 0 i = nI k) ∧ (∃ k, k ≤ 5 ∧ σ 1 i = nI k) ∧ (σ 2 i = -1 ∨ ∃ k, k < i ∧ σ 2 i = nI k) ∧ (∃ k, k ≤ 9999 ∧ σ 3 i = nI k) ∧ (σ 4 i = 0 ∨ σ 4 i = 1) ∧ (σ 5 i = 0 ∨ σ 5 i = 1) ∧ (σ 6 i = 0 ∨ σ 6 i = 1) ∧ (∃ k, k ≤ 9999 ∧ σ 7 i = nI k) ∧ ∃ k, k ≤ 9999 ∧ σ 8 i = nI k
def KI (σ : K2) : Prop := (σ 11 3 = nI (nb σ) ∧ nb σ ≤ 8) ∧ (σ 11 0 = nI (nd σ) ∧ nd σ ≤ 99999) ∧ (∃ t, t ≤ 99999 ∧ σ 11 1 = nI t) ∧ (∀ i, i < 6 → ∃ v, v ≤ 99 ∧ σ 9 i = nI v) ∧ (∀ i, i < 10 → σ 10 i = -1 ∨ ∃ k, k < nb σ ∧ σ 10 i = nI k) ∧ ∀ i, i < nb σ → BI σ i
theorem g6 {i : Nat} (h : i < 6) : ¬ (6 : Int32) ≤ nI i := nI_ge (b := 6) h (by omega)
theorem e6 : (6 : Int32) ≤ nI 6 := nI_le (b := 6) (Nat.le_refl _) (by omega)
theorem g7 {i : Nat} (h : i < 7) : ¬ (7 : Int32) ≤ nI i := nI_ge (b := 7) h (by omega)
theorem e7 : (7 : Int32) ≤ nI 7 := nI_le (b := 7) (Nat.le_refl _) (by omega)
theorem g8 {i : Nat} (h : i < 8) : ¬ (8 : Int32) ≤ nI i := nI_ge (b := 8) h (by omega)
theorem e8 : (8 : Int32) ≤ nI 8 := nI_le (b := 8) (Nat.le_refl _) (by omega)
theorem g10 {i : Nat} (h : i < 10) : ¬ (10 : Int32) ≤ nI i := nI_ge (b := 10) h (by omega)
theorem e10 : (10 : Int32) ≤ nI 10 := nI_le (b := 10) (Nat.le_refl _) (by omega)
theorem g9 {i : Nat} (h : i < 9) : ¬ (9 : Int32) ≤ nI i := nI_ge (b := 9) h (by omega)
theorem e9 : (9 : Int32) ≤ nI 9 := nI_le (b := 9) (Nat.le_refl _) (by omega)
theorem g4 {i : Nat} (h : i < 4) : ¬ (4 : Int32) ≤ nI i := nI_ge (b := 4) h (by omega)
theorem e4 : (4 : Int32) ≤ nI 4 := nI_le (b := 4) (Nat.le_refl _) (by omega)
theorem g5 {i : Nat} (h : i < 5) : ¬ (5 : Int32) ≤ nI i := nI_ge (b := 5) h (by omega)
theorem e5 : (5 : Int32) ≤ nI 5 := nI_le (b := 5) (Nat.le_refl _) (by omega)
theorem g2 {i : Nat} (h : i < 2) : ¬ (2 : Int32) ≤ nI i := nI_ge (b := 2) h (by omega)
theorem e2 : (2 : Int32) ≤ nI 2 := nI_le (b := 2) (Nat.le_refl _) (by omega)
theorem g92 {i : Nat} (h : i < 92) : ¬ (92 : Int32) ≤ nI i := nI_ge (b := 92) h (by omega)
theorem e92 : (92 : Int32) ≤ nI 92 := nI_le (b := 92) (Nat.le_refl _) (by omega)
theorem g200 {i : Nat} (h : i < 200) : ¬ (200 : Int32) ≤ nI i := nI_ge (b := 200) h (by omega)
theorem e200 : (200 : Int32) ≤ nI 200 := nI_le (b := 200) (Nat.le_refl _) (by omega)
