/-! ===== pure: what the kingdom's questions answer ===== -/
theorem b_1 (i : Nat) : bt 1 i = decide (i = 0) := by
  rcases Nat.lt_or_ge i 32 with h | h
  · exact (by decide +kernel : ∀ i, i < 32 → bt 1 i = decide (i = 0)) i h
  · rw [b_big h, decide_eq_false (by omega)]
theorem and1 (x : Int32) : x &&& 1 = if bt x 0 then 1 else 0 := by
  apply b_ext
  intro i hi
  rw [b_and, b_1]
  by_cases h : i = 0
  · subst h
    cases bt x 0 <;> simp [b_1, b_0]
  · cases bt x 0 <;> simp [h, b_1, b_0]
theorem bitv {s : Int32} {i : Nat} (hi : i < 32) : (s >>> (nI i &&& 31)) &&& 1 = if bt s i then 1 else 0 := by
  rw [and1, b_sshr i hi s (by omega : 0 < 32), Nat.add_zero, if_pos hi]
theorem bitq {s : Int32} {i : Nat} (hi : i < 32) : ((s >>> (nI i &&& 31)) &&& 1 = 1) ↔ bt s i = true := by
  rw [bitv hi]
  cases bt s i <;> simp
def setOf (p : Nat → Bool) : Nat → Int32
  | 0 => 0
  | n + 1 => if p n then setOf p n ||| (1 <<< (nI n &&& 31)) else setOf p n
theorem setOf_t {p : Nat → Bool} {n : Nat} (h : p n = true) : setOf p (n + 1) = setOf p n ||| (1 <<< (nI n &&& 31)) := by simp [setOf, h]
theorem setOf_f {p : Nat → Bool} {n : Nat} (h : p n = false) : setOf p (n + 1) = setOf p n := by simp [setOf, h]
theorem setOf_congr {p q : Nat → Bool} : ∀ {n : Nat}, (∀ i, i < n → p i = q i) → setOf p n = setOf q n
  | 0, _ => rfl
  | n + 1, h => by rw [setOf, setOf, h n (by omega), setOf_congr (fun i hi => h i (by omega))]
theorem bt_setOf {p : Nat → Bool} : ∀ {n : Nat}, n ≤ 31 → ∀ {i : Nat}, i < 32 → bt (setOf p n) i = (decide (i < n) && p i)
  | 0, _, i, hi => by simp [setOf, b_0]
  | n + 1, hn, i, hi => by
    have ih := bt_setOf (p := p) (n := n) (by omega) hi
    cases hp : p n
    · rw [setOf_f hp, ih]
      by_cases e : i = n
      · subst e; simp [hp]
      · have : (i < n + 1) ↔ i < n := by omega
        simp [this]
    · rw [setOf_t hp, b_or, ih, b_shl n (by omega) 1 hi, b_1]
      by_cases e : i = n
      · subst e; simp [hp]
      · have : (i < n + 1) ↔ i < n := by omega
        have h2 : (decide (n ≤ i) && decide (i - n = 0)) = false := by
          by_cases h3 : n ≤ i <;> simp [h3]
          omega
        rw [h2]; simp [this]
theorem bt_set {p : Nat → Bool} {n i : Nat} (hn : n ≤ 31) (hi : i < n) : bt (setOf p n) i = p i := by
  rw [bt_setOf hn (by omega)]; simp [hi]
theorem or0 (x : Int32) : x ||| 0 = x := by
  apply b_ext; intro i _; rw [b_or, b_0, Bool.or_false]
theorem add0 (x : Int32) : x + 0 = x := Int32.add_zero x
def sumI (g : Nat → Int32) : Nat → Int32
  | 0 => 0
  | n + 1 => sumI g n + g n
theorem sumI_congr {g h : Nat → Int32} : ∀ {n : Nat}, (∀ i, i < n → g i = h i) → sumI g n = sumI h n
  | 0, _ => rfl
  | n + 1, e => by rw [sumI, sumI, e n (by omega), sumI_congr (fun i hi => e i (by omega))]
def cnt (p : Nat → Bool) : Nat → Nat
  | 0 => 0
  | n + 1 => cnt p n + if p n then 1 else 0
theorem cnt_le {p : Nat → Bool} : ∀ n, cnt p n ≤ n
  | 0 => Nat.le_refl 0
  | n + 1 => by have := cnt_le (p := p) n; unfold cnt; split <;> omega
theorem cnt_congr {p q : Nat → Bool} : ∀ {n : Nat}, (∀ i, i < n → p i = q i) → cnt p n = cnt q n
  | 0, _ => rfl
  | n + 1, h => by rw [cnt, cnt, h n (by omega), cnt_congr (fun i hi => h i (by omega))]
def dead (σ : K2) (i : Nat) : Bool := decide (tbLife (σ 0 i).toNatClampNeg < σ 3 i)
def lineF (σ : K2) : Nat → Nat → Bool
  | 0, _ => false
  | n + 1, i => decide (σ 4 i = 1) || (decide (0 ≤ σ 2 i) && lineF σ n (σ 2 i).toNatClampNeg)
def line (σ : K2) (i : Nat) : Bool := lineF σ (i + 1) i
def draws (σ : K2) (i : Nat) : Bool := decide (σ 6 i = 0) && (decide (σ 5 i = 1) || (line σ i && !dead σ i))
def cockS (σ : K2) (i : Nat) : Int32 := nI (10 + cnt (fun k => decide (σ 1 k = σ 1 i)) (nb σ))
def chicksS (σ : K2) (i : Nat) : Int32 := nI (cnt (fun k => decide (σ 2 k = nI i) && !dead σ k) (nb σ))
def rateS (σ : K2) (i : Nat) : Int32 :=
  if σ 0 i = 1 then 8 else if σ 0 i = 2 then cockS σ i else if σ 0 i = 3 then 2 * cockS σ i else if σ 0 i = 4 then imax 5 (2 * cockS σ i - σ 11 1 / 10) else if σ 0 i = 5 then 3 else if σ 0 i = 6 then 8 + 4 * chicksS σ i else 10
def eatsS (σ : K2) (i : Nat) : Int32 := if σ 0 i = 3 then 1 else if σ 0 i = 4 then 3 else if σ 0 i = 5 then irem (σ 11 0) 2 else 0
theorem lineF_congr {σ σ' : K2} (h2 : σ' 2 = σ 2) (h4 : σ' 4 = σ 4) : ∀ n i, lineF σ' n i = lineF σ n i
  | 0, _ => rfl
  | n + 1, i => by rw [lineF, lineF, h2, h4, lineF_congr h2 h4 n]
theorem line_congr {σ σ' : K2} (h2 : σ' 2 = σ 2) (h4 : σ' 4 = σ 4) (i : Nat) : line σ' i = line σ i := lineF_congr h2 h4 _ i
theorem dead_congr {σ σ' : K2} (h0 : σ' 0 = σ 0) (h3 : σ' 3 = σ 3) (i : Nat) : dead σ' i = dead σ i := by unfold dead; rw [h0, h3]
theorem draws_congr {σ σ' : K2} (h0 : σ' 0 = σ 0) (h2 : σ' 2 = σ 2) (h3 : σ' 3 = σ 3) (h4 : σ' 4 = σ 4) (h5 : σ' 5 = σ 5) (h6 : σ' 6 = σ 6) (i : Nat) : draws σ' i = draws σ i := by
  unfold draws; rw [h5, h6, line_congr h2 h4, dead_congr h0 h3]
theorem lineF_fuel {σ : K2} {b : Nat} (hb : b ≤ 8) (hB : ∀ j, j < b → BI σ j) : ∀ n k, k < n → k < b → ∀ m, k < m → lineF σ m k = lineF σ (k + 1) k := by
  intro n
  induction n with
  | zero => intro k h; omega
  | succ n ih =>
    intro k h hk m hm
    obtain ⟨m, rfl⟩ : ∃ z, m = z + 1 := ⟨m - 1, by omega⟩
    rw [lineF, lineF]
    rcases (hB k hk).2.2.1 with h2 | ⟨j, hj, h2⟩
    · rw [h2]; rfl
    · rw [h2, nI_clamp (by omega), ih j (by omega) (by omega) m (by omega), ih j (by omega) (by omega) k (by omega)]
theorem line_car {σ : K2} {i : Nat} (h : σ 4 i = 1) : line σ i = true := by simp [line, lineF, h]
theorem line_none {σ : K2} {i : Nat} (h : σ 4 i = 0) (h2 : σ 2 i = -1) : line σ i = false := by
  unfold line lineF; rw [h, h2]; rfl
theorem line_par {σ : K2} {b i k : Nat} (hb : b ≤ 8) (hB : ∀ j, j < b → BI σ j) (hi : i < b) (h : σ 4 i = 0) (hk : k < i) (h2 : σ 2 i = nI k) : line σ i = line σ k := by
  unfold line
  rw [lineF, h, h2, nI_clamp (by omega), lineF_fuel hb hB (k + 1) k (by omega) (by omega) i (by omega)]
  have h1 : decide ((0 : Int32) = 1) = false := by decide
  have h3 : decide ((0 : Int32) ≤ nI k) = true := decide_eq_true (nI_pos' (by omega))
  rw [h1, h3]; simp
section PX
variable {σ : K2}
theorem X0_has (h : KI σ) (x : Int32) : f_X0_has σ x = some (if 0 ≤ x.toInt ∧ x.toInt < nb σ then 1 else 0) := by
  obtain ⟨⟨hb, hb8⟩, -⟩ := h
  unfold f_X0_has
  rw [hb]
  by_cases h1 : x < 0
  · rw [if_pos h1, if_neg]
    rw [i32_lt] at h1
    rintro ⟨h, -⟩
    have : (0 : Int32).toInt = 0 := rfl
    omega
  · rw [if_neg h1]
    rw [i32_lt] at h1
    have e0 : (0 : Int32).toInt = 0 := rfl
    by_cases h2 : nI (nb σ) ≤ x
    · rw [if_pos h2, if_neg]
      rw [i32_le, nI_toInt (by omega)] at h2
      rintro ⟨-, h⟩
      omega
    · rw [if_neg h2, if_pos]
      rw [i32_le, nI_toInt (by omega)] at h2
      omega
theorem X0_isFull (h : KI σ) : f_X0_isFull σ = some (if nb σ < 8 then 0 else 1) := by
  obtain ⟨⟨hb, hb8⟩, -⟩ := h
  unfold f_X0_isFull
  rw [hb]
  by_cases h1 : nb σ < 8
  · rw [if_pos h1]; exact if_pos (nI_lt (b := 8) h1 (by omega))
  · rw [if_neg h1]; exact if_neg (nI_nlt (a := nb σ) (b := 8) (by omega) (by omega))
theorem kind_ix {i : Nat} (hB : BI σ i) : ix (σ 0 i) 7 := by
  obtain ⟨⟨k, hk, e⟩, -⟩ := hB
  rw [e]; exact ix_nI (by omega) (by omega)
theorem X0_isDead {i : Nat} (hi : i < 8) (hB : BI σ i) : f_X0_isDead σ (nI i) = some (if dead σ i then 1 else 0) := by
  unfold f_X0_isDead dead
  have ec : (nI i).toNatClampNeg = i := nI_clamp (by omega)
  simp only [ec]
  rw [if_pos (ix_nI hi (by omega)), if_pos (kind_ix hB)]
  by_cases h : σ 3 i ≤ tbLife (σ 0 i).toNatClampNeg
  · rw [if_pos h, if_neg]
    rw [decide_eq_true_eq, i32_lt]
    rw [i32_le] at h
    omega
  · rw [if_neg h, if_pos]
    rw [decide_eq_true_eq, i32_lt]
    rw [i32_le] at h
    omega
theorem X0_lineSet (h : KI σ) : f_X0_lineSet σ = some (setOf (line σ) (nb σ)) := by
  obtain ⟨⟨hb, hb8⟩, -, -, -, -, hB⟩ := h
  refine for_seq (fun n a i => f_X0_lineSet_L4 σ n a i) (setOf (line σ)) (nb σ) _ ?_ ?_ (nb σ) 0 1000 (by omega) (by omega)
  · intro n i hi
    show f_X0_lineSet_L4 σ (n + 1) _ _ = f_X0_lineSet_L4 σ n _ _
    rw [f_X0_lineSet_L4, hb, if_neg (nI_ge hi (by omega)), if_pos (ix_nI (by omega) (by omega)), nI_clamp (by omega), nI_1]
    rcases (hB i hi).2.2.2.2.1 with h4 | h4
    · rw [if_neg (by rw [h4]; decide)]
      rcases (hB i hi).2.2.1 with h2 | ⟨k, hk, h2⟩
      · rw [if_pos (by rw [h2]; decide), setOf_f (line_none h4 h2)]
      · rw [h2, if_neg (nI_pos (by omega))]
        have hl := line_par hb8 hB hi h4 hk h2
        have hq := bitq (s := setOf (line σ) i) (i := k) (by omega)
        rw [bt_set (by omega) hk, ← hl] at hq
        cases hc : line σ i
        · rw [if_neg (by rw [hq, hc]; decide), setOf_f hc]
        · rw [if_pos (by rw [hq, hc]), setOf_t hc]
    · rw [if_pos h4, setOf_t (line_car h4)]
  · intro n
    show f_X0_lineSet_L4 σ (n + 1) _ _ = _
    rw [f_X0_lineSet_L4, hb, if_pos (nI_le (Nat.le_refl _) (by omega))]
theorem X0_drawSet (h : KI σ) {p : Nat → Bool} (hp : ∀ i, i < nb σ → p i = line σ i) : f_X0_drawSet σ (setOf p (nb σ)) = some (setOf (draws σ) (nb σ)) := by
  obtain ⟨⟨hb, hb8⟩, -, -, -, -, hB⟩ := h
  refine for_seq (fun n a i => f_X0_drawSet_L4 σ n (setOf p (nb σ)) a i) (setOf (draws σ)) (nb σ) _ ?_ ?_ (nb σ) 0 1000 (by omega) (by omega)
  · intro n i hi
    show f_X0_drawSet_L4 σ (n + 1) _ _ _ = f_X0_drawSet_L4 σ n _ _ _
    rw [f_X0_drawSet_L4, hb, if_neg (nI_ge hi (by omega)), if_pos (ix_nI (by omega) (by omega)), nI_clamp (by omega), nI_1, X0_isDead (by omega) (hB i hi), bd_some]
    have hq := bitq (s := setOf p (nb σ)) (i := i) (by omega)
    rw [bt_set (by omega) hi, hp i hi] at hq
    have hd : draws σ i = (decide (σ 6 i = 0) && (decide (σ 5 i = 1) || (line σ i && !dead σ i))) := rfl
    by_cases h5 : σ 5 i = 1
    · rw [if_pos h5]
      by_cases h6 : σ 6 i = 0
      · rw [if_pos h6, setOf_t (by rw [hd]; simp [h5, h6])]
      · rw [if_neg h6, setOf_f (by rw [hd]; simp [h6])]
    · rw [if_neg h5]
      cases hl : line σ i
      · rw [if_neg (by rw [hq, hl]; decide), setOf_f (by rw [hd]; simp [h5, hl])]
      · rw [if_pos (by rw [hq, hl])]
        cases hde : dead σ i
        · simp only [if_true, Bool.false_eq_true, if_false]
          by_cases h6 : σ 6 i = 0
          · rw [if_pos h6, setOf_t (by rw [hd]; simp [h6, hl, hde])]
          · rw [if_neg h6, setOf_f (by rw [hd]; simp [h6])]
        · rw [if_pos rfl, if_neg (by decide), setOf_f (by rw [hd]; simp [h5, hde])]
  · intro n
    show f_X0_drawSet_L4 σ (n + 1) _ _ _ = _
    rw [f_X0_drawSet_L4, hb, if_pos (nI_le (Nat.le_refl _) (by omega))]
theorem X0_cockRate (h : KI σ) {i : Nat} (hi : i < nb σ) : f_X0_cockRate σ (nI i) = some (cockS σ i) := by
  obtain ⟨⟨hb, hb8⟩, -, -, -, -, hB⟩ := h
  refine for_seq (fun n a k => f_X0_cockRate_L5 σ n (nI i) a k) (fun k => nI (10 + cnt (fun k => decide (σ 1 k = σ 1 i)) k)) (nb σ) _ ?_ ?_ (nb σ) 0 1000 (by omega) (by omega)
  · intro n k hk
    show f_X0_cockRate_L5 σ (n + 1) _ _ _ = f_X0_cockRate_L5 σ n _ _ _
    rw [f_X0_cockRate_L5, hb, if_neg (nI_ge hk (by omega)), if_pos (ix_nI (by omega) (by omega)), if_pos (ix_nI (by omega) (by omega)), nI_clamp (by omega), nI_clamp (by omega), nI_1, nI_1, cnt]
    by_cases e : σ 1 k = σ 1 i
    · rw [if_pos e]; simp only [e, decide_true, if_true]; rfl
    · rw [if_neg e]; simp only [e, decide_false, Bool.false_eq_true, if_false]; rfl
  · intro n
    show f_X0_cockRate_L5 σ (n + 1) _ _ _ = _
    rw [f_X0_cockRate_L5, hb, if_pos (nI_le (Nat.le_refl _) (by omega))]
    rfl
end PX
