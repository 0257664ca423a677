theorem n200 {k : Nat} (h : k ≤ 200) : ¬ (200 : Int32) < nI k := nI_nlt (a := 200) (b := k) (by omega) (by omega)
theorem p200 {k : Nat} (h : 200 ≤ k) (hk : k < 2 ^ 31) : (200 : Int32) ≤ nI k := nI_le (a := 200) (b := k) h hk
theorem l200 {k : Nat} (h : 200 < k) (hk : k < 2 ^ 31) : (200 : Int32) < nI k := nI_lt (a := 200) (b := k) h hk
/-! ===== pure: what will be ===== -/
/-- the row laid aside -/
def asideS (μ : K2) : K2 := va_up μ 2 (cpy92 (μ 0) (μ 2))
theorem aside_0 (μ : K2) : asideS μ 0 = μ 0 := rfl
/-- put back -/
def backS (a : K2) : K2 := va_up a 0 (cpy92 (a 2) (a 0))
theorem back_R {X : K3} {μ : K2} (h : R X μ) {σ a : K2} (hm : Mst (asideS μ) σ a) : R X (backS a) := by
  have h2 : a 2 = cpy92 (μ 0) (μ 2) := hm.other (by decide)
  refine h.mu ?_ (hm.other (c := 1) (by decide)) (hm.other (c := 3) (by decide)) (hm.other (c := 5) (by decide)) (hm.other (c := 7) (by decide)) (hm.other (c := 8) (by decide)) (hm.other (c := 9) (by decide)) ?_ ?_
  · show dec (cpy92 (a 2) (a 0)) = _
    rw [dec_cpy, h2, dec_cpy]
  · exact congrFun (hm.other (c := 11) (by decide)) 0
  · exact congrFun (hm.other (c := 11) (by decide)) 1
theorem M_orNone_ok (μ : K2) {k : Nat} (hk : k < 2 ^ 31) : f_X4_orNone μ (nI k) = some (nI k, μ) := by
  unfold f_X4_orNone
  rw [if_pos (nI_pos' hk)]
theorem M_orNone_no (μ : K2) : f_X4_orNone μ (-1) = Option.bind (f_X4_finding μ (-1000004)) (fun q => some (q.1, q.2)) := by
  unfold f_X4_orNone
  rw [if_neg (by decide)]
theorem bd_pair {β : Type} {o : Option (Int32 × β)} : Option.bind o (fun q => some (q.1, q.2)) = o := by
  cases o <;> rfl
theorem M_end_ok {μ : K2} {k : Nat} (hk : k < 2 ^ 31) : Option.bind (f_X4_putBack μ (nI k)) (fun q => Option.bind (f_X4_orNone q.2 q.1) (fun r => some (r.1, r.2))) = some (nI k, backS μ) := by
  rw [M_putBack, bd_some]
  show Option.bind (f_X4_orNone (backS μ) (nI k)) _ = _
  rw [M_orNone_ok _ hk, bd_some]
theorem M_end_no {μ : K2} : Option.bind (f_X4_putBack μ (-1)) (fun q => Option.bind (f_X4_orNone q.2 q.1) (fun r => some (r.1, r.2))) = Option.bind (f_X4_finding (backS μ) (-1000004)) (fun q => some (q.1, q.2)) := by
  rw [M_putBack, bd_some]
  show Option.bind (f_X4_orNone (backS μ) (-1)) _ = _
  rw [M_orNone_no, bd_pair]
section OPS
variable {X : K3} {μ : K2}
theorem R.cz0 (h : R X μ) : Cz (X 0) := by rw [← h.d0]; exact dec_Cz _
theorem R.trial (h : R X μ) : f_X0_become2 (X 2) (X 0) = some (X 0) := X0_become2 h.2.1.2 h.cz0
theorem R.days (h : R X μ) (n : Nat) : Cz (daysS n (X 0)) := Cz_days h.cz0 h.ki.1.2 n
theorem R.asd (h : R X μ) : Mst (asideS μ) (X 0) (asideS μ) := by
  have := Mst.rf (asideS μ)
  rw [aside_0, h.d0] at this
  exact this
theorem M_behind (h : KI (dec (μ 0))) {k n : Nat} (hk : k < 92) (hn : n ≤ 200) : ∃ a, f_X4_behind μ (nI k) (nI n) = some (a 0 k, backS a) ∧ Mst (asideS μ) (daysS n (dec (μ 0))) a := by
  unfold f_X4_behind
  rw [M_copyRow, bd_some]
  obtain ⟨a, f1, f2⟩ := M_daysGo (μ := asideS μ) h hn
  have f1' : f_X4_daysGo (va_up μ 2 (cpy92 (μ 0) (μ 2))) (nI n) = some a := f1
  rw [f1', bd_some, if_pos (ix_nI hk (by omega)), nI_clamp (by omega), M_putBack, bd_some]
  exact ⟨a, rfl, f2⟩
theorem s_budget (h : R X μ) (a : Int32) : Sim (f_X3_budget X a) (f_X4_budget μ a) := by
  unfold f_X3_budget f_X4_budget
  simp only [within_X3, within_X4, bd_some]
  by_cases c : 0 ≤ a ∧ a ≤ 100
  · simp only [if_pos c, ite10]
    obtain ⟨n, hn, rfl⟩ := rng (n := 100) c rfl (by omega)
    obtain ⟨m, f1, f2⟩ := M_behind h.kim (k := 3) (n := n) (by omega) (by omega)
    have f1' : f_X4_behind μ 3 (nI n) = some (m 0 3, backS m) := f1
    rw [h.trial, bd_some, X0_passDays h.ki hn, bd_some, f1', bd_some]
    rw [h.d0] at f2
    refine Sim.of' ?_ ((back_R h f2).X2 (h.days n))
    rw [← f2.row, dec_1]
  · simp only [if_neg c, ite00]; exact find0 h
theorem ahead_core (h : R X μ) (a n : Int32) {w : Nat} (hw : w ≤ 13) :
    Sim (Option.bind (f_X0_has (X 0) a) (fun q => if q = 0 then (Option.bind (f_X3_finding X 0) (fun q => some (q.1, q.2))) else (Option.bind (f_X3_within n 0 100) (fun q => if q = 0 then (Option.bind (f_X3_finding X 0) (fun q => some (q.1, q.2))) else (Option.bind (f_X0_become2 (X 2) (X 0)) (fun q10 => Option.bind (f_X0_passDays q10 n) (fun q12 => Option.bind (f_X0_tell q12 a (nI w)) (fun q14 => some (q14, va_up X 2 q12)))))))))
      (Option.bind (f_X4_isBird μ a) (fun q => if q = 0 then (Option.bind (f_X4_finding μ (-1000001)) (fun q => some (q.1, q.2))) else (Option.bind (f_X4_within n 0 100) (fun q => if q = 0 then (Option.bind (f_X4_finding μ (-1000001)) (fun q => some (q.1, q.2))) else (Option.bind (f_X4_copyRow (μ 0) (μ 2)) (fun q31 => Option.bind (f_X4_daysGo (va_up μ 2 q31) n) (fun q33 => Option.bind (f_X4_told q33 a (nI w)) (fun q35 => Option.bind (f_X4_putBack q33 q35) (fun q37 => some (q37.1, q37.2)))))))))) := by
  have hb8 := h.ki.1.2
  simp only [within_X3, within_X4, bd_some, X0_has h.ki, M_isBird h.kim]
  rw [h.d0]
  by_cases c : 0 ≤ a.toInt ∧ a.toInt < nb (X 0)
  · simp only [if_pos c, ite10]
    by_cases d : 0 ≤ n ∧ n ≤ 100
    · simp only [if_pos d, ite10]
      obtain ⟨i, hi, rfl⟩ := has_nI hb8 c
      obtain ⟨k, hk, rfl⟩ := rng (n := 100) d rfl (by omega)
      obtain ⟨m, f1, f2⟩ := M_daysGo (μ := asideS μ) h.kim (n := k) (by omega)
      have f1' : f_X4_daysGo (va_up μ 2 (cpy92 (μ 0) (μ 2))) (nI k) = some m := f1
      have f2' : Mst (asideS μ) (daysS k (X 0)) m := by rw [aside_0, h.d0] at f2; exact f2
      have hKm : KI (dec (m 0)) := by rw [f2'.row]; exact KI_days h.ki k
      rw [h.trial, bd_some, X0_passDays h.ki hk, bd_some, X0_tell (KI_days h.ki k) (by rw [nb_days]; exact hi) hw, bd_some, M_copyRow, bd_some, f1', bd_some, M_told hKm (by rw [f2'.row, nb_days]; exact hi) hw, bd_some, M_putBack, bd_some, f2'.row]
      exact Sim.of ((back_R h f2').X2 (h.days k))
    · simp only [if_neg d, ite00]; exact find0 h
  · simp only [if_neg c, ite00]; exact find0 h
theorem s_ahead (h : R X μ) (a b n : Int32) : Sim (f_X3_ahead X a b n) (f_X4_ahead μ a b n) := by
  unfold f_X3_ahead f_X4_ahead
  rw [within_X4, bd_some]
  by_cases c7 : b = 7
  · subst c7
    rw [if_pos rfl, if_pos (show (7 : Int32) ≤ 7 ∧ (7 : Int32) ≤ 8 by decide), ite10]
    exact ahead_core h a n (w := 7) (by omega)
  · rw [if_neg c7]
    by_cases c8 : b = 8
    · subst c8
      rw [if_pos rfl, if_pos (show (7 : Int32) ≤ 8 ∧ (8 : Int32) ≤ 8 by decide), ite10]
      exact ahead_core h a n (w := 8) (by omega)
    · rw [if_neg c8, if_neg (show ¬ (7 ≤ b ∧ b ≤ 8) by
        rintro ⟨z1, z2⟩
        rw [i32_le] at z1 z2
        rw [i32_eq] at c7 c8
        have e7 : (7 : Int32).toInt = 7 := rfl
        have e8 : (8 : Int32).toInt = 8 := rfl
        omega), ite00]
      by_cases c10 : b = 10
      · subst c10
        rw [if_pos rfl, if_pos rfl]
        exact ahead_core h a n (w := 10) (by omega)
      · rw [if_neg c10, if_neg c10]
        by_cases c13 : b = 13
        · subst c13
          rw [if_pos rfl, if_pos rfl]
          exact ahead_core h a n (w := 13) (by omega)
        · rw [if_neg c13, if_neg c13]
          simp only [bd_some, X0_has h.ki, M_isBird h.kim]
          rw [h.d0]
          by_cases c : 0 ≤ a.toInt ∧ a.toInt < nb (X 0)
          · simp only [if_pos c, ite10]; exact find0 h
          · simp only [if_neg c, ite00]; exact find0 h
end OPS
theorem setOf_0 {p : Nat → Bool} {n : Nat} (hn : n ≤ 31) : setOf p n = 0 ↔ ∀ i, i < n → p i = false := by
  constructor
  · intro e i hi
    have := bt_set (p := p) hn hi
    rw [e, b_0] at this
    exact this.symm
  · intro h
    rw [setOf_congr (q := fun _ => false) h]
    clear h
    clear hn
    induction n with
    | zero => rfl
    | succ n ih => rw [setOf_f rfl]; exact ih
theorem sumI_nat {g : Nat → Int32} : ∀ {n : Nat}, n ≤ 8 → (∀ i, i < n → ∃ k, k ≤ 9999 ∧ g i = nI k) → ∃ s, s ≤ n * 9999 ∧ sumI g n = nI s ∧ (s = 0 ↔ ∀ i, i < n → g i = 0)
  | 0, _, _ => ⟨0, by omega, rfl, ⟨fun _ i hi => absurd hi (by omega), fun _ => rfl⟩⟩
  | n + 1, hn, h => by
    obtain ⟨s, h1, h2, h3⟩ := sumI_nat (n := n) (by omega) (fun i hi => h i (by omega))
    obtain ⟨k, hk, e⟩ := h n (by omega)
    refine ⟨s + k, by rw [Nat.succ_mul]; omega, by rw [sumI, h2, e, nI_add], ?_⟩
    have e0 : g n = 0 ↔ k = 0 := by rw [e]; exact nI_eq (b := 0) (by omega) (by omega)
    constructor
    · intro z i hi
      by_cases c : i = n
      · subst c; exact e0.mpr (by omega)
      · exact h3.mp (by omega) i (by omega)
    · intro z
      have := h3.mpr (fun i hi => z i (by omega))
      have := e0.mp (z n (by omega))
      omega
theorem owe_iff {σ : K2} (h : KI σ) : (setOf (owes σ) (nb σ) = 0) ↔ sumI (σ 7) (nb σ) = 0 := by
  have hb8 := h.1.2
  have hB := h.2.2.2.2.2
  obtain ⟨s, h1, h2, h3⟩ := sumI_nat (g := σ 7) (n := nb σ) hb8 (fun i hi => (hB i hi).2.2.2.2.2.2.2.1)
  rw [setOf_0 (by omega), h2]
  have e0 : nI s = 0 ↔ s = 0 := nI_eq (b := 0) (by omega) (by omega)
  rw [e0, h3]
  constructor
  · intro z i hi
    have := z i hi
    unfold owes at this
    obtain ⟨k, hk, e⟩ := (hB i hi).2.2.2.2.2.2.2.1
    rw [e, decide_eq_false_iff_not] at this
    have k0 : k = 0 := by
      by_cases c : k = 0
      · exact c
      · exact absurd (nI_lt (a := 0) (by omega) (by omega)) this
    rw [e, k0]; rfl
  · intro z i hi
    unfold owes
    rw [z i hi]; decide
section OPS
variable {X : K3} {μ : K2}
/-- a day more on both sides -/
theorem step_both (h : R X μ) {k : Nat} {a : K2} (hm : Mst (asideS μ) (daysS k (X 0)) a) : f_X0_passDay (daysS k (X 0)) (setOf (line (X 0)) (nb (X 0))) = some (daysS (k + 1) (X 0)) ∧ ∃ b, f_X4_day a = some b ∧ Mst (asideS μ) (daysS (k + 1) (X 0)) b := by
  constructor
  · have := X0_passDay (KI_days h.ki k) (p := line (X 0)) (fun j _ => (line_days (X 0) k j).symm)
    rw [nb_days] at this
    rw [this, daysS_succ]
  · have hK : KI (dec (a 0)) := by rw [hm.row]; exact KI_days h.ki k
    obtain ⟨b, f1, f2⟩ := M_day hK
    refine ⟨b, f1, ?_⟩
    rw [daysS_succ, ← hm.row]
    exact hm.trans f2
theorem s_fails (h : R X μ) : Sim (f_X3_fails X) (f_X4_fails μ) := by
  have key : ∀ m k, k + m = 200 → ∀ n1 n2, m + 1 < n1 → m < n2 → ∀ a, Mst (asideS μ) (daysS k (X 0)) a → Sim (f_X3_fails_L21 n1 (va_up X 2 (daysS k (X 0))) (setOf (line (X 0)) (nb (X 0))) (nI k)) (f_X4_fails_L13 n2 a (nI k)) := by
    intro m
    induction m with
    | zero =>
      intro k hk n1 n2 h1 h2 a hm
      obtain ⟨n1, rfl⟩ : ∃ z, n1 = z + 1 := ⟨n1 - 1, by omega⟩
      obtain ⟨n1, rfl⟩ : ∃ z, n1 = z + 1 := ⟨n1 - 1, by omega⟩
      obtain ⟨n2, rfl⟩ : ∃ z, n2 = z + 1 := ⟨n2 - 1, by omega⟩
      have hKk := KI_days h.ki k
      have hK : KI (dec (a 0)) := by rw [hm.row]; exact hKk
      have ms : f_X4_sumOf a 7 = some (sumI (daysS k (X 0) 7) (nb (daysS k (X 0)))) := by have := M_sumOf hK (w := 7) (by omega); rw [hm.row] at this; exact this
      obtain ⟨f1, b, f2, f3⟩ := step_both h hm
      rw [f_X3_fails_L21, if_neg (n200 (by omega)), up_s, X0_owedSet hKk, bd_some, f_X4_fails_L13, if_pos (p200 (by omega) (by omega)), f_X4_fails_B39, ms, bd_some]
      by_cases c : sumI (daysS k (X 0) 7) (nb (daysS k (X 0))) = 0
      · rw [if_pos c, if_pos ((owe_iff hKk).mpr c), f1, bd_some, nI_1, f_X3_fails_L21, if_pos (l200 (by omega) (by omega)), f_X3_fails_B54, M_end_no, bx_uu]
        exact find3 ((back_R h hm).X2 (h.days (k + 1)))
      · rw [if_neg c, if_neg (fun z => c ((owe_iff hKk).mp z)), M_end_ok (by omega)]
        exact Sim.of ((back_R h hm).X2 (h.days k))
    | succ m ih =>
      intro k hk n1 n2 h1 h2 a hm
      obtain ⟨n1, rfl⟩ : ∃ z, n1 = z + 1 := ⟨n1 - 1, by omega⟩
      obtain ⟨n2, rfl⟩ : ∃ z, n2 = z + 1 := ⟨n2 - 1, by omega⟩
      have hKk := KI_days h.ki k
      have hK : KI (dec (a 0)) := by rw [hm.row]; exact hKk
      have ms : f_X4_sumOf a 7 = some (sumI (daysS k (X 0) 7) (nb (daysS k (X 0)))) := by have := M_sumOf hK (w := 7) (by omega); rw [hm.row] at this; exact this
      obtain ⟨f1, b, f2, f3⟩ := step_both h hm
      rw [f_X3_fails_L21, if_neg (n200 (by omega)), up_s, X0_owedSet hKk, bd_some, f_X4_fails_L13, if_neg (g200 (by omega)), ms, bd_some]
      by_cases c : sumI (daysS k (X 0) 7) (nb (daysS k (X 0))) = 0
      · rw [if_pos c, if_pos ((owe_iff hKk).mpr c), f1, bd_some, f2, bd_some, nI_1, bx_uu]
        exact ih (k + 1) (by omega) n1 n2 (by omega) (by omega) b f3
      · rw [if_neg c, if_neg (fun z => c ((owe_iff hKk).mp z)), f_X4_fails_B39, ms, bd_some, if_neg c, M_end_ok (by omega)]
        exact Sim.of ((back_R h hm).X2 (h.days k))
  unfold f_X3_fails f_X4_fails
  rw [h.trial, bd_some, X0_lineSet h.ki, bd_some, M_copyRow, bd_some]
  exact key 200 0 (by omega) 1000 1000 (by omega) (by omega) (asideS μ) h.asd
theorem s_ends (h : R X μ) : Sim (f_X3_ends X) (f_X4_ends μ) := by
  have key : ∀ m k, k + m = 200 → ∀ n1 n2, m + 1 < n1 → m < n2 → ∀ a, Mst (asideS μ) (daysS k (X 0)) a → Sim (f_X3_ends_L21 n1 (va_up X 2 (daysS k (X 0))) (setOf (line (X 0)) (nb (X 0))) (nI k)) (f_X4_ends_L13 n2 a (nI k)) := by
    intro m
    induction m with
    | zero =>
      intro k hk n1 n2 h1 h2 a hm
      obtain ⟨n1, rfl⟩ : ∃ z, n1 = z + 1 := ⟨n1 - 1, by omega⟩
      obtain ⟨n1, rfl⟩ : ∃ z, n1 = z + 1 := ⟨n1 - 1, by omega⟩
      obtain ⟨n2, rfl⟩ : ∃ z, n2 = z + 1 := ⟨n2 - 1, by omega⟩
      have hKk := KI_days h.ki k
      have hK : KI (dec (a 0)) := by rw [hm.row]; exact hKk
      have ms := M_drawers hK
      rw [hm.row] at ms
      have xs := X0_drawSet hKk (p := line (X 0)) (fun j _ => (line_days (X 0) k j).symm)
      rw [nb_days] at xs ms
      obtain ⟨f1, b, f2, f3⟩ := step_both h hm
      rw [f_X3_ends_L21, if_neg (n200 (by omega)), up_s, xs, bd_some, f_X4_ends_L13, if_pos (p200 (by omega) (by omega)), f_X4_ends_B37, ms, bd_some]
      by_cases c : setOf (draws (daysS k (X 0))) (nb (X 0)) = 0
      · rw [if_pos c, if_pos c, M_end_ok (by omega)]
        exact Sim.of ((back_R h hm).X2 (h.days k))
      · rw [if_neg c, if_neg c, f1, bd_some, nI_1, f_X3_ends_L21, if_pos (l200 (by omega) (by omega)), f_X3_ends_B55, M_end_no, bx_uu]
        exact find3 ((back_R h hm).X2 (h.days (k + 1)))
    | succ m ih =>
      intro k hk n1 n2 h1 h2 a hm
      obtain ⟨n1, rfl⟩ : ∃ z, n1 = z + 1 := ⟨n1 - 1, by omega⟩
      obtain ⟨n2, rfl⟩ : ∃ z, n2 = z + 1 := ⟨n2 - 1, by omega⟩
      have hKk := KI_days h.ki k
      have hK : KI (dec (a 0)) := by rw [hm.row]; exact hKk
      have ms := M_drawers hK
      rw [hm.row] at ms
      have xs := X0_drawSet hKk (p := line (X 0)) (fun j _ => (line_days (X 0) k j).symm)
      rw [nb_days] at xs ms
      obtain ⟨f1, b, f2, f3⟩ := step_both h hm
      rw [f_X3_ends_L21, if_neg (n200 (by omega)), up_s, xs, bd_some, f_X4_ends_L13, if_neg (g200 (by omega)), ms, bd_some]
      by_cases c : setOf (draws (daysS k (X 0))) (nb (X 0)) = 0
      · rw [if_pos c, if_pos c, f_X4_ends_B37, ms, bd_some, if_pos c, M_end_ok (by omega)]
        exact Sim.of ((back_R h hm).X2 (h.days k))
      · rw [if_neg c, if_neg c, f1, bd_some, f2, bd_some, nI_1, bx_uu]
        exact ih (k + 1) (by omega) n1 n2 (by omega) (by omega) b f3
  unfold f_X3_ends f_X4_ends
  rw [h.trial, bd_some, X0_lineSet h.ki, bd_some, M_copyRow, bd_some]
  exact key 200 0 (by omega) 1000 1000 (by omega) (by omega) (asideS μ) h.asd
theorem s_when (h : R X μ) (p v : Int32) : Sim (f_X3_when X p v) (f_X4_when μ p v) := by
  have hb8 := h.ki.1.2
  unfold f_X3_when f_X4_when
  simp only [within_X3, within_X4, bd_some, X0_has h.ki, M_isBird h.kim]
  rw [h.d0]
  by_cases c : 0 ≤ p.toInt ∧ p.toInt < nb (X 0)
  · simp only [if_pos c, ite10]
    by_cases d : 0 ≤ v ∧ v ≤ 9999
    · simp only [if_pos d, ite10]
      obtain ⟨i, hi, rfl⟩ := has_nI hb8 c
      have key : ∀ m k, k + m = 200 → ∀ n1 n2, m + 1 < n1 → m < n2 → ∀ a, Mst (asideS μ) (daysS k (X 0)) a → Sim (f_X3_when_L50 n1 (va_up X 2 (daysS k (X 0))) (nI i) v (setOf (line (X 0)) (nb (X 0))) (nI k)) (f_X4_when_L39 n2 a (nI i) v (nI k)) := by
        intro m
        induction m with
        | zero =>
          intro k hk n1 n2 h1 h2 a hm
          obtain ⟨n1, rfl⟩ : ∃ z, n1 = z + 1 := ⟨n1 - 1, by omega⟩
          obtain ⟨n1, rfl⟩ : ∃ z, n1 = z + 1 := ⟨n1 - 1, by omega⟩
          obtain ⟨n2, rfl⟩ : ∃ z, n2 = z + 1 := ⟨n2 - 1, by omega⟩
          obtain ⟨f1, b, f2, f3⟩ := step_both h hm
          rw [f_X3_when_L50, if_neg (n200 (by omega)), if_pos (ix_nI (by omega) (by omega)), up_s, nI_clamp (by omega), f_X4_when_L39, if_pos (p200 (by omega) (by omega)), f_X4_when_B67, M_b8 a (by omega), bd_some, hm.row]
          by_cases c : v ≤ daysS k (X 0) 8 i
          · have c' : ¬ daysS k (X 0) 8 i < v := by rw [i32_le] at c; rw [i32_lt]; omega
            rw [if_pos c, if_neg c', M_end_ok (by omega)]
            exact Sim.of ((back_R h hm).X2 (h.days k))
          · have c' : daysS k (X 0) 8 i < v := by rw [i32_le] at c; rw [i32_lt]; omega
            rw [if_neg c, if_pos c', f1, bd_some, nI_1, f_X3_when_L50, if_pos (l200 (by omega) (by omega)), f_X3_when_B88, M_end_no, bx_uu]
            exact find3 ((back_R h hm).X2 (h.days (k + 1)))
        | succ m ih =>
          intro k hk n1 n2 h1 h2 a hm
          obtain ⟨n1, rfl⟩ : ∃ z, n1 = z + 1 := ⟨n1 - 1, by omega⟩
          obtain ⟨n2, rfl⟩ : ∃ z, n2 = z + 1 := ⟨n2 - 1, by omega⟩
          obtain ⟨f1, b, f2, f3⟩ := step_both h hm
          rw [f_X3_when_L50, if_neg (n200 (by omega)), if_pos (ix_nI (by omega) (by omega)), up_s, nI_clamp (by omega), f_X4_when_L39, if_neg (g200 (by omega)), M_b8 a (by omega), bd_some, hm.row]
          by_cases c : v ≤ daysS k (X 0) 8 i
          · have c' : ¬ daysS k (X 0) 8 i < v := by rw [i32_le] at c; rw [i32_lt]; omega
            rw [if_pos c, if_neg c', f_X4_when_B67, M_b8 a (by omega), bd_some, hm.row, if_pos c, M_end_ok (by omega)]
            exact Sim.of ((back_R h hm).X2 (h.days k))
          · have c' : daysS k (X 0) 8 i < v := by rw [i32_le] at c; rw [i32_lt]; omega
            rw [if_neg c, if_pos c', f1, bd_some, f2, bd_some, nI_1, bx_uu]
            exact ih (k + 1) (by omega) n1 n2 (by omega) (by omega) b f3
      rw [h.trial, bd_some, X0_lineSet h.ki, bd_some, M_copyRow, bd_some]
      exact key 200 0 (by omega) 1000 1000 (by omega) (by omega) (asideS μ) h.asd
    · simp only [if_neg d, ite00]; exact find0 h
  · simp only [if_neg c, ite00]; exact find0 h
end OPS
theorem age_day {σ : K2} {i : Nat} (hi : i < nb σ) : dayS σ 3 i = imin 9999 (σ 3 i + 1) := by
  unfold dayS
  rw [up_n (by decide)]
  have e1 : day1 σ 3 i = imin 9999 (σ 3 i + 1) := by
    unfold day1 growS
    rw [up_s, if_pos hi, up_n (by decide)]
  unfold day2
  split
  · rw [payN_row (by decide) (by decide) (by decide)]; exact e1
  · exact e1
theorem age_days {σ : K2} {i a : Nat} (hi : i < nb σ) (ha : a ≤ 9999) (e : σ 3 i = nI a) : ∀ k, k ≤ 1000 → daysS k σ 3 i = nI (min 9999 (a + k))
  | 0, _ => by rw [daysS, e]; congr 1; omega
  | k + 1, hk => by
    rw [daysS_succ, age_day (by rw [nb_days]; exact hi), age_days hi ha e k (by omega), nI_1]
    have : imin 9999 (nI (min 9999 (a + k) + 1)) = nI (min 9999 (min 9999 (a + k) + 1)) := imin_nI (a := 9999) (by omega) (by omega)
    rw [this]
    congr 1
    omega
theorem tbl_life : ∀ k, k < 7 → ∃ L, L ≤ 9999 ∧ tbLife k = nI L := by
  intro k hk
  match k, hk with
  | 0, _ => exact ⟨60, by omega, rfl⟩
  | 1, _ => exact ⟨80, by omega, rfl⟩
  | 2, _ => exact ⟨50, by omega, rfl⟩
  | 3, _ => exact ⟨100, by omega, rfl⟩
  | 4, _ => exact ⟨200, by omega, rfl⟩
  | 5, _ => exact ⟨9999, by omega, rfl⟩
  | 6, _ => exact ⟨100, by omega, rfl⟩
  | n + 7, h => omega
section OPS
variable {X : K3} {μ : K2}
theorem s_dies (h : R X μ) (p : Int32) : Sim (f_X3_dies X p) (f_X4_dies μ p) := by
  have hb8 := h.ki.1.2
  unfold f_X3_dies f_X4_dies
  simp only [bd_some, X0_has h.ki, M_isBird h.kim]
  rw [h.d0]
  by_cases c : 0 ≤ p.toInt ∧ p.toInt < nb (X 0)
  · simp only [if_pos c, ite10]
    obtain ⟨i, hi, rfl⟩ := has_nI hb8 c
    have hB := h.ki.2.2.2.2.2 i hi
    obtain ⟨q, hq, eq⟩ := hB.1
    obtain ⟨a0, ha, ea⟩ := hB.2.2.2.1
    obtain ⟨L, hL, eL⟩ := tbl_life q (by omega)
    have e9 : f_X0_tell (X 0) (nI i) 9 = some (nI L) := by
      have := X0_tell h.ki hi (w := 9) (by omega)
      unfold tellS at this
      rw [if_pos rfl, eq, nI_clamp (by omega), eL] at this
      exact this
    have hdead : ∀ k, k ≤ 1000 → dead (daysS k (X 0)) i = decide (L < min 9999 (a0 + k)) := by
      intro k hk
      unfold dead
      rw [days_row (c := 0) (by decide) (by decide) (by decide) (by decide), age_days hi ha ea k hk, eq, nI_clamp (by omega), eL]
      have : (nI L < nI (min 9999 (a0 + k))) = (L < min 9999 (a0 + k)) := propext (nI_ltI (by omega) (by omega))
      simp only [this]
    have mdead : ∀ k, k ≤ 1000 → ∀ a, Mst (asideS μ) (daysS k (X 0)) a → f_X4_isDead a (nI i) = some (if L < min 9999 (a0 + k) then 1 else 0) := by
      intro k hk a hm
      have := M_isDead (μ := a) (i := i) (by omega) (by rw [hm.row]; exact (KI_days h.ki k).2.2.2.2.2 i (by rw [nb_days]; exact hi))
      rw [hm.row, hdead k hk] at this
      simp only [decide_eq_true_eq] at this
      exact this
    -- the reference's loop
    have key : ∀ m k, k + m = 200 → ∀ n2, m < n2 → ∀ a, Mst (asideS μ) (daysS k (X 0)) a → (∀ j, j < k → ¬ L < min 9999 (a0 + j)) → ∃ b, R X (backS b) ∧
        ((∃ k', k' ≤ 200 ∧ L < min 9999 (a0 + k') ∧ (∀ j, j < k' → ¬ L < min 9999 (a0 + j)) ∧ f_X4_dies_L28 n2 a (nI i) (nI k) = some (nI k', backS b)) ∨ ((∀ j, j ≤ 200 → ¬ L < min 9999 (a0 + j)) ∧ f_X4_dies_L28 n2 a (nI i) (nI k) = Option.bind (f_X4_finding (backS b) (-1000004)) (fun q => some (q.1, q.2)))) := by
      intro m
      induction m with
      | zero =>
        intro k hk n2 h2 a hm hno
        obtain ⟨n2, rfl⟩ : ∃ z, n2 = z + 1 := ⟨n2 - 1, by omega⟩
        refine ⟨a, back_R h hm, ?_⟩
        rw [f_X4_dies_L28, if_pos (p200 (by omega) (by omega)), f_X4_dies_B53, mdead k (by omega) a hm, bd_some]
        by_cases z : L < min 9999 (a0 + k)
        · rw [if_pos z, ite10, M_end_ok (by omega)]
          exact Or.inl ⟨k, by omega, z, hno, rfl⟩
        · rw [if_neg z, ite00, M_end_no]
          exact Or.inr ⟨fun j hj => by
            by_cases e : j = k
            · subst e; exact z
            · exact hno j (by omega), rfl⟩
      | succ m ih =>
        intro k hk n2 h2 a hm hno
        obtain ⟨n2, rfl⟩ : ∃ z, n2 = z + 1 := ⟨n2 - 1, by omega⟩
        obtain ⟨f1, b, f2, f3⟩ := step_both h hm
        rw [f_X4_dies_L28, if_neg (g200 (by omega)), mdead k (by omega) a hm, bd_some]
        by_cases z : L < min 9999 (a0 + k)
        · rw [if_pos z, ite10, f_X4_dies_B53, mdead k (by omega) a hm, bd_some, if_pos z, ite10, M_end_ok (by omega)]
          exact ⟨a, back_R h hm, Or.inl ⟨k, by omega, z, hno, rfl⟩⟩
        · rw [if_neg z, ite00, f2, bd_some, nI_1]
          exact ih (k + 1) (by omega) n2 (by omega) b f3 (fun j hj => by
            by_cases e : j = k
            · subst e; exact z
            · exact hno j (by omega))
    obtain ⟨b, hb, hr⟩ := key 200 0 (by omega) 1000 (by omega) (asideS μ) h.asd (fun j hj => by omega)
    have e1 : imax 0 ((nI L + 1) - X 0 3 i) = nI (L + 1 - a0) := by
      rw [ea, nI_1]
      by_cases z : a0 ≤ L + 1
      · rw [pk_sub z]
        have := imax_nI (a := 0) (b := L + 1 - a0) (by omega) (by omega)
        rw [Nat.max_eq_right (by omega)] at this
        exact this
      · unfold imax
        rw [if_neg, show L + 1 - a0 = 0 by omega]
        · rfl
        · have := pk_sneg (a := L + 1) (b := a0) (by omega) (by omega)
          rw [i32_lt] at this ⊢
          have e0 : (0 : Int32).toInt = 0 := rfl
          omega
    rw [e9, bd_some, if_pos (ix_nI (by omega) (by omega)), nI_clamp (by omega), e1, M_copyRow, bd_some]
    show Sim _ (f_X4_dies_L28 1000 (asideS μ) (nI i) (nI 0))
    rcases hr with ⟨k', hk', hd, hno, e⟩ | ⟨hno, e⟩
    · have hL9 : ¬ (9999 : Int32) ≤ nI L := by
        have := nI_leI (a := 9999) (b := L) (by omega) (by omega)
        intro z
        have := this.mp z
        omega
      have ek : L + 1 - a0 = k' := by
        by_cases z : k' = 0
        · subst z; omega
        · have := hno (k' - 1) (by omega)
          omega
      have h2 : nI k' ≤ 200 := nI_le (b := 200) hk' (by omega)
      rw [if_neg hL9, ek, if_pos h2, e]
      exact Sim.of hb
    · rw [e]
      by_cases z : (9999 : Int32) ≤ nI L
      · rw [if_pos z]
        exact find3 hb
      · have hL9 : L < 9999 := by
          by_cases y : L < 9999
          · exact y
          · exact absurd (nI_le (a := 9999) (b := L) (by omega) (by omega)) z
        have := hno 200 (by omega)
        have h2 : ¬ nI (L + 1 - a0) ≤ (200 : Int32) := nI_ge (b := L + 1 - a0) (a := 200) (by omega) (by omega)
        rw [if_neg z, if_neg h2]
        exact find3 hb
  · simp only [if_neg c, ite00]; exact find0 h
end OPS
