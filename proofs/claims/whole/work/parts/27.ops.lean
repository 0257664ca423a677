/-! ===== pure: births, changes, and the plain questions ===== -/
def addS (σ : K2) (k l f : Int32) : K2 := fun c i => if c < 9 ∧ i = nb σ then (if c = 0 then k else if c = 1 then l else if c = 2 then f else 0) else if c = 11 ∧ i = 3 then nI (nb σ + 1) else σ c i
def zeroS (σ : K2) (b w : Nat) : K2 := fun c i => if c < w ∧ i = b then 0 else σ c i
theorem zeroS_0 (σ : K2) (b : Nat) : zeroS σ b 0 = σ := by funext c i; simp [zeroS]
theorem zeroS_1 (σ : K2) (b w : Nat) : va_up (zeroS σ b w) w (upd (zeroS σ b w w) b 0) = zeroS σ b (w + 1) := by
  funext c i
  by_cases e : c = w
  · subst e
    rw [up_s]
    by_cases e2 : i = b
    · subst e2; rw [upd_s]; simp [zeroS]
    · rw [upd_n e2]; simp [zeroS, e2]
  · rw [up_n e]
    unfold zeroS
    by_cases c1 : c < w ∧ i = b
    · rw [if_pos c1, if_pos ⟨by omega, c1.2⟩]
    · rw [if_neg c1, if_neg (by omega)]
theorem add_end {σ : K2} {b : Nat} {k l f : Int32} (hb : nb σ = b) (v : K2) (hv : v = zeroS (va_up σ 11 (upd (σ 11) 3 (nI (b + 1)))) b 9) : va_up (va_up (va_up v 0 (upd (v 0) b k)) 1 (upd (v 1) b l)) 2 (upd (v 2) b f) = addS σ k l f := by
  subst hv
  funext c i
  unfold addS
  rw [hb]
  by_cases e2 : c = 2
  · subst e2
    rw [up_s]
    by_cases ei : i = b
    · rw [ei, upd_s, if_pos ⟨by omega, rfl⟩]; rfl
    · rw [upd_n ei, if_neg (by omega), if_neg (by omega)]
      unfold zeroS
      rw [if_neg (by omega), up_n (by decide)]
  · rw [up_n e2]
    by_cases e1 : c = 1
    · subst e1
      rw [up_s]
      by_cases ei : i = b
      · rw [ei, upd_s, if_pos ⟨by omega, rfl⟩]; rfl
      · rw [upd_n ei, if_neg (by omega), if_neg (by omega)]
        unfold zeroS
        rw [if_neg (by omega), up_n (by decide)]
    · rw [up_n e1]
      by_cases e0 : c = 0
      · subst e0
        rw [up_s]
        by_cases ei : i = b
        · rw [ei, upd_s, if_pos ⟨by omega, rfl⟩]; rfl
        · rw [upd_n ei, if_neg (by omega), if_neg (by omega)]
          unfold zeroS
          rw [if_neg (by omega), up_n (by decide)]
      · rw [up_n e0]
        unfold zeroS
        by_cases c9 : c < 9 ∧ i = b
        · rw [if_pos c9, if_pos c9, if_neg e0, if_neg e1, if_neg e2]
        · rw [if_neg c9, if_neg c9]
          by_cases e11 : c = 11
          · subst e11
            rw [up_s]
            by_cases e3 : i = 3
            · rw [e3, upd_s, if_pos ⟨rfl, rfl⟩]
            · rw [upd_n e3, if_neg (by omega)]
          · rw [up_n e11, if_neg (by omega)]
theorem X0_add {σ : K2} (h : KI σ) (hb : nb σ < 8) (k l f : Int32) : f_X0_add σ k l f = some (nI (nb σ), addS σ k l f) := by
  have h3 := h.1.1
  have key := for_seq (fun n a i => f_X0_add_L19 n a k l f (nI (nb σ)) i) (zeroS (va_up σ 11 (upd (σ 11) 3 (nI (nb σ + 1)))) (nb σ)) 9 (some (nI (nb σ), addS σ k l f)) ?_ ?_ 9 0 1000 (by omega) (by omega)
  · rw [zeroS_0] at key
    unfold f_X0_add
    rw [h3, nI_1]
    exact key
  · intro n i hi
    show f_X0_add_L19 (n + 1) _ _ _ _ _ _ = f_X0_add_L19 n _ _ _ _ _ _
    rw [f_X0_add_L19, if_neg (g9 hi), if_pos (ix_nI hi (by omega)), if_pos (ix_nI hb (by omega)), nI_clamp (by omega), nI_clamp (by omega), nI_1, zeroS_1]
  · intro n
    show f_X0_add_L19 (n + 1) _ _ _ _ _ _ = _
    rw [f_X0_add_L19, if_pos e9, f_X0_add_B43, if_pos (ix_nI hb (by omega)), nI_clamp (by omega), add_end rfl _ rfl]
theorem nb_add {σ : K2} (k l f : Int32) (hb : nb σ < 8) : nb (addS σ k l f) = nb σ + 1 := by
  show (addS σ k l f 11 3).toNatClampNeg = _
  have : addS σ k l f 11 3 = nI (nb σ + 1) := by unfold addS; rw [if_neg (by omega), if_pos ⟨rfl, rfl⟩]
  rw [this, nI_clamp (by omega)]
theorem add_old {σ : K2} {k l f : Int32} {c i : Nat} (h : i ≠ nb σ) (hc : c ≠ 11) : addS σ k l f c i = σ c i := by
  unfold addS; rw [if_neg (fun z => h z.2), if_neg (fun z => hc z.1)]
theorem add_new {σ : K2} {k l f : Int32} {c : Nat} (hc : c < 9) : addS σ k l f c (nb σ) = if c = 0 then k else if c = 1 then l else if c = 2 then f else 0 := by
  unfold addS; rw [if_pos ⟨hc, rfl⟩]
theorem KI_add {σ : K2} (h : KI σ) (hb : nb σ < 8) {k l f : Int32} (hk : ∃ z, z ≤ 6 ∧ k = nI z) (hl : ∃ z, z ≤ 5 ∧ l = nI z) (hf : f = -1 ∨ ∃ z, z < nb σ ∧ f = nI z) : KI (addS σ k l f) := by
  have en := nb_add k l f hb
  obtain ⟨k1, k2, k3, k4, k5, k6⟩ := h
  have e11 : ∀ i, i ≠ 3 → addS σ k l f 11 i = σ 11 i := fun i hi => by unfold addS; rw [if_neg (by omega), if_neg (fun z => hi z.2)]
  have ed : nd (addS σ k l f) = nd σ := nd_eq (e11 0 (by omega))
  refine ⟨⟨?_, by omega⟩, ⟨?_, by omega⟩, ?_, fun i hi => ?_, fun i hi => ?_, fun i hi => ?_⟩
  · rw [en]; unfold addS; rw [if_neg (by omega), if_pos ⟨rfl, rfl⟩]
  · rw [ed, e11 0 (by omega)]; exact k2.1
  · rw [e11 1 (by omega)]; exact k3
  · have : addS σ k l f 9 i = σ 9 i := by unfold addS; rw [if_neg (by omega), if_neg (by omega)]
    rw [this]; exact k4 i hi
  · have : addS σ k l f 10 i = σ 10 i := by unfold addS; rw [if_neg (by omega), if_neg (by omega)]
    rw [this, en]
    rcases k5 i hi with z | ⟨z, h1, h2⟩
    · exact Or.inl z
    · exact Or.inr ⟨z, by omega, h2⟩
  · rw [en] at hi
    by_cases e : i = nb σ
    · subst e
      unfold BI
      rw [add_new (by omega), add_new (by omega), add_new (by omega), add_new (by omega), add_new (by omega), add_new (by omega), add_new (by omega), add_new (by omega), add_new (by omega)]
      exact ⟨hk, hl, hf, ⟨0, by omega, rfl⟩, Or.inl rfl, Or.inl rfl, Or.inl rfl, ⟨0, by omega, rfl⟩, ⟨0, by omega, rfl⟩⟩
    · unfold BI
      rw [add_old e (by decide), add_old e (by decide), add_old e (by decide), add_old e (by decide), add_old e (by decide), add_old e (by decide), add_old e (by decide), add_old e (by decide), add_old e (by decide)]
      exact k6 i (by omega)
theorem M_comes {μ : K2} (h : KI (dec (μ 0))) (hb : nb (dec (μ 0)) < 8) (k l f : Int32) : ∃ a, f_X4_comes μ k l f = some (nI (nb (dec (μ 0))), a) ∧ Mst μ (addS (dec (μ 0)) k l f) a := by
  have hn := n1 h
  generalize hσ : dec (μ 0) = σ at *
  have key := for_up (fun n a i => f_X4_comes_L11 n a k l f (nI (nb σ)) i) (fun a i => va_up a 0 (upd (a 0) (20 + 9 * nb σ + i) 0)) (fun a => f_X4_comes_B37 a k l f (nI (nb σ))) 9 (fun i a => Mst μ (zeroS σ (nb σ) i) a) ?_ ?_ 9 0 μ 1000 (by omega) (by omega) (by rw [zeroS_0, ← hσ]; exact Mst.rf μ)
  · obtain ⟨a, e1, e2, -⟩ := key
    have a0 : f_X4_birdAt (nI (nb σ)) 0 = some (nI (20 + 9 * nb σ + 0)) := M_birdAt _ 0
    have a1 : f_X4_birdAt (nI (nb σ)) 1 = some (nI (20 + 9 * nb σ + 1)) := M_birdAt _ 1
    have a2 : f_X4_birdAt (nI (nb σ)) 2 = some (nI (20 + 9 * nb σ + 2)) := M_birdAt _ 2
    have hrow := e2.row
    have er : (a 0) 1 = nI (nb σ) := by rw [← dec_3 (n := a 0), hrow]; exact h.1.1
    have fin : f_X4_comes_B37 a k l f (nI (nb σ)) = some (nI (nb σ), va_up a 0 (upd (upd (upd (upd (a 0) (20 + 9 * nb σ + 0) k) (20 + 9 * nb σ + 1) l) (20 + 9 * nb σ + 2) f) 1 (nI (nb σ + 1)))) := by
      unfold f_X4_comes_B37
      rw [a0, bd_some, a1, bd_some, a2, bd_some, if_pos (ix_nI (by omega) (by omega)), if_pos (ix_nI (by omega) (by omega)), if_pos (ix_nI (by omega) (by omega)), nI_clamp (by omega), nI_clamp (by omega), nI_clamp (by omega), upd_n (by omega), upd_n (by omega), upd_n (by omega), er, nI_1]
    refine ⟨_, ?_, e2.set (n := upd (upd (upd (upd (a 0) (20 + 9 * nb σ + 0) k) (20 + 9 * nb σ + 1) l) (20 + 9 * nb σ + 2) f) 1 (nI (nb σ + 1))) ?_⟩
    · rw [← fin]
      show f_X4_comes_L11 1000 μ k l f (μ 0 1) 0 = _
      rw [hn]
      exact e1
    · rw [dec_w1, dec_w (by omega) (by omega), dec_w (by omega) (by omega), dec_w (by omega) (by omega), hrow]
      rw [← add_end (k := k) (l := l) (f := f) rfl _ rfl]
      have ez : zeroS (va_up σ 11 (upd (σ 11) 3 (nI (nb σ + 1)))) (nb σ) 9 = va_up (zeroS σ (nb σ) 9) 11 (upd (zeroS σ (nb σ) 9 11) 3 (nI (nb σ + 1))) := by
        funext c i
        unfold zeroS
        by_cases e : c = 11
        · subst e; rw [up_s, if_neg (by omega), up_s]
          congr 1
        · rw [up_n e, up_n e]
      rw [ez]
      simp only [up_n (show (0 : Nat) ≠ 11 by decide), up_n (show (1 : Nat) ≠ 11 by decide), up_n (show (2 : Nat) ≠ 11 by decide), up_n (show (1 : Nat) ≠ 0 by decide), up_n (show (2 : Nat) ≠ 0 by decide), up_n (show (2 : Nat) ≠ 1 by decide), up_n (show (11 : Nat) ≠ 0 by decide), up_n (show (11 : Nat) ≠ 1 by decide), up_n (show (11 : Nat) ≠ 2 by decide)]
      rw [up_comm (a := 11) (b := 0) (by decide), up_comm (a := 11) (b := 1) (by decide), up_comm (a := 11) (b := 2) (by decide)]
  · intro n a i hi hI
    have ai : f_X4_birdAt (nI (nb σ)) (nI i) = some (nI (20 + 9 * nb σ + i)) := M_birdAt _ i
    constructor
    · show f_X4_comes_L11 (n + 1) _ _ _ _ _ _ = f_X4_comes_L11 n _ _ _ _ _ _
      rw [f_X4_comes_L11, if_neg (g9 hi), ai, bd_some, if_pos (ix_nI (by omega) (by omega)), nI_clamp (by omega), nI_1]
    · refine hI.set ?_
      rw [dec_w hi (by omega), hI.row, zeroS_1]
  · intro n a hI
    show f_X4_comes_L11 (n + 1) _ _ _ _ _ _ = _
    rw [f_X4_comes_L11, if_pos e9]

theorem KI_t0 {σ : K2} (h : KI σ) {i : Nat} {v : Int32} (hv : ∃ k, k ≤ 6 ∧ v = nI k) : KI (va_up σ 0 (upd (σ 0) i v)) := by
  obtain ⟨k1, k2, k3, k4, k5, k6⟩ := h
  refine ⟨k1, k2, k3, k4, k5, fun j hj => ?_⟩
  obtain ⟨b0, b1, b2, b3, b4, b5, b6, b7, b8⟩ := k6 j hj
  refine ⟨?_, b1, b2, b3, b4, b5, b6, b7, b8⟩
  show ∃ k, k ≤ 6 ∧ upd (σ 0) i v j = nI k
  by_cases e : j = i
  · subst e; rw [upd_s]; exact hv
  · rw [upd_n e]; exact b0
theorem KI_t1 {σ : K2} (h : KI σ) {i : Nat} {v : Int32} (hv : ∃ k, k ≤ 5 ∧ v = nI k) : KI (va_up σ 1 (upd (σ 1) i v)) := by
  obtain ⟨k1, k2, k3, k4, k5, k6⟩ := h
  refine ⟨k1, k2, k3, k4, k5, fun j hj => ?_⟩
  obtain ⟨b0, b1, b2, b3, b4, b5, b6, b7, b8⟩ := k6 j hj
  refine ⟨b0, ?_, b2, b3, b4, b5, b6, b7, b8⟩
  show ∃ k, k ≤ 5 ∧ upd (σ 1) i v j = nI k
  by_cases e : j = i
  · subst e; rw [upd_s]; exact hv
  · rw [upd_n e]; exact b1
theorem KI_t2 {σ : K2} (h : KI σ) {i : Nat} {v : Int32} (hv : v = -1 ∨ ∃ k, k < i ∧ v = nI k) : KI (va_up σ 2 (upd (σ 2) i v)) := by
  obtain ⟨k1, k2, k3, k4, k5, k6⟩ := h
  refine ⟨k1, k2, k3, k4, k5, fun j hj => ?_⟩
  obtain ⟨b0, b1, b2, b3, b4, b5, b6, b7, b8⟩ := k6 j hj
  refine ⟨b0, b1, ?_, b3, b4, b5, b6, b7, b8⟩
  show upd (σ 2) i v j = -1 ∨ ∃ k, k < j ∧ upd (σ 2) i v j = nI k
  by_cases e : j = i
  · subst e; rw [upd_s]; exact hv
  · rw [upd_n e]; exact b2
theorem KI_t3 {σ : K2} (h : KI σ) {i : Nat} {v : Int32} (hv : ∃ k, k ≤ 9999 ∧ v = nI k) : KI (va_up σ 3 (upd (σ 3) i v)) := by
  obtain ⟨k1, k2, k3, k4, k5, k6⟩ := h
  refine ⟨k1, k2, k3, k4, k5, fun j hj => ?_⟩
  obtain ⟨b0, b1, b2, b3, b4, b5, b6, b7, b8⟩ := k6 j hj
  refine ⟨b0, b1, b2, ?_, b4, b5, b6, b7, b8⟩
  show ∃ k, k ≤ 9999 ∧ upd (σ 3) i v j = nI k
  by_cases e : j = i
  · subst e; rw [upd_s]; exact hv
  · rw [upd_n e]; exact b3
theorem KI_t4 {σ : K2} (h : KI σ) {i : Nat} {v : Int32} (hv : v = 0 ∨ v = 1) : KI (va_up σ 4 (upd (σ 4) i v)) := by
  obtain ⟨k1, k2, k3, k4, k5, k6⟩ := h
  refine ⟨k1, k2, k3, k4, k5, fun j hj => ?_⟩
  obtain ⟨b0, b1, b2, b3, b4, b5, b6, b7, b8⟩ := k6 j hj
  refine ⟨b0, b1, b2, b3, ?_, b5, b6, b7, b8⟩
  show upd (σ 4) i v j = 0 ∨ upd (σ 4) i v j = 1
  by_cases e : j = i
  · subst e; rw [upd_s]; exact hv
  · rw [upd_n e]; exact b4
theorem KI_t5 {σ : K2} (h : KI σ) {i : Nat} {v : Int32} (hv : v = 0 ∨ v = 1) : KI (va_up σ 5 (upd (σ 5) i v)) := by
  obtain ⟨k1, k2, k3, k4, k5, k6⟩ := h
  refine ⟨k1, k2, k3, k4, k5, fun j hj => ?_⟩
  obtain ⟨b0, b1, b2, b3, b4, b5, b6, b7, b8⟩ := k6 j hj
  refine ⟨b0, b1, b2, b3, b4, ?_, b6, b7, b8⟩
  show upd (σ 5) i v j = 0 ∨ upd (σ 5) i v j = 1
  by_cases e : j = i
  · subst e; rw [upd_s]; exact hv
  · rw [upd_n e]; exact b5
theorem KI_t6 {σ : K2} (h : KI σ) {i : Nat} {v : Int32} (hv : v = 0 ∨ v = 1) : KI (va_up σ 6 (upd (σ 6) i v)) := by
  obtain ⟨k1, k2, k3, k4, k5, k6⟩ := h
  refine ⟨k1, k2, k3, k4, k5, fun j hj => ?_⟩
  obtain ⟨b0, b1, b2, b3, b4, b5, b6, b7, b8⟩ := k6 j hj
  refine ⟨b0, b1, b2, b3, b4, b5, ?_, b7, b8⟩
  show upd (σ 6) i v j = 0 ∨ upd (σ 6) i v j = 1
  by_cases e : j = i
  · subst e; rw [upd_s]; exact hv
  · rw [upd_n e]; exact b6
theorem KI_t7 {σ : K2} (h : KI σ) {i : Nat} {v : Int32} (hv : ∃ k, k ≤ 9999 ∧ v = nI k) : KI (va_up σ 7 (upd (σ 7) i v)) := by
  obtain ⟨k1, k2, k3, k4, k5, k6⟩ := h
  refine ⟨k1, k2, k3, k4, k5, fun j hj => ?_⟩
  obtain ⟨b0, b1, b2, b3, b4, b5, b6, b7, b8⟩ := k6 j hj
  refine ⟨b0, b1, b2, b3, b4, b5, b6, ?_, b8⟩
  show ∃ k, k ≤ 9999 ∧ upd (σ 7) i v j = nI k
  by_cases e : j = i
  · subst e; rw [upd_s]; exact hv
  · rw [upd_n e]; exact b7
theorem KI_t8 {σ : K2} (h : KI σ) {i : Nat} {v : Int32} (hv : ∃ k, k ≤ 9999 ∧ v = nI k) : KI (va_up σ 8 (upd (σ 8) i v)) := by
  obtain ⟨k1, k2, k3, k4, k5, k6⟩ := h
  refine ⟨k1, k2, k3, k4, k5, fun j hj => ?_⟩
  obtain ⟨b0, b1, b2, b3, b4, b5, b6, b7, b8⟩ := k6 j hj
  refine ⟨b0, b1, b2, b3, b4, b5, b6, b7, ?_⟩
  show ∃ k, k ≤ 9999 ∧ upd (σ 8) i v j = nI k
  by_cases e : j = i
  · subst e; rw [upd_s]; exact hv
  · rw [upd_n e]; exact b8
def okV (i w : Nat) (v : Int32) : Prop := if w = 2 then (-1 ≤ v ∧ v ≤ nI i - 1) else (0 ≤ v ∧ v ≤ tbMost w)
theorem okV_dec (i w : Nat) (v : Int32) : (if w = 2 then (-1 ≤ v ∧ v ≤ nI i - 1) else (0 ≤ v ∧ v ≤ tbMost w)) ∨ ¬ (if w = 2 then (-1 ≤ v ∧ v ≤ nI i - 1) else (0 ≤ v ∧ v ≤ tbMost w)) := Classical.em _
theorem par_rng {i : Nat} (hi : i < 8) {v : Int32} (h : -1 ≤ v ∧ v ≤ nI i - 1) : v = -1 ∨ ∃ k, k < i ∧ v = nI k := by
  obtain ⟨h1, h2⟩ := h
  rw [i32_le] at h1 h2
  have e1 : (-1 : Int32).toInt = -1 := rfl
  have e2 : (nI i - 1).toInt = (i : Int) - 1 := pk_sub_toInt (b := 1) (by omega) (by omega)
  by_cases c : v.toInt = -1
  · left; rw [i32_eq]; omega
  · right
    obtain ⟨k, hk, e⟩ := nI_of_range (x := v) (n := i - 1) (by omega) (by omega) (by omega)
    exact ⟨k, by omega, e⟩
theorem bit_rng {v : Int32} (h : 0 ≤ v ∧ v ≤ 1) : v = 0 ∨ v = 1 := by
  obtain ⟨k, hk, e⟩ := rng (n := 1) h rfl (by omega)
  rcases (show k = 0 ∨ k = 1 by omega) with rfl | rfl
  · exact Or.inl e
  · exact Or.inr e
section OPS
variable {X : K3} {μ : K2}
theorem s_bird (h : R X μ) (a b : Int32) : Sim (f_X3_bird X a b) (f_X4_bird μ a b) := by
  have hb8 := h.ki.1.2
  unfold f_X3_bird f_X4_bird
  simp only [within_X3, M_isKind, M_isLoft, bd_some, X0_isFull h.ki]
  by_cases c : 0 ≤ a ∧ a ≤ 6
  · simp only [if_pos c, ite10]
    by_cases d : 0 ≤ b ∧ b ≤ 5
    · simp only [if_pos d, ite10]
      have hn := n1 h.kim
      rw [hn, h.d0]
      by_cases e : nb (X 0) < 8
      · have e8 : ¬ nI (nb (X 0)) = 8 := by
          have := nI_eq (a := nb (X 0)) (b := 8) (by omega) (by omega)
          intro z
          exact absurd (this.mp z) (by omega)
        obtain ⟨m, f1, f2⟩ := M_comes h.kim (by rw [h.d0]; exact e) a b (-1)
        rw [if_pos e, if_pos rfl, if_neg e8, X0_add h.ki e, f1, bd_some, bd_some, h.d0]
        rw [h.d0] at f2
        exact Sim.of (h.mst f2 (KI_add h.ki e (rng (n := 6) c rfl (by omega)) (rng (n := 5) d rfl (by omega)) (Or.inl rfl)))
      · have e8 : nb (X 0) = 8 := by omega
        rw [if_neg e, ite10, if_pos (by rw [e8]; rfl)]
        exact find1 h
    · simp only [if_neg d, ite00]; exact find0 h
  · simp only [if_neg c, ite00]; exact find0 h
theorem s_hatch (h : R X μ) (a b : Int32) : Sim (f_X3_hatch X a b) (f_X4_hatch μ a b) := by
  have hb8 := h.ki.1.2
  unfold f_X3_hatch f_X4_hatch
  simp only [within_X3, M_isKind, bd_some, X0_has h.ki, M_isBird h.kim, X0_isFull h.ki]
  rw [h.d0]
  by_cases c : 0 ≤ a.toInt ∧ a.toInt < nb (X 0)
  · simp only [if_pos c, ite10]
    by_cases d : 0 ≤ b ∧ b ≤ 6
    · simp only [if_pos d, ite10]
      obtain ⟨i, hi, rfl⟩ := has_nI hb8 c
      have hn := n1 h.kim
      rw [hn, h.d0]
      by_cases e : nb (X 0) < 8
      · have e8 : ¬ nI (nb (X 0)) = 8 := by
          have := nI_eq (a := nb (X 0)) (b := 8) (by omega) (by omega)
          intro z
          exact absurd (this.mp z) (by omega)
        have hB := h.ki.2.2.2.2.2 i hi
        have dm := M_isDead (μ := μ) (i := i) (by omega) (by rw [h.d0]; exact hB)
        rw [h.d0] at dm
        rw [if_pos e, if_pos rfl, if_neg e8, X0_isDead (by omega) hB, dm, bd_some, bd_some]
        cases dead (X 0) i
        · simp only [Bool.false_eq_true, if_false, ite00]
          rw [if_pos (ix_nI (by omega) (by omega)), nI_clamp (by omega), M_b1 μ (by omega), bd_some, h.d0]
          obtain ⟨m, f1, f2⟩ := M_comes h.kim (by rw [h.d0]; exact e) b (X 0 1 i) (nI i)
          rw [X0_add h.ki e, f1, bd_some, bd_some, h.d0]
          rw [h.d0] at f2
          exact Sim.of (h.mst f2 (KI_add h.ki e (rng (n := 6) d rfl (by omega)) hB.2.1 (Or.inr ⟨i, hi, rfl⟩)))
        · simp only [if_true, ite10]
          exact find4 h
      · have e8 : nb (X 0) = 8 := by omega
        rw [if_neg e, ite10, if_pos (by rw [e8]; rfl)]
        exact find1 h
    · simp only [if_neg d, ite00]; exact find0 h
  · simp only [if_neg c, ite00]; exact find0 h
theorem s_go (h : R X μ) (a : Int32) : Sim (f_X3_go X a) (f_X4_go μ a) := by
  unfold f_X3_go f_X4_go
  simp only [within_X3, within_X4, bd_some]
  by_cases c : 1 ≤ a ∧ a ≤ 60
  · simp only [if_pos c, ite10]
    have e0 : μ 0 0 = X 0 11 0 := by rw [← h.d0, dec_0]
    rw [e0]
    by_cases d : X 0 11 0 + a ≤ 99999
    · rw [if_pos d, if_pos d]
      have c' : 0 ≤ a ∧ a ≤ 60 := by
        refine ⟨?_, c.2⟩
        have := c.1
        rw [i32_le] at this ⊢
        have e1 : (1 : Int32).toInt = 1 := rfl
        have e2 : (0 : Int32).toInt = 0 := rfl
        omega
      obtain ⟨n, hn, rfl⟩ := rng (n := 60) c' rfl (by omega)
      obtain ⟨m, f1, f2⟩ := M_daysGo h.kim (n := n) (by omega)
      rw [X0_passDays h.ki (by omega), f1, bd_some, bd_some]
      rw [h.d0] at f2
      refine Sim.of' ?_ (h.mst f2 (KI_days h.ki n))
      rw [← f2.row, dec_1]
    · rw [if_neg d, if_neg d]; exact find4 h
  · simp only [if_neg c, ite00]; exact find0 h
theorem s_now (h : R X μ) (a : Int32) : Sim (f_X3_now X a) (f_X4_now μ a) := by
  have s7 : f_X0_together (X 0) 7 = some (sumI (X 0 7) (nb (X 0))) := X0_together h.ki (w := 7) (by omega)
  have s8 : f_X0_together (X 0) 8 = some (sumI (X 0 8) (nb (X 0))) := X0_together h.ki (w := 8) (by omega)
  have m7 : f_X4_sumOf μ 7 = some (sumI (X 0 7) (nb (X 0))) := by have := M_sumOf h.kim (w := 7) (by omega); rw [h.d0] at this; exact this
  have m8 : f_X4_sumOf μ 8 = some (sumI (X 0 8) (nb (X 0))) := by have := M_sumOf h.kim (w := 8) (by omega); rw [h.d0] at this; exact this
  unfold f_X3_now f_X4_now
  rw [X0_lineSet h.ki, X0_deadSet h.ki, s7, s8, X0_ratesTogether h.ki, M_drawers h.kim, M_deadOnes h.kim, m7, m8, M_rates h.kim, M_lineOnes h.kim, h.d0]
  simp only [bd_some]
  rw [X0_drawSet h.ki (fun _ _ => rfl)]
  simp only [bd_some]
  by_cases c0 : a = 0
  · rw [if_pos c0, if_pos c0]; exact Sim.of' (by rw [← h.d0, dec_0]) h
  · rw [if_neg c0, if_neg c0]
    by_cases c1 : a = 1
    · rw [if_pos c1, if_pos c1]; exact Sim.of' (by rw [← h.d0, dec_1]) h
    · rw [if_neg c1, if_neg c1]
      by_cases c2 : a = 2
      · rw [if_pos c2, if_pos c2]; exact Sim.of h
      · rw [if_neg c2, if_neg c2]
        by_cases c3 : a = 3
        · rw [if_pos c3, if_pos c3]; exact Sim.of h
        · rw [if_neg c3, if_neg c3]
          by_cases c4 : a = 4
          · rw [if_pos c4, if_pos c4]; exact Sim.of h
          · rw [if_neg c4, if_neg c4]
            by_cases c5 : a = 5
            · rw [if_pos c5, if_pos c5]; exact Sim.of h
            · rw [if_neg c5, if_neg c5]
              by_cases c6 : a = 6
              · rw [if_pos c6, if_pos c6]; exact Sim.of h
              · rw [if_neg c6, if_neg c6]
                by_cases c7 : a = 7
                · rw [if_pos c7, if_pos c7]; exact Sim.of h
                · rw [if_neg c7, if_neg c7]; exact find0 h
theorem KI_spot {σ : K2} (h : KI σ) {i : Nat} {v : Int32} (hv : v = -1 ∨ ∃ k, k < nb σ ∧ v = nI k) : KI (va_up σ 10 (upd (σ 10) i v)) := by
  obtain ⟨k1, k2, k3, k4, k5, k6⟩ := h
  refine ⟨k1, k2, k3, k4, fun j hj => ?_, k6⟩
  show upd (σ 10) i v j = -1 ∨ ∃ k, k < nb σ ∧ upd (σ 10) i v j = nI k
  by_cases e : j = i
  · subst e; rw [upd_s]; exact hv
  · rw [upd_n e]; exact k5 j hj
theorem s_hold (h : R X μ) (a b : Int32) : Sim (f_X3_hold X a b) (f_X4_hold μ a b) := by
  have hb8 := h.ki.1.2
  unfold f_X3_hold f_X4_hold
  simp only [within_X3, M_isSpot, bd_some, X0_has h.ki, M_isBird h.kim]
  rw [h.d0]
  by_cases c : 0 ≤ a ∧ a ≤ 9
  · simp only [if_pos c, ite10]
    obtain ⟨i, hi, rfl⟩ := rng (n := 9) c rfl (by omega)
    have e : (10 : Int32) + nI i = nI (10 + i) := nI_add 10 i
    rw [e, if_pos (ix_nI (by omega) (by omega)), if_pos (ix_nI (by omega) (by omega)), nI_clamp (by omega), nI_clamp (by omega)]
    have go : (b = -1 ∨ ∃ k, k < nb (X 0) ∧ b = nI k) → Sim (some (1, va_up X 0 (va_up (X 0) 10 (upd (X 0 10) i b)))) (some (1, va_up μ 0 (upd (μ 0) (10 + i) b))) := fun hv => Sim.of (h.X0 ⟨by rw [dec_ws (by omega), h.d0], KI_spot h.ki hv⟩)
    by_cases d : b = -1
    · rw [if_pos d, if_pos d]; exact go (Or.inl d)
    · rw [if_neg d, if_neg d]
      by_cases z : 0 ≤ b.toInt ∧ b.toInt < nb (X 0)
      · simp only [if_pos z, ite10]
        exact go (Or.inr (has_nI hb8 z))
      · simp only [if_neg z, ite00]; exact find0 h
  · simp only [if_neg c, ite00]; exact find0 h
theorem isOfKind_ind (σ : K2) : ∀ n a b c, f_X0_isOfKind_L10 σ n a b c = f_X0_isOfKind_L10 (fun _ _ => 0) n a b c
  | 0, _, _, _ => rfl
  | n + 1, a, b, c => by rw [f_X0_isOfKind_L10, f_X0_isOfKind_L10, isOfKind_ind σ n]
theorem tbl_kind : ∀ k, k < 7 → ∀ w, w < 7 → f_X0_isOfKind_L10 (fun _ _ => 0) 1000 (nI w) (nI k) 0 = f_X4_isUnder (nI k) (nI w) ∧ ∃ v ∈ [(0 : Int32), 1], f_X4_isUnder (nI k) (nI w) = some v := by decide +kernel
theorem s_as (h : R X μ) (a b : Int32) : Sim (f_X3_as X a b) (f_X4_as μ a b) := by
  have hb8 := h.ki.1.2
  unfold f_X3_as f_X4_as
  simp only [within_X3, M_isSpot, M_isKind, bd_some]
  by_cases c : 0 ≤ a ∧ a ≤ 9
  · simp only [if_pos c, ite10]
    by_cases d : 0 ≤ b ∧ b ≤ 6
    · simp only [if_pos d, ite10]
      obtain ⟨i, hi, rfl⟩ := rng (n := 9) c rfl (by omega)
      obtain ⟨w, hw, rfl⟩ := rng (n := 6) d rfl (by omega)
      have e : (10 : Int32) + nI i = nI (10 + i) := nI_add 10 i
      have es : μ 0 (10 + i) = X 0 10 i := by rw [← h.d0, dec_s (by omega)]
      rw [e, if_pos (ix_nI (by omega) (by omega)), if_pos (ix_nI (by omega) (by omega)), nI_clamp (by omega), nI_clamp (by omega), es, X0_has h.ki, bd_some]
      rcases h.ki.2.2.2.2.1 i (by omega) with s | ⟨k, hk, s⟩
      · rw [s, if_neg (show ¬ (0 ≤ (-1 : Int32).toInt ∧ (-1 : Int32).toInt < (nb (X 0) : Int)) from fun z => absurd z.1 (by decide)), ite00, if_neg (by decide)]; exact find5 h
      · rw [s]
        have hh : 0 ≤ (nI k).toInt ∧ (nI k).toInt < nb (X 0) := by rw [nI_toInt (by omega)]; omega
        obtain ⟨q, hq, eq⟩ := (h.ki.2.2.2.2.2 k hk).1
        rw [if_pos hh, ite10, if_pos (nI_pos' (by omega)), M_b0 μ (by omega), bd_some, h.d0]
        unfold f_X0_isOfKind
        rw [if_pos (ix_nI (by omega) (by omega)), nI_clamp (by omega), eq, isOfKind_ind, (tbl_kind q (by omega) w (by omega)).1]
        obtain ⟨v, hv, ev⟩ := (tbl_kind q (by omega) w (by omega)).2
        rw [ev, bd_some, bd_some]
        by_cases z : v = 0
        · rw [if_pos z, if_pos z]; exact find2 h
        · rw [if_neg z, if_neg z]; exact Sim.of h
    · simp only [if_neg d, ite00]; exact find0 h
  · simp only [if_neg c, ite00]; exact find0 h
theorem s_image (h : R X μ) : Sim (f_X3_image X) (f_X4_image μ) := by
  have hz : Cz (X 0) := by rw [← h.d0]; exact dec_Cz _
  unfold f_X3_image f_X4_image
  rw [X0_become h.2.1.1 hz, M_copyRow2, bd_some, bd_some]
  obtain ⟨a1, a2, a3, a4, a5, a6⟩ := h
  refine Sim.of ⟨a1, ⟨hz, a2.2⟩, ?_, a4, a5, fun j hj => by rw [up_n (by omega), up_n (by omega)]; exact a6 j hj⟩
  refine ⟨rfl, Or.inr ⟨rfl, ?_⟩⟩
  refine ⟨?_, a1.2⟩
  show X 0 = dec (cpy92 (μ 0) (μ 1))
  rw [dec_cpy]; exact a1.1
theorem s_undo (h : R X μ) : Sim (f_X3_undo X) (f_X4_undo μ) := by
  have hz : Cz (X 0) := by rw [← h.d0]; exact dec_Cz _
  unfold f_X3_undo f_X4_undo
  rw [X0_become2 hz h.2.1.1, M_copyRow, bd_some, bd_some, h.2.2.1.1]
  rcases h.2.2.1.2 with e | ⟨e, k1, k2⟩
  · rw [if_pos e, if_pos e]; exact find3 h
  · rw [if_neg (by rw [e]; decide), if_neg (by rw [e]; decide)]
    refine Sim.of' ?_ (h.X0 ⟨by rw [dec_cpy]; exact k1, k2⟩)
    rw [k1, dec_0]
    unfold cpy92
    rw [if_pos (by omega)]
theorem s_tear (h : R X μ) : Sim (f_X3_tear X) (f_X4_tear μ) := by
  unfold f_X3_tear f_X4_tear
  rw [h.2.2.1.1]
  have hR : R (va_up X 8 (va_up (X 8) 1 (upd (X 8 1) 0 0))) (va_up μ 11 (upd (μ 11) 0 0)) := by
    obtain ⟨a1, a2, a3, a4, a5, a6⟩ := h
    exact ⟨a1, a2, ⟨rfl, Or.inl rfl⟩, a4, a5, fun j hj => by rw [up_n (by omega)]; exact a6 j hj⟩
  rcases h.2.2.1.2 with e | ⟨e, -⟩
  · rw [if_pos e, if_pos e]; exact Sim.of hR
  · rw [if_neg (by rw [e]; decide), if_neg (by rw [e]; decide)]; exact Sim.of hR
theorem s_count (h : R X μ) (a : Int32) : Sim (f_X3_count X a) (f_X4_count μ a) := by
  have s7 : f_X0_together (X 0) 7 = some (sumI (X 0 7) (nb (X 0))) := X0_together h.ki (w := 7) (by omega)
  have s8 : f_X0_together (X 0) 8 = some (sumI (X 0 8) (nb (X 0))) := X0_together h.ki (w := 8) (by omega)
  have m7 : f_X4_sumOf μ 7 = some (sumI (X 0 7) (nb (X 0))) := by have := M_sumOf h.kim (w := 7) (by omega); rw [h.d0] at this; exact this
  have m8 : f_X4_sumOf μ 8 = some (sumI (X 0 8) (nb (X 0))) := by have := M_sumOf h.kim (w := 8) (by omega); rw [h.d0] at this; exact this
  have mh : f_X4_count_L97 1000 μ 0 0 = some (heldS (X 0), μ) := by
    refine for_seq (fun n a i => f_X4_count_L97 n μ a i) (fun k => nI (cnt (fun i => decide (¬ X 0 10 i = -1)) k)) 10 _ ?_ ?_ 10 0 1000 (by omega) (by omega)
    · intro n i hi
      show f_X4_count_L97 (n + 1) _ _ _ = f_X4_count_L97 n _ _ _
      have e : (10 : Int32) + nI i = nI (10 + i) := nI_add 10 i
      have es : μ 0 (10 + i) = X 0 10 i := by rw [← h.d0, dec_s hi]
      rw [f_X4_count_L97, if_neg (g10 hi), e, if_pos (ix_nI (by omega) (by omega)), nI_clamp (by omega), es, nI_1, nI_1, add0, cnt]
      have hb8 := h.ki.1.2
      rcases h.ki.2.2.2.2.1 i hi with s | ⟨k, hk, s⟩
      · rw [s, if_neg (by decide)]; simp [s]
      · have : ¬ nI k = (-1 : Int32) := by
          intro z
          have := congrArg Int32.toInt z
          rw [nI_toInt (by omega)] at this
          have e1 : (-1 : Int32).toInt = -1 := rfl
          omega
        rw [s, if_pos (nI_pos' (by omega))]; simp [s, this]
    · intro n
      show f_X4_count_L97 (n + 1) _ _ _ = _
      rw [f_X4_count_L97, if_pos e10]
      rfl
  unfold f_X3_count f_X4_count
  rw [s7, s8, X0_spotsHeld, m7, m8, mh]
  simp only [bd_some]
  by_cases c0 : a = 0
  · rw [if_pos c0, if_pos c0]; exact Sim.of' (by rw [← h.d0, dec_0]) h
  · rw [if_neg c0, if_neg c0]
    by_cases c1 : a = 1
    · rw [if_pos c1, if_pos c1]; exact Sim.of' (by rw [← h.d0, dec_3]) h
    · rw [if_neg c1, if_neg c1]
      by_cases c2 : a = 2
      · rw [if_pos c2, if_pos c2]; exact Sim.of' (by rw [← h.d0, dec_1]) h
      · rw [if_neg c2, if_neg c2]
        by_cases c3 : a = 3
        · rw [if_pos c3, if_pos c3]; exact Sim.of h
        · rw [if_neg c3, if_neg c3]
          by_cases c4 : a = 4
          · rw [if_pos c4, if_pos c4]; exact Sim.of h
          · rw [if_neg c4, if_neg c4]
            by_cases c5 : a = 5
            · rw [if_pos c5, if_pos c5]; exact Sim.of' h.2.2.2.2.1.1.symm h
            · rw [if_neg c5, if_neg c5]
              by_cases c6 : a = 6
              · rw [if_pos c6, if_pos c6]; exact Sim.of' (by rw [← h.d0, dec_2]) h
              · rw [if_neg c6, if_neg c6]
                by_cases c7 : a = 7
                · rw [if_pos c7, if_pos c7]; exact Sim.of h
                · rw [if_neg c7, if_neg c7]; exact find0 h
theorem s_status (h : R X μ) (a : Int32) : Sim (f_X3_status X a) (f_X4_status μ a) := by
  have hF := h.2.2.2.1
  unfold f_X3_status f_X4_status
  simp only [within_X3, within_X4, bd_some]
  by_cases c : -1 ≤ a ∧ a ≤ 6
  · simp only [if_pos c, ite10]
    have c1 := c.1
    have c2 := c.2
    rw [i32_le] at c1 c2
    have e1 : (-1 : Int32).toInt = -1 := rfl
    have e6 : (6 : Int32).toInt = 6 := rfl
    have e0 : (0 : Int32).toInt = 0 := rfl
    by_cases d : a < 0
    · rw [if_pos d]
      rw [i32_lt] at d
      have ea : a = -1 := by rw [i32_eq]; omega
      subst ea
      have k0 : (-1 : Int32) + 1 = nI 0 := by decide
      have ks : f_X3_status_L31 1000 X 0 0 = some (sumI (X 8 0) 7, X) := by
        refine for_seq (fun n a i => f_X3_status_L31 n X a i) (sumI (X 8 0)) 7 _ ?_ ?_ 7 0 1000 (by omega) (by omega)
        · intro n i hi
          show f_X3_status_L31 (n + 1) _ _ _ = f_X3_status_L31 n _ _ _
          rw [f_X3_status_L31, if_neg (g7 hi), if_pos (ix_nI hi (by omega)), nI_clamp (by omega), nI_1]
          rfl
        · intro n
          show f_X3_status_L31 (n + 1) _ _ _ = _
          rw [f_X3_status_L31, if_pos e7]
      rw [ks, k0, if_pos (ix_nI (by omega) (by omega)), nI_clamp (by omega)]
      exact Sim.of' hF.2.symm h
    · rw [if_neg d]
      rw [i32_lt] at d
      obtain ⟨k, hk, rfl⟩ := nI_of_range (x := a) (n := 6) (by omega) (by omega) (by omega)
      rw [nI_1, if_pos (ix_nI (by omega) (by omega)), if_pos (ix_nI (by omega) (by omega)), nI_clamp (by omega), nI_clamp (by omega)]
      exact Sim.of' (hF.1 k (by omega)).symm h
  · simp only [if_neg c, ite00]; exact find0 h
theorem s_wipe (h : R X μ) : Sim (f_X3_wipe X) (f_X4_wipe μ) := by
  unfold f_X3_wipe f_X4_wipe
  obtain ⟨a1, a2, a3, a4, a5, a6⟩ := h
  refine Sim.of' a5.1.symm ⟨a1, a2, a3, a4, ⟨rfl, 0, by omega, rfl, fun i hi => by omega⟩, fun j hj => by rw [up_n (by omega)]; exact a6 j hj⟩
theorem s_issue (h : R X μ) (a : Int32) : Sim (f_X3_issue X a) (f_X4_issue μ a) := by
  have hb8 := h.ki.1.2
  unfold f_X3_issue f_X4_issue
  simp only [bd_some, X0_has h.ki, M_isBird h.kim]
  rw [h.d0]
  by_cases c : 0 ≤ a.toInt ∧ a.toInt < nb (X 0)
  · simp only [if_pos c, ite10]
    obtain ⟨i, hi, rfl⟩ := has_nI hb8 c
    rw [X0_issueSet h.ki hi, bd_some]
    have hn : μ 0 1 = nI (nb (X 0)) := by rw [n1 h.kim, h.d0]
    have key : ∀ m k n, k + m = nb (X 0) - (i + 1) → m < n → f_X4_issue_L23 n μ (isS (X 0) i k) (nI (i + 1 + k)) = some (isS (X 0) i (nb (X 0) - (i + 1)), μ) := by
      intro m
      induction m with
      | zero =>
        intro k n h1 h2
        obtain ⟨n, rfl⟩ : ∃ z, n = z + 1 := ⟨n - 1, by omega⟩
        rw [f_X4_issue_L23, hn, if_pos (nI_le (by omega) (by omega)), show k = nb (X 0) - (i + 1) by omega]
      | succ m ih =>
        intro k n h1 h2
        obtain ⟨n, rfl⟩ : ∃ z, n = z + 1 := ⟨n - 1, by omega⟩
        have := ih (k + 1) n (by omega) (by omega)
        rw [f_X4_issue_L23, hn, if_neg (nI_ge (by omega) (by omega)), M_b2 μ (by omega), bd_some, nI_1, h.d0, or0]
        rw [isS, ← Nat.add_assoc] at this
        by_cases e : X 0 2 (i + 1 + k) < 0
        · rw [if_pos e]
          rw [if_neg (fun z => z.1 e)] at this
          exact this
        · rw [if_neg e]
          by_cases e2 : (isS (X 0) i k >>> (X 0 2 (i + 1 + k) &&& 31)) &&& 1 = 1
          · rw [if_pos e2]
            rw [if_pos ⟨e, e2⟩] at this
            exact this
          · rw [if_neg e2]
            rw [if_neg (fun z => e2 z.2)] at this
            exact this
    have := key (nb (X 0) - (i + 1)) 0 1000 (by omega) (by omega)
    rw [nI_1]
    exact ⟨_, _, _, rfl, this, h⟩
  · simp only [if_neg c, ite00]; exact find0 h
theorem s_deny (h : R X μ) (a : Int32) : Sim (f_X3_deny X a) (f_X4_deny μ a) := by
  have hb8 := h.ki.1.2
  unfold f_X3_deny f_X4_deny
  simp only [bd_some, X0_has h.ki, M_isBird h.kim]
  rw [h.d0]
  by_cases c : 0 ≤ a.toInt ∧ a.toInt < nb (X 0)
  · simp only [if_pos c, ite10]
    obtain ⟨i, hi, rfl⟩ := has_nI hb8 c
    rw [X0_carriersAbove h.ki hi, bd_some]
    have hB := h.ki.2.2.2.2.2
    have key : ∀ m k n s t, k < m → k < nb (X 0) → k + 1 < n → t + k < 8 → f_X4_deny_L19 n μ s (nI k) = some (chainS (X 0) (8 - t) s k, μ) := by
      intro m
      induction m with
      | zero => intro k n s t h; omega
      | succ m ih =>
        intro k n s t h1 h2 h3 h4
        obtain ⟨n, rfl⟩ : ∃ z, n = z + 1 := ⟨n - 1, by omega⟩
        obtain ⟨u, hu⟩ : ∃ z, 8 - t = z + 1 := ⟨7 - t, by omega⟩
        have es : s ||| (X 0 4 k <<< (nI k &&& 31)) = if X 0 4 k = 1 then s ||| (1 <<< (nI k &&& 31)) else s := by
          rcases (hB k h2).2.2.2.2.1 with e | e
          · rw [e, if_neg (by decide)]
            have : (0 : Int32) <<< (nI k &&& 31) = 0 := by
              apply b_ext
              intro j hj
              rw [b_shl k (by omega) 0 hj, b_0, b_0, Bool.and_false]
            rw [this, or0]
          · rw [e, if_pos rfl]
        rw [hu, f_X4_deny_L19, if_neg (nI_pos (by omega)), M_b4 μ (by omega), bd_some, M_b2 μ (by omega), bd_some, h.d0, es, chainS]
        generalize (if X 0 4 k = 1 then s ||| (1 <<< (nI k &&& 31)) else s) = s'
        rcases (hB k h2).2.2.1 with e | ⟨j, hj, e⟩
        · rw [e, if_pos (by decide)]
          obtain ⟨n, rfl⟩ : ∃ z, n = z + 1 := ⟨n - 1, by omega⟩
          rw [f_X4_deny_L19, if_pos (by decide)]
        · rw [e, if_neg (nI_pos (by omega)), nI_clamp (by omega), show u = 8 - (t + 1) by omega]
          exact ih j n s' (t + 1) (by omega) (by omega) (by omega) (by omega)
    have := key (i + 1) i 1000 0 0 (by omega) hi (by omega) (by omega)
    exact ⟨_, _, _, rfl, this, h⟩
  · simp only [if_neg c, ite00]; exact find0 h

theorem chg_allows {i w : Nat} (hi : i < 8) (hw : w ≤ 8) (v : Int32) : ∃ q : Int32, f_X0_allows (nI i) (nI w) v = some q ∧ f_X4_isField (nI i) (nI w) v = some q ∧ (q = 0 ∨ (q = 1 ∧ okV i w v)) := by
  have b2 : ∀ c : Prop, ∀ _ : Decidable c, (Option.bind (some (if c then (1 : Int32) else 0)) (fun q => if q = 0 ∨ q = 1 then some q else none)) = some (if c then 1 else 0) := fun c _ => by rw [bd_some, if_pos b01]
  have hix : ix (nI w) 9 := ix_nI (by omega) (by omega)
  have fin : ∀ (c : Prop) (_ : Decidable c), (c → okV i w v) → ((if c then (1 : Int32) else 0) = 0 ∨ ((if c then (1 : Int32) else 0) = 1 ∧ okV i w v)) := by
    intro c _ hc
    by_cases z : c
    · rw [if_pos z]; exact Or.inr ⟨rfl, hc z⟩
    · rw [if_neg z]; exact Or.inl rfl
  unfold f_X0_allows f_X4_isField
  simp only [within_X3, within_X4, M_isKind, M_isLoft, b2]
  rw [if_pos hix, nI_clamp (by omega)]
  match w, hw with
  | 0, _ =>
    refine ⟨if 0 ≤ v ∧ v ≤ 6 then 1 else 0, ?_, ?_, fin _ _ (fun z => by unfold okV; rw [if_neg (by decide)]; exact z)⟩
    · rw [if_neg (by decide)]; rfl
    · rw [if_pos (by decide)]
  | 1, _ =>
    refine ⟨if 0 ≤ v ∧ v ≤ 5 then 1 else 0, ?_, ?_, fin _ _ (fun z => by unfold okV; rw [if_neg (by decide)]; exact z)⟩
    · rw [if_neg (by decide)]; rfl
    · rw [if_neg (by decide), if_pos (by decide)]
  | 2, _ =>
    refine ⟨if -1 ≤ v ∧ v ≤ nI i - 1 then 1 else 0, ?_, ?_, fin _ _ (fun z => by unfold okV; rw [if_pos rfl]; exact z)⟩
    · rw [if_pos (by decide)]
    · rw [if_neg (by decide), if_neg (by decide), if_pos (by decide)]
  | 3, _ =>
    refine ⟨if 0 ≤ v ∧ v ≤ 9999 then 1 else 0, ?_, ?_, fin _ _ (fun z => by unfold okV; rw [if_neg (by decide)]; exact z)⟩
    · rw [if_neg (by decide)]; rfl
    · rw [if_neg (by decide), if_neg (by decide), if_neg (by decide), if_pos (by decide)]
  | 4, _ =>
    refine ⟨if 0 ≤ v ∧ v ≤ 1 then 1 else 0, ?_, ?_, fin _ _ (fun z => by unfold okV; rw [if_neg (by decide)]; exact z)⟩
    · rw [if_neg (by decide)]; rfl
    · rw [if_neg (by decide), if_neg (by decide), if_neg (by decide), if_neg (by decide), if_pos (by decide)]
  | 5, _ =>
    refine ⟨if 0 ≤ v ∧ v ≤ 1 then 1 else 0, ?_, ?_, fin _ _ (fun z => by unfold okV; rw [if_neg (by decide)]; exact z)⟩
    · rw [if_neg (by decide)]; rfl
    · rw [if_neg (by decide), if_neg (by decide), if_neg (by decide), if_neg (by decide), if_neg (by decide), if_pos (by decide)]
  | 6, _ =>
    refine ⟨if 0 ≤ v ∧ v ≤ 1 then 1 else 0, ?_, ?_, fin _ _ (fun z => by unfold okV; rw [if_neg (by decide)]; exact z)⟩
    · rw [if_neg (by decide)]; rfl
    · rw [if_neg (by decide), if_neg (by decide), if_neg (by decide), if_neg (by decide), if_neg (by decide), if_neg (by decide), if_pos (by decide)]
  | 7, _ =>
    refine ⟨if 0 ≤ v ∧ v ≤ 9999 then 1 else 0, ?_, ?_, fin _ _ (fun z => by unfold okV; rw [if_neg (by decide)]; exact z)⟩
    · rw [if_neg (by decide)]; rfl
    · rw [if_neg (by decide), if_neg (by decide), if_neg (by decide), if_neg (by decide), if_neg (by decide), if_neg (by decide), if_neg (by decide), if_pos (by decide)]
  | 8, _ =>
    refine ⟨if 0 ≤ v ∧ v ≤ 9999 then 1 else 0, ?_, ?_, fin _ _ (fun z => by unfold okV; rw [if_neg (by decide)]; exact z)⟩
    · rw [if_neg (by decide)]; rfl
    · rw [if_neg (by decide), if_neg (by decide), if_neg (by decide), if_neg (by decide), if_neg (by decide), if_neg (by decide), if_neg (by decide), if_neg (by decide), if_pos (by decide)]
theorem s_change (h : R X μ) (a b v : Int32) : Sim (f_X3_change X a b v) (f_X4_change μ a b v) := by
  have hb8 := h.ki.1.2
  unfold f_X3_change f_X4_change
  simp only [within_X3, bd_some, X0_has h.ki, M_isBird h.kim]
  rw [h.d0]
  by_cases c : 0 ≤ a.toInt ∧ a.toInt < nb (X 0)
  · simp only [if_pos c, ite10]
    obtain ⟨i, hi, rfl⟩ := has_nI hb8 c
    by_cases d : 0 ≤ b ∧ b ≤ 8
    · simp only [if_pos d, ite10]
      obtain ⟨w, hw, rfl⟩ := rng (n := 8) d rfl (by omega)
      obtain ⟨q, e1, e2, e3⟩ := chg_allows (i := i) (w := w) (by omega) hw v
      rw [e1, e2, bd_some, bd_some]
      rcases e3 with e | ⟨e, ok⟩
      · rw [if_pos e, if_pos e]; exact find0 h
      · have e0 : ¬ q = 0 := by rw [e]; decide
        rw [if_neg e0, if_neg e0, M_birdAt, bd_some, if_pos (ix_nI (by omega) (by omega)), if_pos (ix_nI (by omega) (by omega)), nI_clamp (by omega), nI_clamp (by omega)]
        unfold f_X4_become
        rw [if_pos (ix_nI (by omega) (by omega)), nI_clamp (by omega), bd_some]
        refine Sim.of' (by rw [← h.d0, dec_t (by omega) (by omega)]) (h.X0 ⟨by rw [dec_w (by omega) (by omega), h.d0], ?_⟩)
        unfold okV at ok
        match w, hw, ok with
        | 0, _, ok => rw [if_neg (by decide)] at ok; exact KI_t0 h.ki (rng (n := 6) ok rfl (by omega))
        | 1, _, ok => rw [if_neg (by decide)] at ok; exact KI_t1 h.ki (rng (n := 5) ok rfl (by omega))
        | 2, _, ok => rw [if_pos rfl] at ok; exact KI_t2 h.ki (par_rng (by omega) ok)
        | 3, _, ok => rw [if_neg (by decide)] at ok; exact KI_t3 h.ki (rng (n := 9999) ok rfl (by omega))
        | 4, _, ok => rw [if_neg (by decide)] at ok; exact KI_t4 h.ki (bit_rng ok)
        | 5, _, ok => rw [if_neg (by decide)] at ok; exact KI_t5 h.ki (bit_rng ok)
        | 6, _, ok => rw [if_neg (by decide)] at ok; exact KI_t6 h.ki (bit_rng ok)
        | 7, _, ok => rw [if_neg (by decide)] at ok; exact KI_t7 h.ki (rng (n := 9999) ok rfl (by omega))
        | 8, _, ok => rw [if_neg (by decide)] at ok; exact KI_t8 h.ki (rng (n := 9999) ok rfl (by omega))
    · simp only [if_neg d, ite00]
      have e : f_X4_isField (nI i) b v = some 0 := by
        unfold f_X4_isField
        have hne : ∀ k : Nat, k ≤ 8 → ¬ b = nI k := by
          intro k hk z
          apply d
          subst z
          exact ⟨nI_pos' (by omega), nI_le (b := 8) hk (by omega)⟩
        rw [if_neg (show ¬ b = (0 : Int32) from hne 0 (by omega)), if_neg (show ¬ b = (1 : Int32) from hne 1 (by omega)), if_neg (show ¬ b = (2 : Int32) from hne 2 (by omega)), if_neg (show ¬ b = (3 : Int32) from hne 3 (by omega)), if_neg (show ¬ b = (4 : Int32) from hne 4 (by omega)), if_neg (show ¬ b = (5 : Int32) from hne 5 (by omega)), if_neg (show ¬ b = (6 : Int32) from hne 6 (by omega)), if_neg (show ¬ b = (7 : Int32) from hne 7 (by omega)), if_neg (show ¬ b = (8 : Int32) from hne 8 (by omega))]
      rw [e, bd_some, ite00]
      exact find0 h
  · simp only [if_neg c, ite00]; exact find0 h
end OPS
