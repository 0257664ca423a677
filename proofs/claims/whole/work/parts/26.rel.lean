/-! ===== pure: how the class's state and the reference's hang together ===== -/
def RK (σ : K2) (n : Nat → Int32) : Prop := σ = dec n ∧ KI σ
def RI (kx : Int32) (κ : K2) (km : Int32) (n : Nat → Int32) : Prop := km = kx ∧ (kx = 0 ∨ (kx = 1 ∧ RK κ n))
def RF (f g : Nat → Int32) : Prop := (∀ i, i < 7 → g (i + 1) = f i) ∧ g 0 = sumI f 7
def RT (lx : Int32) (bx : Nat → Int32) (lm : Int32) (bm : Nat → Int32) : Prop := lm = lx ∧ ∃ n, n ≤ 120 ∧ lx = nI n ∧ ∀ i, i < n → bm i = bx i ∧ ∃ b, b < 256 ∧ bx i = nI b
def RS (s : K2) (w z : Int32) (g : Nat → Int32) : Prop := w = s 1 0 ∧ z = s 1 1 ∧ (s 1 0 = 0 ∨ s 1 0 = 8 ∨ s 1 0 = 16 ∨ s 1 0 = 32) ∧ (∃ n, n ≤ 40 ∧ s 1 1 = nI n) ∧ ∀ i, i < 40 → g i = s 0 i
def R (X : K3) (μ : K2) : Prop := RK (X 0) (μ 0) ∧ (Cz (X 1) ∧ Cz (X 2)) ∧ RI (X 8 1 0) (X 1) (μ 11 0) (μ 1) ∧ RF (X 8 0) (μ 3) ∧ RT (X 3 1 0) (X 3 0) (μ 11 1) (μ 5) ∧ ∀ j, j < 4 → RS (X (4 + j)) (μ 7 j) (μ 8 j) (fun i => μ 9 (40 * j + i))
def Sim (rx : Option (Int32 × K3)) (rm : Option (Int32 × K2)) : Prop := ∃ r X' μ', rx = some (r, X') ∧ rm = some (r, μ') ∧ R X' μ'
theorem Sim.of {r : Int32} {X : K3} {μ : K2} (h : R X μ) : Sim (some (r, X)) (some (r, μ)) := ⟨r, X, μ, rfl, rfl, h⟩
theorem Sim.of' {r r' : Int32} {X : K3} {μ : K2} (e : r = r') (h : R X μ) : Sim (some (r, X)) (some (r', μ)) := by subst e; exact Sim.of h
theorem R.X2 {X : K3} {μ : K2} (h : R X μ) {τ : K2} (hτ : Cz τ) : R (va_up X 2 τ) μ := by
  obtain ⟨h1, h2, h3, h4, h5, h6⟩ := h
  exact ⟨h1, ⟨h2.1, hτ⟩, h3, h4, h5, fun j hj => by rw [up_n (by omega)]; exact h6 j hj⟩
theorem R.X0 {X : K3} {μ : K2} (h : R X μ) {σ : K2} {n : Nat → Int32} (hk : RK σ n) : R (va_up X 0 σ) (va_up μ 0 n) := by
  obtain ⟨h1, h2, h3, h4, h5, h6⟩ := h
  exact ⟨hk, h2, h3, h4, h5, fun j hj => by rw [up_n (by omega)]; exact h6 j hj⟩
/-- only the reference's own changes: the row put back, what is aside -/
theorem R.mu {X : K3} {μ μ' : K2} (h : R X μ) (h0 : dec (μ' 0) = dec (μ 0)) (h1 : μ' 1 = μ 1) (h3 : μ' 3 = μ 3) (h5 : μ' 5 = μ 5) (h7 : μ' 7 = μ 7) (h8 : μ' 8 = μ 8) (h9 : μ' 9 = μ 9) (ha : μ' 11 0 = μ 11 0) (hb : μ' 11 1 = μ 11 1) : R X μ' := by
  obtain ⟨a1, a2, a3, a4, a5, a6⟩ := h
  refine ⟨⟨by rw [h0]; exact a1.1, a1.2⟩, a2, ?_, ?_, ?_, ?_⟩
  · rw [ha, h1]; exact a3
  · rw [h3]; exact a4
  · rw [hb, h5]; exact a5
  · rw [h7, h8, h9]; exact a6
theorem R.mst {X : K3} {μ : K2} (h : R X μ) {σ a : K2} (hm : Mst μ σ a) (hσ : KI σ) : R (va_up X 0 σ) a := by
  obtain ⟨n, rfl, e⟩ := hm
  exact h.X0 ⟨e.symm, hσ⟩
/-! findings -/
theorem sumI_upd {f : Nat → Int32} {k : Nat} : ∀ {n : Nat}, k < n → sumI (upd f k (f k + 1)) n = sumI f n + 1
  | 0, h => by omega
  | n + 1, h => by
    rw [sumI, sumI]
    by_cases e : k = n
    · subst e
      rw [upd_s, sumI_congr (h := f) (fun i hi => upd_n (by omega)), Int32.add_assoc]
    · rw [upd_n (by omega), sumI_upd (by omega), Int32.add_assoc, Int32.add_comm 1, ← Int32.add_assoc]
theorem R_find {X : K3} {μ : K2} (h : R X μ) {k : Nat} (hk : k < 7) : R (va_up X 8 (va_up (X 8) 0 (upd (X 8 0) k (X 8 0 k + 1)))) (va_up μ 3 (upd (upd (μ 3) (k + 1) (μ 3 (k + 1) + 1)) 0 (upd (μ 3) (k + 1) (μ 3 (k + 1) + 1) 0 + 1))) := by
  obtain ⟨a1, a2, a3, ⟨b1, b2⟩, a5, a6⟩ := h
  refine ⟨a1, a2, a3, ⟨fun i hi => ?_, ?_⟩, a5, fun j hj => by rw [up_n (by omega)]; exact a6 j hj⟩
  · show upd (upd (μ 3) (k + 1) (μ 3 (k + 1) + 1)) 0 (upd (μ 3) (k + 1) (μ 3 (k + 1) + 1) 0 + 1) (i + 1) = upd (X 8 0) k (X 8 0 k + 1) i
    rw [upd_n (by omega)]
    by_cases e : i = k
    · subst e; rw [upd_s, upd_s, b1 i hi]
    · rw [upd_n (by omega), upd_n e, b1 i hi]
  · show upd (upd (μ 3) (k + 1) (μ 3 (k + 1) + 1)) 0 (upd (μ 3) (k + 1) (μ 3 (k + 1) + 1) 0 + 1) 0 = sumI (upd (X 8 0) k (X 8 0 k + 1)) 7
    rw [upd_s, upd_n (by omega), sumI_upd hk, b2]
def fX (X : K3) (k : Int32) : Option (Int32 × K3) := Option.bind (f_X3_finding X k) (fun q => some (q.1, q.2))
def fM (μ : K2) (k : Int32) : Option (Int32 × K2) := Option.bind (f_X4_finding μ k) (fun q => some (q.1, q.2))
theorem find_gen {X : K3} {μ : K2} (h : R X μ) {k : Nat} (hk : k < 7) {y : Int32} (hy : (-1000001) - nI k = y) (hz : ((-1000001) - y) + 1 = nI (k + 1)) : Sim (fX X (nI k)) (fM μ y) := by
  unfold fX fM f_X3_finding f_X4_finding
  rw [hz, if_pos (ix_nI hk (by omega)), if_pos (ix_nI (by omega) (by omega)), nI_clamp (by omega), nI_clamp (by omega), hy]
  exact Sim.of (R_find h hk)
theorem find0 {X : K3} {μ : K2} (h : R X μ) : Sim (Option.bind (f_X3_finding X 0) (fun q => some (q.1, q.2))) (Option.bind (f_X4_finding μ (-1000001)) (fun q => some (q.1, q.2))) := find_gen h (k := 0) (by omega) (by decide) (by decide)
theorem find1 {X : K3} {μ : K2} (h : R X μ) : Sim (Option.bind (f_X3_finding X 1) (fun q => some (q.1, q.2))) (Option.bind (f_X4_finding μ (-1000002)) (fun q => some (q.1, q.2))) := find_gen h (k := 1) (by omega) (by decide) (by decide)
theorem find2 {X : K3} {μ : K2} (h : R X μ) : Sim (Option.bind (f_X3_finding X 2) (fun q => some (q.1, q.2))) (Option.bind (f_X4_finding μ (-1000003)) (fun q => some (q.1, q.2))) := find_gen h (k := 2) (by omega) (by decide) (by decide)
theorem find3 {X : K3} {μ : K2} (h : R X μ) : Sim (Option.bind (f_X3_finding X 3) (fun q => some (q.1, q.2))) (Option.bind (f_X4_finding μ (-1000004)) (fun q => some (q.1, q.2))) := find_gen h (k := 3) (by omega) (by decide) (by decide)
theorem find4 {X : K3} {μ : K2} (h : R X μ) : Sim (Option.bind (f_X3_finding X 4) (fun q => some (q.1, q.2))) (Option.bind (f_X4_finding μ (-1000005)) (fun q => some (q.1, q.2))) := find_gen h (k := 4) (by omega) (by decide) (by decide)
theorem find5 {X : K3} {μ : K2} (h : R X μ) : Sim (Option.bind (f_X3_finding X 5) (fun q => some (q.1, q.2))) (Option.bind (f_X4_finding μ (-1000006)) (fun q => some (q.1, q.2))) := find_gen h (k := 5) (by omega) (by decide) (by decide)
theorem find6 {X : K3} {μ : K2} (h : R X μ) : Sim (Option.bind (f_X3_finding X 6) (fun q => some (q.1, q.2))) (Option.bind (f_X4_finding μ (-1000007)) (fun q => some (q.1, q.2))) := find_gen h (k := 6) (by omega) (by decide) (by decide)
/-! questions that both ask -/
theorem ite10 {α : Type} {a b : α} : (if (1 : Int32) = 0 then a else b) = b := rfl
theorem ite00 {α : Type} {a b : α} : (if (0 : Int32) = 0 then a else b) = a := rfl
theorem b01 {c : Prop} [Decidable c] : ((if c then (1 : Int32) else 0) = 0 ∨ (if c then (1 : Int32) else 0) = 1) := by by_cases h : c <;> simp [h]
theorem M_isPlace (a : Int32) : f_X4_isPlace a = some (if 0 ≤ a ∧ a ≤ 5 then 1 else 0) := by unfold f_X4_isPlace; rw [within_X4, bd_some, if_pos b01]
theorem M_isHarvest (a : Int32) : f_X4_isHarvest a = some (if 0 ≤ a ∧ a ≤ 99 then 1 else 0) := by unfold f_X4_isHarvest; rw [within_X4, bd_some, if_pos b01]
theorem M_isKind (a : Int32) : f_X4_isKind a = some (if 0 ≤ a ∧ a ≤ 6 then 1 else 0) := by unfold f_X4_isKind; rw [within_X4, bd_some, if_pos b01]
theorem M_isLoft (a : Int32) : f_X4_isLoft a = some (if 0 ≤ a ∧ a ≤ 5 then 1 else 0) := by unfold f_X4_isLoft; rw [within_X4, bd_some, if_pos b01]
theorem M_isSpot (a : Int32) : f_X4_isSpot a = some (if 0 ≤ a ∧ a ≤ 9 then 1 else 0) := by unfold f_X4_isSpot; rw [within_X4, bd_some, if_pos b01]
theorem M_isSheet (a : Int32) : f_X4_isSheet a = some (if 0 ≤ a ∧ a ≤ 3 then 1 else 0) := by unfold f_X4_isSheet; rw [within_X4, bd_some, if_pos b01]
theorem M_isThought (a : Int32) : f_X4_isThought a = some (if 0 ≤ a ∧ a ≤ 60 then 1 else 0) := by unfold f_X4_isThought; rw [within_X4, bd_some, if_pos b01]
theorem rng {a M : Int32} {n : Nat} (h : 0 ≤ a ∧ a ≤ M) (hM : M.toInt = n) (hn : n < 2 ^ 31) : ∃ i, i ≤ n ∧ a = nI i := by
  obtain ⟨h1, h2⟩ := h
  rw [i32_le] at h1 h2
  have e0 : (0 : Int32).toInt = 0 := rfl
  exact nI_of_range (by omega) (by omega) hn
/-- is there such a bird: asked by both -/
def hasB (σ : K2) (a : Int32) : Prop := 0 ≤ a.toInt ∧ a.toInt < nb σ
theorem M_isBird {μ : K2} (h : KI (dec (μ 0))) (a : Int32) : f_X4_isBird μ a = some (if 0 ≤ a.toInt ∧ a.toInt < nb (dec (μ 0)) then 1 else 0) := by
  have hb8 := h.1.2
  unfold f_X4_isBird
  rw [n1 h, within_X4, bd_some, if_pos b01]
  congr 1
  have e0 : (0 : Int32).toInt = 0 := rfl
  have e1 : (nI (nb (dec (μ 0))) - 1).toInt = (nb (dec (μ 0)) : Int) - 1 := pk_sub_toInt (b := 1) (by omega) (by omega)
  by_cases c : 0 ≤ a.toInt ∧ a.toInt < nb (dec (μ 0))
  · rw [if_pos c, if_pos]
    rw [i32_le, i32_le, e1]; omega
  · rw [if_neg c, if_neg]
    rw [i32_le, i32_le, e1]; omega
theorem has_nI {σ : K2} (hb : nb σ ≤ 8) {a : Int32} (c : 0 ≤ a.toInt ∧ a.toInt < nb σ) : ∃ i, i < nb σ ∧ a = nI i := by
  obtain ⟨i, hi, e⟩ := nI_of_range (x := a) (n := nb σ - 1) c.1 (by omega) (by omega)
  exact ⟨i, by omega, e⟩
section OPS
variable {X : K3} {μ : K2}
theorem R.d0 (h : R X μ) : dec (μ 0) = X 0 := h.1.1.symm
theorem R.ki (h : R X μ) : KI (X 0) := h.1.2
theorem R.kim (h : R X μ) : KI (dec (μ 0)) := by rw [h.d0]; exact h.1.2
theorem s_harvest (h : R X μ) (a b : Int32) : Sim (f_X3_harvest X a b) (f_X4_harvest μ a b) := by
  unfold f_X3_harvest f_X4_harvest
  simp only [within_X3, M_isPlace, M_isHarvest, bd_some]
  by_cases c : 0 ≤ a ∧ a ≤ 5
  · simp only [if_pos c, ite10]
    by_cases d : 0 ≤ b ∧ b ≤ 99
    · simp only [if_pos d, ite10]
      obtain ⟨i, hi, rfl⟩ := rng (n := 5) c rfl (by omega)
      have e : (4 : Int32) + nI i = nI (4 + i) := nI_add 4 i
      unfold f_X4_become
      rw [e, if_pos (ix_nI (by omega) (by omega)), if_pos (ix_nI (by omega) (by omega)), nI_clamp (by omega), nI_clamp (by omega), bd_some]
      refine Sim.of' (by rw [← h.d0, dec_l (by omega)]) (h.X0 ⟨by rw [dec_wl (by omega), h.d0], ?_⟩)
      obtain ⟨k1, k2, k3, k4, k5, k6⟩ := h.ki
      refine ⟨k1, k2, k3, fun j hj => ?_, k5, k6⟩
      show ∃ v, v ≤ 99 ∧ upd (X 0 9) i b j = nI v
      by_cases e : j = i
      · subst e; rw [upd_s]; exact rng (n := 99) d rfl (by omega)
      · rw [upd_n e]; exact k4 j hj
    · simp only [if_neg d, ite00]; exact find0 h
  · simp only [if_neg c, ite00]; exact find0 h
theorem s_listed (h : R X μ) (a : Int32) : Sim (f_X3_listed X a) (f_X4_listed μ a) := by
  unfold f_X3_listed f_X4_listed
  simp only [within_X3, M_isPlace, bd_some]
  by_cases c : 0 ≤ a ∧ a ≤ 5
  · simp only [if_pos c, ite10]
    obtain ⟨i, hi, rfl⟩ := rng (n := 5) c rfl (by omega)
    have e : (4 : Int32) + nI i = nI (4 + i) := nI_add 4 i
    rw [e, if_pos (ix_nI (by omega) (by omega)), if_pos (ix_nI (by omega) (by omega)), nI_clamp (by omega), nI_clamp (by omega)]
    exact Sim.of' (by rw [← h.d0, dec_l (by omega)]) h
  · simp only [if_neg c, ite00]; exact find0 h
theorem s_corn (h : R X μ) (a : Int32) : Sim (f_X3_corn X a) (f_X4_corn μ a) := by
  unfold f_X3_corn f_X4_corn
  simp only [within_X3, within_X4, bd_some]
  by_cases c : 0 ≤ a ∧ a ≤ 99999
  · simp only [if_pos c, ite10]
    unfold f_X4_become
    have e : ix (3 : Int32) 92 := ix_nI (i := 3) (by omega) (by omega)
    rw [if_pos e, bd_some]
    refine Sim.of' (by rw [← h.d0, dec_1]; rfl) (h.X0 (n := upd (μ 0) 3 a) ⟨by rw [dec_w3, h.d0], KI_corn h.ki ?_⟩)
    exact rng (n := 99999) c rfl (by omega)
  · simp only [if_neg c, ite00]; exact find0 h
theorem s_seed (h : R X μ) (a : Int32) : Sim (f_X3_seed X a) (f_X4_seed μ a) := by
  unfold f_X3_seed f_X4_seed f_X4_become
  have e : ix (2 : Int32) 92 := ix_nI (i := 2) (by omega) (by omega)
  rw [if_pos e, bd_some]
  refine Sim.of' (by rw [← h.d0, dec_2]; rfl) (h.X0 (n := upd (μ 0) 2 a) ⟨by rw [dec_w2, h.d0], ?_⟩)
  obtain ⟨k1, k2, k3, k4, k5, k6⟩ := h.ki
  exact ⟨k1, k2, k3, k4, k5, k6⟩
theorem s_of (h : R X μ) (a b : Int32) : Sim (f_X3_of X a b) (f_X4_of μ a b) := by
  have hb8 := h.ki.1.2
  unfold f_X3_of f_X4_of
  simp only [within_X3, within_X4, X0_has h.ki, M_isBird h.kim, bd_some]
  rw [h.d0]
  by_cases c : 0 ≤ a.toInt ∧ a.toInt < nb (X 0)
  · simp only [if_pos c, ite10]
    by_cases d : 0 ≤ b ∧ b ≤ 13
    · simp only [if_pos d, ite10]
      obtain ⟨i, hi, rfl⟩ := has_nI hb8 c
      obtain ⟨w, hw, rfl⟩ := rng (n := 13) d rfl (by omega)
      have e := M_told h.kim (i := i) (w := w) (by rw [h.d0]; exact hi) hw
      rw [X0_tell h.ki hi hw, e, bd_some, bd_some, h.d0]
      exact Sim.of h
    · simp only [if_neg d, ite00]; exact find0 h
  · simp only [if_neg c, ite00]; exact find0 h
theorem s_loft (h : R X μ) (a : Int32) : Sim (f_X3_loft X a) (f_X4_loft μ a) := by
  unfold f_X3_loft f_X4_loft
  simp only [within_X3, M_isLoft, bd_some]
  by_cases c : 0 ≤ a ∧ a ≤ 5
  · simp only [if_pos c, ite10]
    rw [X0_loftSet h.ki, M_inLoft h.kim, bd_some, bd_some, h.d0]
    exact Sim.of h
  · simp only [if_neg c, ite00]; exact find0 h
end OPS
