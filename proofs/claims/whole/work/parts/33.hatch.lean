/-! ===== pure: hatchings, odds ===== -/
theorem ushr8 (v : Int32) : ∃ z, z < 2 ^ 24 ∧ iushr v 8 = nI z := by
  refine ⟨v.toBitVec.toNat >>> 8, ?_, ?_⟩
  · have := v.toBitVec.isLt
    rw [Nat.shiftRight_eq_div_pow]
    omega
  · apply b_ext
    intro i hi
    have h1 : bt (iushr v 8) i = bt v (8 + i) := b_ushr 8 (by omega) v i
    rw [h1, bt_nI hi, Nat.testBit_shiftRight]
    rfl
theorem KI_chance {σ : K2} (h : KI σ) {v : Int32} : KI (va_up σ 11 (upd (σ 11) 2 v)) := by
  obtain ⟨k1, k2, k3, k4, k5, k6⟩ := h
  exact ⟨k1, k2, k3, k4, k5, k6⟩
def nxt (v : Int32) : Int32 := v * 1103515245 + 12345
/-- what a draw does to both -/
theorem draw_both {σ : K2} {n : Nat → Int32} (hk : RK σ n) (μ : K2) : ∃ z, z < 2 ^ 24 ∧ f_X0_drawOfChance σ = some (nI z, va_up σ 11 (upd (σ 11) 2 (nxt (n 2)))) ∧ f_X4_drawn (va_up μ 0 n) = some (nI z, va_up μ 0 (upd n 2 (nxt (n 2)))) ∧ RK (va_up σ 11 (upd (σ 11) 2 (nxt (n 2)))) (upd n 2 (nxt (n 2))) := by
  obtain ⟨e, hK⟩ := hk
  obtain ⟨z, hz, ez⟩ := ushr8 (nxt (n 2))
  have e2 : σ 11 2 = n 2 := by rw [e, dec_2]
  refine ⟨z, hz, ?_, ?_, by rw [dec_w2, ← e], KI_chance hK⟩
  · unfold f_X0_drawOfChance
    rw [e2]
    exact congrArg (fun q => some (q, va_up σ 11 (upd (σ 11) 2 (nxt (n 2))))) ez
  · unfold f_X4_drawn
    rw [up_s, upd_s, bx_uu]
    exact congrArg (fun q => some (q, va_up μ 0 (upd n 2 (nxt (n 2))))) ez
theorem hatch_step (X : K3) (μ : K2) {σ : K2} {n : Nat → Int32} (hk : RK σ n) {p : Nat → Bool} (hp : ∀ i, line σ i = p i) {k b : Nat} (hb : nb σ = b) (a x : Int32) (hx : ¬ a ≤ x) (n1 n2 : Nat) :
    ∃ σ' n', RK σ' n' ∧ (∀ i, line σ' i = p i) ∧ nb σ' = b ∧ f_X3_hatchings_L46 (n1 + 1) (va_up X 0 σ) a (setOf p b) x = f_X3_hatchings_L46 n1 (va_up X 0 σ') a (setOf p b) (x + 1) ∧ f_X4_hatchings_L39 (n2 + 1) (va_up μ 0 n) a x = f_X4_hatchings_L39 n2 (va_up μ 0 n') a (x + 1) := by
  obtain ⟨z1, hz1, d1, d2, hk1⟩ := draw_both hk μ
  have hb8 := hk.2.1.2
  have hd := hk.2.2.1
  have e6 : irem (σ 11 0) 6 = nI (nd σ % 6) := by rw [hd.1]; exact irem_nI (d := 6) (by omega) (by omega) (by omega)
  have e6m : irem (upd n 2 (nxt (n 2)) 0) 6 = nI (nd σ % 6) := by
    rw [upd_n (by decide), ← dec_0 (n := n), ← hk.1]
    exact e6
  have e4 : (4 : Int32) + nI (nd σ % 6) = nI (4 + nd σ % 6) := nI_add 4 _
  have e100 : irem (nI z1) 100 = nI (z1 % 100) := irem_nI (d := 100) (by omega) (by omega) (by omega)
  -- the harvest of the day
  obtain ⟨σ2, hσ2⟩ : ∃ s, s = va_up (va_up σ 11 (upd (σ 11) 2 (nxt (n 2)))) 9 (upd (va_up σ 11 (upd (σ 11) 2 (nxt (n 2))) 9) (nd σ % 6) (nI (z1 % 100))) := ⟨_, rfl⟩
  obtain ⟨m2, hm2⟩ : ∃ m, m = upd (upd n 2 (nxt (n 2))) (4 + nd σ % 6) (nI (z1 % 100)) := ⟨_, rfl⟩
  have hk2 : RK σ2 m2 := by
    rw [hσ2, hm2]
    exact ⟨by rw [dec_wl (by omega), ← hk1.1], KI_list hk1.2 ⟨z1 % 100, by omega, rfl⟩⟩
  obtain ⟨z2, hz2, d3, d4, hk3⟩ := draw_both hk2 μ
  have e8 : irem (nI z2) 8 = nI (z2 % 8) := irem_nI (d := 8) (by omega) (by omega) (by omega)
  obtain ⟨σ3, hσ3⟩ : ∃ s, s = va_up σ2 11 (upd (σ2 11) 2 (nxt (m2 2))) := ⟨_, rfl⟩
  obtain ⟨m3, hm3⟩ : ∃ m, m = upd m2 2 (nxt (m2 2)) := ⟨_, rfl⟩
  rw [← hσ3] at d3 hk3
  rw [← hm3] at d4 hk3
  have nb3 : nb σ3 = b := by rw [hσ3, hσ2, ← hb]; exact nb_eq rfl
  have ln3 : ∀ i, line σ3 i = p i := fun i => by
    rw [← hp i, hσ3, hσ2]
    refine line_congr ?_ ?_ i
    · rfl
    · rfl
  -- a day on both sides
  have day : ∀ (σ4 : K2) (m4 : Nat → Int32), RK σ4 m4 → nb σ4 = b → (∀ i, line σ4 i = p i) → ∃ σ' n', RK σ' n' ∧ (∀ i, line σ' i = p i) ∧ nb σ' = b ∧ f_X0_passDay σ4 (setOf p b) = some σ' ∧ f_X4_day (va_up μ 0 m4) = some (va_up μ 0 n') := by
    intro σ4 m4 h4 hn hl
    have x1 := X0_passDay h4.2 (p := p) (fun i _ => (hl i).symm)
    rw [hn] at x1
    obtain ⟨a', f1, f2⟩ := M_day (μ := va_up μ 0 m4) (by rw [up_s, ← h4.1]; exact h4.2)
    rw [up_s, ← h4.1] at f2
    obtain ⟨n', g1, g2⟩ := f2
    refine ⟨dayS σ4, n', ⟨g2.symm, KI_day h4.2⟩, fun i => ?_, ?_, x1, by rw [f1, g1, bx_uu]⟩
    · rw [← hl i]; exact line_days σ4 1 i
    · rw [← hn]; exact nb_days σ4 1
  have hh := X0_has hk3.2 (nI (z2 % 8))
  have hhm := M_isBird (μ := va_up μ 0 m3) (by rw [up_s, ← hk3.1]; exact hk3.2) (nI (z2 % 8))
  rw [up_s, ← hk3.1, nb3] at hhm
  rw [nb3] at hh
  rw [f_X3_hatchings_L46, if_neg hx, up_s, d1, bd_some, e6, if_pos (ix_nI (by omega) (by omega)), nI_clamp (by omega)]
  rw [f_X4_hatchings_L39, if_neg hx, d2, bd_some]
  unfold f_X4_placeNow
  rw [bd_some]
  simp only [up_s, e6m, e4, e100, bx_uu]
  rw [if_pos (ix_nI (by omega) (by omega)), nI_clamp (by omega), ← hσ2, ← hm2, d3, bd_some, d4, bd_some]
  simp only [e8, hh, hhm, bd_some, up_s, bx_uu]
  by_cases c : 0 ≤ (nI (z2 % 8)).toInt ∧ (nI (z2 % 8)).toInt < b
  · simp only [if_pos c, ite10]
    have hi : z2 % 8 < b := by
      have := c.2
      rw [nI_toInt (by omega)] at this
      omega
    have a5 : f_X4_birdAt (nI (z2 % 8)) 5 = some (nI (20 + 9 * (z2 % 8) + 5)) := M_birdAt _ 5
    have b5 := M_b5 (va_up μ 0 m3) (i := z2 % 8) (by omega)
    rw [up_s, ← hk3.1] at b5
    rw [if_pos (ix_nI (by omega) (by omega)), nI_clamp (by omega), a5, bd_some, b5, bd_some, if_pos (ix_nI (by omega) (by omega)), nI_clamp (by omega)]
    have h4 : RK (va_up σ3 5 (upd (σ3 5) (z2 % 8) (1 - σ3 5 (z2 % 8)))) (upd m3 (20 + 9 * (z2 % 8) + 5) (1 - σ3 5 (z2 % 8))) := by
      refine ⟨by rw [dec_w (by omega) (by omega), ← hk3.1], KI_t5 hk3.2 ?_⟩
      rcases (hk3.2.2.2.2.2.2 (z2 % 8) (by rw [nb3]; exact hi)).2.2.2.2.2.1 with e | e
      · rw [e]; exact Or.inr rfl
      · rw [e]; exact Or.inl rfl
    obtain ⟨σ', n', r1, r2, r3, r4, r5⟩ := day _ _ h4 (by rw [← nb3]; exact nb_eq rfl) (fun i => by
      rw [← ln3 i]
      refine line_congr ?_ ?_ i
      · rfl
      · rfl)
    exact ⟨σ', n', r1, r2, r3, by rw [r4, bd_some], by rw [r5, bd_some]⟩
  · simp only [if_neg c, ite00]
    obtain ⟨σ', n', r1, r2, r3, r4, r5⟩ := day _ _ hk3 nb3 ln3
    exact ⟨σ', n', r1, r2, r3, by rw [r4, bd_some]; exact if_pos trivial, by rw [r5, bd_some]; exact if_pos trivial⟩
theorem s_hatchings {X : K3} {μ : K2} (h : R X μ) (a : Int32) : Sim (f_X3_hatchings X a) (f_X4_hatchings μ a) := by
  unfold f_X3_hatchings f_X4_hatchings
  simp only [within_X3, within_X4, bd_some]
  have e0 : X 0 11 0 = μ 0 0 := by rw [← h.d0, dec_0]
  rw [e0]
  by_cases c : 1 ≤ a ∧ a ≤ 20
  · simp only [if_pos c, ite10]
    by_cases d : μ 0 0 + a ≤ 99999
    · rw [if_pos d, if_pos d, X0_lineSet h.ki, bd_some]
      have e1 : (0 : Int32).toInt = 0 := rfl
      obtain ⟨n, hn, rfl⟩ := rng (n := 20) (show 0 ≤ a ∧ a ≤ 20 from ⟨by
        have := c.1
        rw [i32_le] at this ⊢
        have e2 : (1 : Int32).toInt = 1 := rfl
        omega, c.2⟩) rfl (by omega)
      have key : ∀ t k, k + t = n → ∀ n1 n2, t < n1 → t < n2 → ∀ σ m, RK σ m → (∀ i, line σ i = line (X 0) i) → nb σ = nb (X 0) → Sim (f_X3_hatchings_L46 n1 (va_up X 0 σ) (nI n) (setOf (line (X 0)) (nb (X 0))) (nI k)) (f_X4_hatchings_L39 n2 (va_up μ 0 m) (nI n) (nI k)) := by
        intro t
        induction t with
        | zero =>
          intro k hk n1 n2 h1 h2 σ m hkm hl hn
          obtain ⟨n1, rfl⟩ : ∃ z, n1 = z + 1 := ⟨n1 - 1, by omega⟩
          obtain ⟨n2, rfl⟩ : ∃ z, n2 = z + 1 := ⟨n2 - 1, by omega⟩
          rw [f_X3_hatchings_L46, if_pos (nI_le (by omega) (by omega)), f_X4_hatchings_L39, if_pos (nI_le (by omega) (by omega)), f_X3_hatchings_B139, f_X4_hatchings_B110, up_s, up_s]
          exact Sim.of' (by rw [hkm.1, dec_1]) (h.X0 hkm)
        | succ t ih =>
          intro k hk n1 n2 h1 h2 σ m hkm hl hn
          obtain ⟨n1, rfl⟩ : ∃ z, n1 = z + 1 := ⟨n1 - 1, by omega⟩
          obtain ⟨n2, rfl⟩ : ∃ z, n2 = z + 1 := ⟨n2 - 1, by omega⟩
          obtain ⟨σ', n', r1, r2, r3, r4, r5⟩ := hatch_step X μ hkm hl (k := 0) hn (nI n) (nI k) (nI_ge (by omega) (by omega)) n1 n2
          rw [r4, r5, nI_1]
          exact ih (k + 1) (by omega) n1 n2 (by omega) (by omega) σ' n' r1 r2 r3
      have k0 := key n 0 (by omega) 1000 1000 (by omega) (by omega) (X 0) (μ 0) h.1 (fun _ => rfl) rfl
      rw [up_self0, up_self0] at k0
      exact k0
    · rw [if_neg d, if_neg d]; exact find4 h
  · simp only [if_neg c, ite00]; exact find0 h
/-! odds -/
def SimJ (rx : Option (Int64 × K3)) (rm : Option (Int64 × K2)) : Prop := ∃ r X' μ', rx = some (r, X') ∧ rm = some (r, μ') ∧ R X' μ'
theorem findJ {X : K3} {μ : K2} (h : R X μ) : SimJ (Option.bind (f_X3_finding X 0) (fun q => some (q.1.toInt64, q.2))) (Option.bind (f_X4_finding μ (-1000001)) (fun q => some (q.1.toInt64, q.2))) := by
  obtain ⟨r, X', μ', e1, e2, hR⟩ := find0 h
  rw [bd_pair] at e1 e2
  rw [e1, e2]
  exact ⟨r.toInt64, X', μ', rfl, rfl, hR⟩
theorem tbl_gcd : ∀ f, f ≤ 100 → f_X3_commonDivisor (nI f) 100 = some (nI (Nat.gcd 100 f)) := by decide +kernel
theorem M_gcd (μ : K2) (x2 x3 x4 : Int32) : ∀ n b a, b < n → a < 2 ^ 31 → b < 2 ^ 31 → f_X4_odds_L65 n μ x2 x3 x4 (nI a) (nI b) = f_X4_odds_B88 μ x2 x3 x4 (nI (Nat.gcd a b)) := by
  intro n
  induction n with
  | zero => intro b a h; omega
  | succ n ih =>
    intro b a h ha hb
    rw [f_X4_odds_L65]
    by_cases e : b = 0
    · subst e
      rw [if_pos (show nI 0 = 0 from rfl), Nat.gcd_zero_right]
    · have e0 : ¬ nI b = 0 := fun q => e ((nI_eq (b := 0) hb (by omega)).mp q)
      have hm := Nat.mod_lt a (show b > 0 by omega)
      rw [if_neg e0, if_pos e0, irem_nI ha (by omega) hb, ih (a % b) b (by omega) hb (by omega)]
      congr 2
      rw [Nat.gcd_comm a b, Nat.gcd_rec b a, Nat.gcd_comm]
def mulN (b : Int64) : Nat → Int64 → Int64
  | 0, x => x
  | t + 1, x => mulN b t (x * b)
theorem X_power (b : Int64) {e : Nat} (he : e < 2 ^ 31) : ∀ t k, k + t = e → ∀ n x, t < n → f_X3_power_L5 n b (nI e) x (nI k) = some (mulN b t x) := by
  intro t
  induction t with
  | zero =>
    intro k hk n x h
    obtain ⟨n, rfl⟩ : ∃ z, n = z + 1 := ⟨n - 1, by omega⟩
    rw [f_X3_power_L5, if_pos (nI_le (by omega) (by omega)), mulN]
  | succ t ih =>
    intro k hk n x h
    obtain ⟨n, rfl⟩ : ∃ z, n = z + 1 := ⟨n - 1, by omega⟩
    rw [f_X3_power_L5, if_neg (nI_ge (by omega) (by omega)), nI_1, mulN]
    exact ih (k + 1) (by omega) n _ (by omega)
theorem M_power (μ : K2) (x3 x4 x5 : Int32) (h5 : ¬ x5 = 0) {e : Nat} (he : e < 2 ^ 31) : ∀ t k, k + t = e → ∀ n x, t < n → f_X4_odds_L94 n μ (nI e) x3 x4 x5 x (nI k) = some (mulN (if x3 = 0 then (x4 / x5).toInt64 else (100 / x5).toInt64) t x, μ) := by
  intro t
  induction t with
  | zero =>
    intro k hk n x h
    obtain ⟨n, rfl⟩ : ∃ z, n = z + 1 := ⟨n - 1, by omega⟩
    rw [f_X4_odds_L94, if_pos (nI_le (by omega) (by omega)), mulN]
  | succ t ih =>
    intro k hk n x h
    obtain ⟨n, rfl⟩ : ∃ z, n = z + 1 := ⟨n - 1, by omega⟩
    rw [f_X4_odds_L94, if_neg (nI_ge (by omega) (by omega)), nI_1, mulN]
    by_cases c : x3 = 0
    · rw [if_pos c, if_pos h5, if_pos c, ih (k + 1) (by omega) n _ (by omega), if_pos c]
    · rw [if_neg c, if_pos h5, if_neg c, ih (k + 1) (by omega) n _ (by omega), if_neg c]
theorem odds_core {X : K3} {μ : K2} (h : R X μ) {f e : Nat} (hf : f ≤ 100) (he : e ≤ 9) (c : Int32) : SimJ (Option.bind (f_X3_commonDivisor (nI f) 100) (fun q17 => if c = 0 then (if ¬ q17 = 0 then (Option.bind (f_X3_power ((nI f / q17).toInt64) (nI e)) (fun q24 => some (q24, X))) else none) else (if ¬ q17 = 0 then (Option.bind (f_X3_power ((100 / q17).toInt64) (nI e)) (fun q21 => some (q21, X))) else none))) (f_X4_odds_L65 1000 μ (nI e) c (nI f) 100 (nI f)) := by
  have hg : 0 < Nat.gcd 100 f := Nat.gcd_pos_of_pos_left _ (by omega)
  have hg2 : Nat.gcd 100 f ≤ 100 := Nat.gcd_le_left _ (by omega)
  have mg : f_X4_odds_L65 1000 μ (nI e) c (nI f) (nI 100) (nI f) = f_X4_odds_B88 μ (nI e) c (nI f) (nI (Nat.gcd 100 f)) := M_gcd μ (nI e) c (nI f) 1000 f 100 (by omega) (by omega) (by omega)
  rw [tbl_gcd f hf, bd_some]
  rw [show (nI 100 : Int32) = 100 from rfl] at mg
  rw [mg]
  obtain ⟨g, eg⟩ : ∃ g, g = Nat.gcd 100 f := ⟨_, rfl⟩
  rw [← eg] at hg hg2 ⊢
  have hne : ¬ nI g = 0 := fun q => by
    have := (nI_eq (b := 0) (by omega) (by omega)).mp q
    omega
  rw [f_X4_odds_B88]
  show SimJ _ (f_X4_odds_L94 1000 μ (nI e) c (nI f) (nI g) 1 (nI 0))
  rw [M_power μ c (nI f) (nI g) hne (by omega) e 0 (by omega) 1000 1 (by omega)]
  have xp : ∀ y, f_X3_power y (nI e) = some (mulN y e 1) := fun y => X_power y (by omega) e 0 (by omega) 1000 1 (by omega)
  by_cases c4 : c = 0
  · rw [if_pos c4, if_pos hne, xp, bd_some, if_pos c4]
    exact ⟨_, X, μ, rfl, rfl, h⟩
  · rw [if_neg c4, if_pos hne, xp, bd_some, if_neg c4]
    exact ⟨_, X, μ, rfl, rfl, h⟩
theorem odds_f {r w : Nat} (hr : r ≤ 100) (hw : w ≤ 9999) : imax 0 ((100 : Int32) - nI r - nI w) = nI (100 - r - w) := by
  have e1 : (100 : Int32) - nI r = nI (100 - r) := pk_sub (a := 100) hr
  rw [e1]
  by_cases z : w ≤ 100 - r
  · rw [pk_sub z]
    have := imax_nI (a := 0) (b := 100 - r - w) (by omega) (by omega)
    rw [Nat.max_eq_right (by omega)] at this
    exact this
  · unfold imax
    rw [if_neg, show 100 - r - w = 0 by omega]
    · rfl
    · have := pk_sneg (a := 100 - r) (b := w) (by omega) (by omega)
      rw [i32_lt] at this ⊢
      have e0 : (0 : Int32).toInt = 0 := rfl
      omega
theorem itn10 {α : Type} {a b : α} : (if (1 : Int32) = 0 then a else b) = b := if_neg (by decide)
theorem itn00 {α : Type} {a b : α} : (if (0 : Int32) = 0 then a else b) = a := if_pos (by decide)
theorem s_odds {X : K3} {μ : K2} (h : R X μ) (a b c : Int32) : SimJ (f_X3_odds X a b c) (f_X4_odds μ a b c) := by
  have hb8 := h.ki.1.2
  unfold f_X3_odds f_X4_odds
  simp only [within_X3, within_X4, bd_some, X0_has h.ki, M_isBird h.kim]
  rw [h.d0]
  by_cases c1 : 0 ≤ a.toInt ∧ a.toInt < nb (X 0)
  · simp only [if_pos c1, itn10]
    by_cases c2 : 0 ≤ b ∧ b ≤ 9
    · simp only [if_pos c2, itn10]
      by_cases c3 : 0 ≤ c ∧ c ≤ 1
      · simp only [if_pos c3, itn10]
        obtain ⟨i, hi, rfl⟩ := has_nI hb8 c1
        obtain ⟨e, he, rfl⟩ := rng (n := 9) c2 rfl (by omega)
        obtain ⟨r, hr, er⟩ := rate_b h.ki hi
        obtain ⟨w, hw, ew⟩ := (h.ki.2.2.2.2.2 i hi).2.2.2.2.2.2.2.1
        have mr := M_rate h.kim (i := i) (by rw [h.d0]; exact hi)
        have m7 := M_b7 μ (i := i) (by omega)
        rw [h.d0] at mr m7
        rw [X0_rateOf h.ki hi, bd_some, if_pos (ix_nI (by omega) (by omega)), nI_clamp (by omega), mr, bd_some, m7, bd_some, er, ew]
        have ef := odds_f hr hw
        rw [ef]
        obtain ⟨f, hf⟩ : ∃ f, f = 100 - r - w := ⟨_, rfl⟩
        rw [← hf]
        exact odds_core h (by omega) (by omega) c
      · simp only [if_neg c3, itn00]; exact findJ h
    · simp only [if_neg c2, itn00]; exact findJ h
  · simp only [if_neg c1, itn00]; exact findJ h
