/-! ===== pure: which ages, which kinds agree with a sheet ===== -/
theorem days_add (σ : K2) (a : Nat) : ∀ b, daysS b (daysS a σ) = daysS (a + b) σ
  | 0 => rfl
  | b + 1 => by rw [daysS_succ, days_add σ a b, ← Nat.add_assoc, daysS_succ]
def okR (g : Nat → Int32) (σ : K2) (i r : Nat) : Prop := g r = -1 ∨ g r = daysS (6 * r) σ 7 i
def agS (g : Nat → Int32) (σ : K2) (i L : Nat) : Bool := decide (∀ r, r < L → (g r = -1 ∨ g r = daysS (6 * r) σ 7 i))
theorem agS_t {g : Nat → Int32} {σ : K2} {i L : Nat} (h : ∀ r, r < L → okR g σ i r) : agS g σ i L = true := by unfold agS; exact decide_eq_true h
theorem agS_f {g : Nat → Int32} {σ : K2} {i L r : Nat} (hr : r < L) (h : ¬ okR g σ i r) : agS g σ i L = false := by unfold agS; exact decide_eq_false (fun q => h (q r hr))
theorem X_agree {X : K3} {μ : K2} (h : R X μ) {j i w : Nat} {v : Int32} (hj : j < 4) (hi : i < 8) (hw : w < 9) (hK : KI (va_up (X 0) w (upd (X 0 w) i v))) {L len : Nat} (hl : μ 8 j = nI len) (hl2 : len ≤ 40) (hL : L = min len 10) :
    ∃ Y', R Y' μ ∧ f_X3_arrearsAgree X j (nI i) (nI w) v = some (bI (agS (fun r => μ 9 (40 * j + r)) (va_up (dec (μ 0)) w (upd (dec (μ 0) w) i v)) i L), Y') := by
  have hcz : Cz (va_up (X 0) w (upd (X 0 w) i v)) := Cz_up h.cz0 (Or.inl ⟨hw, hi⟩)
  rw [h.d0]
  obtain ⟨σ, hσ⟩ : ∃ σ, σ = va_up (X 0) w (upd (X 0 w) i v) := ⟨_, rfl⟩
  obtain ⟨g, hg⟩ : ∃ g : Nat → Int32, g = fun r => μ 9 (40 * j + r) := ⟨_, rfl⟩
  rw [← hσ] at hK hcz ⊢
  rw [← hg]
  have key : ∀ t r, r + t = L → ∀ n1, t < n1 → ∀ Y, R Y μ → Y 2 = daysS (6 * (r - 1)) σ → (∀ q, q < r → okR g σ i q) → ∃ Y', R Y' μ ∧ f_X3_arrearsAgree_L38 n1 Y j (nI i) (nI L) (nI r) = some (bI (agS g σ i L), Y') := by
    intro t
    induction t with
    | zero =>
      intro r hr n1 h1 Y hY h2 hok
      obtain ⟨n1, rfl⟩ : ∃ z, n1 = z + 1 := ⟨n1 - 1, by omega⟩
      refine ⟨Y, hY, ?_⟩
      rw [f_X3_arrearsAgree_L38, if_pos (nI_le (by omega) (by omega))]
      rw [agS_t (fun q hq => hok q (by omega))]
      rfl
    | succ t ih =>
      intro r hr n1 h1 Y hY h2 hok
      obtain ⟨n1, rfl⟩ : ∃ z, n1 = z + 1 := ⟨n1 - 1, by omega⟩
      have hgr : Y (4 + j) 0 r = g r := by rw [hg]; exact ((hY.2.2.2.2.2 j hj).2.2.2.2 r (by omega)).symm
      rw [f_X3_arrearsAgree_L38, if_neg (nI_ge (by omega) (by omega)), nI_1]
      have fin : ∀ Y1, R Y1 μ → Y1 2 = daysS (6 * r) σ → ∃ Y', R Y' μ ∧ (if g r = -1 then f_X3_arrearsAgree_L38 n1 Y1 j (nI i) (nI L) (nI (r + 1)) else if g r = daysS (6 * r) σ 7 i then f_X3_arrearsAgree_L38 n1 Y1 j (nI i) (nI L) (nI (r + 1)) else some (0, Y1)) = some (bI (agS g σ i L), Y') := by
        intro Y1 hY1 e1
        by_cases z : okR g σ i r
        · obtain ⟨Y', r1, r2⟩ := ih (r + 1) (by omega) n1 (by omega) Y1 hY1 (by rw [e1]; rfl) (fun q hq => by
            by_cases e : q = r
            · subst e; exact z
            · exact hok q (by omega))
          refine ⟨Y', r1, ?_⟩
          rcases z with z | z
          · rw [if_pos z]; exact r2
          · rw [if_pos z, r2, ite_self]
        · refine ⟨Y1, hY1, ?_⟩
          rw [if_neg (fun q => z (Or.inl q)), if_neg (fun q => z (Or.inr q))]
          rw [agS_f (r := r) (by omega) z]
          rfl
      by_cases e : r = 0
      · subst e
        rw [if_pos (show nI 0 ≤ 0 by decide), if_pos (ix_nI (by omega) (by omega)), if_pos (ix_nI hi (by omega)), nI_clamp (by omega), nI_clamp (by omega), hgr, h2]
        exact fin Y hY h2
      · have hq : ¬ nI r ≤ 0 := nI_ge (a := 0) (by omega) (by omega)
        have hp : f_X0_passDays (Y 2) 6 = some (daysS (6 * r) σ) := by
          rw [h2]
          have := X0_passDays (KI_days hK (6 * (r - 1))) (n := 6) (by omega)
          rw [days_add, show 6 * (r - 1) + 6 = 6 * r by omega] at this
          exact this
        rw [if_neg hq, hp, bd_some, if_pos (ix_nI (by omega) (by omega)), if_pos (ix_nI hi (by omega)), nI_clamp (by omega), nI_clamp (by omega), hgr]
        exact fin (va_up Y 2 (daysS (6 * r) σ)) (hY.X2 (Cz_days hcz hK.1.2 _)) up_s
  unfold f_X3_arrearsAgree
  have hz := (h.2.2.2.2.2 j hj).2.1
  have hm : imin (X (4 + j) 1 1) 10 = nI L := by
    rw [← hz, hl, hL]
    exact imin_nI (b := 10) (by omega) (by omega)
  rw [h.trial, bd_some, if_pos (ix_nI hw (by omega)), if_pos (ix_nI hi (by omega)), nI_clamp (by omega), nI_clamp (by omega), hm, ← hσ]
  exact key L 0 (by omega) 1000 (by omega) _ (h.X2 hcz) up_s (fun q hq => by omega)
theorem M_so {m : K2} {j i : Nat} (hj : j < 4) (hi : i < 8) (hK : KI (dec (m 0))) {L len : Nat} (hl : m 8 j = nI len) (hl2 : len ≤ 40) (hL : L = min len 10) :
    ∃ m', f_X4_isSo m (nI j) (nI (20 + 9 * i + 7)) = some (bI (agS (fun r => m 9 (40 * j + r)) (dec (m 0)) i L), m') ∧ Near m m' := by
  obtain ⟨σ, hσ⟩ : ∃ σ, σ = dec (m 0) := ⟨_, rfl⟩
  obtain ⟨g, hg⟩ : ∃ g : Nat → Int32, g = fun r => m 9 (40 * j + r) := ⟨_, rfl⟩
  rw [← hσ] at hK ⊢
  rw [← hg]
  have B87 : ∀ a x, x = 0 ∨ x = 1 → f_X4_isSo_B87 a x = some (x, backS a) := by
    intro a x hx
    unfold f_X4_isSo_B87
    rw [M_copyRow2, bd_some, if_pos hx]
    rfl
  have stop : ∀ n a r, f_X4_isSo_L16 (n + 1) a (nI j) (nI (20 + 9 * i + 7)) 0 r = some (0, backS a) := by
    intro n a r
    rw [f_X4_isSo_L16, if_pos (ix_nI hj (by omega)), B87 a 0 (Or.inl rfl), if_pos rfl, ite_self, ite_self]
  have key : ∀ t r, r + t = L → ∀ n2, t + 1 < n2 → ∀ a, Mst (asideS m) (daysS (6 * r) σ) a → (∀ q, q < r → okR g σ i q) → ∃ a', Near m (backS a') ∧ f_X4_isSo_L16 n2 a (nI j) (nI (20 + 9 * i + 7)) 1 (nI r) = some (bI (agS g σ i L), backS a') := by
    intro t
    induction t with
    | zero =>
      intro r hr n2 h2 a hm hok
      obtain ⟨n2, rfl⟩ : ∃ z, n2 = z + 1 := ⟨n2 - 1, by omega⟩
      have h8 : a 8 j = nI len := by rw [hm.other (c := 8) (by decide)]; exact hl
      refine ⟨a, near_back hm, ?_⟩
      have hb1 : bI (agS g σ i L) = 1 := by
        rw [agS_t (fun q hq => hok q (by omega))]
        rfl
      rw [f_X4_isSo_L16, if_pos (ix_nI hj (by omega)), nI_clamp (by omega), h8, B87 a 1 (Or.inr rfl), hb1]
      by_cases e : len ≤ r
      · rw [if_pos (nI_le e (by omega))]
      · rw [if_neg (nI_ge (by omega) (by omega)), if_pos (show (10 : Int32) ≤ nI r from nI_le (a := 10) (by omega) (by omega))]
    | succ t ih =>
      intro r hr n2 h2 a hm hok
      obtain ⟨n2, rfl⟩ : ∃ z, n2 = z + 1 := ⟨n2 - 1, by omega⟩
      obtain ⟨n3, hn3⟩ : ∃ z, n2 = z + 1 := ⟨n2 - 1, by omega⟩
      have h8 : a 8 j = nI len := by rw [hm.other (c := 8) (by decide)]; exact hl
      have h9 : a 9 (40 * j + r) = g r := by rw [hm.other (c := 9) (by decide), hg]; rfl
      have h0 : a 0 (20 + 9 * i + 7) = daysS (6 * r) σ 7 i := by rw [← hm.row, dec_t (by omega) (by omega)]
      have hKa : KI (dec (a 0)) := by rw [hm.row]; exact KI_days hK _
      obtain ⟨b, f1, f2⟩ := M_daysGo hKa (n := 6) (by omega)
      have f1' : f_X4_daysGo a 6 = some b := f1
      have f3 : Mst (asideS m) (daysS (6 * (r + 1)) σ) b := by
        rw [hm.row, days_add] at f2
        exact hm.trans f2
      have e4 : (40 : Int32) * nI j + nI r = nI (40 * j + r) := by
        have : (40 : Int32) * nI j = nI (40 * j) := (Int32.ofNat_mul 40 j).symm
        rw [this, nI_add]
      rw [f_X4_isSo_L16, if_pos (ix_nI hj (by omega)), e4, if_pos (ix_nI (by omega) (by omega)), if_pos (ix_nI (by omega) (by omega)), nI_clamp (by omega), nI_clamp (by omega), nI_clamp (by omega), h8, if_neg (nI_ge (by omega) (by omega)), if_neg (g10 (by omega)), if_neg (show ¬ (1 : Int32) = 0 by decide), h9, h0, f1', bd_some, bd_some, nI_1]
      by_cases z : okR g σ i r
      · obtain ⟨a', r1, r2⟩ := ih (r + 1) (by omega) n2 (by omega) b f3 (fun q hq => by
          by_cases e : q = r
          · subst e; exact z
          · exact hok q (by omega))
        refine ⟨a', r1, ?_⟩
        rcases z with z | z
        · rw [if_pos z]; exact r2
        · rw [if_pos z, r2, ite_self]
      · refine ⟨b, near_back f3, ?_⟩
        rw [if_neg (fun q => z (Or.inl q)), if_neg (fun q => z (Or.inr q)), hn3, stop]
        rw [agS_f (r := r) (by omega) z]
        rfl
  unfold f_X4_isSo
  rw [M_copyRow, bd_some]
  have h0 : Mst (asideS m) (daysS (6 * 0) σ) (asideS m) := by
    have := Mst.rf (asideS m)
    rw [aside_0, ← hσ] at this
    exact this
  obtain ⟨a', r1, r2⟩ := key L 0 (by omega) 1000 (by omega) (asideS m) h0 (fun q hq => by omega)
  exact ⟨backS a', r2, r1⟩
section OPS
variable {X : K3} {μ : K2}
theorem agree_step (h : R X μ) {j i w : Nat} (hj : j < 4) (hi : i < 8) (hw : w < 9) {m : K2} {v : Int32} (hm : NearP μ (20 + 9 * i + w) m) (hK : KI (va_up (X 0) w (upd (X 0 w) i v))) :
    ∃ r Y' m', f_X3_arrearsAgree X j (nI i) (nI w) v = some (r, Y') ∧ f_X4_isSo (va_up m 0 (upd (m 0) (20 + 9 * i + w) v)) (nI j) (nI (20 + 9 * i + 7)) = some (r, m') ∧ R Y' μ ∧ NearP μ (20 + 9 * i + w) m' := by
  obtain ⟨-, hz, -, ⟨len, hl2, hl⟩, -⟩ := h.2.2.2.2.2 j hj
  rw [← hz] at hl
  obtain ⟨Y', y1, y2⟩ := X_agree h hj hi hw hK hl hl2 rfl
  have hN := hm.put v
  have hd : dec (putE m (20 + 9 * i + w) v 0) = va_up (dec (μ 0)) w (upd (dec (μ 0) w) i v) := by
    rw [hN.dec]
    show dec (upd (μ 0) (20 + 9 * i + w) v) = _
    rw [dec_w hw hi]
  have e8 : putE m (20 + 9 * i + w) v 8 j = nI len := by
    rw [hN.2 8 (by decide) (by decide)]; exact hl
  have e9 : putE m (20 + 9 * i + w) v 9 = μ 9 := hN.2 9 (by decide) (by decide)
  obtain ⟨m', f1, f2⟩ := M_so (m := putE m (20 + 9 * i + w) v) hj hi (by rw [hd, h.d0]; exact hK) e8 hl2 rfl
  rw [hd, e9] at f1
  exact ⟨_, Y', m', y2, f1, y1, NearP.of (hN.trans f2)⟩
/-- what both ask before -/
theorem sheet_q (h : R X μ) (a : Int32) : f_X3_sheetOf X a = some (if 0 ≤ a ∧ a ≤ 3 then some a.toNatClampNeg else none) := by
  unfold f_X3_sheetOf
  rw [within_X3, bd_some]
  by_cases c : 0 ≤ a ∧ a ≤ 3
  · obtain ⟨j, hj, rfl⟩ := rng (n := 3) c rfl (by omega)
    rw [if_pos c, ite10, if_pos (ix_nI (by omega) (by omega)), if_pos c]
  · rw [if_neg c, ite00, if_neg c]
theorem s_fits (h : R X μ) (a b : Int32) : Sim (f_X3_fits X a b) (f_X4_fits μ a b) := by
  have hb8 := h.ki.1.2
  unfold f_X3_fits f_X4_fits f_X4_lacks
  rw [sheet_q h, bd_some, M_isBird h.kim, bd_some, M_isSheet, bd_some, h.d0]
  by_cases c : 0 ≤ a ∧ a ≤ 3
  · obtain ⟨j, hj, rfl⟩ := rng (n := 3) c rfl (by omega)
    rw [if_pos c, shc_some, if_pos c, ite10, if_pos (ix_nI (by omega) (by omega)), nI_clamp (by omega), if_pos (show j < 4 by omega)]
    obtain ⟨hw, -⟩ := h.2.2.2.2.2 j (by omega)
    unfold f_X1_isMissing
    rw [hw]
    by_cases e0 : X (4 + j) 1 0 = 0
    · rw [if_pos e0, if_pos e0, bd_some, bd_some, ite10, if_neg (show ¬ (-1000006 : Int32) = 0 by decide)]
      exact find5 h
    · rw [if_neg e0, if_neg e0, bd_some, ite00, X0_has h.ki, bd_some]
      by_cases d : 0 ≤ b.toInt ∧ b.toInt < nb (X 0)
      · obtain ⟨i, hi, rfl⟩ := has_nI hb8 d
        have a3 : f_X4_birdAt (nI i) 3 = some (nI (20 + 9 * i + 3)) := M_birdAt i 3
        have a7 : f_X4_birdAt (nI i) 7 = some (nI (20 + 9 * i + 7)) := M_birdAt i 7
        rw [if_pos d, ite10, ite10, bd_some, if_pos rfl, a3, bd_some, if_pos (ix_nI (by omega) (by omega)), nI_clamp (by omega)]
        have key : ∀ t k, k + t = 100 → ∀ n1 n2, t < n1 → t < n2 → ∀ Y m x, R Y μ → NearP μ (20 + 9 * i + 3) m → Sim (f_X3_fits_L52 n1 Y (nI i) j x (nI k)) (f_X4_fits_L43 n2 m (nI j) (nI i) (nI (20 + 9 * i + 3)) (μ 0 (20 + 9 * i + 3)) x (nI k)) := by
          intro t
          induction t with
          | zero =>
            intro k hk n1 n2 h1 h2 Y m x hY hm
            obtain ⟨n1, rfl⟩ : ∃ z, n1 = z + 1 := ⟨n1 - 1, by omega⟩
            obtain ⟨n2, rfl⟩ : ∃ z, n2 = z + 1 := ⟨n2 - 1, by omega⟩
            rw [f_X3_fits_L52, if_pos (show (99 : Int32) < nI k from nI_lt (a := 99) (by omega) (by omega)), f_X4_fits_L43, if_pos (show (100 : Int32) ≤ nI k from nI_le (a := 100) (by omega) (by omega)), f_X4_fits_B89, if_pos (ix_nI (by omega) (by omega)), nI_clamp (by omega)]
            exact Sim.of (hm.fin.R hY)
          | succ t ih =>
            intro k hk n1 n2 h1 h2 Y m x hY hm
            obtain ⟨n1, rfl⟩ : ∃ z, n1 = z + 1 := ⟨n1 - 1, by omega⟩
            obtain ⟨n2, rfl⟩ : ∃ z, n2 = z + 1 := ⟨n2 - 1, by omega⟩
            obtain ⟨r, Y', m', p1, p2, p3, p4⟩ := agree_step hY (j := j) (i := i) (w := 3) (v := nI k) (by omega) (by omega) (by omega) hm (KI_t3 hY.ki ⟨k, by omega, rfl⟩)
            have p1' : f_X3_arrearsAgree Y j (nI i) 3 (nI k) = some (r, Y') := p1
            rw [f_X3_fits_L52, if_neg (show ¬ (99 : Int32) < nI k from nI_nlt (a := 99) (by omega) (by omega)), p1', bd_some, f_X4_fits_L43, if_neg (show ¬ (100 : Int32) ≤ nI k from nI_ge (b := 100) (by omega) (by omega)), if_pos (ix_nI (by omega) (by omega)), nI_clamp (by omega), a7, bd_some, p2, bd_some, nI_1, add0]
            by_cases z : r = 0
            · rw [if_pos z, if_pos z]
              exact ih (k + 1) (by omega) n1 n2 (by omega) (by omega) _ _ _ p3 p4
            · rw [if_neg z, if_neg z]
              exact ih (k + 1) (by omega) n1 n2 (by omega) (by omega) _ _ _ p3 p4
        exact key 100 0 (by omega) 1000 1000 (by omega) (by omega) X μ 0 h (NearP.rf _ _)
      · rw [if_neg d, ite00, ite00, bd_some, if_neg (show ¬ (-1000001 : Int32) = 0 by decide)]
        exact find0 h
  · rw [if_neg c, shc_none, if_neg c, ite00, bd_some, if_neg (show ¬ (-1000001 : Int32) = 0 by decide)]
    exact find0 h
theorem s_kinds (h : R X μ) (a b : Int32) : Sim (f_X3_kinds X a b) (f_X4_kinds μ a b) := by
  have hb8 := h.ki.1.2
  unfold f_X3_kinds f_X4_kinds f_X4_lacks
  rw [sheet_q h, bd_some, M_isBird h.kim, bd_some, M_isSheet, bd_some, h.d0]
  by_cases c : 0 ≤ a ∧ a ≤ 3
  · obtain ⟨j, hj, rfl⟩ := rng (n := 3) c rfl (by omega)
    rw [if_pos c, shc_some, if_pos c, ite10, if_pos (ix_nI (by omega) (by omega)), nI_clamp (by omega), if_pos (show j < 4 by omega)]
    obtain ⟨hw, -⟩ := h.2.2.2.2.2 j (by omega)
    unfold f_X1_isMissing
    rw [hw]
    by_cases e0 : X (4 + j) 1 0 = 0
    · rw [if_pos e0, if_pos e0, bd_some, bd_some, ite10, if_neg (show ¬ (-1000006 : Int32) = 0 by decide)]
      exact find5 h
    · rw [if_neg e0, if_neg e0, bd_some, ite00, X0_has h.ki, bd_some]
      by_cases d : 0 ≤ b.toInt ∧ b.toInt < nb (X 0)
      · obtain ⟨i, hi, rfl⟩ := has_nI hb8 d
        have a0 : f_X4_birdAt (nI i) 0 = some (nI (20 + 9 * i + 0)) := M_birdAt i 0
        have a7 : f_X4_birdAt (nI i) 7 = some (nI (20 + 9 * i + 7)) := M_birdAt i 7
        rw [if_pos d, ite10, ite10, bd_some, if_pos rfl, a0, bd_some, if_pos (ix_nI (by omega) (by omega)), nI_clamp (by omega)]
        have key : ∀ t k, k + t = 7 → ∀ n1 n2, t < n1 → t < n2 → ∀ Y m x, R Y μ → NearP μ (20 + 9 * i + 0) m → Sim (f_X3_kinds_L52 n1 Y (nI i) j x (nI k)) (f_X4_kinds_L43 n2 m (nI j) (nI i) (nI (20 + 9 * i + 0)) (μ 0 (20 + 9 * i + 0)) x (nI k)) := by
          intro t
          induction t with
          | zero =>
            intro k hk n1 n2 h1 h2 Y m x hY hm
            obtain ⟨n1, rfl⟩ : ∃ z, n1 = z + 1 := ⟨n1 - 1, by omega⟩
            obtain ⟨n2, rfl⟩ : ∃ z, n2 = z + 1 := ⟨n2 - 1, by omega⟩
            rw [f_X3_kinds_L52, if_pos (show (7 : Int32) ≤ nI k from nI_le (a := 7) (by omega) (by omega)), f_X4_kinds_L43, if_pos (show (6 : Int32) < nI k from nI_lt (a := 6) (by omega) (by omega)), f_X4_kinds_B92, if_pos (ix_nI (by omega) (by omega)), nI_clamp (by omega)]
            exact Sim.of (hm.fin.R hY)
          | succ t ih =>
            intro k hk n1 n2 h1 h2 Y m x hY hm
            obtain ⟨n1, rfl⟩ : ∃ z, n1 = z + 1 := ⟨n1 - 1, by omega⟩
            obtain ⟨n2, rfl⟩ : ∃ z, n2 = z + 1 := ⟨n2 - 1, by omega⟩
            obtain ⟨r, Y', m', p1, p2, p3, p4⟩ := agree_step hY (j := j) (i := i) (w := 0) (v := nI k) (by omega) (by omega) (by omega) hm (KI_t0 hY.ki ⟨k, by omega, rfl⟩)
            have p1' : f_X3_arrearsAgree Y j (nI i) 0 (nI k) = some (r, Y') := p1
            rw [f_X3_kinds_L52, if_neg (show ¬ (7 : Int32) ≤ nI k from nI_ge (b := 7) (by omega) (by omega)), p1', bd_some, f_X4_kinds_L43, if_neg (show ¬ (6 : Int32) < nI k from nI_nlt (a := 6) (by omega) (by omega)), if_pos (ix_nI (by omega) (by omega)), nI_clamp (by omega), a7, bd_some, p2, bd_some, nI_1, or0]
            by_cases z : r = 0
            · rw [if_pos z, if_pos z]
              exact ih (k + 1) (by omega) n1 n2 (by omega) (by omega) _ _ _ p3 p4
            · rw [if_neg z, if_neg z]
              exact ih (k + 1) (by omega) n1 n2 (by omega) (by omega) _ _ _ p3 p4
        exact key 7 0 (by omega) 1000 1000 (by omega) (by omega) X μ 0 h (NearP.rf _ _)
      · rw [if_neg d, ite00, ite00, bd_some, if_neg (show ¬ (-1000001 : Int32) = 0 by decide)]
        exact find0 h
  · rw [if_neg c, shc_none, if_neg c, ite00, bd_some, if_neg (show ¬ (-1000001 : Int32) = 0 by decide)]
    exact find0 h
end OPS
