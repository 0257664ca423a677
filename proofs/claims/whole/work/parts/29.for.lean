/-! ===== pure: what would be, were something otherwise ===== -/
def Near (μ m : K2) : Prop := (∀ k, k < 92 → m 0 k = μ 0 k) ∧ ∀ c, c ≠ 0 → c ≠ 2 → m c = μ c
def NearP (μ : K2) (p : Nat) (m : K2) : Prop := (∀ k, k < 92 → k ≠ p → m 0 k = μ 0 k) ∧ ∀ c, c ≠ 0 → c ≠ 2 → m c = μ c
def putE (μ : K2) (p : Nat) (v : Int32) : K2 := va_up μ 0 (upd (μ 0) p v)
theorem Near.rf (μ : K2) : Near μ μ := ⟨fun _ _ => rfl, fun _ _ _ => rfl⟩
theorem Near.trans {a b c : K2} (h : Near a b) (g : Near b c) : Near a c := ⟨fun k hk => (g.1 k hk).trans (h.1 k hk), fun r h0 h2 => (g.2 r h0 h2).trans (h.2 r h0 h2)⟩
theorem Near.dec {μ m : K2} (h : Near μ m) : dec (m 0) = dec (μ 0) := dec_same h.1
theorem Near.R {X : K3} {μ m : K2} (n : Near μ m) (h : R X μ) : R X m :=
  h.mu n.dec (n.2 1 (by decide) (by decide)) (n.2 3 (by decide) (by decide)) (n.2 5 (by decide) (by decide)) (n.2 7 (by decide) (by decide)) (n.2 8 (by decide) (by decide)) (n.2 9 (by decide) (by decide)) (congrFun (n.2 11 (by decide) (by decide)) 0) (congrFun (n.2 11 (by decide) (by decide)) 1)
theorem NearP.rf (μ : K2) (p : Nat) : NearP μ p μ := ⟨fun _ _ _ => rfl, fun _ _ _ => rfl⟩
theorem NearP.put {μ m : K2} {p : Nat} (h : NearP μ p m) (v : Int32) : Near (putE μ p v) (putE m p v) := by
  refine ⟨fun k hk => ?_, fun c h0 h2 => ?_⟩
  · show upd (m 0) p v k = upd (μ 0) p v k
    by_cases e : k = p
    · subst e; rw [upd_s, upd_s]
    · rw [upd_n e, upd_n e, h.1 k hk e]
  · show va_up m 0 _ c = va_up μ 0 _ c
    rw [up_n h0, up_n h0, h.2 c h0 h2]
theorem NearP.of {μ m : K2} {p : Nat} {v : Int32} (h : Near (putE μ p v) m) : NearP μ p m := by
  refine ⟨fun k hk e => ?_, fun c h0 h2 => ?_⟩
  · rw [h.1 k hk]; exact upd_n e
  · rw [h.2 c h0 h2]; exact up_n h0
theorem NearP.fin {μ m : K2} {p : Nat} (h : NearP μ p m) : Near μ (putE m p (μ 0 p)) := by
  refine ⟨fun k hk => ?_, fun c h0 h2 => ?_⟩
  · show upd (m 0) p (μ 0 p) k = μ 0 k
    by_cases e : k = p
    · subst e; rw [upd_s]
    · rw [upd_n e, h.1 k hk e]
  · show va_up m 0 _ c = μ c
    rw [up_n h0, h.2 c h0 h2]
theorem near_back {μ σ a : K2} (hm : Mst (asideS μ) σ a) : Near μ (backS a) := by
  have h2 : a 2 = cpy92 (μ 0) (μ 2) := hm.other (by decide)
  refine ⟨fun k hk => ?_, fun c h0 hc => ?_⟩
  · show cpy92 (a 2) (a 0) k = _
    rw [h2]; unfold cpy92; rw [if_pos hk, if_pos hk]
  · show va_up a 0 _ c = _
    rw [up_n h0, hm.other h0]
    show va_up μ 2 _ c = _
    rw [up_n hc]
theorem M_beh {m : K2} (h : KI (dec (m 0))) {i n : Nat} (hi : i < 8) (hn : n ≤ 200) : ∃ m', f_X4_behind m (nI (20 + 9 * i + 8)) (nI n) = some (daysS n (dec (m 0)) 8 i, m') ∧ Near m m' := by
  obtain ⟨a, f1, f2⟩ := M_behind h (k := 20 + 9 * i + 8) (by omega) hn
  refine ⟨backS a, ?_, near_back f2⟩
  rw [f1, ← f2.row, dec_t (by omega) (by omega)]
theorem M_owed {m : K2} (h : KI (dec (m 0))) {n : Nat} (hn : n ≤ 200) : ∃ m', f_X4_owedBehind m (nI n) = some (setOf (owes (daysS n (dec (m 0)))) (nb (dec (m 0))), m') ∧ Near m m' := by
  have hb8 := h.1.2
  obtain ⟨a, f1, f2⟩ := M_daysGo (μ := asideS m) h hn
  have f1' : f_X4_daysGo (va_up m 2 (cpy92 (m 0) (m 2))) (nI n) = some a := f1
  have hrow : dec (a 0) = daysS n (dec (m 0)) := f2.row
  have hKa : KI (dec (a 0)) := by rw [hrow]; exact KI_days h n
  have hn1 : a 0 1 = nI (nb (dec (m 0))) := by rw [n1 hKa, hrow, nb_days]
  refine ⟨backS a, ?_, near_back f2⟩
  unfold f_X4_owedBehind
  rw [M_copyRow, bd_some, f1', bd_some]
  refine for_seq (fun n s i => f_X4_owedBehind_L20 n a s i) (setOf (owes (daysS n (dec (m 0))))) (nb (dec (m 0))) _ ?_ ?_ (nb (dec (m 0))) 0 1000 (by omega) (by omega)
  · intro k i hi
    show f_X4_owedBehind_L20 (k + 1) _ _ _ = f_X4_owedBehind_L20 k _ _ _
    rw [f_X4_owedBehind_L20, hn1, if_neg (nI_ge hi (by omega)), M_b7 a (by omega), bd_some, hrow, nI_1, or0]
    by_cases z : daysS n (dec (m 0)) 7 i ≤ 0
    · rw [if_pos z, setOf_f]
      unfold owes
      rw [decide_eq_false_iff_not]
      rw [i32_le] at z; rw [i32_lt]; omega
    · rw [if_neg z, setOf_t]
      unfold owes
      rw [decide_eq_true_eq]
      rw [i32_le] at z; rw [i32_lt]; omega
  · intro k
    show f_X4_owedBehind_L20 (k + 1) _ _ _ = _
    rw [f_X4_owedBehind_L20, hn1, if_pos (nI_le (Nat.le_refl _) (by omega)), f_X4_owedBehind_B56, M_putBack, bd_some]
    rfl
section OPS
variable {X : K3} {μ : K2}
theorem X_paidWith (h : R X μ) {i w n : Nat} {v : Int32} (hi : i < 8) (hw : w < 9) (hn : n ≤ 100) (hK : KI (va_up (X 0) w (upd (X 0 w) i v))) :
    f_X3_paidWith X (nI i) (nI w) v (nI n) = some (daysS n (va_up (X 0) w (upd (X 0 w) i v)) 8 i, va_up X 2 (daysS n (va_up (X 0) w (upd (X 0 w) i v)))) := by
  unfold f_X3_paidWith
  rw [h.trial, bd_some, if_pos (ix_nI hw (by omega)), if_pos (ix_nI hi (by omega)), nI_clamp (by omega), nI_clamp (by omega), X0_passDays hK hn, bd_some]
theorem R.czw (h : R X μ) {c i n : Nat} {v : Int32} (hr : (c < 9 ∧ i < 8) ∨ (c = 9 ∧ i < 6) ∨ (c = 10 ∧ i < 10) ∨ (c = 11 ∧ i < 4)) (hK : KI (va_up (X 0) c (upd (X 0 c) i v))) : Cz (daysS n (va_up (X 0) c (upd (X 0 c) i v))) :=
  Cz_days (Cz_up h.cz0 hr) hK.1.2 n
theorem s_kindFor (h : R X μ) (a b : Int32) : Sim (f_X3_kindFor X a b) (f_X4_kindFor μ a b) := by
  have hb8 := h.ki.1.2
  unfold f_X3_kindFor f_X4_kindFor
  simp only [within_X3, M_isThought, bd_some, X0_has h.ki, M_isBird h.kim]
  rw [h.d0]
  by_cases c : 0 ≤ a.toInt ∧ a.toInt < nb (X 0)
  · simp only [if_pos c, ite10]
    by_cases d : 0 ≤ b ∧ b ≤ 60
    · simp only [if_pos d, ite10]
      obtain ⟨i, hi, rfl⟩ := has_nI hb8 c
      obtain ⟨n, hn, rfl⟩ := rng (n := 60) d rfl (by omega)
      have a0 : f_X4_birdAt (nI i) 0 = some (nI (20 + 9 * i + 0)) := M_birdAt i 0
      have a8 : f_X4_birdAt (nI i) 8 = some (nI (20 + 9 * i + 8)) := M_birdAt i 8
      rw [a0, bd_some, if_pos (ix_nI (by omega) (by omega)), nI_clamp (by omega)]
      have key : ∀ t k, k + t = 7 → ∀ n1 n2, t < n1 → t < n2 → ∀ Y m best top, R Y μ → NearP μ (20 + 9 * i + 0) m → Sim (f_X3_kindFor_L35 n1 Y (nI i) (nI n) best top (nI k)) (f_X4_kindFor_L45 n2 m (nI i) (nI n) (nI (20 + 9 * i + 0)) (μ 0 (20 + 9 * i + 0)) best top (nI k)) := by
        intro t
        induction t with
        | zero =>
          intro k hk n1 n2 h1 h2 Y m best top hY hm
          obtain ⟨n1, rfl⟩ : ∃ z, n1 = z + 1 := ⟨n1 - 1, by omega⟩
          obtain ⟨n2, rfl⟩ : ∃ z, n2 = z + 1 := ⟨n2 - 1, by omega⟩
          have hk7 : k = 7 := by omega
          subst hk7
          rw [f_X3_kindFor_L35, if_pos e7, f_X4_kindFor_L45, if_pos (show (6 : Int32) < nI 7 by decide), f_X4_kindFor_B94, if_pos (ix_nI (by omega) (by omega)), nI_clamp (by omega)]
          exact Sim.of (hm.fin.R hY)
        | succ t ih =>
          intro k hk n1 n2 h1 h2 Y m best top hY hm
          obtain ⟨n1, rfl⟩ : ∃ z, n1 = z + 1 := ⟨n1 - 1, by omega⟩
          obtain ⟨n2, rfl⟩ : ∃ z, n2 = z + 1 := ⟨n2 - 1, by omega⟩
          have hK : KI (va_up (Y 0) 0 (upd (Y 0 0) i (nI k))) := KI_t0 hY.ki ⟨k, by omega, rfl⟩
          have hN := hm.put (nI k)
          have hd : dec (putE m (20 + 9 * i + 0) (nI k) 0) = va_up (Y 0) 0 (upd (Y 0 0) i (nI k)) := by
            rw [hN.dec]
            show dec (upd (μ 0) (20 + 9 * i + 0) (nI k)) = _
            rw [dec_w (by omega) (by omega), hY.d0]
          obtain ⟨m', f1, f2⟩ := M_beh (m := putE m (20 + 9 * i + 0) (nI k)) (by rw [hd]; exact hK) (i := i) (n := n) (by omega) (by omega)
          rw [hd] at f1
          have f1' : f_X4_behind (va_up m 0 (upd (m 0) (20 + 9 * i + 0) (nI k))) (nI (20 + 9 * i + 8)) (nI n) = some (daysS n (va_up (Y 0) 0 (upd (Y 0 0) i (nI k))) 8 i, m') := f1
          have px : f_X3_paidWith Y (nI i) 0 (nI k) (nI n) = some (daysS n (va_up (Y 0) 0 (upd (Y 0 0) i (nI k))) 8 i, va_up Y 2 (daysS n (va_up (Y 0) 0 (upd (Y 0 0) i (nI k))))) := X_paidWith hY (w := 0) (by omega) (by omega) (by omega) hK
          have hY' := hY.X2 (hY.czw (n := n) (Or.inl ⟨by omega, by omega⟩) hK)
          have hm' := NearP.of (hN.trans f2)
          rw [f_X3_kindFor_L35, if_neg (g7 (by omega)), px, bd_some, f_X4_kindFor_L45, if_neg (show ¬ (6 : Int32) < nI k from nI_nlt (a := 6) (by omega) (by omega)), if_pos (ix_nI (by omega) (by omega)), nI_clamp (by omega), a8, bd_some, f1', bd_some, nI_1]
          by_cases z : daysS n (va_up (Y 0) 0 (upd (Y 0 0) i (nI k))) 8 i ≤ top
          · rw [if_pos z, if_pos z]
            exact ih (k + 1) (by omega) n1 n2 (by omega) (by omega) _ _ _ _ hY' hm'
          · rw [if_neg z, if_neg z]
            exact ih (k + 1) (by omega) n1 n2 (by omega) (by omega) _ _ _ _ hY' hm'
      exact key 7 0 (by omega) 1000 1000 (by omega) (by omega) X μ 0 (-1) h (NearP.rf _ _)
    · simp only [if_neg d, ite00]; exact find0 h
  · simp only [if_neg c, ite00]; exact find0 h
theorem s_parentFor (h : R X μ) (a b : Int32) : Sim (f_X3_parentFor X a b) (f_X4_parentFor μ a b) := by
  have hb8 := h.ki.1.2
  unfold f_X3_parentFor f_X4_parentFor
  simp only [within_X3, M_isThought, bd_some, X0_has h.ki, M_isBird h.kim]
  rw [h.d0]
  by_cases c : 0 ≤ a.toInt ∧ a.toInt < nb (X 0)
  · simp only [if_pos c, ite10]
    by_cases d : 0 ≤ b ∧ b ≤ 60
    · simp only [if_pos d, ite10]
      obtain ⟨i, hi, rfl⟩ := has_nI hb8 c
      obtain ⟨n, hn, rfl⟩ := rng (n := 60) d rfl (by omega)
      have a0 : f_X4_birdAt (nI i) 2 = some (nI (20 + 9 * i + 2)) := M_birdAt i 2
      have a8 : f_X4_birdAt (nI i) 8 = some (nI (20 + 9 * i + 8)) := M_birdAt i 8
      rw [a0, bd_some, if_pos (ix_nI (by omega) (by omega)), nI_clamp (by omega)]
      have step : ∀ (Y : K3) (m : K2) (v : Int32), (v = -1 ∨ ∃ k, k < i ∧ v = nI k) → R Y μ → NearP μ (20 + 9 * i + 2) m → ∃ r Y' m', f_X3_paidWith Y (nI i) 2 v (nI n) = some (r, Y') ∧ f_X4_behind (va_up m 0 (upd (m 0) (20 + 9 * i + 2) v)) (nI (20 + 9 * i + 8)) (nI n) = some (r, m') ∧ R Y' μ ∧ NearP μ (20 + 9 * i + 2) m' ∧ m' 0 (20 + 9 * i + 2) = v := by
        intro Y m v hv hY hm
        have hK : KI (va_up (Y 0) 2 (upd (Y 0 2) i v)) := KI_t2 hY.ki hv
        have hN := hm.put v
        have hd : dec (putE m (20 + 9 * i + 2) v 0) = va_up (Y 0) 2 (upd (Y 0 2) i v) := by
          rw [hN.dec]
          show dec (upd (μ 0) (20 + 9 * i + 2) v) = _
          rw [dec_w (by omega) (by omega), hY.d0]
        obtain ⟨m', f1, f2⟩ := M_beh (m := putE m (20 + 9 * i + 2) v) (by rw [hd]; exact hK) (i := i) (n := n) (by omega) (by omega)
        rw [hd] at f1
        have hN' := hN.trans f2
        exact ⟨_, _, m', X_paidWith hY (w := 2) (by omega) (by omega) (by omega) hK, f1, hY.X2 (hY.czw (n := n) (Or.inl ⟨by omega, by omega⟩) hK), NearP.of hN', (hN'.1 _ (by omega)).trans upd_s⟩
      have key : ∀ t k, k + t = i → ∀ n1 n2, t < n1 → t + 1 < n2 → ∀ Y m best top, R Y μ → NearP μ (20 + 9 * i + 2) m → Sim (f_X3_parentFor_L35 n1 Y (nI i) (nI n) best top (nI k)) (f_X4_parentFor_L45 n2 m (nI i) (nI n) (nI (20 + 9 * i + 2)) (μ 0 (20 + 9 * i + 2)) best top (nI k)) := by
        intro t
        induction t with
        | zero =>
          intro k hk n1 n2 h1 h2 Y m best top hY hm
          obtain ⟨n1, rfl⟩ : ∃ z, n1 = z + 1 := ⟨n1 - 1, by omega⟩
          obtain ⟨n2, rfl⟩ : ∃ z, n2 = z + 1 := ⟨n2 - 1, by omega⟩
          obtain ⟨n2, rfl⟩ : ∃ z, n2 = z + 1 := ⟨n2 - 1, by omega⟩
          have hki : k = i := by omega
          subst hki
          obtain ⟨r, Y', m', p1, p2, p3, p4, p5⟩ := step Y m (-1) (Or.inl rfl) hY hm
          have hend : ∀ best' top', f_X4_parentFor_L45 (n2 + 1) m' (nI k) (nI n) (nI (20 + 9 * k + 2)) (μ 0 (20 + 9 * k + 2)) best' top' (nI (k + 1)) = some (best', putE m' (20 + 9 * k + 2) (μ 0 (20 + 9 * k + 2))) := by
            intro best' top'
            rw [f_X4_parentFor_L45, if_pos (nI_lt (by omega) (by omega)), f_X4_parentFor_B107, if_pos (ix_nI (by omega) (by omega)), nI_clamp (by omega)]
            rfl
          rw [f_X3_parentFor_L35, if_pos (nI_le (Nat.le_refl _) (by omega)), f_X3_parentFor_B72, p1, bd_some, f_X4_parentFor_L45, if_neg (nI_nlt (Nat.le_refl _) (by omega)), if_pos rfl, if_pos (ix_nI (by omega) (by omega)), nI_clamp (by omega), a8, bd_some, p2, bd_some, nI_1]
          by_cases z : r ≤ top
          · rw [if_pos z, if_pos z, hend]
            exact Sim.of (p4.fin.R p3)
          · rw [if_neg z, if_neg z, hend]
            exact Sim.of' p5.symm (p4.fin.R p3)
        | succ t ih =>
          intro k hk n1 n2 h1 h2 Y m best top hY hm
          obtain ⟨n1, rfl⟩ : ∃ z, n1 = z + 1 := ⟨n1 - 1, by omega⟩
          obtain ⟨n2, rfl⟩ : ∃ z, n2 = z + 1 := ⟨n2 - 1, by omega⟩
          obtain ⟨r, Y', m', p1, p2, p3, p4, p5⟩ := step Y m (nI k) (Or.inr ⟨k, by omega, rfl⟩) hY hm
          have hne : ¬ nI k = nI i := by
            intro z
            have := (nI_eq (by omega) (by omega)).mp z
            omega
          rw [f_X3_parentFor_L35, if_neg (nI_ge (by omega) (by omega)), p1, bd_some, f_X4_parentFor_L45, if_neg (nI_nlt (by omega) (by omega)), if_neg hne, if_pos (ix_nI (by omega) (by omega)), nI_clamp (by omega), a8, bd_some, p2, bd_some, nI_1]
          by_cases z : r ≤ top
          · rw [if_pos z, if_pos z]
            exact ih (k + 1) (by omega) n1 n2 (by omega) (by omega) _ _ _ _ p3 p4
          · rw [if_neg z, if_neg z]
            show Sim _ (f_X4_parentFor_L45 n2 m' _ _ _ _ (m' 0 (20 + 9 * i + 2)) _ _)
            rw [p5]
            exact ih (k + 1) (by omega) n1 n2 (by omega) (by omega) _ _ _ _ p3 p4
      exact key i 0 (by omega) 1000 1000 (by omega) (by omega) X μ (-1) (-1) h (NearP.rf _ _)
    · simp only [if_neg d, ite00]; exact find0 h
  · simp only [if_neg c, ite00]; exact find0 h
end OPS
