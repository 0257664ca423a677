def pc (s : Nat) : Nat := cnt (fun i => s.testBit i) 8
theorem pc_le : ∀ s, s < 256 → ∀ b, b < 9 → s < 2 ^ b → pc s ≤ b := by decide +kernel
theorem tbl_pow : ∀ b, b < 9 → (1 : Int32) <<< (nI b &&& 31) = nI (2 ^ b) ∧ nI (2 ^ b) - 1 = nI (2 ^ b) + (-1) ∧ 2 ^ b ≤ 256 := by decide +kernel
theorem pc_8 (s : Nat) : pc s ≤ 8 := cnt_le 8
theorem bitc {s : Nat} (h : s < 256) : f_J6_bitCount_0f7a4 (nI s) = some (nI (pc s)) := tbl_bitc s h
theorem bitm {s : Nat} (h : s < 256) : f_X4_bits (nI s) = some (nI (pc s)) := tbl_bits s h
theorem bI_0 {b : Bool} : bI b = 0 ↔ b = false := by cases b <;> decide
section OPS
variable {X : K3} {μ : K2}
theorem s_strike (h : R X μ) (a : Int32) : Sim (f_X3_strike X a) (f_X4_strike μ a) := by
  have hb8 := h.ki.1.2
  have hb := h.ki.1.1
  unfold f_X3_strike f_X4_strike
  simp only [within_X3, within_X4, bd_some]
  by_cases d : 0 ≤ a ∧ a ≤ 24
  · simp only [if_pos d, ite10]
    obtain ⟨n, hn, rfl⟩ := rng (n := 24) d rfl (by omega)
    have hm1 : μ 0 1 = nI (nb (X 0)) := by rw [n1 h.kim, h.d0]
    obtain ⟨t1, t2, t3⟩ := tbl_pow (nb (X 0)) (by omega)
    rw [hm1, hb, t1, t2]
    obtain ⟨N, hN⟩ : ∃ N, N = 2 ^ nb (X 0) := ⟨_, rfl⟩
    rw [← hN] at t3 ⊢
    obtain ⟨en, hen⟩ : ∃ en : Nat → Prop, en = fun s => enB (dec (μ 0)) s n = true := ⟨_, rfl⟩
    have only : ∀ Y s, R Y μ → ∃ Y', R Y' μ ∧ f_X3_onlyTheseOwed Y (nI s) (nI n) = some (bI (enB (dec (μ 0)) s n), Y') := by
      intro Y s hY
      refine ⟨_, hY.X2 (Cz_days (Cz_off hY.cz0 s _ hY.ki.1.2) (by rw [nb_off]; exact hY.ki.1.2) n), ?_⟩
      rw [X_only hY (by omega), hY.d0]
    have k42 : ∀ (K : K3 → Int32 → Int32 → Int32 → Option (Int32 × K3)) (z : Nat), z ≤ 8 → ∀ t k, k + t = N → ∀ n1, t < n1 → ∀ Y, R Y μ → ∃ Y', R Y' μ ∧ ((∃ s, k ≤ s ∧ s < N ∧ pc s = z ∧ en s ∧ (∀ l, k ≤ l → l < s → pc l = z → ¬ en l) ∧ f_X3_strike_L42 K n1 Y (nI n) (nI N) (nI z) (nI k) = some (nI s, Y')) ∨ ((∀ l, k ≤ l → l < N → pc l = z → ¬ en l) ∧ f_X3_strike_L42 K n1 Y (nI n) (nI N) (nI z) (nI k) = K Y' (nI n) (nI N) (nI (z + 1)))) := by
      intro K z hz t
      induction t with
      | zero =>
        intro k hk n1 h1 Y hY
        obtain ⟨n1, rfl⟩ : ∃ z, n1 = z + 1 := ⟨n1 - 1, by omega⟩
        refine ⟨Y, hY, Or.inr ⟨fun l h1 h2 => by omega, ?_⟩⟩
        rw [f_X3_strike_L42, if_pos (nI_le (by omega) (by omega)), nI_1]
      | succ t ih =>
        intro k hk n1 h1 Y hY
        obtain ⟨n1, rfl⟩ : ∃ z, n1 = z + 1 := ⟨n1 - 1, by omega⟩
        have go : ∀ Y1, R Y1 μ → (pc k = z → ¬ en k) → f_X3_strike_L42 K (n1 + 1) Y (nI n) (nI N) (nI z) (nI k) = f_X3_strike_L42 K n1 Y1 (nI n) (nI N) (nI z) (nI (k + 1)) → ∃ Y', R Y' μ ∧ ((∃ s, k ≤ s ∧ s < N ∧ pc s = z ∧ en s ∧ (∀ l, k ≤ l → l < s → pc l = z → ¬ en l) ∧ f_X3_strike_L42 K (n1 + 1) Y (nI n) (nI N) (nI z) (nI k) = some (nI s, Y')) ∨ ((∀ l, k ≤ l → l < N → pc l = z → ¬ en l) ∧ f_X3_strike_L42 K (n1 + 1) Y (nI n) (nI N) (nI z) (nI k) = K Y' (nI n) (nI N) (nI (z + 1)))) := by
          intro Y1 hY1 hno hq
          obtain ⟨Y', r1, r2⟩ := ih (k + 1) (by omega) n1 (by omega) Y1 hY1
          refine ⟨Y', r1, ?_⟩
          rw [hq]
          rcases r2 with ⟨j, q1, q2, q3, q4, q5, q6⟩ | ⟨q1, q2⟩
          · refine Or.inl ⟨j, by omega, q2, q3, q4, fun l h1 h2 => ?_, q6⟩
            by_cases e : l = k
            · subst e; exact hno
            · exact q5 l (by omega) h2
          · refine Or.inr ⟨fun l h1 h2 => ?_, q2⟩
            by_cases e : l = k
            · subst e; exact hno
            · exact q1 l (by omega) h2
        have h8 := pc_8 k
        by_cases e : pc k = z
        · obtain ⟨Y1, hY1, o1⟩ := only Y k hY
          by_cases y : en k
          · refine ⟨Y1, hY1, Or.inl ⟨k, Nat.le_refl _, by omega, e, y, fun l h1 h2 => by omega, ?_⟩⟩
            rw [hen] at y
            rw [f_X3_strike_L42, if_neg (nI_ge (by omega) (by omega)), bitc (by omega), bd_some, e, if_pos rfl, o1, bd_some, y]
            rfl
          · refine go Y1 hY1 (fun _ => y) ?_
            have y' : enB (dec (μ 0)) k n = false := by rw [hen] at y; exact Bool.eq_false_iff.mpr y
            rw [f_X3_strike_L42, if_neg (nI_ge (by omega) (by omega)), bitc (by omega), bd_some, e, if_pos rfl, o1, bd_some, y', nI_1]
            rfl
        · refine go Y hY (fun q => absurd q e) ?_
          have hne : ¬ nI (pc k) = nI z := fun q => e ((nI_eq (by omega) (by omega)).mp q)
          rw [f_X3_strike_L42, if_neg (nI_ge (by omega) (by omega)), bitc (by omega), bd_some, if_neg hne, nI_1]
    have k28 : ∀ t z, z + t = nb (X 0) + 1 → ∀ n1, t < n1 → ∀ Y, R Y μ → ∃ Y', R Y' μ ∧ ((∃ s, s < N ∧ en s ∧ (∀ l, l < N → z ≤ pc l → en l → pc s < pc l ∨ (pc s = pc l ∧ s ≤ l)) ∧ f_X3_strike_L28 n1 Y (nI n) (nI N) (nI z) = some (nI s, Y')) ∨ ((∀ l, l < N → z ≤ pc l → ¬ en l) ∧ f_X3_strike_L28 n1 Y (nI n) (nI N) (nI z) = Option.bind (f_X3_finding Y' 3) (fun q => some (q.1, q.2)))) := by
      intro t
      induction t with
      | zero =>
        intro z hz n1 h1 Y hY
        obtain ⟨n1, rfl⟩ : ∃ z, n1 = z + 1 := ⟨n1 - 1, by omega⟩
        refine ⟨Y, hY, Or.inr ⟨fun l h1 h2 => ?_, ?_⟩⟩
        · have := pc_le l (by omega) (nb (X 0)) (by omega) (by rw [← hN]; exact h1)
          omega
        · have e3 : Y 0 11 3 = nI (nb (X 0)) := by rw [← hY.d0, h.d0]; exact hb
          rw [f_X3_strike_L28, e3, if_pos (nI_lt (by omega) (by omega)), f_X3_strike_B82]
      | succ t ih =>
        intro z hz n1 h1 Y hY
        obtain ⟨n1, rfl⟩ : ∃ z, n1 = z + 1 := ⟨n1 - 1, by omega⟩
        have e3 : Y 0 11 3 = nI (nb (X 0)) := by rw [← hY.d0, h.d0]; exact hb
        rw [f_X3_strike_L28, e3, if_neg (nI_nlt (by omega) (by omega))]
        obtain ⟨Y1, r1, r2⟩ := k42 (fun y0 y1 y2 y3 => f_X3_strike_L28 n1 y0 y1 y2 y3) z (by omega) N 0 (by omega) 1000 (by omega) Y hY
        rcases r2 with ⟨s, q1, q2, q3, q4, q5, q6⟩ | ⟨q1, q2⟩
        · refine ⟨Y1, r1, Or.inl ⟨s, q2, q4, fun l y1 y2 y3 => ?_, q6⟩⟩
          by_cases e : pc l = z
          · refine Or.inr ⟨by omega, ?_⟩
            by_cases w : l < s
            · exact absurd y3 (q5 l (by omega) w e)
            · omega
          · exact Or.inl (by omega)
        · obtain ⟨Y2, r3, r4⟩ := ih (z + 1) (by omega) n1 (by omega) Y1 r1
          refine ⟨Y2, r3, ?_⟩
          rcases r4 with ⟨s, p1, p2, p3, p4⟩ | ⟨p1, p2⟩
          · refine Or.inl ⟨s, p1, p2, fun l y1 y2 y3 => ?_, q2.trans p4⟩
            by_cases e : pc l = z
            · exact absurd y3 (q1 l (by omega) y1 e)
            · exact p3 l y1 (by omega) y3
          · refine Or.inr ⟨fun l y1 y2 => ?_, q2.trans p2⟩
            by_cases e : pc l = z
            · exact q1 l (by omega) y1 e
            · exact p1 l y1 (by omega)
    obtain ⟨inv, hinv⟩ : ∃ inv : Nat → Int32 → Prop, inv = fun t best => (best = -1 ∧ ∀ l, t ≤ l → l < N → ¬ en l) ∨ (∃ s, t ≤ s ∧ s < N ∧ en s ∧ (∀ l, t ≤ l → l < N → en l → pc s < pc l ∨ (pc s = pc l ∧ s ≤ l)) ∧ best = nI s) := ⟨_, rfl⟩
    have km : ∀ t, t ≤ N → ∀ n2, t < n2 → ∀ m best, Near4 μ m → inv t best → ∃ m' best', Near4 μ m' ∧ inv 0 best' ∧ f_X4_strike_L30 n2 m (nI n) best (nI t + (-1)) = f_X4_strike_B70 m' best' := by
      intro t
      induction t with
      | zero =>
        intro ht n2 h2 m best hm hi0
        obtain ⟨n2, rfl⟩ : ∃ z, n2 = z + 1 := ⟨n2 - 1, by omega⟩
        refine ⟨m, best, hm, hi0, ?_⟩
        rw [f_X4_strike_L30, if_pos dn_neg]
      | succ t ih =>
        intro ht n2 h2 m best hm hi0
        obtain ⟨n2, rfl⟩ : ∃ z, n2 = z + 1 := ⟨n2 - 1, by omega⟩
        have hKm : KI (dec (m 0)) := by rw [hm.dec]; exact h.kim
        obtain ⟨m1, f1, f2⟩ := M_enough hKm (s := t) (n := n) (by omega)
        rw [hm.dec] at f1
        have hm1' := hm.trans f2
        rw [f_X4_strike_L30, nI_dn, if_neg (nI_pos (by omega))]
        have hent : en t ↔ enB (dec (μ 0)) t n = true := by rw [hen]
        have hi1 := hi0
        rw [hinv] at hi1
        rcases hi1 with ⟨q1, q2⟩ | ⟨s, q1, q2, q3, q4, q5⟩
        · rw [q1, if_pos (by decide), f1, bd_some]
          cases y : enB (dec (μ 0)) t n
          · have hno : ¬ en t := by rw [hent, y]; decide
            rw [if_pos (show bI false = 0 from rfl)]
            refine ih (by omega) n2 (by omega) m1 (-1) hm1' ?_
            rw [hinv]
            refine Or.inl ⟨rfl, fun l h1 h2 => ?_⟩
            by_cases e : l = t
            · subst e; exact hno
            · exact q2 l (by omega) h2
          · have hye : en t := hent.mpr y
            rw [if_neg (show ¬ bI true = 0 by decide)]
            refine ih (by omega) n2 (by omega) m1 (nI t) hm1' ?_
            rw [hinv]
            refine Or.inr ⟨t, Nat.le_refl _, by omega, hye, fun l h1 h2 h3 => ?_, rfl⟩
            by_cases e : l = t
            · subst e; exact Or.inr ⟨rfl, Nat.le_refl _⟩
            · exact absurd h3 (q2 l (by omega) h2)
        · have hs8 := pc_8 s
          have ht8 := pc_8 t
          rw [q5, if_neg (nI_pos (by omega)), bitm (by omega), bd_some, bitm (by omega), bd_some]
          by_cases w : pc s < pc t
          · rw [if_pos (nI_lt w (by omega))]
            refine ih (by omega) n2 (by omega) m (nI s) hm ?_
            rw [hinv]
            refine Or.inr ⟨s, by omega, q2, q3, fun l h1 h2 h3 => ?_, rfl⟩
            by_cases e : l = t
            · subst e; exact Or.inl w
            · exact q4 l (by omega) h2 h3
          · rw [if_neg (nI_nlt (by omega) (by omega)), f1, bd_some]
            cases y : enB (dec (μ 0)) t n
            · have hno : ¬ en t := by rw [hent, y]; decide
              rw [if_pos (show bI false = 0 from rfl)]
              refine ih (by omega) n2 (by omega) m1 (nI s) hm1' ?_
              rw [hinv]
              refine Or.inr ⟨s, by omega, q2, q3, fun l h1 h2 h3 => ?_, rfl⟩
              by_cases e : l = t
              · subst e; exact absurd h3 hno
              · exact q4 l (by omega) h2 h3
            · have hye : en t := hent.mpr y
              rw [if_neg (show ¬ bI true = 0 by decide)]
              refine ih (by omega) n2 (by omega) m1 (nI t) hm1' ?_
              rw [hinv]
              refine Or.inr ⟨t, Nat.le_refl _, by omega, hye, fun l h1 h2 h3 => ?_, rfl⟩
              by_cases e : l = t
              · subst e; exact Or.inr ⟨rfl, Nat.le_refl _⟩
              · have := q4 l (by omega) h2 h3
                omega
    obtain ⟨Y', hY', hx⟩ := k28 (nb (X 0) + 1) 0 (by omega) 1000 (by omega) X h
    obtain ⟨m', cur', hm', hc', hq⟩ := km N (Nat.le_refl _) 1000 (by omega) μ (-1) (Near4.rf _) (by rw [hinv]; exact Or.inl ⟨rfl, fun l h1 h2 => by omega⟩)
    rw [hq, f_X4_strike_B70]
    have hR : R Y' m' := hm'.R hY'
    rw [hinv] at hc'
    show Sim (f_X3_strike_L28 1000 X (nI n) (nI N) (nI 0)) (Option.bind (f_X4_orNone m' cur') _)
    rcases hx with ⟨j, q2, q3, q4, q5⟩ | ⟨q1, q2⟩
    · rcases hc' with ⟨y1, y2⟩ | ⟨j', y1, y2, y3, y4, y5⟩
      · exact absurd q3 (y2 j (by omega) q2)
      · have ej : j' = j := by
          have c1 := q4 j' y2 (by omega) y3
          have c2 := y4 j (by omega) q2 q3
          omega
        rw [q5, y5, ej, M_orNone_ok _ (by omega), bd_some]
        exact Sim.of hR
    · rcases hc' with ⟨y1, y2⟩ | ⟨j', y1, y2, y3, y4, y5⟩
      · rw [q2, y1, M_orNone_no, bd_pair]
        exact find3 hR
      · exact absurd y3 (q1 j' y2 (by omega))
  · simp only [if_neg d, ite00]; exact find0 h
end OPS
