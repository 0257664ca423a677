/-! ===== pure: a copy, feeding ===== -/
theorem X_hasRow {σ : K2} {n : Nat} (hn : n ≤ 40) (h : σ 1 1 = nI n) (a b : Int32) : f_X1_hasRow σ a b = some (if 0 ≤ a.toInt ∧ 0 ≤ b.toInt ∧ a.toInt + b.toInt ≤ n then 1 else 0) := by
  have e0 : (0 : Int32).toInt = 0 := rfl
  have en : (nI n).toInt = (n : Int) := nI_toInt (by omega)
  unfold f_X1_hasRow
  rw [h]
  by_cases c1 : a < 0
  · rw [if_pos c1, if_neg]
    rw [i32_lt] at c1
    rintro ⟨q, -⟩
    omega
  · rw [if_neg c1]
    rw [i32_lt] at c1
    by_cases c2 : b < 0
    · rw [if_pos c2, if_neg]
      rw [i32_lt] at c2
      rintro ⟨-, q, -⟩
      omega
    · rw [if_neg c2]
      rw [i32_lt] at c2
      by_cases c3 : nI n < b
      · rw [if_pos c3, if_neg]
        rw [i32_lt] at c3
        rintro ⟨-, -, q⟩
        omega
      · rw [if_neg c3]
        rw [i32_lt] at c3
        obtain ⟨m, hm, rfl⟩ := nI_of_range (x := b) (n := n) (by omega) (by omega) (by omega)
        have em : (nI m).toInt = (m : Int) := nI_toInt (by omega)
        have es : (nI n - nI m).toInt = (n : Int) - m := pk_sub_toInt (by omega) (by omega)
        by_cases c4 : nI n - nI m < a
        · rw [if_pos c4, if_neg]
          rw [i32_lt] at c4
          rintro ⟨-, -, q⟩
          omega
        · rw [if_neg c4, if_pos]
          rw [i32_lt] at c4
          refine ⟨by omega, by omega, by omega⟩
theorem add64 {a b : Int32} (ha : 0 ≤ a.toInt) (hb : 0 ≤ b.toInt) : (a.toInt64 + b.toInt64).toInt = a.toInt + b.toInt := by
  have h1 := a.toInt_lt
  have h2 := b.toInt_lt
  rw [Int64.toInt_add, Int32.toInt_toInt64, Int32.toInt_toInt64]
  exact Int.bmod_eq_of_le_mul_two (by omega) (by omega)
/-- what the reference copies aside, and from there -/
theorem M_aside (μ : K2) {j p m : Nat} (hj : j < 4) (hp : p + m ≤ 40) (x3 x4 : Int32) : ∃ μ', f_X4_copy_L128 1000 μ (nI j) (nI p) x3 x4 (nI m) 0 = f_X4_copy_B162 μ' x3 x4 (nI m) ∧ (∀ c, c ≠ 10 → μ' c = μ c) ∧ ∀ i, i < m → μ' 10 i = μ 9 (40 * j + p + i) := by
  refine ⟨va_up μ 10 (fun x => if x < m then μ 9 (40 * j + p + x) else μ 10 x), ?_, fun c hc => up_n hc, fun i hi => by rw [up_s, if_pos hi]⟩
  have key := for_seq (fun n1 a k => f_X4_copy_L128 n1 a (nI j) (nI p) x3 x4 (nI m) k) (fun k => va_up μ 10 (fun x => if x < k then μ 9 (40 * j + p + x) else μ 10 x)) m (f_X4_copy_B162 (va_up μ 10 (fun x => if x < m then μ 9 (40 * j + p + x) else μ 10 x)) x3 x4 (nI m)) ?_ ?_ m 0 1000 (by omega) (by omega)
  · have e : (fun x => if x < 0 then μ 9 (40 * j + p + x) else μ 10 x) = μ 10 := by funext x; simp
    rw [e, up_self0] at key
    exact key
  · intro n1 k hk
    show f_X4_copy_L128 (n1 + 1) _ _ _ _ _ _ _ = f_X4_copy_L128 n1 _ _ _ _ _ _ _
    have i1 : ix (nI (40 * j + p + k)) 160 := ix_nI (by omega) (by omega)
    have i2 : ix (nI k) 40 := ix_nI (by omega) (by omega)
    have c1 : (nI (40 * j + p + k)).toNatClampNeg = 40 * j + p + k := nI_clamp (by omega)
    have c2 : (nI k).toNatClampNeg = k := nI_clamp (by omega)
    rw [f_X4_copy_L128, if_neg (nI_ge hk (by omega)), mul40, nI_add, if_pos i1, if_pos i2, c1, c2, nI_1, up_s, up_n (show (9 : Nat) ≠ 10 by decide), bx_uu]
    congr 2
    funext x
    by_cases e : x = k
    · subst e; rw [upd_s, if_pos (by omega)]
    · rw [upd_n e]
      by_cases c : x < k
      · rw [if_pos c, if_pos (by omega)]
      · rw [if_neg c, if_neg (by omega)]
  · intro n1
    show f_X4_copy_L128 (n1 + 1) _ _ _ _ _ _ _ = _
    rw [f_X4_copy_L128, if_pos (nI_le (Nat.le_refl _) (by omega))]
theorem M_from (μ : K2) {j q m : Nat} (hj : j < 4) (hq : q + m ≤ 40) : ∃ μ', f_X4_copy_B162 μ (nI j) (nI q) (nI m) = some (nI m, μ') ∧ (∀ c, c ≠ 9 → μ' c = μ c) ∧ ∀ y, μ' 9 y = if 40 * j + q ≤ y ∧ y < 40 * j + q + m then μ 10 (y - (40 * j + q)) else μ 9 y := by
  refine ⟨va_up μ 9 (fun y => if 40 * j + q ≤ y ∧ y < 40 * j + q + m then μ 10 (y - (40 * j + q)) else μ 9 y), ?_, fun c hc => up_n hc, fun y => by rw [up_s]⟩
  have key := for_seq (fun n1 a k => f_X4_copy_L165 n1 a (nI j) (nI q) (nI m) k) (fun k => va_up μ 9 (fun y => if 40 * j + q ≤ y ∧ y < 40 * j + q + k then μ 10 (y - (40 * j + q)) else μ 9 y)) m (some (nI m, va_up μ 9 (fun y => if 40 * j + q ≤ y ∧ y < 40 * j + q + m then μ 10 (y - (40 * j + q)) else μ 9 y))) ?_ ?_ m 0 1000 (by omega) (by omega)
  · have e : (fun y => if 40 * j + q ≤ y ∧ y < 40 * j + q + 0 then μ 10 (y - (40 * j + q)) else μ 9 y) = μ 9 := by
      funext y
      rw [if_neg (by omega)]
    rw [e, up_self0] at key
    exact key
  · intro n1 k hk
    show f_X4_copy_L165 (n1 + 1) _ _ _ _ _ = f_X4_copy_L165 n1 _ _ _ _ _
    have i1 : ix (nI (40 * j + q + k)) 160 := ix_nI (by omega) (by omega)
    have i2 : ix (nI k) 40 := ix_nI (by omega) (by omega)
    have c1 : (nI (40 * j + q + k)).toNatClampNeg = 40 * j + q + k := nI_clamp (by omega)
    have c2 : (nI k).toNatClampNeg = k := nI_clamp (by omega)
    rw [f_X4_copy_L165, if_neg (nI_ge hk (by omega)), if_pos i2, mul40, nI_add, if_pos i1, c1, c2, nI_1, up_s, up_n (show (10 : Nat) ≠ 9 by decide), bx_uu]
    congr 2
    funext y
    by_cases e : y = 40 * j + q + k
    · subst e
      rw [upd_s, if_pos (by omega)]
      congr 1
      omega
    · rw [upd_n e]
      by_cases c : 40 * j + q ≤ y ∧ y < 40 * j + q + k
      · rw [if_pos c, if_pos (by omega)]
      · rw [if_neg c, if_neg (by omega)]
  · intro n1
    show f_X4_copy_L165 (n1 + 1) _ _ _ _ _ = _
    rw [f_X4_copy_L165, if_pos (nI_le (Nat.le_refl _) (by omega))]
section OPS
variable {X : K3} {μ : K2}
theorem copy_core (h : R X μ) {j j' p q m n n' : Nat} (hj : j < 4) (hj' : j' < 4) (hn : n ≤ 40) (hn' : n' ≤ 40) (hp : p + m ≤ n) (hq : q + m ≤ n') : Sim (some (nI m, va_up X (4 + j') (va_up (X (4 + j')) 0 (va_cpy (X (4 + j) 0) (X (4 + j') 0) p q m)))) (f_X4_copy_L128 1000 μ (nI j) (nI p) (nI j') (nI q) (nI m) 0) := by
  obtain ⟨μ1, f1, f2, f3⟩ := M_aside μ hj (by omega) (nI j') (nI q) (p := p) (m := m)
  obtain ⟨μ2, g1, g2, g3⟩ := M_from μ1 hj' (by omega) (q := q) (m := m)
  rw [f1, g1]
  obtain ⟨r1, r2, r3, r4, r5⟩ := h.2.2.2.2.2 j' hj'
  obtain ⟨-, -, -, -, t5⟩ := h.2.2.2.2.2 j hj
  have hr : ∀ c, c ≠ 9 → c ≠ 10 → μ2 c = μ c := fun c h9 h10 => (g2 c h9).trans (f2 c h10)
  refine Sim.of (h.sheet hj' (fun c _ _ h9 h10 => hr c h9 h10) ?_ ?_)
  · refine ⟨?_, ?_, r3, r4, fun i hi => ?_⟩
    · rw [hr 7 (by decide) (by decide)]; exact r1
    · rw [hr 8 (by decide) (by decide)]; exact r2
    · show μ2 9 (40 * j' + i) = va_cpy (X (4 + j) 0) (X (4 + j') 0) p q m i
      rw [g3]
      unfold va_cpy
      by_cases c : q ≤ i ∧ i < q + m
      · rw [if_pos (by omega), if_pos c, f3 _ (by omega)]
        have := t5 (p + (i - q)) (by omega)
        rw [← this]
        congr 1
        omega
      · rw [if_neg (by omega), if_neg c, f2 9 (by decide)]
        exact r5 i hi
  · intro k hk hne
    refine ⟨by rw [hr 7 (by decide) (by decide)], by rw [hr 8 (by decide) (by decide)], fun i hi => ?_⟩
    rw [g3, if_neg (by omega), f2 9 (by decide)]
theorem s_copy (h : R X μ) (a1 a2 a3 a4 a5 : Int32) : Sim (f_X3_copy X a1 a2 a3 a4 a5) (f_X4_copy μ a1 a2 a3 a4 a5) := by
  unfold f_X3_copy f_X4_copy
  rw [M_isSheet, M_isSheet, bd_some, bd_some]
  by_cases c : 0 ≤ a1 ∧ a1 ≤ 3
  · obtain ⟨j, hj, rfl⟩ := rng (n := 3) c rfl (by omega)
    rw [sheet_qj X hj, bd_some, shc_some, if_pos c, itn10]
    refine Sim.po (by omega) ?_
    by_cases c' : 0 ≤ a3 ∧ a3 ≤ 3
    · obtain ⟨j', hj', rfl⟩ := rng (n := 3) c' rfl (by omega)
      rw [sheet_qj X hj', bd_some, shc_some, if_pos c', itn10]
      refine Sim.po (by omega) ?_
      obtain ⟨r1, r2, r3, ⟨n, hn, r4⟩, r5⟩ := h.2.2.2.2.2 j (by omega)
      obtain ⟨t1, t2, t3, ⟨n', hn', t4⟩, t5⟩ := h.2.2.2.2.2 j' (by omega)
      have i1 : ix (nI j) 4 := ix_nI (by omega) (by omega)
      have i2 : ix (nI j') 4 := ix_nI (by omega) (by omega)
      have cj : (nI j).toNatClampNeg = j := nI_clamp (by omega)
      have cj' : (nI j').toNatClampNeg = j' := nI_clamp (by omega)
      rw [if_pos i1, if_pos i2, cj, cj', r1, t1, r2, t2, r4, t4, X_hasRow hn r4, X_hasRow hn' t4]
      unfold f_X1_isMissing
      by_cases e0 : X (4 + j) 1 0 = 0
      · rw [if_pos e0, bd_some, itn10]
        rw [if_pos e0]
        exact find5 h
      · rw [if_neg e0, bd_some, itn00, if_neg e0]
        by_cases e1 : X (4 + j') 1 0 = 0
        · rw [if_pos e1, bd_some, itn10]
          rw [if_pos e1]
          exact find5 h
        · rw [if_neg e1, bd_some, itn00, if_neg e1]
          by_cases e2 : X (4 + j) 1 0 = X (4 + j') 1 0
          · refine Sim.pp e2 ?_
            rw [bd_some, bd_some]
            have z0 : (0 : Int32).toInt = 0 := rfl
            have en : (nI n).toInt64.toInt = (n : Int) := by rw [Int32.toInt_toInt64, nI_toInt (by omega)]
            have en' : (nI n').toInt64.toInt = (n' : Int) := by rw [Int32.toInt_toInt64, nI_toInt (by omega)]
            by_cases k1 : a2 < 0
            · rw [if_pos k1, if_neg (show ¬ (0 ≤ a2.toInt ∧ 0 ≤ a5.toInt ∧ a2.toInt + a5.toInt ≤ n) by rw [i32_lt] at k1; omega), itn00]
              exact find0 h
            · rw [if_neg k1]
              rw [i32_lt] at k1
              by_cases k2 : a4 < 0
              · rw [if_pos k2]
                rw [i32_lt] at k2
                by_cases y : 0 ≤ a2.toInt ∧ 0 ≤ a5.toInt ∧ a2.toInt + a5.toInt ≤ n
                · rw [if_pos y, itn10, if_neg (show ¬ (0 ≤ a4.toInt ∧ 0 ≤ a5.toInt ∧ a4.toInt + a5.toInt ≤ n') by omega), itn00]
                  exact find0 h
                · rw [if_neg y, itn00]
                  exact find0 h
              · rw [if_neg k2]
                rw [i32_lt] at k2
                by_cases k3 : a5 < 0
                · rw [if_pos k3, if_neg (show ¬ (0 ≤ a2.toInt ∧ 0 ≤ a5.toInt ∧ a2.toInt + a5.toInt ≤ n) by rw [i32_lt] at k3; omega), itn00]
                  exact find0 h
                · rw [if_neg k3]
                  rw [i32_lt] at k3
                  have s1 := add64 (a := a2) (b := a5) (by omega) (by omega)
                  have s2 := add64 (a := a4) (b := a5) (by omega) (by omega)
                  by_cases y : a2.toInt + a5.toInt ≤ n
                  · rw [if_neg (show ¬ 0 < lg_cmp (a2.toInt64 + a5.toInt64) ((nI n).toInt64) by rw [lg_cmp_gt, Int64.lt_iff_toInt_lt]; omega), if_pos (show 0 ≤ a2.toInt ∧ 0 ≤ a5.toInt ∧ a2.toInt + a5.toInt ≤ n from ⟨by omega, by omega, y⟩), itn10]
                    by_cases y' : a4.toInt + a5.toInt ≤ n'
                    · rw [if_pos (show lg_cmp (a4.toInt64 + a5.toInt64) ((nI n').toInt64) ≤ 0 by rw [lg_cmp_le, Int64.le_iff_toInt_le]; omega), if_pos (show 0 ≤ a4.toInt ∧ 0 ≤ a5.toInt ∧ a4.toInt + a5.toInt ≤ n' from ⟨by omega, by omega, y'⟩), itn10]
                      obtain ⟨p, hp, rfl⟩ := nI_of_range (x := a2) (n := 40) (by omega) (by omega) (by omega)
                      obtain ⟨q, hq, rfl⟩ := nI_of_range (x := a4) (n := 40) (by omega) (by omega) (by omega)
                      obtain ⟨m, hm, rfl⟩ := nI_of_range (x := a5) (n := 40) (by omega) (by omega) (by omega)
                      rw [nI_toInt (by omega), nI_toInt (by omega)] at y y'
                      have cp : (nI p).toNatClampNeg = p := nI_clamp (by omega)
                      have cq : (nI q).toNatClampNeg = q := nI_clamp (by omega)
                      have cm : (nI m).toNatClampNeg = m := nI_clamp (by omega)
                      rw [cp, cq, cm, if_pos ⟨nI_pos (by omega), nI_pos (by omega), nI_pos (by omega), by omega, by omega⟩]
                      exact copy_core h (by omega) (by omega) hn hn' (by omega) (by omega)
                    · rw [if_neg (show ¬ lg_cmp (a4.toInt64 + a5.toInt64) ((nI n').toInt64) ≤ 0 by rw [lg_cmp_le, Int64.le_iff_toInt_le]; omega), if_neg (show ¬ (0 ≤ a4.toInt ∧ 0 ≤ a5.toInt ∧ a4.toInt + a5.toInt ≤ n') by omega), itn00]
                      exact find0 h
                  · rw [if_pos (show 0 < lg_cmp (a2.toInt64 + a5.toInt64) ((nI n).toInt64) by rw [lg_cmp_gt, Int64.lt_iff_toInt_lt]; omega), if_neg (show ¬ (0 ≤ a2.toInt ∧ 0 ≤ a5.toInt ∧ a2.toInt + a5.toInt ≤ n) by omega), itn00]
                    exact find0 h
          · exact Sim.nn e2 (find2 h)
    · rw [sheet_qn X c', bd_some, shc_none, if_neg c', itn00]
      exact find0 h
  · rw [sheet_qn X c, bd_some, shc_none, if_neg c, itn00]
    by_cases c' : 0 ≤ a3 ∧ a3 ≤ 3
    · obtain ⟨j', hj', rfl⟩ := rng (n := 3) c' rfl (by omega)
      rw [sheet_qj X hj', bd_some, shc_some]
      exact Sim.po (by omega) (find0 h)
    · rw [sheet_qn X c', bd_some, shc_none]
      exact find0 h
end OPS
