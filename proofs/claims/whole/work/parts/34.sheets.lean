/-! ===== pure: the sheets ===== -/
theorem R.sheet {X : K3} {μ : K2} (h : R X μ) {j : Nat} (hj : j < 4) {s' : K2} {μ' : K2} (hr : ∀ c, c ≠ 7 → c ≠ 8 → c ≠ 9 → c ≠ 10 → μ' c = μ c) (hs : RS s' (μ' 7 j) (μ' 8 j) (fun i => μ' 9 (40 * j + i))) (ho : ∀ k, k < 4 → k ≠ j → μ' 7 k = μ 7 k ∧ μ' 8 k = μ 8 k ∧ ∀ i, i < 40 → μ' 9 (40 * k + i) = μ 9 (40 * k + i)) : R (va_up X (4 + j) s') μ' := by
  obtain ⟨a1, a2, a3, a4, a5, a6⟩ := h
  have x0 : va_up X (4 + j) s' 0 = X 0 := up_n (by omega)
  have x1 : va_up X (4 + j) s' 1 = X 1 := up_n (by omega)
  have x2 : va_up X (4 + j) s' 2 = X 2 := up_n (by omega)
  have x3 : va_up X (4 + j) s' 3 = X 3 := up_n (by omega)
  have x8 : va_up X (4 + j) s' 8 = X 8 := up_n (by omega)
  unfold R
  rw [x0, x1, x2, x3, x8, hr 0 (by decide) (by decide) (by decide) (by decide), hr 1 (by decide) (by decide) (by decide) (by decide), hr 3 (by decide) (by decide) (by decide) (by decide), hr 5 (by decide) (by decide) (by decide) (by decide), hr 11 (by decide) (by decide) (by decide) (by decide)]
  refine ⟨a1, a2, a3, a4, a5, fun k hk => ?_⟩
  by_cases e : k = j
  · subst e; rw [up_s]; exact hs
  · obtain ⟨o1, o2, o3⟩ := ho k hk e
    obtain ⟨b1, b2, b3, b4, b5⟩ := a6 k hk
    rw [up_n (by omega)]
    exact ⟨by rw [o1]; exact b1, by rw [o2]; exact b2, b3, b4, fun i hi => (o3 i hi).trans (b5 i hi)⟩
theorem X_begin (σ : K2) (w n : Int32) : ∃ s', f_X1_begin σ w n = some s' ∧ s' 1 0 = w ∧ s' 1 1 = n ∧ ∀ i, i < 40 → s' 0 i = 0 := by
  unfold f_X1_begin
  obtain ⟨σ1, hσ1⟩ : ∃ s, s = va_up σ 1 (upd (upd (σ 1) 0 w) 1 n) := ⟨_, rfl⟩
  rw [← hσ1]
  refine ⟨va_up σ1 0 (fun i => if i < 40 then 0 else σ1 0 i), ?_, ?_, ?_, ?_⟩
  · have key := for_seq (fun n1 s k => f_X1_begin_L12 n1 s k) (fun k => va_up σ1 0 (fun i => if i < k then 0 else σ1 0 i)) 40 (some (va_up σ1 0 (fun i => if i < 40 then 0 else σ1 0 i))) ?_ ?_ 40 0 1000 (by omega) (by omega)
    · have e : (fun i => if i < 0 then (0 : Int32) else σ1 0 i) = σ1 0 := by funext i; simp
      rw [e, up_self0] at key
      exact key
    · intro n1 k hk
      show f_X1_begin_L12 (n1 + 1) _ _ = f_X1_begin_L12 n1 _ _
      rw [f_X1_begin_L12, if_neg (show ¬ (40 : Int32) ≤ nI k from nI_ge (b := 40) hk (by omega)), if_pos (ix_nI hk (by omega)), nI_clamp (by omega), nI_1, bx_uu, up_s]
      congr 2
      funext i
      by_cases e : i = k
      · subst e; rw [upd_s, if_pos (by omega)]
      · rw [upd_n e]
        by_cases c : i < k
        · rw [if_pos c, if_pos (by omega)]
        · rw [if_neg c, if_neg (by omega)]
    · intro n1
      show f_X1_begin_L12 (n1 + 1) _ _ = _
      rw [f_X1_begin_L12, if_pos (show (40 : Int32) ≤ nI 40 by decide)]
  · rw [up_n (by decide), hσ1, up_s, upd_n (by decide), upd_s]
  · rw [up_n (by decide), hσ1, up_s, upd_s]
  · intro i hi
    rw [up_s, if_pos hi]
theorem mul40 (j r : Nat) : (40 : Int32) * nI j + nI r = nI (40 * j + r) := by
  have : (40 : Int32) * nI j = nI (40 * j) := (Int32.ofNat_mul 40 j).symm
  rw [this, nI_add]
theorem M_clear (μ1 : K2) {j : Nat} (hj : j < 4) : ∃ μ', f_X4_sheet_L86 1000 μ1 (nI j) 0 = some (μ1 8 j, μ') ∧ (∀ c, c ≠ 9 → μ' c = μ1 c) ∧ (∀ i, i < 40 → μ' 9 (40 * j + i) = 0) ∧ (∀ k, k < 4 → k ≠ j → ∀ i, i < 40 → μ' 9 (40 * k + i) = μ1 9 (40 * k + i)) := by
  refine ⟨va_up μ1 9 (fun q => if 40 * j ≤ q ∧ q < 40 * j + 40 then 0 else μ1 9 q), ?_, fun c hc => up_n hc, fun i hi => ?_, fun k hk hne i hi => ?_⟩
  · have key := for_seq (fun n1 m k => f_X4_sheet_L86 n1 m (nI j) k) (fun k => va_up μ1 9 (fun q => if 40 * j ≤ q ∧ q < 40 * j + k then 0 else μ1 9 q)) 40 (some (μ1 8 j, va_up μ1 9 (fun q => if 40 * j ≤ q ∧ q < 40 * j + 40 then 0 else μ1 9 q))) ?_ ?_ 40 0 1000 (by omega) (by omega)
    · have e : (fun q => if 40 * j ≤ q ∧ q < 40 * j + 0 then (0 : Int32) else μ1 9 q) = μ1 9 := by
        funext q
        rw [if_neg (by omega)]
      rw [e, up_self0] at key
      exact key
    · intro n1 k hk
      show f_X4_sheet_L86 (n1 + 1) _ _ _ = f_X4_sheet_L86 n1 _ _ _
      rw [f_X4_sheet_L86, if_neg (show ¬ (40 : Int32) ≤ nI k from nI_ge (b := 40) hk (by omega)), mul40, if_pos (ix_nI (by omega) (by omega)), nI_clamp (by omega), nI_1, bx_uu, up_s]
      congr 2
      funext q
      by_cases e : q = 40 * j + k
      · subst e; rw [upd_s, if_pos (by omega)]
      · rw [upd_n e]
        by_cases c : 40 * j ≤ q ∧ q < 40 * j + k
        · rw [if_pos c, if_pos (by omega)]
        · rw [if_neg c, if_neg (by omega)]
    · intro n1
      show f_X4_sheet_L86 (n1 + 1) _ _ _ = _
      rw [f_X4_sheet_L86, if_pos (show (40 : Int32) ≤ nI 40 by decide), f_X4_sheet_B112, if_pos (ix_nI (by omega) (by omega)), nI_clamp (by omega), up_n (by decide)]
  · rw [up_s, if_pos (by omega)]
  · rw [up_s, if_neg (by omega)]
section OPS
variable {X : K3} {μ : K2}
theorem sheet_core2 (h : R X μ) {j : Nat} (hj : j < 4) {w : Int32} (hw : w = 0 ∨ w = 8 ∨ w = 16 ∨ w = 32) {n : Nat} (hn : n ≤ 40) :
    Sim (Option.bind (f_X1_begin (X (4 + j)) w (nI n)) (fun q => some (q 1 1, va_up X (4 + j) q))) (f_X4_sheet_L86 1000 (va_up (va_up μ 7 (upd (μ 7) j w)) 8 (upd (μ 8) j (nI n))) (nI j) 0) := by
  obtain ⟨s', f1, f2, f3, f4⟩ := X_begin (X (4 + j)) w (nI n)
  obtain ⟨μ', g1, g2, g3, g4⟩ := M_clear (va_up (va_up μ 7 (upd (μ 7) j w)) 8 (upd (μ 8) j (nI n))) hj
  rw [f1, bd_some, g1]
  have e8 : μ' 8 = upd (μ 8) j (nI n) := by rw [g2 8 (by decide), up_s]
  have e7 : μ' 7 = upd (μ 7) j w := by rw [g2 7 (by decide), up_n (by decide), up_s]
  refine Sim.of' ?_ (h.sheet hj (fun c h7 h8 h9 _ => by rw [g2 c h9, up_n h8, up_n h7]) ?_ ?_)
  · rw [f3, up_s, upd_s]
  · refine ⟨by rw [e7, upd_s, f2], by rw [e8, upd_s, f3], by rw [f2]; exact hw, ⟨n, hn, f3⟩, fun i hi => ?_⟩
    rw [f4 i hi]; exact g3 i hi
  · intro k hk hne
    refine ⟨by rw [e7, upd_n hne], by rw [e8, upd_n hne], fun i hi => ?_⟩
    rw [g4 k hk hne i hi, up_n (by decide), up_n (by decide)]
theorem sheet_core (h : R X μ) {j : Nat} (hj : j < 4) {w : Int32} (hw : w = 0 ∨ w = 8 ∨ w = 16 ∨ w = 32) (b : Int32) :
    Sim (if 0 ≤ b then (if b ≤ 40 then (if w = 0 then (Option.bind (f_X1_begin (X (4 + j)) w 0) (fun q => some (q 1 1, va_up X (4 + j) q))) else (Option.bind (f_X1_begin (X (4 + j)) w b) (fun q => some (q 1 1, va_up X (4 + j) q)))) else (Option.bind (f_X3_finding X 0) (fun q => some (q.1, q.2)))) else (Option.bind (f_X3_finding X 6) (fun q => some (q.1, q.2))))
      (if 0 ≤ b then (if b ≤ 40 then (if ix (nI j) 4 then (if w = 0 then (f_X4_sheet_L86 1000 (va_up (va_up μ 7 (upd (μ 7) (nI j).toNatClampNeg w)) 8 (upd (μ 8) (nI j).toNatClampNeg 0)) (nI j) 0) else (f_X4_sheet_L86 1000 (va_up (va_up μ 7 (upd (μ 7) (nI j).toNatClampNeg w)) 8 (upd (μ 8) (nI j).toNatClampNeg b)) (nI j) 0)) else none) else (Option.bind (f_X4_finding μ (-1000001)) (fun q => some (q.1, q.2)))) else (Option.bind (f_X4_finding μ (-1000007)) (fun q => some (q.1, q.2)))) := by
  by_cases c1 : 0 ≤ b
  · rw [if_pos c1, if_pos c1]
    by_cases c2 : b ≤ 40
    · rw [if_pos c2, if_pos c2, if_pos (ix_nI hj (by omega)), nI_clamp (by omega)]
      obtain ⟨n, hn, rfl⟩ := rng (n := 40) ⟨c1, c2⟩ rfl (by omega)
      by_cases c3 : w = 0
      · rw [if_pos c3, if_pos c3]
        exact sheet_core2 h hj hw (n := 0) (by omega)
      · rw [if_neg c3, if_neg c3]
        exact sheet_core2 h hj hw hn
    · rw [if_neg c2, if_neg c2]; exact find0 h
  · rw [if_neg c1, if_neg c1]; exact find6 h
theorem Sim.pp {c : Prop} [Decidable c] {a a' : Option (Int32 × K3)} {b b' : Option (Int32 × K2)} (hc : c) (k : Sim a b) : Sim (if c then a else a') (if c then b else b') := by rw [if_pos hc, if_pos hc]; exact k
theorem Sim.nn {c : Prop} [Decidable c] {a a' : Option (Int32 × K3)} {b b' : Option (Int32 × K2)} (hc : ¬ c) (k : Sim a' b') : Sim (if c then a else a') (if c then b else b') := by rw [if_neg hc, if_neg hc]; exact k
theorem Sim.po {c : Prop} [Decidable c] {a a' : Option (Int32 × K3)} {b : Option (Int32 × K2)} (hc : c) (k : Sim a b) : Sim (if c then a else a') b := by rw [if_pos hc]; exact k
theorem sheet_qj (X : K3) {j : Nat} (hj : j ≤ 3) : f_X3_sheetOf X (nI j) = some (some j) := by
  unfold f_X3_sheetOf
  rw [within_X3, bd_some, if_pos (show 0 ≤ nI j ∧ nI j ≤ 3 from ⟨nI_pos' (by omega), nI_le (b := 3) hj (by omega)⟩), itn10, if_pos (ix_nI (by omega) (by omega)), nI_clamp (by omega)]
theorem sheet_qn (X : K3) {a : Int32} (c : ¬ (0 ≤ a ∧ a ≤ 3)) : f_X3_sheetOf X a = some none := by
  unfold f_X3_sheetOf
  rw [within_X3, bd_some, if_neg c, itn00]
theorem s_sheet (h : R X μ) (a w b : Int32) : Sim (f_X3_sheet X a w b) (f_X4_sheet μ a w b) := by
  unfold f_X3_sheet f_X4_sheet
  rw [M_isSheet, bd_some]
  by_cases c : 0 ≤ a ∧ a ≤ 3
  · obtain ⟨j, hj, rfl⟩ := rng (n := 3) c rfl (by omega)
    rw [sheet_qj X hj, bd_some, shc_some, if_pos c, itn10]
    refine Sim.po (by omega) ?_
    by_cases w0 : w = 0
    · exact Sim.pp w0 (sheet_core h (by omega) (Or.inl w0) b)
    · refine Sim.nn w0 ?_
      by_cases w8 : w = 8
      · exact Sim.pp w8 (sheet_core h (by omega) (Or.inr (Or.inl w8)) b)
      · refine Sim.nn w8 ?_
        by_cases w16 : w = 16
        · exact Sim.pp w16 (sheet_core h (by omega) (Or.inr (Or.inr (Or.inl w16))) b)
        · refine Sim.nn w16 ?_
          by_cases w32 : w = 32
          · exact Sim.pp w32 (sheet_core h (by omega) (Or.inr (Or.inr (Or.inr w32))) b)
          · exact Sim.nn w32 (find0 h)
  · rw [sheet_qn X c, bd_some, shc_none, if_neg c, itn00]
    exact find0 h
theorem s_write (h : R X μ) (a b v : Int32) : Sim (f_X3_write X a b v) (f_X4_write μ a b v) := by
  unfold f_X3_write f_X4_write
  rw [M_isSheet, bd_some]
  by_cases c : 0 ≤ a ∧ a ≤ 3
  · obtain ⟨j, hj, rfl⟩ := rng (n := 3) c rfl (by omega)
    rw [sheet_qj X hj, bd_some, shc_some, if_pos c, itn10]
    refine Sim.po (by omega) ?_
    obtain ⟨r1, r2, r3, ⟨n, hn, r4⟩, r5⟩ := h.2.2.2.2.2 j (by omega)
    rw [if_pos (ix_nI (by omega) (by omega)), nI_clamp (by omega), r1, r2, r4]
    unfold f_X1_isMissing
    by_cases e0 : X (4 + j) 1 0 = 0
    · rw [if_pos e0, bd_some, itn10, if_pos e0]
      exact find5 h
    · rw [if_neg e0, bd_some, itn00, if_neg e0, within_X3, bd_some, within_X4, bd_some]
      by_cases d : 0 ≤ b ∧ b ≤ nI n - 1
      · rw [if_pos d, itn10, itn10]
        have d1 := d.1
        have d2 := d.2
        have en : (nI n - 1).toInt = (n : Int) - 1 := pk_sub_toInt (b := 1) (by omega) (by omega)
        have ez : (0 : Int32).toInt = 0 := rfl
        rw [i32_le] at d1 d2
        obtain ⟨i, hi, rfl⟩ := nI_of_range (x := b) (n := 39) (by omega) (by omega) (by omega)
        have ei : (nI i).toInt = (i : Int) := nI_toInt (by omega)
        have hin : i < n := by omega
        obtain ⟨z, hz⟩ : ∃ z, z = (if X (4 + j) 1 0 = 8 then v.toInt8.toInt32 else if X (4 + j) 1 0 = 16 then v.toInt16.toInt32 else v) := ⟨_, rfl⟩
        have hp : f_X1_put (X (4 + j)) (nI i) v = some (va_up (X (4 + j)) 0 (upd (X (4 + j) 0) i z)) := by
          unfold f_X1_put
          rw [if_pos (ix_nI (by omega) (by omega)), if_pos (ix_nI (by omega) (by omega)), if_pos (ix_nI (by omega) (by omega)), nI_clamp (by omega), hz]
          by_cases w8 : X (4 + j) 1 0 = 8
          · rw [if_pos w8, if_pos w8]
          · rw [if_neg w8, if_neg w8]
            by_cases w16 : X (4 + j) 1 0 = 16
            · rw [if_pos w16, if_pos w16]
            · rw [if_neg w16, if_neg w16]
        have hc : f_X4_cutTo v (X (4 + j) 1 0) = some z := by
          unfold f_X4_cutTo
          rw [hz]
          by_cases w8 : X (4 + j) 1 0 = 8
          · rw [if_pos w8, if_pos w8]
          · rw [if_neg w8, if_neg w8]
            by_cases w16 : X (4 + j) 1 0 = 16
            · rw [if_pos w16, if_pos w16]
            · rw [if_neg w16, if_neg w16]
        rw [hp, bd_some, hc, bd_some, mul40, if_pos (ix_nI (by omega) (by omega)), nI_clamp (by omega)]
        refine Sim.of (h.sheet (by omega) (fun c _ _ h9 _ => up_n h9) ?_ ?_)
        · refine ⟨r1, r2, r3, ⟨n, hn, r4⟩, fun k hk => ?_⟩
          show upd (μ 9) (40 * j + i) z (40 * j + k) = upd (X (4 + j) 0) i z k
          by_cases e : k = i
          · subst e; rw [upd_s, upd_s]
          · rw [upd_n (by omega), upd_n e]; exact r5 k hk
        · intro k hk hne
          refine ⟨rfl, rfl, fun q hq => ?_⟩
          show upd (μ 9) (40 * j + i) z (40 * k + q) = _
          rw [upd_n (by omega)]
      · rw [if_neg d, itn00, itn00]; exact find0 h
  · rw [sheet_qn X c, bd_some, shc_none, if_neg c, itn00]
    exact find0 h
theorem M_lacks1 (h : R X μ) {j : Nat} (hj : j ≤ 3) : f_X4_lacks μ (nI j) 1 = some (if X (4 + j) 1 0 = 0 then -1000006 else 0) := by
  obtain ⟨r1, -⟩ := h.2.2.2.2.2 j (by omega)
  unfold f_X4_lacks
  rw [M_isSheet, bd_some, if_pos (show 0 ≤ nI j ∧ nI j ≤ 3 from ⟨nI_pos' (by omega), nI_le (b := 3) hj (by omega)⟩), itn10, if_pos (ix_nI (by omega) (by omega)), nI_clamp (by omega), r1, itn10]
  by_cases e : X (4 + j) 1 0 = 0
  · rw [if_pos e, if_pos e]
  · rw [if_neg e, if_neg e]
theorem M_lacksn {a : Int32} (c : ¬ (0 ≤ a ∧ a ≤ 3)) : f_X4_lacks μ a 1 = some (-1000001) := by
  unfold f_X4_lacks
  rw [M_isSheet, bd_some, if_neg c, itn00]
theorem X_load (Y : K3) (j n1 : Nat) {k n : Nat} (hk : k < 6) (hn : n ≤ 40) (r4 : Y (4 + j) 1 1 = nI n) :
    f_X3_load_L31 (n1 + 1) Y j (nI k) = if n ≤ k then some (nI k, Y) else if 0 ≤ Y (4 + j) 0 k ∧ Y (4 + j) 0 k ≤ 99 then f_X3_load_L31 n1 (va_up Y 0 (va_up (Y 0) 9 (upd (Y 0 9) k (Y (4 + j) 0 k)))) j (nI (k + 1)) else some (nI k, Y) := by
  rw [f_X3_load_L31, if_neg (g6 hk), r4]
  by_cases d : n ≤ k
  · rw [if_pos (nI_le d (by omega)), if_pos d]
  · rw [if_neg (nI_ge (by omega) (by omega)), if_neg d, if_pos (ix_nI (by omega) (by omega)), within_X3, bd_some, nI_1]
    have e6 : ix (nI k) 6 := ix_nI hk (by omega)
    rw [if_pos e6, nI_clamp (by omega)]
    by_cases f : 0 ≤ Y (4 + j) 0 k ∧ Y (4 + j) 0 k ≤ 99
    · rw [if_pos f, itn10, if_pos f]
    · rw [if_neg f, itn00, if_neg f]
theorem M_load (m : K2) (n2 : Nat) {j k n : Nat} (hj : j < 4) (hk : k < 6) (hn : n ≤ 40) (r4 : m 8 j = nI n) :
    f_X4_load_L22 (n2 + 1) m (nI j) (nI k) = if n ≤ k then some (nI k, m) else if 0 ≤ m 9 (40 * j + k) ∧ m 9 (40 * j + k) ≤ 99 then f_X4_load_L22 n2 (va_up m 0 (upd (m 0) (4 + k) (m 9 (40 * j + k)))) (nI j) (nI (k + 1)) else some (nI k, m) := by
  have cj : (nI j).toNatClampNeg = j := nI_clamp (by omega)
  have e4 : (4 : Int32) + nI k = nI (4 + k) := nI_add 4 k
  have i1 : ix (nI (40 * j + k)) 160 := ix_nI (by omega) (by omega)
  have i2 : ix (nI (4 + k)) 92 := ix_nI (by omega) (by omega)
  have c1 : (nI (40 * j + k)).toNatClampNeg = 40 * j + k := nI_clamp (by omega)
  have c2 : (nI (4 + k)).toNatClampNeg = 4 + k := nI_clamp (by omega)
  rw [f_X4_load_L22, if_pos (ix_nI (by omega) (by omega)), cj, r4]
  by_cases d : n ≤ k
  · rw [if_pos (nI_le d (by omega)), if_pos d]
  · rw [if_neg (nI_ge (by omega) (by omega)), if_neg d, M_isPlace, bd_some, if_pos (show 0 ≤ nI k ∧ nI k ≤ 5 from ⟨nI_pos' (by omega), nI_le (b := 5) (by omega) (by omega)⟩), itn10, mul40, if_pos i1, M_isHarvest, bd_some, e4, if_pos i2, c1, c2, nI_1]
    by_cases f : 0 ≤ m 9 (40 * j + k) ∧ m 9 (40 * j + k) ≤ 99
    · rw [if_pos f, itn10, if_pos f]
    · rw [if_neg f, itn00, if_neg f]
theorem load_core (h : R X μ) {j : Nat} (hj : j < 4) : Sim (f_X3_load_L31 1000 X j 0) (f_X4_load_L22 1000 μ (nI j) 0) := by
  have key : ∀ t k, k + t = 6 → ∀ n1 n2, t < n1 → t < n2 → ∀ Y m, R Y m → Sim (f_X3_load_L31 n1 Y j (nI k)) (f_X4_load_L22 n2 m (nI j) (nI k)) := by
    intro t
    induction t with
    | zero =>
      intro k hk n1 n2 h1 h2 Y m hY
      obtain ⟨n1, rfl⟩ : ∃ z, n1 = z + 1 := ⟨n1 - 1, by omega⟩
      obtain ⟨n2, rfl⟩ : ∃ z, n2 = z + 1 := ⟨n2 - 1, by omega⟩
      have hk6 : k = 6 := by omega
      subst hk6
      rw [f_X3_load_L31, if_pos e6, f_X4_load_L22, if_pos (ix_nI (by omega) (by omega)), M_isPlace, bd_some, if_neg (show ¬ (0 ≤ nI 6 ∧ nI 6 ≤ 5) by decide), itn00, ite_self]
      exact Sim.of hY
    | succ t ih =>
      intro k hk n1 n2 h1 h2 Y m hY
      obtain ⟨n1, rfl⟩ : ∃ z, n1 = z + 1 := ⟨n1 - 1, by omega⟩
      obtain ⟨n2, rfl⟩ : ∃ z, n2 = z + 1 := ⟨n2 - 1, by omega⟩
      obtain ⟨r1, r2, r3, ⟨n, hn, r4⟩, r5⟩ := hY.2.2.2.2.2 j hj
      have r5k : m 9 (40 * j + k) = Y (4 + j) 0 k := r5 k (by omega)
      rw [X_load Y j n1 (by omega) hn r4, M_load m n2 hj (by omega) hn (r2.trans r4), r5k]
      by_cases d : n ≤ k
      · exact Sim.pp d (Sim.of hY)
      · refine Sim.nn d ?_
        by_cases f : 0 ≤ Y (4 + j) 0 k ∧ Y (4 + j) 0 k ≤ 99
        · refine Sim.pp f ?_
          exact ih (k + 1) (by omega) n1 n2 (by omega) (by omega) _ _ (hY.X0 ⟨by rw [dec_wl (by omega), hY.d0], KI_list hY.ki (rng (n := 99) f rfl (by omega))⟩)
        · exact Sim.nn f (Sim.of hY)
  exact key 6 0 (by omega) 1000 1000 (by omega) (by omega) X μ h
theorem s_load (h : R X μ) (a : Int32) : Sim (f_X3_load X a) (f_X4_load μ a) := by
  unfold f_X3_load f_X4_load
  by_cases c : 0 ≤ a ∧ a ≤ 3
  · obtain ⟨j, hj, rfl⟩ := rng (n := 3) c rfl (by omega)
    rw [sheet_qj X hj, bd_some, shc_some, M_lacks1 h hj]
    refine Sim.po (by omega) ?_
    unfold f_X1_isMissing
    by_cases e0 : X (4 + j) 1 0 = 0
    · rw [if_pos e0, if_pos e0, bd_some, bd_some, bd_some, itn10, if_neg (show ¬ (-1000006 : Int32) = 0 by decide)]
      exact find5 h
    · rw [if_neg e0, if_neg e0, bd_some, bd_some, bd_some, itn00, itn00]
      exact load_core h (by omega)
  · rw [sheet_qn X c, bd_some, shc_none, M_lacksn c, bd_some, bd_some, if_neg (show ¬ (-1000001 : Int32) = 0 by decide)]
    exact find0 h
theorem judge_core (h : R X μ) {j : Nat} (hj : j < 4) : Sim (f_X3_judge_L31 1000 X j 0) (f_X4_judge_L22 1000 μ (nI j) 0) := by
  have hb8 := h.ki.1.2
  obtain ⟨r1, r2, r3, ⟨n, hn, r4⟩, r5⟩ := h.2.2.2.2.2 j hj
  have cj : (nI j).toNatClampNeg = j := nI_clamp (by omega)
  have B67 : ∀ k, k < n → f_X4_judge_B67 μ (nI j) (nI k) = some (1 + nI k, μ) := by
    intro k hk
    have hne : ¬ nI k = nI n := fun q => by
      have := (nI_eq (by omega) (by omega)).mp q
      omega
    rw [f_X4_judge_B67, if_pos (ix_nI (by omega) (by omega)), cj, r2, r4, if_neg hne]
  have key : ∀ t k, k + t = n → ∀ n1 n2, t < n1 → t < n2 → Sim (f_X3_judge_L31 n1 X j (nI k)) (f_X4_judge_L22 n2 μ (nI j) (nI k)) := by
    intro t
    induction t with
    | zero =>
      intro k hk n1 n2 h1 h2
      obtain ⟨n1, rfl⟩ : ∃ z, n1 = z + 1 := ⟨n1 - 1, by omega⟩
      obtain ⟨n2, rfl⟩ : ∃ z, n2 = z + 1 := ⟨n2 - 1, by omega⟩
      have hkn : k = n := by omega
      subst hkn
      rw [f_X3_judge_L31, r4, if_pos (nI_le (Nat.le_refl _) (by omega)), f_X4_judge_L22, if_pos (ix_nI (by omega) (by omega)), cj, r2, r4, if_pos (nI_le (Nat.le_refl _) (by omega)), f_X4_judge_B67, if_pos (ix_nI (by omega) (by omega)), cj, r2, r4, if_pos rfl]
      exact Sim.of h
    | succ t ih =>
      intro k hk n1 n2 h1 h2
      obtain ⟨n1, rfl⟩ : ∃ z, n1 = z + 1 := ⟨n1 - 1, by omega⟩
      obtain ⟨n2, rfl⟩ : ∃ z, n2 = z + 1 := ⟨n2 - 1, by omega⟩
      have r5k : μ 9 (40 * j + k) = X (4 + j) 0 k := r5 k (by omega)
      have ck : (nI k).toNatClampNeg = k := nI_clamp (by omega)
      have i1 : ix (nI (40 * j + k)) 160 := ix_nI (by omega) (by omega)
      have c1 : (nI (40 * j + k)).toNatClampNeg = 40 * j + k := nI_clamp (by omega)
      by_cases d : 0 ≤ (nI k).toInt ∧ (nI k).toInt < nb (X 0)
      · have hkb : k < nb (X 0) := by
          have := d.2
          rw [nI_toInt (by omega)] at this
          omega
        have m7 := M_b7 μ (i := k) (by omega)
        rw [h.d0] at m7
        have i8 : ix (nI k) 8 := ix_nI (by omega) (by omega)
        have i40 : ix (nI k) 40 := ix_nI (by omega) (by omega)
        have ex : f_X3_judge_L31 (n1 + 1) X j (nI k) = if X 0 7 k = X (4 + j) 0 k then f_X3_judge_L31 n1 X j (nI (k + 1)) else some (1 + nI k, X) := by
          rw [f_X3_judge_L31, r4, if_neg (nI_ge (by omega) (by omega)), X0_has h.ki, bd_some, if_pos d, itn10, if_pos i8, if_pos i40, ck, nI_1]
        have em : f_X4_judge_L22 (n2 + 1) μ (nI j) (nI k) = if X (4 + j) 0 k = X 0 7 k then f_X4_judge_L22 n2 μ (nI j) (nI (k + 1)) else some (1 + nI k, μ) := by
          rw [f_X4_judge_L22, if_pos (ix_nI (by omega) (by omega)), cj, r2, r4, if_neg (nI_ge (by omega) (by omega)), M_isBird h.kim, bd_some, h.d0, if_pos d, itn10, mul40, if_pos i1, c1, r5k, m7, bd_some, nI_1, B67 k (by omega)]
        rw [ex, em]
        by_cases e : X 0 7 k = X (4 + j) 0 k
        · rw [if_pos e, if_pos e.symm]
          exact ih (k + 1) (by omega) n1 n2 (by omega) (by omega)
        · rw [if_neg e, if_neg (fun q => e q.symm)]
          exact Sim.of h
      · have ex : f_X3_judge_L31 (n1 + 1) X j (nI k) = some (1 + nI k, X) := by
          rw [f_X3_judge_L31, r4, if_neg (nI_ge (by omega) (by omega)), X0_has h.ki, bd_some, if_neg d, itn00]
        have em : f_X4_judge_L22 (n2 + 1) μ (nI j) (nI k) = some (1 + nI k, μ) := by
          rw [f_X4_judge_L22, if_pos (ix_nI (by omega) (by omega)), cj, r2, r4, if_neg (nI_ge (by omega) (by omega)), M_isBird h.kim, bd_some, h.d0, if_neg d, itn00, B67 k (by omega)]
        rw [ex, em]
        exact Sim.of h
  exact key n 0 (by omega) 1000 1000 (by omega) (by omega)
theorem s_judge (h : R X μ) (a : Int32) : Sim (f_X3_judge X a) (f_X4_judge μ a) := by
  unfold f_X3_judge f_X4_judge
  by_cases c : 0 ≤ a ∧ a ≤ 3
  · obtain ⟨j, hj, rfl⟩ := rng (n := 3) c rfl (by omega)
    rw [sheet_qj X hj, bd_some, shc_some, M_lacks1 h hj]
    refine Sim.po (by omega) ?_
    unfold f_X1_isMissing
    by_cases e0 : X (4 + j) 1 0 = 0
    · rw [if_pos e0, if_pos e0, bd_some, bd_some, bd_some, itn10, if_neg (show ¬ (-1000006 : Int32) = 0 by decide)]
      exact find5 h
    · rw [if_neg e0, if_neg e0, bd_some, bd_some, bd_some, itn00, itn00]
      exact judge_core h (by omega)
  · rw [sheet_qn X c, bd_some, shc_none, M_lacksn c, bd_some, bd_some, if_neg (show ¬ (-1000001 : Int32) = 0 by decide)]
    exact find0 h
end OPS
