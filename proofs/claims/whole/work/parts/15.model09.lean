def f_X4_copy_L165 : Nat → K2 → Int32 → Int32 → Int32 → Int32 → Option (Int32 × K2)
  | 0, _, _, _, _, _ => none
  | n + 1, μ, x3, x4, x5, x6 => if x5 ≤ x6 then (some (x5, μ)) else (if ix x6 40 then (if ix (((40 * x3) + x4) + x6) 160 then (f_X4_copy_L165 n (va_up μ 9 (upd (μ 9) ((((40 * x3) + x4) + x6).toNatClampNeg) ((μ 10) x6.toNatClampNeg))) x3 x4 x5 (x6 + 1)) else none) else none)
def f_X4_copy_B162 (μ : K2) (x3 : Int32) (x4 : Int32) (x5 : Int32) : Option (Int32 × K2) := f_X4_copy_L165 1000 μ x3 x4 x5 0
def f_X4_copy_L128 : Nat → K2 → Int32 → Int32 → Int32 → Int32 → Int32 → Int32 → Option (Int32 × K2)
  | 0, _, _, _, _, _, _, _ => none
  | n + 1, μ, x1, x2, x3, x4, x5, x6 => if x5 ≤ x6 then (f_X4_copy_B162 μ x3 x4 x5) else (if ix (((40 * x1) + x2) + x6) 160 then (if ix x6 40 then (f_X4_copy_L128 n (va_up μ 10 (upd (μ 10) x6.toNatClampNeg ((μ 9) (((40 * x1) + x2) + x6).toNatClampNeg))) x1 x2 x3 x4 x5 (x6 + 1)) else none) else none)
def f_X4_copy (μ0 : K2) (a1 : Int32) (a2 : Int32) (a3 : Int32) (a4 : Int32) (a5 : Int32) : Option (Int32 × K2) := Option.bind (f_X4_isSheet a1) (fun q1 => if q1 = 0 then (Option.bind (f_X4_finding μ0 (-1000001)) (fun q4 => some (q4.1, q4.2))) else (Option.bind (f_X4_isSheet a3) (fun q6 => if q6 = 0 then (Option.bind (f_X4_finding μ0 (-1000001)) (fun q41 => some (q41.1, q41.2))) else (if ix a1 4 then (if ((μ0 7) a1.toNatClampNeg) = 0 then (Option.bind (f_X4_finding μ0 (-1000006)) (fun q11 => some (q11.1, q11.2))) else (if ix a3 4 then (if ((μ0 7) a3.toNatClampNeg) = 0 then (Option.bind (f_X4_finding μ0 (-1000006)) (fun q39 => some (q39.1, q39.2))) else (if ((μ0 7) a1.toNatClampNeg) = ((μ0 7) a3.toNatClampNeg) then (if a2 < 0 then (Option.bind (f_X4_finding μ0 (-1000001)) (fun q17 => some (q17.1, q17.2))) else (if a4 < 0 then (Option.bind (f_X4_finding μ0 (-1000001)) (fun q20 => some (q20.1, q20.2))) else (if a5 < 0 then (Option.bind (f_X4_finding μ0 (-1000001)) (fun q23 => some (q23.1, q23.2))) else (if 0 < (lg_cmp (a2.toInt64 + a5.toInt64) (((μ0 8) a1.toNatClampNeg).toInt64)) then (Option.bind (f_X4_finding μ0 (-1000001)) (fun q26 => some (q26.1, q26.2))) else (if (lg_cmp (a4.toInt64 + a5.toInt64) (((μ0 8) a3.toNatClampNeg).toInt64)) ≤ 0 then (f_X4_copy_L128 1000 μ0 a1 a2 a3 a4 a5 0) else (Option.bind (f_X4_finding μ0 (-1000001)) (fun q35 => some (q35.1, q35.2)))))))) else (Option.bind (f_X4_finding μ0 (-1000003)) (fun q37 => some (q37.1, q37.2))))) else none)) else none))))
set_option maxHeartbeats 4000000 in
set_option maxRecDepth 100000 in
theorem c_X4_copy (l : Launch) (G : GT) (ad : Nat → Nat) (μ0 : K2) (a1 : Int32) (a2 : Int32) (a3 : Int32) (a4 : Int32) (a5 : Int32) (q : Int32 × K2) (hF : f_X4_copy μ0 a1 a2 a3 a4 a5 = some q) : Ct l G yX4_copy wsX4_copy ({ frames := 2, cells := 0, slots := 0, locals := 42 } : Room) ([.ref (ad 0), .int a1, .int a2, .int a3, .int a4, .int a5] : List Value) (wM G ad μ0) (some (.int q.1)) (wM G ad q.2) := by
  have kc63 : Cond.constant RX4 63 (-1000001) ∈ wsX4_copy := by decide +kernel
  have k51 : Cond.fieldLink RX4 51 "PigeonRollsModel" "widths" "[I" ∈ wsX4_copy := by decide +kernel
  have kc206 : Cond.constant RX4 206 (-1000006) ∈ wsX4_copy := by decide +kernel
  have k54 : Cond.fieldLink RX4 54 "PigeonRollsModel" "sizes" "[I" ∈ wsX4_copy := by decide +kernel
  have k57 : Cond.fieldLink RX4 57 "PigeonRollsModel" "numbers" "[I" ∈ wsX4_copy := by decide +kernel
  have k60 : Cond.fieldLink RX4 60 "PigeonRollsModel" "moved" "[I" ∈ wsX4_copy := by decide +kernel
  have kc306 : Cond.constant RX4 306 (-1000003) ∈ wsX4_copy := by decide +kernel
  have hinX4 : ∀ w ∈ u_ws RX4 TX4 21, w ∈ wsX4_copy := by decide +kernel
  refine Ct.of cX4_copy 7 (some .int) (by decide) rfl (Nat.le_of_ble_eq_true rfl) ?_
  intro p e s m below meth c ls S hr hlocks hf hl
  have S : CallFix p m c cX4_copy 7 s ([.ref (ad 0), .int a1, .int a2, .int a3, .int a4, .int a5] : List Value).toArray wsX4_copy RX4 := S
  obtain ⟨hx, hb, hml, hown, hts⟩ := id S
  have hl : lv_has ls 7 [(0, .ref (ad 0)), (1, .int a1), (2, .int a2), (3, .int a3), (4, .int a4), (5, .int a5)] := hl
  have hL165 : ∀ (n : Nat) (μ : K2) (x3 : Int32) (x4 : Int32) (x5 : Int32) (x6 : Int32)  (H : Heap) (locs : List Loc) (ls : Array Slot), f_X4_copy_L165 n μ x3 x4 x5 x6 = some q → Fr G (va_A (wM G ad μ0) s.heap.size) s (wM G ad μ) H locs → lv_has ls 7 [(0, .ref (ad 0)), (3, .int x3), (4, .int x4), (5, .int x5), (6, .int x6)] → W p l e ({ frames := 2, cells := 0, slots := 0, locals := 42 } : Room) s m ([.ref (ad 0), .int a1, .int a2, .int a3, .int a4, .int a5] : List Value).toArray below meth c H locs 0 0 (MQ below (CPost G (wM G ad μ0) s.heap.size (some (.int q.1)) (wM G ad q.2)) ([.ref (ad 0), .int a1, .int a2, .int a3, .int a4, .int a5] : List Value).toArray s 0 0 (va_A (wM G ad μ0) s.heap.size)) (F0 m 165 ls []) := by
    intro n
    induction n with
    | zero =>
      intro μ x3 x4 x5 x6 H locs ls hF hf hl
      exact absurd hF (by simp [f_X4_copy_L165])
    | succ n ih165 =>
      intro μ x3 x4 x5 x6 H locs ls hF hf hl
      rw [f_X4_copy_L165] at hF
      refine lv_iload hx hb dX4_copy_165 (lv_at hl 4 rfl) ?_
      refine lv_iload hx hb dX4_copy_167 (lv_at hl 3 rfl) ?_
      refine lv_icmp_ge (tgt := 200) hx hb dX4_copy_169 (by decide) (fun c30 => ?_) (fun c30 => ?_)
      · replace hF := (if_pos c30).symm.trans hF
        refine lv_iload hx hb dX4_copy_200 (lv_at hl 3 rfl) ?_
        have hE := Option.some.inj hF
        have hV := congrArg (fun z : Int32 × K2 => z.1) hE
        have hW := congrArg (fun z : Int32 × K2 => wM G ad z.2) hE
        exact g_iret S hr hlocks hf hV hW dX4_copy_202
      · replace hF := (if_neg c30).symm.trans hF
        refine lv_aload_n hx hb dX4_copy_172 rfl (lv_at hl 0 rfl) ?_
        refine g_get (ci := 4) (C := RX4) (T := TX4) (N := 21) (v := .ref (ad 10)) S hf hinX4 0 rfl rfl 19 (by decide) k57 rfl rfl dX4_copy_173 ?_
        refine lv_bipush (v := 40) hx hb dX4_copy_176 (by decide) ?_
        refine lv_iload_n hx hb dX4_copy_178 rfl (lv_at hl 1 rfl) ?_
        refine lv_imul hx hb dX4_copy_179 ?_
        refine lv_iload hx hb dX4_copy_180 (lv_at hl 2 rfl) ?_
        refine lv_iadd hx hb dX4_copy_182 ?_
        refine lv_iload hx hb dX4_copy_183 (lv_at hl 4 rfl) ?_
        refine lv_iadd hx hb dX4_copy_185 ?_
        refine lv_aload_n hx hb dX4_copy_186 rfl (lv_at hl 0 rfl) ?_
        refine g_get (ci := 4) (C := RX4) (T := TX4) (N := 21) (v := .ref (ad 11)) S hf hinX4 0 rfl rfl 20 (by decide) k60 rfl rfl dX4_copy_187 ?_
        refine lv_iload hx hb dX4_copy_190 (lv_at hl 4 rfl) ?_
        obtain ⟨g31, hF⟩ := gd_some hF
        refine g_ald (v := (μ 10) x6.toNatClampNeg) S hf 11 rfl g31 rfl dX4_copy_192 ?_
        obtain ⟨g32, hF⟩ := gd_some hF
        refine g_ast (ww' := wM G ad (va_up μ 9 (upd (μ 9) ((((40 * x3) + x4) + x6).toNatClampNeg) ((μ 10) x6.toNatClampNeg)))) S hf 10 rfl g32 rfl dX4_copy_193 (fun H locs hf => ?_)
        refine lv_iinc (v := x6 + 1) (lv' := [(6, .int (x6 + 1)), (0, .ref (ad 0)), (3, .int x3), (4, .int x4), (5, .int x5)]) hx hb dX4_copy_194 hl (k := 4) rfl rfl (by decide) rfl (fun ls hl => ?_)
        refine lv_goto (tgt := 165) hx hb dX4_copy_197 (by decide) ?_
        exact ih165 (va_up μ 9 (upd (μ 9) ((((40 * x3) + x4) + x6).toNatClampNeg) ((μ 10) x6.toNatClampNeg))) x3 x4 x5 (x6 + 1) _ _ _ hF hf (lv_sub hl [1, 2, 3, 4, 0] rfl)
  have hL162 : ∀ (μ : K2) (x3 : Int32) (x4 : Int32) (x5 : Int32)  (H : Heap) (locs : List Loc) (ls : Array Slot), f_X4_copy_B162 μ x3 x4 x5 = some q → Fr G (va_A (wM G ad μ0) s.heap.size) s (wM G ad μ) H locs → lv_has ls 7 [(0, .ref (ad 0)), (3, .int x3), (4, .int x4), (5, .int x5)] → W p l e ({ frames := 2, cells := 0, slots := 0, locals := 42 } : Room) s m ([.ref (ad 0), .int a1, .int a2, .int a3, .int a4, .int a5] : List Value).toArray below meth c H locs 0 0 (MQ below (CPost G (wM G ad μ0) s.heap.size (some (.int q.1)) (wM G ad q.2)) ([.ref (ad 0), .int a1, .int a2, .int a3, .int a4, .int a5] : List Value).toArray s 0 0 (va_A (wM G ad μ0) s.heap.size)) (F0 m 162 ls []) := by
    intro μ x3 x4 x5 H locs ls hF hf hl
    unfold f_X4_copy_B162 at hF
    refine lv_iconst (v := 0) hx hb dX4_copy_162 (by decide) ?_
    refine lv_istore (lv' := [(6, .int 0), (0, .ref (ad 0)), (3, .int x3), (4, .int x4), (5, .int x5)]) hx hb dX4_copy_163 hl (by decide) rfl (fun ls hl => ?_)
    exact hL165 1000 μ x3 x4 x5 0 _ _ _ hF hf (lv_sub hl [1, 2, 3, 4, 0] rfl)
  have hL128 : ∀ (n : Nat) (μ : K2) (x1 : Int32) (x2 : Int32) (x3 : Int32) (x4 : Int32) (x5 : Int32) (x6 : Int32)  (H : Heap) (locs : List Loc) (ls : Array Slot), f_X4_copy_L128 n μ x1 x2 x3 x4 x5 x6 = some q → Fr G (va_A (wM G ad μ0) s.heap.size) s (wM G ad μ) H locs → lv_has ls 7 [(0, .ref (ad 0)), (1, .int x1), (2, .int x2), (3, .int x3), (4, .int x4), (5, .int x5), (6, .int x6)] → W p l e ({ frames := 2, cells := 0, slots := 0, locals := 42 } : Room) s m ([.ref (ad 0), .int a1, .int a2, .int a3, .int a4, .int a5] : List Value).toArray below meth c H locs 0 0 (MQ below (CPost G (wM G ad μ0) s.heap.size (some (.int q.1)) (wM G ad q.2)) ([.ref (ad 0), .int a1, .int a2, .int a3, .int a4, .int a5] : List Value).toArray s 0 0 (va_A (wM G ad μ0) s.heap.size)) (F0 m 128 ls []) := by
    intro n
    induction n with
    | zero =>
      intro μ x1 x2 x3 x4 x5 x6 H locs ls hF hf hl
      exact absurd hF (by simp [f_X4_copy_L128])
    | succ n ih128 =>
      intro μ x1 x2 x3 x4 x5 x6 H locs ls hF hf hl
      rw [f_X4_copy_L128] at hF
      refine lv_iload hx hb dX4_copy_128 (lv_at hl 6 rfl) ?_
      refine lv_iload hx hb dX4_copy_130 (lv_at hl 5 rfl) ?_
      refine lv_icmp_ge (tgt := 162) hx hb dX4_copy_132 (by decide) (fun c29 => ?_) (fun c29 => ?_)
      · replace hF := (if_pos c29).symm.trans hF
        exact hL162 μ x3 x4 x5 _ _ _ hF hf (lv_sub hl [0, 3, 4, 5] rfl)
      · replace hF := (if_neg c29).symm.trans hF
        refine lv_aload_n hx hb dX4_copy_135 rfl (lv_at hl 0 rfl) ?_
        refine g_get (ci := 4) (C := RX4) (T := TX4) (N := 21) (v := .ref (ad 11)) S hf hinX4 0 rfl rfl 20 (by decide) k60 rfl rfl dX4_copy_136 ?_
        refine lv_iload hx hb dX4_copy_139 (lv_at hl 6 rfl) ?_
        refine lv_aload_n hx hb dX4_copy_141 rfl (lv_at hl 0 rfl) ?_
        refine g_get (ci := 4) (C := RX4) (T := TX4) (N := 21) (v := .ref (ad 10)) S hf hinX4 0 rfl rfl 19 (by decide) k57 rfl rfl dX4_copy_142 ?_
        refine lv_bipush (v := 40) hx hb dX4_copy_145 (by decide) ?_
        refine lv_iload_n hx hb dX4_copy_147 rfl (lv_at hl 1 rfl) ?_
        refine lv_imul hx hb dX4_copy_148 ?_
        refine lv_iload_n hx hb dX4_copy_149 rfl (lv_at hl 2 rfl) ?_
        refine lv_iadd hx hb dX4_copy_150 ?_
        refine lv_iload hx hb dX4_copy_151 (lv_at hl 6 rfl) ?_
        refine lv_iadd hx hb dX4_copy_153 ?_
        obtain ⟨g33, hF⟩ := gd_some hF
        refine g_ald (v := (μ 9) (((40 * x1) + x2) + x6).toNatClampNeg) S hf 10 rfl g33 rfl dX4_copy_154 ?_
        obtain ⟨g34, hF⟩ := gd_some hF
        refine g_ast (ww' := wM G ad (va_up μ 10 (upd (μ 10) x6.toNatClampNeg ((μ 9) (((40 * x1) + x2) + x6).toNatClampNeg)))) S hf 11 rfl g34 rfl dX4_copy_155 (fun H locs hf => ?_)
        refine lv_iinc (v := x6 + 1) (lv' := [(6, .int (x6 + 1)), (0, .ref (ad 0)), (1, .int x1), (2, .int x2), (3, .int x3), (4, .int x4), (5, .int x5)]) hx hb dX4_copy_156 hl (k := 6) rfl rfl (by decide) rfl (fun ls hl => ?_)
        refine lv_goto (tgt := 128) hx hb dX4_copy_159 (by decide) ?_
        exact ih128 (va_up μ 10 (upd (μ 10) x6.toNatClampNeg ((μ 9) (((40 * x1) + x2) + x6).toNatClampNeg))) x1 x2 x3 x4 x5 (x6 + 1) _ _ _ hF hf (lv_sub hl [1, 2, 3, 4, 5, 6, 0] rfl)
  unfold f_X4_copy at hF
  refine lv_iload_n hx hb dX4_copy_0 rfl (lv_at hl 1 rfl) ?_
  obtain ⟨q1, h2, hF⟩ := Option.bind_eq_some_iff.mp hF
  refine g_cs0 (o := some (.int q1)) (As := [.int a1]) (rest := []) (st1 := [.int q1]) S hf (c_X4_isSheet l G  a1 q1 h2) (va_cwS 1 hts gX4_copy_X4_isSheet rfl rfl rfl (by decide +kernel) ⟨Nat.le_of_ble_eq_true rfl, Nat.le_of_ble_eq_true rfl⟩) rfl hl.1 rfl rfl (Nat.le_of_ble_eq_true rfl) ⟨Nat.zero_le _, Nat.zero_le _⟩ dX4_copy_1 (fun H locs hf => ?_)
  refine lv_if_eq (tgt := 14) hx hb dX4_copy_4 (by decide) (fun c3 => ?_) (fun c3 => ?_)
  · replace hF := (if_pos c3).symm.trans hF
    refine lv_aload_n hx hb dX4_copy_14 rfl (lv_at hl 0 rfl) ?_
    refine lv_ldc (v := -1000001) hx hb hown (hts _ kc63) dX4_copy_15 ?_
    obtain ⟨q4, h5, hF⟩ := Option.bind_eq_some_iff.mp hF
    refine g_cv0 (o := some (.int q4.1)) (As := [.int (-1000001)]) (rest := []) (st1 := [.int q4.1]) (ci := 4) S hf (c_X4_finding l G ad μ0 (-1000001) q4 h5) (cwV 1 hts gX4_copy_X4_finding rfl rfl rfl (by decide +kernel) ⟨Nat.le_of_ble_eq_true rfl, Nat.le_of_ble_eq_true rfl⟩) rfl rfl rfl 0 rfl rfl hl.1 rfl rfl (Nat.le_of_ble_eq_true rfl) ⟨Nat.zero_le _, Nat.zero_le _⟩ dX4_copy_17 (fun H locs hf => ?_)
    have hf : Fr G (va_A (wM G ad μ0) s.heap.size) s (wM G ad q4.2) H locs := hf
    have hE := Option.some.inj hF
    have hV := congrArg (fun z : Int32 × K2 => z.1) hE
    have hW := congrArg (fun z : Int32 × K2 => wM G ad z.2) hE
    exact g_iret S hr hlocks hf hV hW dX4_copy_20
  · replace hF := (if_neg c3).symm.trans hF
    refine lv_iload_n hx hb dX4_copy_7 rfl (lv_at hl 3 rfl) ?_
    obtain ⟨q6, h7, hF⟩ := Option.bind_eq_some_iff.mp hF
    refine g_cs0 (o := some (.int q6)) (As := [.int a3]) (rest := []) (st1 := [.int q6]) S hf (c_X4_isSheet l G  a3 q6 h7) (va_cwS 1 hts gX4_copy_X4_isSheet rfl rfl rfl (by decide +kernel) ⟨Nat.le_of_ble_eq_true rfl, Nat.le_of_ble_eq_true rfl⟩) rfl hl.1 rfl rfl (Nat.le_of_ble_eq_true rfl) ⟨Nat.zero_le _, Nat.zero_le _⟩ dX4_copy_8 (fun H locs hf => ?_)
    refine lv_if_ne (tgt := 21) hx hb dX4_copy_11 (by decide) (fun c8 => ?_) (fun c8 => ?_)
    · replace hF := (if_neg c8).symm.trans hF
      refine lv_aload_n hx hb dX4_copy_21 rfl (lv_at hl 0 rfl) ?_
      refine g_get (ci := 4) (C := RX4) (T := TX4) (N := 21) (v := .ref (ad 8)) S hf hinX4 0 rfl rfl 17 (by decide) k51 rfl rfl dX4_copy_22 ?_
      refine lv_iload_n hx hb dX4_copy_25 rfl (lv_at hl 1 rfl) ?_
      obtain ⟨g9, hF⟩ := gd_some hF
      refine g_ald (v := (μ0 7) a1.toNatClampNeg) S hf 8 rfl g9 rfl dX4_copy_26 ?_
      refine lv_if_eq (tgt := 39) hx hb dX4_copy_27 (by decide) (fun c10 => ?_) (fun c10 => ?_)
      · replace hF := (if_pos c10).symm.trans hF
        refine lv_aload_n hx hb dX4_copy_39 rfl (lv_at hl 0 rfl) ?_
        refine lv_ldc (v := -1000006) hx hb hown (hts _ kc206) dX4_copy_40 ?_
        obtain ⟨q11, h12, hF⟩ := Option.bind_eq_some_iff.mp hF
        refine g_cv0 (o := some (.int q11.1)) (As := [.int (-1000006)]) (rest := []) (st1 := [.int q11.1]) (ci := 4) S hf (c_X4_finding l G ad μ0 (-1000006) q11 h12) (cwV 1 hts gX4_copy_X4_finding rfl rfl rfl (by decide +kernel) ⟨Nat.le_of_ble_eq_true rfl, Nat.le_of_ble_eq_true rfl⟩) rfl rfl rfl 0 rfl rfl hl.1 rfl rfl (Nat.le_of_ble_eq_true rfl) ⟨Nat.zero_le _, Nat.zero_le _⟩ dX4_copy_42 (fun H locs hf => ?_)
        have hf : Fr G (va_A (wM G ad μ0) s.heap.size) s (wM G ad q11.2) H locs := hf
        have hE := Option.some.inj hF
        have hV := congrArg (fun z : Int32 × K2 => z.1) hE
        have hW := congrArg (fun z : Int32 × K2 => wM G ad z.2) hE
        exact g_iret S hr hlocks hf hV hW dX4_copy_45
      · replace hF := (if_neg c10).symm.trans hF
        refine lv_aload_n hx hb dX4_copy_30 rfl (lv_at hl 0 rfl) ?_
        refine g_get (ci := 4) (C := RX4) (T := TX4) (N := 21) (v := .ref (ad 8)) S hf hinX4 0 rfl rfl 17 (by decide) k51 rfl rfl dX4_copy_31 ?_
        refine lv_iload_n hx hb dX4_copy_34 rfl (lv_at hl 3 rfl) ?_
        obtain ⟨g13, hF⟩ := gd_some hF
        refine g_ald (v := (μ0 7) a3.toNatClampNeg) S hf 8 rfl g13 rfl dX4_copy_35 ?_
        refine lv_if_ne (tgt := 46) hx hb dX4_copy_36 (by decide) (fun c14 => ?_) (fun c14 => ?_)
        · replace hF := (if_neg c14).symm.trans hF
          refine lv_aload_n hx hb dX4_copy_46 rfl (lv_at hl 0 rfl) ?_
          refine g_get (ci := 4) (C := RX4) (T := TX4) (N := 21) (v := .ref (ad 8)) S hf hinX4 0 rfl rfl 17 (by decide) k51 rfl rfl dX4_copy_47 ?_
          refine lv_iload_n hx hb dX4_copy_50 rfl (lv_at hl 1 rfl) ?_
          refine g_ald (v := (μ0 7) a1.toNatClampNeg) S hf 8 rfl g9 rfl dX4_copy_51 ?_
          refine lv_aload_n hx hb dX4_copy_52 rfl (lv_at hl 0 rfl) ?_
          refine g_get (ci := 4) (C := RX4) (T := TX4) (N := 21) (v := .ref (ad 8)) S hf hinX4 0 rfl rfl 17 (by decide) k51 rfl rfl dX4_copy_53 ?_
          refine lv_iload_n hx hb dX4_copy_56 rfl (lv_at hl 3 rfl) ?_
          refine g_ald (v := (μ0 7) a3.toNatClampNeg) S hf 8 rfl g13 rfl dX4_copy_57 ?_
          refine lv_icmp_eq (tgt := 69) hx hb dX4_copy_58 (by decide) (fun c15 => ?_) (fun c15 => ?_)
          · replace hF := (if_pos c15).symm.trans hF
            refine lv_iload_n hx hb dX4_copy_69 rfl (lv_at hl 2 rfl) ?_
            refine lv_if_lt (tgt := 118) hx hb dX4_copy_70 (by decide) (fun c16 => ?_) (fun c16 => ?_)
            · replace hF := (if_pos c16).symm.trans hF
              refine lv_aload_n hx hb dX4_copy_118 rfl (lv_at hl 0 rfl) ?_
              refine lv_ldc (v := -1000001) hx hb hown (hts _ kc63) dX4_copy_119 ?_
              obtain ⟨q17, h18, hF⟩ := Option.bind_eq_some_iff.mp hF
              refine g_cv0 (o := some (.int q17.1)) (As := [.int (-1000001)]) (rest := []) (st1 := [.int q17.1]) (ci := 4) S hf (c_X4_finding l G ad μ0 (-1000001) q17 h18) (cwV 1 hts gX4_copy_X4_finding rfl rfl rfl (by decide +kernel) ⟨Nat.le_of_ble_eq_true rfl, Nat.le_of_ble_eq_true rfl⟩) rfl rfl rfl 0 rfl rfl hl.1 rfl rfl (Nat.le_of_ble_eq_true rfl) ⟨Nat.zero_le _, Nat.zero_le _⟩ dX4_copy_121 (fun H locs hf => ?_)
              have hf : Fr G (va_A (wM G ad μ0) s.heap.size) s (wM G ad q17.2) H locs := hf
              have hE := Option.some.inj hF
              have hV := congrArg (fun z : Int32 × K2 => z.1) hE
              have hW := congrArg (fun z : Int32 × K2 => wM G ad z.2) hE
              exact g_iret S hr hlocks hf hV hW dX4_copy_124
            · replace hF := (if_neg c16).symm.trans hF
              refine lv_iload hx hb dX4_copy_73 (lv_at hl 4 rfl) ?_
              refine lv_if_lt (tgt := 118) hx hb dX4_copy_75 (by decide) (fun c19 => ?_) (fun c19 => ?_)
              · replace hF := (if_pos c19).symm.trans hF
                refine lv_aload_n hx hb dX4_copy_118 rfl (lv_at hl 0 rfl) ?_
                refine lv_ldc (v := -1000001) hx hb hown (hts _ kc63) dX4_copy_119 ?_
                obtain ⟨q20, h21, hF⟩ := Option.bind_eq_some_iff.mp hF
                refine g_cv0 (o := some (.int q20.1)) (As := [.int (-1000001)]) (rest := []) (st1 := [.int q20.1]) (ci := 4) S hf (c_X4_finding l G ad μ0 (-1000001) q20 h21) (cwV 1 hts gX4_copy_X4_finding rfl rfl rfl (by decide +kernel) ⟨Nat.le_of_ble_eq_true rfl, Nat.le_of_ble_eq_true rfl⟩) rfl rfl rfl 0 rfl rfl hl.1 rfl rfl (Nat.le_of_ble_eq_true rfl) ⟨Nat.zero_le _, Nat.zero_le _⟩ dX4_copy_121 (fun H locs hf => ?_)
                have hf : Fr G (va_A (wM G ad μ0) s.heap.size) s (wM G ad q20.2) H locs := hf
                have hE := Option.some.inj hF
                have hV := congrArg (fun z : Int32 × K2 => z.1) hE
                have hW := congrArg (fun z : Int32 × K2 => wM G ad z.2) hE
                exact g_iret S hr hlocks hf hV hW dX4_copy_124
              · replace hF := (if_neg c19).symm.trans hF
                refine lv_iload hx hb dX4_copy_78 (lv_at hl 5 rfl) ?_
                refine lv_if_lt (tgt := 118) hx hb dX4_copy_80 (by decide) (fun c22 => ?_) (fun c22 => ?_)
                · replace hF := (if_pos c22).symm.trans hF
                  refine lv_aload_n hx hb dX4_copy_118 rfl (lv_at hl 0 rfl) ?_
                  refine lv_ldc (v := -1000001) hx hb hown (hts _ kc63) dX4_copy_119 ?_
                  obtain ⟨q23, h24, hF⟩ := Option.bind_eq_some_iff.mp hF
                  refine g_cv0 (o := some (.int q23.1)) (As := [.int (-1000001)]) (rest := []) (st1 := [.int q23.1]) (ci := 4) S hf (c_X4_finding l G ad μ0 (-1000001) q23 h24) (cwV 1 hts gX4_copy_X4_finding rfl rfl rfl (by decide +kernel) ⟨Nat.le_of_ble_eq_true rfl, Nat.le_of_ble_eq_true rfl⟩) rfl rfl rfl 0 rfl rfl hl.1 rfl rfl (Nat.le_of_ble_eq_true rfl) ⟨Nat.zero_le _, Nat.zero_le _⟩ dX4_copy_121 (fun H locs hf => ?_)
                  have hf : Fr G (va_A (wM G ad μ0) s.heap.size) s (wM G ad q23.2) H locs := hf
                  have hE := Option.some.inj hF
                  have hV := congrArg (fun z : Int32 × K2 => z.1) hE
                  have hW := congrArg (fun z : Int32 × K2 => wM G ad z.2) hE
                  exact g_iret S hr hlocks hf hV hW dX4_copy_124
                · replace hF := (if_neg c22).symm.trans hF
                  refine lv_iload_n hx hb dX4_copy_83 rfl (lv_at hl 2 rfl) ?_
                  refine lv_i2l (v := a2.toInt64) hx hb dX4_copy_84 rfl ?_
                  refine lv_iload hx hb dX4_copy_85 (lv_at hl 5 rfl) ?_
                  refine lv_i2l (v := a5.toInt64) hx hb dX4_copy_87 rfl ?_
                  refine lv_ladd hx hb dX4_copy_88 ?_
                  refine lv_aload_n hx hb dX4_copy_89 rfl (lv_at hl 0 rfl) ?_
                  refine g_get (ci := 4) (C := RX4) (T := TX4) (N := 21) (v := .ref (ad 9)) S hf hinX4 0 rfl rfl 18 (by decide) k54 rfl rfl dX4_copy_90 ?_
                  refine lv_iload_n hx hb dX4_copy_93 rfl (lv_at hl 1 rfl) ?_
                  refine g_ald (v := (μ0 8) a1.toNatClampNeg) S hf 9 rfl g9 rfl dX4_copy_94 ?_
                  refine lv_i2l (v := ((μ0 8) a1.toNatClampNeg).toInt64) hx hb dX4_copy_95 rfl ?_
                  refine W.lcmp hx hb dX4_copy_96 ?_
                  refine lv_if_gt (tgt := 118) hx hb dX4_copy_97 (by decide) (fun c25 => ?_) (fun c25 => ?_)
                  · replace hF := (if_pos c25).symm.trans hF
                    refine lv_aload_n hx hb dX4_copy_118 rfl (lv_at hl 0 rfl) ?_
                    refine lv_ldc (v := -1000001) hx hb hown (hts _ kc63) dX4_copy_119 ?_
                    obtain ⟨q26, h27, hF⟩ := Option.bind_eq_some_iff.mp hF
                    refine g_cv0 (o := some (.int q26.1)) (As := [.int (-1000001)]) (rest := []) (st1 := [.int q26.1]) (ci := 4) S hf (c_X4_finding l G ad μ0 (-1000001) q26 h27) (cwV 1 hts gX4_copy_X4_finding rfl rfl rfl (by decide +kernel) ⟨Nat.le_of_ble_eq_true rfl, Nat.le_of_ble_eq_true rfl⟩) rfl rfl rfl 0 rfl rfl hl.1 rfl rfl (Nat.le_of_ble_eq_true rfl) ⟨Nat.zero_le _, Nat.zero_le _⟩ dX4_copy_121 (fun H locs hf => ?_)
                    have hf : Fr G (va_A (wM G ad μ0) s.heap.size) s (wM G ad q26.2) H locs := hf
                    have hE := Option.some.inj hF
                    have hV := congrArg (fun z : Int32 × K2 => z.1) hE
                    have hW := congrArg (fun z : Int32 × K2 => wM G ad z.2) hE
                    exact g_iret S hr hlocks hf hV hW dX4_copy_124
                  · replace hF := (if_neg c25).symm.trans hF
                    refine lv_iload hx hb dX4_copy_100 (lv_at hl 4 rfl) ?_
                    refine lv_i2l (v := a4.toInt64) hx hb dX4_copy_102 rfl ?_
                    refine lv_iload hx hb dX4_copy_103 (lv_at hl 5 rfl) ?_
                    refine lv_i2l (v := a5.toInt64) hx hb dX4_copy_105 rfl ?_
                    refine lv_ladd hx hb dX4_copy_106 ?_
                    refine lv_aload_n hx hb dX4_copy_107 rfl (lv_at hl 0 rfl) ?_
                    refine g_get (ci := 4) (C := RX4) (T := TX4) (N := 21) (v := .ref (ad 9)) S hf hinX4 0 rfl rfl 18 (by decide) k54 rfl rfl dX4_copy_108 ?_
                    refine lv_iload_n hx hb dX4_copy_111 rfl (lv_at hl 3 rfl) ?_
                    refine g_ald (v := (μ0 8) a3.toNatClampNeg) S hf 9 rfl g13 rfl dX4_copy_112 ?_
                    refine lv_i2l (v := ((μ0 8) a3.toNatClampNeg).toInt64) hx hb dX4_copy_113 rfl ?_
                    refine W.lcmp hx hb dX4_copy_114 ?_
                    refine lv_if_le (tgt := 125) hx hb dX4_copy_115 (by decide) (fun c28 => ?_) (fun c28 => ?_)
                    · replace hF := (if_pos c28).symm.trans hF
                      refine lv_iconst (v := 0) hx hb dX4_copy_125 (by decide) ?_
                      refine lv_istore (lv' := [(6, .int 0), (0, .ref (ad 0)), (1, .int a1), (2, .int a2), (3, .int a3), (4, .int a4), (5, .int a5)]) hx hb dX4_copy_126 hl (by decide) rfl (fun ls hl => ?_)
                      exact hL128 1000 μ0 a1 a2 a3 a4 a5 0 _ _ _ hF hf (lv_sub hl [1, 2, 3, 4, 5, 6, 0] rfl)
                    · replace hF := (if_neg c28).symm.trans hF
                      refine lv_aload_n hx hb dX4_copy_118 rfl (lv_at hl 0 rfl) ?_
                      refine lv_ldc (v := -1000001) hx hb hown (hts _ kc63) dX4_copy_119 ?_
                      obtain ⟨q35, h36, hF⟩ := Option.bind_eq_some_iff.mp hF
                      refine g_cv0 (o := some (.int q35.1)) (As := [.int (-1000001)]) (rest := []) (st1 := [.int q35.1]) (ci := 4) S hf (c_X4_finding l G ad μ0 (-1000001) q35 h36) (cwV 1 hts gX4_copy_X4_finding rfl rfl rfl (by decide +kernel) ⟨Nat.le_of_ble_eq_true rfl, Nat.le_of_ble_eq_true rfl⟩) rfl rfl rfl 0 rfl rfl hl.1 rfl rfl (Nat.le_of_ble_eq_true rfl) ⟨Nat.zero_le _, Nat.zero_le _⟩ dX4_copy_121 (fun H locs hf => ?_)
                      have hf : Fr G (va_A (wM G ad μ0) s.heap.size) s (wM G ad q35.2) H locs := hf
                      have hE := Option.some.inj hF
                      have hV := congrArg (fun z : Int32 × K2 => z.1) hE
                      have hW := congrArg (fun z : Int32 × K2 => wM G ad z.2) hE
                      exact g_iret S hr hlocks hf hV hW dX4_copy_124
          · replace hF := (if_neg c15).symm.trans hF
            refine lv_aload_n hx hb dX4_copy_61 rfl (lv_at hl 0 rfl) ?_
            refine lv_ldcw (v := -1000003) hx hb hown (hts _ kc306) dX4_copy_62 ?_
            obtain ⟨q37, h38, hF⟩ := Option.bind_eq_some_iff.mp hF
            refine g_cv0 (o := some (.int q37.1)) (As := [.int (-1000003)]) (rest := []) (st1 := [.int q37.1]) (ci := 4) S hf (c_X4_finding l G ad μ0 (-1000003) q37 h38) (cwV 1 hts gX4_copy_X4_finding rfl rfl rfl (by decide +kernel) ⟨Nat.le_of_ble_eq_true rfl, Nat.le_of_ble_eq_true rfl⟩) rfl rfl rfl 0 rfl rfl hl.1 rfl rfl (Nat.le_of_ble_eq_true rfl) ⟨Nat.zero_le _, Nat.zero_le _⟩ dX4_copy_65 (fun H locs hf => ?_)
            have hf : Fr G (va_A (wM G ad μ0) s.heap.size) s (wM G ad q37.2) H locs := hf
            have hE := Option.some.inj hF
            have hV := congrArg (fun z : Int32 × K2 => z.1) hE
            have hW := congrArg (fun z : Int32 × K2 => wM G ad z.2) hE
            exact g_iret S hr hlocks hf hV hW dX4_copy_68
        · replace hF := (if_pos c14).symm.trans hF
          refine lv_aload_n hx hb dX4_copy_39 rfl (lv_at hl 0 rfl) ?_
          refine lv_ldc (v := -1000006) hx hb hown (hts _ kc206) dX4_copy_40 ?_
          obtain ⟨q39, h40, hF⟩ := Option.bind_eq_some_iff.mp hF
          refine g_cv0 (o := some (.int q39.1)) (As := [.int (-1000006)]) (rest := []) (st1 := [.int q39.1]) (ci := 4) S hf (c_X4_finding l G ad μ0 (-1000006) q39 h40) (cwV 1 hts gX4_copy_X4_finding rfl rfl rfl (by decide +kernel) ⟨Nat.le_of_ble_eq_true rfl, Nat.le_of_ble_eq_true rfl⟩) rfl rfl rfl 0 rfl rfl hl.1 rfl rfl (Nat.le_of_ble_eq_true rfl) ⟨Nat.zero_le _, Nat.zero_le _⟩ dX4_copy_42 (fun H locs hf => ?_)
          have hf : Fr G (va_A (wM G ad μ0) s.heap.size) s (wM G ad q39.2) H locs := hf
          have hE := Option.some.inj hF
          have hV := congrArg (fun z : Int32 × K2 => z.1) hE
          have hW := congrArg (fun z : Int32 × K2 => wM G ad z.2) hE
          exact g_iret S hr hlocks hf hV hW dX4_copy_45
    · replace hF := (if_pos c8).symm.trans hF
      refine lv_aload_n hx hb dX4_copy_14 rfl (lv_at hl 0 rfl) ?_
      refine lv_ldc (v := -1000001) hx hb hown (hts _ kc63) dX4_copy_15 ?_
      obtain ⟨q41, h42, hF⟩ := Option.bind_eq_some_iff.mp hF
      refine g_cv0 (o := some (.int q41.1)) (As := [.int (-1000001)]) (rest := []) (st1 := [.int q41.1]) (ci := 4) S hf (c_X4_finding l G ad μ0 (-1000001) q41 h42) (cwV 1 hts gX4_copy_X4_finding rfl rfl rfl (by decide +kernel) ⟨Nat.le_of_ble_eq_true rfl, Nat.le_of_ble_eq_true rfl⟩) rfl rfl rfl 0 rfl rfl hl.1 rfl rfl (Nat.le_of_ble_eq_true rfl) ⟨Nat.zero_le _, Nat.zero_le _⟩ dX4_copy_17 (fun H locs hf => ?_)
      have hf : Fr G (va_A (wM G ad μ0) s.heap.size) s (wM G ad q41.2) H locs := hf
      have hE := Option.some.inj hF
      have hV := congrArg (fun z : Int32 × K2 => z.1) hE
      have hW := congrArg (fun z : Int32 × K2 => wM G ad z.2) hE
      exact g_iret S hr hlocks hf hV hW dX4_copy_20
def f_X4_load_L22 : Nat → K2 → Int32 → Int32 → Option (Int32 × K2)
  | 0, _, _, _ => none
  | n + 1, μ, x1, x2 => if ix x1 4 then (if ((μ 8) x1.toNatClampNeg) ≤ x2 then (some (x2, μ)) else (Option.bind (f_X4_isPlace x2) (fun q6 => if q6 = 0 then (some (x2, μ)) else (if ix ((40 * x1) + x2) 160 then (Option.bind (f_X4_isHarvest ((μ 9) ((40 * x1) + x2).toNatClampNeg)) (fun q10 => if q10 = 0 then (some (x2, μ)) else (if ix (4 + x2) 92 then (f_X4_load_L22 n (va_up μ 0 (upd (μ 0) ((4 + x2).toNatClampNeg) ((μ 9) ((40 * x1) + x2).toNatClampNeg))) x1 (x2 + 1)) else none))) else none)))) else none
def f_X4_load (μ0 : K2) (a1 : Int32) : Option (Int32 × K2) := Option.bind (f_X4_lacks μ0 a1 1) (fun q1 => if q1 = 0 then (f_X4_load_L22 1000 μ0 a1 0) else (Option.bind (f_X4_lacks μ0 a1 1) (fun q14 => Option.bind (f_X4_finding μ0 q14) (fun q16 => some (q16.1, q16.2)))))
set_option maxHeartbeats 4000000 in
set_option maxRecDepth 100000 in
theorem c_X4_load (l : Launch) (G : GT) (ad : Nat → Nat) (μ0 : K2) (a1 : Int32) (q : Int32 × K2) (hF : f_X4_load μ0 a1 = some q) : Ct l G yX4_load wsX4_load ({ frames := 3, cells := 0, slots := 0, locals := 64 } : Room) ([.ref (ad 0), .int a1] : List Value) (wM G ad μ0) (some (.int q.1)) (wM G ad q.2) := by
  have k54 : Cond.fieldLink RX4 54 "PigeonRollsModel" "sizes" "[I" ∈ wsX4_load := by decide +kernel
  have k57 : Cond.fieldLink RX4 57 "PigeonRollsModel" "numbers" "[I" ∈ wsX4_load := by decide +kernel
  have k9 : Cond.fieldLink RX4 9 "PigeonRollsModel" "now" "[I" ∈ wsX4_load := by decide +kernel
  have hinX4 : ∀ w ∈ u_ws RX4 TX4 21, w ∈ wsX4_load := by decide +kernel
  refine Ct.of cX4_load 3 (some .int) (by decide) rfl (Nat.le_of_ble_eq_true rfl) ?_
  intro p e s m below meth c ls S hr hlocks hf hl
  have S : CallFix p m c cX4_load 3 s ([.ref (ad 0), .int a1] : List Value).toArray wsX4_load RX4 := S
  obtain ⟨hx, hb, hml, hown, hts⟩ := id S
  have hl : lv_has ls 3 [(0, .ref (ad 0)), (1, .int a1)] := hl
  have hL22 : ∀ (n : Nat) (μ : K2) (x1 : Int32) (x2 : Int32)  (H : Heap) (locs : List Loc) (ls : Array Slot), f_X4_load_L22 n μ x1 x2 = some q → Fr G (va_A (wM G ad μ0) s.heap.size) s (wM G ad μ) H locs → lv_has ls 3 [(0, .ref (ad 0)), (1, .int x1), (2, .int x2)] → W p l e ({ frames := 3, cells := 0, slots := 0, locals := 64 } : Room) s m ([.ref (ad 0), .int a1] : List Value).toArray below meth c H locs 0 0 (MQ below (CPost G (wM G ad μ0) s.heap.size (some (.int q.1)) (wM G ad q.2)) ([.ref (ad 0), .int a1] : List Value).toArray s 0 0 (va_A (wM G ad μ0) s.heap.size)) (F0 m 22 ls []) := by
    intro n
    induction n with
    | zero =>
      intro μ x1 x2 H locs ls hF hf hl
      exact absurd hF (by simp [f_X4_load_L22])
    | succ n ih22 =>
      intro μ x1 x2 H locs ls hF hf hl
      rw [f_X4_load_L22] at hF
      refine lv_iload_n hx hb dX4_load_22 rfl (lv_at hl 2 rfl) ?_
      refine lv_aload_n hx hb dX4_load_23 rfl (lv_at hl 0 rfl) ?_
      refine g_get (ci := 4) (C := RX4) (T := TX4) (N := 21) (v := .ref (ad 9)) S hf hinX4 0 rfl rfl 18 (by decide) k54 rfl rfl dX4_load_24 ?_
      refine lv_iload_n hx hb dX4_load_27 rfl (lv_at hl 1 rfl) ?_
      obtain ⟨g4, hF⟩ := gd_some hF
      refine g_ald (v := (μ 8) x1.toNatClampNeg) S hf 9 rfl g4 rfl dX4_load_28 ?_
      refine lv_icmp_ge (tgt := 81) hx hb dX4_load_29 (by decide) (fun c5 => ?_) (fun c5 => ?_)
      · replace hF := (if_pos c5).symm.trans hF
        refine lv_iload_n hx hb dX4_load_81 rfl (lv_at hl 2 rfl) ?_
        have hE := Option.some.inj hF
        have hV := congrArg (fun z : Int32 × K2 => z.1) hE
        have hW := congrArg (fun z : Int32 × K2 => wM G ad z.2) hE
        exact g_iret S hr hlocks hf hV hW dX4_load_82
      · replace hF := (if_neg c5).symm.trans hF
        refine lv_iload_n hx hb dX4_load_32 rfl (lv_at hl 2 rfl) ?_
        obtain ⟨q6, h7, hF⟩ := Option.bind_eq_some_iff.mp hF
        refine g_cs0 (o := some (.int q6)) (As := [.int x2]) (rest := []) (st1 := [.int q6]) S hf (c_X4_isPlace l G  x2 q6 h7) (va_cwS 1 hts gX4_load_X4_isPlace rfl rfl rfl (by decide +kernel) ⟨Nat.le_of_ble_eq_true rfl, Nat.le_of_ble_eq_true rfl⟩) rfl hl.1 rfl rfl (Nat.le_of_ble_eq_true rfl) ⟨Nat.zero_le _, Nat.zero_le _⟩ dX4_load_33 (fun H locs hf => ?_)
        refine lv_if_eq (tgt := 81) hx hb dX4_load_36 (by decide) (fun c8 => ?_) (fun c8 => ?_)
        · replace hF := (if_pos c8).symm.trans hF
          refine lv_iload_n hx hb dX4_load_81 rfl (lv_at hl 2 rfl) ?_
          have hE := Option.some.inj hF
          have hV := congrArg (fun z : Int32 × K2 => z.1) hE
          have hW := congrArg (fun z : Int32 × K2 => wM G ad z.2) hE
          exact g_iret S hr hlocks hf hV hW dX4_load_82
        · replace hF := (if_neg c8).symm.trans hF
          refine lv_aload_n hx hb dX4_load_39 rfl (lv_at hl 0 rfl) ?_
          refine g_get (ci := 4) (C := RX4) (T := TX4) (N := 21) (v := .ref (ad 10)) S hf hinX4 0 rfl rfl 19 (by decide) k57 rfl rfl dX4_load_40 ?_
          refine lv_bipush (v := 40) hx hb dX4_load_43 (by decide) ?_
          refine lv_iload_n hx hb dX4_load_45 rfl (lv_at hl 1 rfl) ?_
          refine lv_imul hx hb dX4_load_46 ?_
          refine lv_iload_n hx hb dX4_load_47 rfl (lv_at hl 2 rfl) ?_
          refine lv_iadd hx hb dX4_load_48 ?_
          obtain ⟨g9, hF⟩ := gd_some hF
          refine g_ald (v := (μ 9) ((40 * x1) + x2).toNatClampNeg) S hf 10 rfl g9 rfl dX4_load_49 ?_
          obtain ⟨q10, h11, hF⟩ := Option.bind_eq_some_iff.mp hF
          refine g_cs0 (o := some (.int q10)) (As := [.int ((μ 9) ((40 * x1) + x2).toNatClampNeg)]) (rest := []) (st1 := [.int q10]) S hf (c_X4_isHarvest l G  ((μ 9) ((40 * x1) + x2).toNatClampNeg) q10 h11) (va_cwS 1 hts gX4_load_X4_isHarvest rfl rfl rfl (by decide +kernel) ⟨Nat.le_of_ble_eq_true rfl, Nat.le_of_ble_eq_true rfl⟩) rfl hl.1 rfl rfl (Nat.le_of_ble_eq_true rfl) ⟨Nat.zero_le _, Nat.zero_le _⟩ dX4_load_50 (fun H locs hf => ?_)
          refine lv_if_eq (tgt := 81) hx hb dX4_load_53 (by decide) (fun c12 => ?_) (fun c12 => ?_)
          · replace hF := (if_pos c12).symm.trans hF
            refine lv_iload_n hx hb dX4_load_81 rfl (lv_at hl 2 rfl) ?_
            have hE := Option.some.inj hF
            have hV := congrArg (fun z : Int32 × K2 => z.1) hE
            have hW := congrArg (fun z : Int32 × K2 => wM G ad z.2) hE
            exact g_iret S hr hlocks hf hV hW dX4_load_82
          · replace hF := (if_neg c12).symm.trans hF
            refine lv_aload_n hx hb dX4_load_56 rfl (lv_at hl 0 rfl) ?_
            refine g_get (ci := 4) (C := RX4) (T := TX4) (N := 21) (v := .ref (ad 1)) S hf hinX4 0 rfl rfl 0 (by decide) k9 rfl rfl dX4_load_57 ?_
            refine lv_iconst (v := 4) hx hb dX4_load_60 (by decide) ?_
            refine lv_iload_n hx hb dX4_load_61 rfl (lv_at hl 2 rfl) ?_
            refine lv_iadd hx hb dX4_load_62 ?_
            refine lv_aload_n hx hb dX4_load_63 rfl (lv_at hl 0 rfl) ?_
            refine g_get (ci := 4) (C := RX4) (T := TX4) (N := 21) (v := .ref (ad 10)) S hf hinX4 0 rfl rfl 19 (by decide) k57 rfl rfl dX4_load_64 ?_
            refine lv_bipush (v := 40) hx hb dX4_load_67 (by decide) ?_
            refine lv_iload_n hx hb dX4_load_69 rfl (lv_at hl 1 rfl) ?_
            refine lv_imul hx hb dX4_load_70 ?_
            refine lv_iload_n hx hb dX4_load_71 rfl (lv_at hl 2 rfl) ?_
            refine lv_iadd hx hb dX4_load_72 ?_
            refine g_ald (v := (μ 9) ((40 * x1) + x2).toNatClampNeg) S hf 10 rfl g9 rfl dX4_load_73 ?_
            obtain ⟨g13, hF⟩ := gd_some hF
            refine g_ast (ww' := wM G ad (va_up μ 0 (upd (μ 0) ((4 + x2).toNatClampNeg) ((μ 9) ((40 * x1) + x2).toNatClampNeg)))) S hf 2 rfl g13 rfl dX4_load_74 (fun H locs hf => ?_)
            refine lv_iinc (v := x2 + 1) (lv' := [(2, .int (x2 + 1)), (0, .ref (ad 0)), (1, .int x1)]) hx hb dX4_load_75 hl (k := 2) rfl rfl (by decide) rfl (fun ls hl => ?_)
            refine lv_goto (tgt := 22) hx hb dX4_load_78 (by decide) ?_
            exact ih22 (va_up μ 0 (upd (μ 0) ((4 + x2).toNatClampNeg) ((μ 9) ((40 * x1) + x2).toNatClampNeg))) x1 (x2 + 1) _ _ _ hF hf (lv_sub hl [1, 2, 0] rfl)
  unfold f_X4_load at hF
  refine lv_aload_n hx hb dX4_load_0 rfl (lv_at hl 0 rfl) ?_
  refine lv_iload_n hx hb dX4_load_1 rfl (lv_at hl 1 rfl) ?_
  refine lv_iconst (v := 1) hx hb dX4_load_2 (by decide) ?_
  obtain ⟨q1, h2, hF⟩ := Option.bind_eq_some_iff.mp hF
  refine g_cv0 (o := some (.int q1)) (As := [.int a1, .int 1]) (rest := []) (st1 := [.int q1]) (ci := 4) S hf (c_X4_lacks l G ad μ0 a1 1 q1 h2) (cwV 2 hts gX4_load_X4_lacks rfl rfl rfl (by decide +kernel) ⟨Nat.le_of_ble_eq_true rfl, Nat.le_of_ble_eq_true rfl⟩) rfl rfl rfl 0 rfl rfl hl.1 rfl rfl (Nat.le_of_ble_eq_true rfl) ⟨Nat.zero_le _, Nat.zero_le _⟩ dX4_load_3 (fun H locs hf => ?_)
  have hf : Fr G (va_A (wM G ad μ0) s.heap.size) s (wM G ad μ0) H locs := hf
  refine lv_if_eq (tgt := 20) hx hb dX4_load_6 (by decide) (fun c3 => ?_) (fun c3 => ?_)
  · replace hF := (if_pos c3).symm.trans hF
    refine lv_iconst (v := 0) hx hb dX4_load_20 (by decide) ?_
    refine lv_istore_n (lv' := [(2, .int 0), (0, .ref (ad 0)), (1, .int a1)]) hx hb dX4_load_21 rfl hl (by decide) rfl (fun ls hl => ?_)
    exact hL22 1000 μ0 a1 0 _ _ _ hF hf (lv_sub hl [1, 2, 0] rfl)
  · replace hF := (if_neg c3).symm.trans hF
    refine lv_aload_n hx hb dX4_load_9 rfl (lv_at hl 0 rfl) ?_
    refine lv_aload_n hx hb dX4_load_10 rfl (lv_at hl 0 rfl) ?_
    refine lv_iload_n hx hb dX4_load_11 rfl (lv_at hl 1 rfl) ?_
    refine lv_iconst (v := 1) hx hb dX4_load_12 (by decide) ?_
    obtain ⟨q14, h15, hF⟩ := Option.bind_eq_some_iff.mp hF
    refine g_cv0 (o := some (.int q14)) (As := [.int a1, .int 1]) (rest := [.ref (ad 0)]) (st1 := [.int q14, .ref (ad 0)]) (ci := 4) S hf (c_X4_lacks l G ad μ0 a1 1 q14 h15) (cwV 2 hts gX4_load_X4_lacks rfl rfl rfl (by decide +kernel) ⟨Nat.le_of_ble_eq_true rfl, Nat.le_of_ble_eq_true rfl⟩) rfl rfl rfl 0 rfl rfl hl.1 rfl rfl (Nat.le_of_ble_eq_true rfl) ⟨Nat.zero_le _, Nat.zero_le _⟩ dX4_load_13 (fun H locs hf => ?_)
    have hf : Fr G (va_A (wM G ad μ0) s.heap.size) s (wM G ad μ0) H locs := hf
    obtain ⟨q16, h17, hF⟩ := Option.bind_eq_some_iff.mp hF
    refine g_cv0 (o := some (.int q16.1)) (As := [.int q14]) (rest := []) (st1 := [.int q16.1]) (ci := 4) S hf (c_X4_finding l G ad μ0 q14 q16 h17) (cwV 1 hts gX4_load_X4_finding rfl rfl rfl (by decide +kernel) ⟨Nat.le_of_ble_eq_true rfl, Nat.le_of_ble_eq_true rfl⟩) rfl rfl rfl 0 rfl rfl hl.1 rfl rfl (Nat.le_of_ble_eq_true rfl) ⟨Nat.zero_le _, Nat.zero_le _⟩ dX4_load_16 (fun H locs hf => ?_)
    have hf : Fr G (va_A (wM G ad μ0) s.heap.size) s (wM G ad q16.2) H locs := hf
    have hE := Option.some.inj hF
    have hV := congrArg (fun z : Int32 × K2 => z.1) hE
    have hW := congrArg (fun z : Int32 × K2 => wM G ad z.2) hE
    exact g_iret S hr hlocks hf hV hW dX4_load_19
def f_X4_judge_B67 (μ : K2) (x1 : Int32) (x2 : Int32) : Option (Int32 × K2) := if ix x1 4 then (if x2 = ((μ 8) x1.toNatClampNeg) then (some (0, μ)) else (some (1 + x2, μ))) else none
def f_X4_judge_L22 : Nat → K2 → Int32 → Int32 → Option (Int32 × K2)
  | 0, _, _, _ => none
  | n + 1, μ, x1, x2 => if ix x1 4 then (if ((μ 8) x1.toNatClampNeg) ≤ x2 then (f_X4_judge_B67 μ x1 x2) else (Option.bind (f_X4_isBird μ x2) (fun q8 => if q8 = 0 then (f_X4_judge_B67 μ x1 x2) else (if ix ((40 * x1) + x2) 160 then (Option.bind (f_X4_birdIs μ x2 7) (fun q12 => if ((μ 9) ((40 * x1) + x2).toNatClampNeg) = q12 then (f_X4_judge_L22 n μ x1 (x2 + 1)) else (f_X4_judge_B67 μ x1 x2))) else none)))) else none
def f_X4_judge (μ0 : K2) (a1 : Int32) : Option (Int32 × K2) := Option.bind (f_X4_lacks μ0 a1 1) (fun q1 => if q1 = 0 then (f_X4_judge_L22 1000 μ0 a1 0) else (Option.bind (f_X4_lacks μ0 a1 1) (fun q15 => Option.bind (f_X4_finding μ0 q15) (fun q17 => some (q17.1, q17.2)))))
set_option maxHeartbeats 4000000 in
set_option maxRecDepth 100000 in
theorem c_X4_judge (l : Launch) (G : GT) (ad : Nat → Nat) (μ0 : K2) (a1 : Int32) (q : Int32 × K2) (hF : f_X4_judge μ0 a1 = some q) : Ct l G yX4_judge wsX4_judge ({ frames := 3, cells := 0, slots := 0, locals := 64 } : Room) ([.ref (ad 0), .int a1] : List Value) (wM G ad μ0) (some (.int q.1)) (wM G ad q.2) := by
  have k54 : Cond.fieldLink RX4 54 "PigeonRollsModel" "sizes" "[I" ∈ wsX4_judge := by decide +kernel
  have k57 : Cond.fieldLink RX4 57 "PigeonRollsModel" "numbers" "[I" ∈ wsX4_judge := by decide +kernel
  have hinX4 : ∀ w ∈ u_ws RX4 TX4 21, w ∈ wsX4_judge := by decide +kernel
  refine Ct.of cX4_judge 3 (some .int) (by decide) rfl (Nat.le_of_ble_eq_true rfl) ?_
  intro p e s m below meth c ls S hr hlocks hf hl
  have S : CallFix p m c cX4_judge 3 s ([.ref (ad 0), .int a1] : List Value).toArray wsX4_judge RX4 := S
  obtain ⟨hx, hb, hml, hown, hts⟩ := id S
  have hl : lv_has ls 3 [(0, .ref (ad 0)), (1, .int a1)] := hl
  have hL67 : ∀ (μ : K2) (x1 : Int32) (x2 : Int32)  (H : Heap) (locs : List Loc) (ls : Array Slot), f_X4_judge_B67 μ x1 x2 = some q → Fr G (va_A (wM G ad μ0) s.heap.size) s (wM G ad μ) H locs → lv_has ls 3 [(0, .ref (ad 0)), (1, .int x1), (2, .int x2)] → W p l e ({ frames := 3, cells := 0, slots := 0, locals := 64 } : Room) s m ([.ref (ad 0), .int a1] : List Value).toArray below meth c H locs 0 0 (MQ below (CPost G (wM G ad μ0) s.heap.size (some (.int q.1)) (wM G ad q.2)) ([.ref (ad 0), .int a1] : List Value).toArray s 0 0 (va_A (wM G ad μ0) s.heap.size)) (F0 m 67 ls []) := by
    intro μ x1 x2 H locs ls hF hf hl
    unfold f_X4_judge_B67 at hF
    refine lv_iload_n hx hb dX4_judge_67 rfl (lv_at hl 2 rfl) ?_
    refine lv_aload_n hx hb dX4_judge_68 rfl (lv_at hl 0 rfl) ?_
    refine g_get (ci := 4) (C := RX4) (T := TX4) (N := 21) (v := .ref (ad 9)) S hf hinX4 0 rfl rfl 18 (by decide) k54 rfl rfl dX4_judge_69 ?_
    refine lv_iload_n hx hb dX4_judge_72 rfl (lv_at hl 1 rfl) ?_
    obtain ⟨g6, hF⟩ := gd_some hF
    refine g_ald (v := (μ 8) x1.toNatClampNeg) S hf 9 rfl g6 rfl dX4_judge_73 ?_
    refine lv_icmp_ne (tgt := 81) hx hb dX4_judge_74 (by decide) (fun c7 => ?_) (fun c7 => ?_)
    · replace hF := (if_neg c7).symm.trans hF
      refine lv_iconst (v := 1) hx hb dX4_judge_81 (by decide) ?_
      refine lv_iload_n hx hb dX4_judge_82 rfl (lv_at hl 2 rfl) ?_
      refine lv_iadd hx hb dX4_judge_83 ?_
      have hE := Option.some.inj hF
      have hV := congrArg (fun z : Int32 × K2 => z.1) hE
      have hW := congrArg (fun z : Int32 × K2 => wM G ad z.2) hE
      exact g_iret S hr hlocks hf hV hW dX4_judge_84
    · replace hF := (if_pos c7).symm.trans hF
      refine lv_iconst (v := 0) hx hb dX4_judge_77 (by decide) ?_
      refine lv_goto (tgt := 84) hx hb dX4_judge_78 (by decide) ?_
      have hE := Option.some.inj hF
      have hV := congrArg (fun z : Int32 × K2 => z.1) hE
      have hW := congrArg (fun z : Int32 × K2 => wM G ad z.2) hE
      exact g_iret S hr hlocks hf hV hW dX4_judge_84
  have hL22 : ∀ (n : Nat) (μ : K2) (x1 : Int32) (x2 : Int32)  (H : Heap) (locs : List Loc) (ls : Array Slot), f_X4_judge_L22 n μ x1 x2 = some q → Fr G (va_A (wM G ad μ0) s.heap.size) s (wM G ad μ) H locs → lv_has ls 3 [(0, .ref (ad 0)), (1, .int x1), (2, .int x2)] → W p l e ({ frames := 3, cells := 0, slots := 0, locals := 64 } : Room) s m ([.ref (ad 0), .int a1] : List Value).toArray below meth c H locs 0 0 (MQ below (CPost G (wM G ad μ0) s.heap.size (some (.int q.1)) (wM G ad q.2)) ([.ref (ad 0), .int a1] : List Value).toArray s 0 0 (va_A (wM G ad μ0) s.heap.size)) (F0 m 22 ls []) := by
    intro n
    induction n with
    | zero =>
      intro μ x1 x2 H locs ls hF hf hl
      exact absurd hF (by simp [f_X4_judge_L22])
    | succ n ih22 =>
      intro μ x1 x2 H locs ls hF hf hl
      rw [f_X4_judge_L22] at hF
      refine lv_iload_n hx hb dX4_judge_22 rfl (lv_at hl 2 rfl) ?_
      refine lv_aload_n hx hb dX4_judge_23 rfl (lv_at hl 0 rfl) ?_
      refine g_get (ci := 4) (C := RX4) (T := TX4) (N := 21) (v := .ref (ad 9)) S hf hinX4 0 rfl rfl 18 (by decide) k54 rfl rfl dX4_judge_24 ?_
      refine lv_iload_n hx hb dX4_judge_27 rfl (lv_at hl 1 rfl) ?_
      obtain ⟨g4, hF⟩ := gd_some hF
      refine g_ald (v := (μ 8) x1.toNatClampNeg) S hf 9 rfl g4 rfl dX4_judge_28 ?_
      refine lv_icmp_ge (tgt := 67) hx hb dX4_judge_29 (by decide) (fun c5 => ?_) (fun c5 => ?_)
      · replace hF := (if_pos c5).symm.trans hF
        exact hL67 μ x1 x2 _ _ _ hF hf (lv_sub hl [0, 1, 2] rfl)
      · replace hF := (if_neg c5).symm.trans hF
        refine lv_aload_n hx hb dX4_judge_32 rfl (lv_at hl 0 rfl) ?_
        refine lv_iload_n hx hb dX4_judge_33 rfl (lv_at hl 2 rfl) ?_
        obtain ⟨q8, h9, hF⟩ := Option.bind_eq_some_iff.mp hF
        refine g_cv0 (o := some (.int q8)) (As := [.int x2]) (rest := []) (st1 := [.int q8]) (ci := 4) S hf (c_X4_isBird l G ad μ x2 q8 h9) (cwV 1 hts gX4_judge_X4_isBird rfl rfl rfl (by decide +kernel) ⟨Nat.le_of_ble_eq_true rfl, Nat.le_of_ble_eq_true rfl⟩) rfl rfl rfl 0 rfl rfl hl.1 rfl rfl (Nat.le_of_ble_eq_true rfl) ⟨Nat.zero_le _, Nat.zero_le _⟩ dX4_judge_34 (fun H locs hf => ?_)
        have hf : Fr G (va_A (wM G ad μ0) s.heap.size) s (wM G ad μ) H locs := hf
        refine lv_if_eq (tgt := 67) hx hb dX4_judge_37 (by decide) (fun c10 => ?_) (fun c10 => ?_)
        · replace hF := (if_pos c10).symm.trans hF
          exact hL67 μ x1 x2 _ _ _ hF hf (lv_sub hl [0, 1, 2] rfl)
        · replace hF := (if_neg c10).symm.trans hF
          refine lv_aload_n hx hb dX4_judge_40 rfl (lv_at hl 0 rfl) ?_
          refine g_get (ci := 4) (C := RX4) (T := TX4) (N := 21) (v := .ref (ad 10)) S hf hinX4 0 rfl rfl 19 (by decide) k57 rfl rfl dX4_judge_41 ?_
          refine lv_bipush (v := 40) hx hb dX4_judge_44 (by decide) ?_
          refine lv_iload_n hx hb dX4_judge_46 rfl (lv_at hl 1 rfl) ?_
          refine lv_imul hx hb dX4_judge_47 ?_
          refine lv_iload_n hx hb dX4_judge_48 rfl (lv_at hl 2 rfl) ?_
          refine lv_iadd hx hb dX4_judge_49 ?_
          obtain ⟨g11, hF⟩ := gd_some hF
          refine g_ald (v := (μ 9) ((40 * x1) + x2).toNatClampNeg) S hf 10 rfl g11 rfl dX4_judge_50 ?_
          refine lv_aload_n hx hb dX4_judge_51 rfl (lv_at hl 0 rfl) ?_
          refine lv_iload_n hx hb dX4_judge_52 rfl (lv_at hl 2 rfl) ?_
          refine lv_bipush (v := 7) hx hb dX4_judge_53 (by decide) ?_
          obtain ⟨q12, h13, hF⟩ := Option.bind_eq_some_iff.mp hF
          refine g_cv0 (o := some (.int q12)) (As := [.int x2, .int 7]) (rest := [.int ((μ 9) ((40 * x1) + x2).toNatClampNeg)]) (st1 := [.int q12, .int ((μ 9) ((40 * x1) + x2).toNatClampNeg)]) (ci := 4) S hf (c_X4_birdIs l G ad μ x2 7 q12 h13) (cwV 2 hts gX4_judge_X4_birdIs rfl rfl rfl (by decide +kernel) ⟨Nat.le_of_ble_eq_true rfl, Nat.le_of_ble_eq_true rfl⟩) rfl rfl rfl 0 rfl rfl hl.1 rfl rfl (Nat.le_of_ble_eq_true rfl) ⟨Nat.zero_le _, Nat.zero_le _⟩ dX4_judge_55 (fun H locs hf => ?_)
          have hf : Fr G (va_A (wM G ad μ0) s.heap.size) s (wM G ad μ) H locs := hf
          refine lv_icmp_ne (tgt := 67) hx hb dX4_judge_58 (by decide) (fun c14 => ?_) (fun c14 => ?_)
          · replace hF := (if_neg c14).symm.trans hF
            exact hL67 μ x1 x2 _ _ _ hF hf (lv_sub hl [0, 1, 2] rfl)
          · replace hF := (if_pos c14).symm.trans hF
            refine lv_iinc (v := x2 + 1) (lv' := [(2, .int (x2 + 1)), (0, .ref (ad 0)), (1, .int x1)]) hx hb dX4_judge_61 hl (k := 2) rfl rfl (by decide) rfl (fun ls hl => ?_)
            refine lv_goto (tgt := 22) hx hb dX4_judge_64 (by decide) ?_
            exact ih22 μ x1 (x2 + 1) _ _ _ hF hf (lv_sub hl [1, 2, 0] rfl)
  unfold f_X4_judge at hF
  refine lv_aload_n hx hb dX4_judge_0 rfl (lv_at hl 0 rfl) ?_
  refine lv_iload_n hx hb dX4_judge_1 rfl (lv_at hl 1 rfl) ?_
  refine lv_iconst (v := 1) hx hb dX4_judge_2 (by decide) ?_
  obtain ⟨q1, h2, hF⟩ := Option.bind_eq_some_iff.mp hF
  refine g_cv0 (o := some (.int q1)) (As := [.int a1, .int 1]) (rest := []) (st1 := [.int q1]) (ci := 4) S hf (c_X4_lacks l G ad μ0 a1 1 q1 h2) (cwV 2 hts gX4_judge_X4_lacks rfl rfl rfl (by decide +kernel) ⟨Nat.le_of_ble_eq_true rfl, Nat.le_of_ble_eq_true rfl⟩) rfl rfl rfl 0 rfl rfl hl.1 rfl rfl (Nat.le_of_ble_eq_true rfl) ⟨Nat.zero_le _, Nat.zero_le _⟩ dX4_judge_3 (fun H locs hf => ?_)
  have hf : Fr G (va_A (wM G ad μ0) s.heap.size) s (wM G ad μ0) H locs := hf
  refine lv_if_eq (tgt := 20) hx hb dX4_judge_6 (by decide) (fun c3 => ?_) (fun c3 => ?_)
  · replace hF := (if_pos c3).symm.trans hF
    refine lv_iconst (v := 0) hx hb dX4_judge_20 (by decide) ?_
    refine lv_istore_n (lv' := [(2, .int 0), (0, .ref (ad 0)), (1, .int a1)]) hx hb dX4_judge_21 rfl hl (by decide) rfl (fun ls hl => ?_)
    exact hL22 1000 μ0 a1 0 _ _ _ hF hf (lv_sub hl [1, 2, 0] rfl)
  · replace hF := (if_neg c3).symm.trans hF
    refine lv_aload_n hx hb dX4_judge_9 rfl (lv_at hl 0 rfl) ?_
    refine lv_aload_n hx hb dX4_judge_10 rfl (lv_at hl 0 rfl) ?_
    refine lv_iload_n hx hb dX4_judge_11 rfl (lv_at hl 1 rfl) ?_
    refine lv_iconst (v := 1) hx hb dX4_judge_12 (by decide) ?_
    obtain ⟨q15, h16, hF⟩ := Option.bind_eq_some_iff.mp hF
    refine g_cv0 (o := some (.int q15)) (As := [.int a1, .int 1]) (rest := [.ref (ad 0)]) (st1 := [.int q15, .ref (ad 0)]) (ci := 4) S hf (c_X4_lacks l G ad μ0 a1 1 q15 h16) (cwV 2 hts gX4_judge_X4_lacks rfl rfl rfl (by decide +kernel) ⟨Nat.le_of_ble_eq_true rfl, Nat.le_of_ble_eq_true rfl⟩) rfl rfl rfl 0 rfl rfl hl.1 rfl rfl (Nat.le_of_ble_eq_true rfl) ⟨Nat.zero_le _, Nat.zero_le _⟩ dX4_judge_13 (fun H locs hf => ?_)
    have hf : Fr G (va_A (wM G ad μ0) s.heap.size) s (wM G ad μ0) H locs := hf
    obtain ⟨q17, h18, hF⟩ := Option.bind_eq_some_iff.mp hF
    refine g_cv0 (o := some (.int q17.1)) (As := [.int q15]) (rest := []) (st1 := [.int q17.1]) (ci := 4) S hf (c_X4_finding l G ad μ0 q15 q17 h18) (cwV 1 hts gX4_judge_X4_finding rfl rfl rfl (by decide +kernel) ⟨Nat.le_of_ble_eq_true rfl, Nat.le_of_ble_eq_true rfl⟩) rfl rfl rfl 0 rfl rfl hl.1 rfl rfl (Nat.le_of_ble_eq_true rfl) ⟨Nat.zero_le _, Nat.zero_le _⟩ dX4_judge_16 (fun H locs hf => ?_)
    have hf : Fr G (va_A (wM G ad μ0) s.heap.size) s (wM G ad q17.2) H locs := hf
    have hE := Option.some.inj hF
    have hV := congrArg (fun z : Int32 × K2 => z.1) hE
    have hW := congrArg (fun z : Int32 × K2 => wM G ad z.2) hE
    exact g_iret S hr hlocks hf hV hW dX4_judge_19
def f_X4_image (μ0 : K2) : Option (Int32 × K2) := Option.bind (f_X4_copyRow2 (μ0 0) (μ0 1)) (fun q1 => some (1, va_up (va_up μ0 1 q1) 11 (upd (μ0 11) 0 1)))
set_option maxHeartbeats 4000000 in
set_option maxRecDepth 100000 in
theorem c_X4_image (l : Launch) (G : GT) (ad : Nat → Nat) (μ0 : K2) (q : Int32 × K2) (hF : f_X4_image μ0 = some q) : Ct l G yX4_image wsX4_image ({ frames := 1, cells := 0, slots := 0, locals := 22 } : Room) ([.ref (ad 0)] : List Value) (wM G ad μ0) (some (.int q.1)) (wM G ad q.2) := by
  have k9 : Cond.fieldLink RX4 9 "PigeonRollsModel" "now" "[I" ∈ wsX4_image := by decide +kernel
  have k13 : Cond.fieldLink RX4 13 "PigeonRollsModel" "kept" "[I" ∈ wsX4_image := by decide +kernel
  have k314 : Cond.fieldLink RX4 314 "PigeonRollsModel" "isKept" "Z" ∈ wsX4_image := by decide +kernel
  have hinX4 : ∀ w ∈ u_ws RX4 TX4 21, w ∈ wsX4_image := by decide +kernel
  refine Ct.of cX4_image 1 (some .int) (by decide) rfl (Nat.le_of_ble_eq_true rfl) ?_
  intro p e s m below meth c ls S hr hlocks hf hl
  have S : CallFix p m c cX4_image 1 s ([.ref (ad 0)] : List Value).toArray wsX4_image RX4 := S
  obtain ⟨hx, hb, hml, hown, hts⟩ := id S
  have hl : lv_has ls 1 [(0, .ref (ad 0))] := hl
  unfold f_X4_image at hF
  refine lv_aload_n hx hb dX4_image_0 rfl (lv_at hl 0 rfl) ?_
  refine g_get (ci := 4) (C := RX4) (T := TX4) (N := 21) (v := .ref (ad 1)) S hf hinX4 0 rfl rfl 0 (by decide) k9 rfl rfl dX4_image_1 ?_
  refine lv_aload_n hx hb dX4_image_4 rfl (lv_at hl 0 rfl) ?_
  refine g_get (ci := 4) (C := RX4) (T := TX4) (N := 21) (v := .ref (ad 2)) S hf hinX4 0 rfl rfl 1 (by decide) k13 rfl rfl dX4_image_5 ?_
  obtain ⟨q1, h2, hF⟩ := Option.bind_eq_some_iff.mp hF
  refine g_cs (o := none) (As := [.ref (ad 1), .ref (ad 2)]) (rest := []) (st1 := []) (a := List.take 1 (wM G ad μ0)) (b := List.drop 3 (wM G ad μ0)) S hf (c_X4_copyRow2 l G (ad 1) (ad 2) (μ0 0) (μ0 1) q1 h2) (va_cwS 2 hts gX4_image_X4_copyRow rfl rfl rfl (by decide +kernel) ⟨Nat.le_of_ble_eq_true rfl, Nat.le_of_ble_eq_true rfl⟩) rfl rfl rfl hl.1 rfl rfl (Nat.le_of_ble_eq_true rfl) ⟨Nat.zero_le _, Nat.zero_le _⟩ dX4_image_8 (fun H locs hf => ?_)
  have hf : Fr G (va_A (wM G ad μ0) s.heap.size) s (wM G ad (va_up μ0 1 q1)) H locs := hf
  refine lv_aload_n hx hb dX4_image_11 rfl (lv_at hl 0 rfl) ?_
  refine lv_iconst (v := 1) hx hb dX4_image_12 (by decide) ?_
  refine g_put (ci := 4) (C := RX4) (T := TX4) (N := 21) (ww' := wM G ad (va_up (va_up μ0 1 q1) 11 (upd (μ0 11) 0 1))) S hf hinX4 tyX4 tyX4_ok nmX4 0 rfl rfl 3 (by decide) k314 rfl rfl (by decide) (by decide) (Nat.le_of_ble_eq_true rfl) rfl dX4_image_13 (fun H locs hf => ?_)
  refine lv_iconst (v := 1) hx hb dX4_image_16 (by decide) ?_
  have hE := Option.some.inj hF
  have hV := congrArg (fun z : Int32 × K2 => z.1) hE
  have hW := congrArg (fun z : Int32 × K2 => wM G ad z.2) hE
  exact g_iret S hr hlocks hf hV hW dX4_image_17
def f_X4_undo (μ0 : K2) : Option (Int32 × K2) := if (μ0 11 0) = 0 then (Option.bind (f_X4_finding μ0 (-1000004)) (fun q4 => some (q4.1, q4.2))) else (Option.bind (f_X4_copyRow (μ0 1) (μ0 0)) (fun q2 => some (q2 0, va_up μ0 0 q2)))
set_option maxHeartbeats 4000000 in
set_option maxRecDepth 100000 in
theorem c_X4_undo (l : Launch) (G : GT) (ad : Nat → Nat) (μ0 : K2) (q : Int32 × K2) (hF : f_X4_undo μ0 = some q) : Ct l G yX4_undo wsX4_undo ({ frames := 1, cells := 0, slots := 0, locals := 22 } : Room) ([.ref (ad 0)] : List Value) (wM G ad μ0) (some (.int q.1)) (wM G ad q.2) := by
  have k314 : Cond.fieldLink RX4 314 "PigeonRollsModel" "isKept" "Z" ∈ wsX4_undo := by decide +kernel
  have k13 : Cond.fieldLink RX4 13 "PigeonRollsModel" "kept" "[I" ∈ wsX4_undo := by decide +kernel
  have k9 : Cond.fieldLink RX4 9 "PigeonRollsModel" "now" "[I" ∈ wsX4_undo := by decide +kernel
  have kc68 : Cond.constant RX4 68 (-1000004) ∈ wsX4_undo := by decide +kernel
  have hinX4 : ∀ w ∈ u_ws RX4 TX4 21, w ∈ wsX4_undo := by decide +kernel
  refine Ct.of cX4_undo 1 (some .int) (by decide) rfl (Nat.le_of_ble_eq_true rfl) ?_
  intro p e s m below meth c ls S hr hlocks hf hl
  have S : CallFix p m c cX4_undo 1 s ([.ref (ad 0)] : List Value).toArray wsX4_undo RX4 := S
  obtain ⟨hx, hb, hml, hown, hts⟩ := id S
  have hl : lv_has ls 1 [(0, .ref (ad 0))] := hl
  unfold f_X4_undo at hF
  refine lv_aload_n hx hb dX4_undo_0 rfl (lv_at hl 0 rfl) ?_
  refine g_get (ci := 4) (C := RX4) (T := TX4) (N := 21) (v := .int (μ0 11 0)) S hf hinX4 0 rfl rfl 3 (by decide) k314 rfl rfl dX4_undo_1 ?_
  refine lv_if_ne (tgt := 14) hx hb dX4_undo_4 (by decide) (fun c1 => ?_) (fun c1 => ?_)
  · replace hF := (if_neg c1).symm.trans hF
    refine lv_aload_n hx hb dX4_undo_14 rfl (lv_at hl 0 rfl) ?_
    refine g_get (ci := 4) (C := RX4) (T := TX4) (N := 21) (v := .ref (ad 2)) S hf hinX4 0 rfl rfl 1 (by decide) k13 rfl rfl dX4_undo_15 ?_
    refine lv_aload_n hx hb dX4_undo_18 rfl (lv_at hl 0 rfl) ?_
    refine g_get (ci := 4) (C := RX4) (T := TX4) (N := 21) (v := .ref (ad 1)) S hf hinX4 0 rfl rfl 0 (by decide) k9 rfl rfl dX4_undo_19 ?_
    obtain ⟨q2, h3, hF⟩ := Option.bind_eq_some_iff.mp hF
    refine g_cs (o := none) (As := [.ref (ad 2), .ref (ad 1)]) (rest := []) (st1 := []) (a := List.take 1 (wM G ad μ0)) (b := List.drop 3 (wM G ad μ0)) S hf (c_X4_copyRow l G (ad 2) (ad 1) (μ0 1) (μ0 0) q2 h3) (va_cwS 2 hts gX4_undo_X4_copyRow rfl rfl rfl (by decide +kernel) ⟨Nat.le_of_ble_eq_true rfl, Nat.le_of_ble_eq_true rfl⟩) rfl rfl rfl hl.1 rfl rfl (Nat.le_of_ble_eq_true rfl) ⟨Nat.zero_le _, Nat.zero_le _⟩ dX4_undo_22 (fun H locs hf => ?_)
    have hf : Fr G (va_A (wM G ad μ0) s.heap.size) s (wM G ad (va_up μ0 0 q2)) H locs := hf
    refine lv_aload_n hx hb dX4_undo_25 rfl (lv_at hl 0 rfl) ?_
    refine g_get (ci := 4) (C := RX4) (T := TX4) (N := 21) (v := .ref (ad 1)) S hf hinX4 0 rfl rfl 0 (by decide) k9 rfl rfl dX4_undo_26 ?_
    refine lv_iconst (v := 0) hx hb dX4_undo_29 (by decide) ?_
    refine g_ald (v := q2 0) S hf 2 rfl (by decide) rfl dX4_undo_30 ?_
    have hE := Option.some.inj hF
    have hV := congrArg (fun z : Int32 × K2 => z.1) hE
    have hW := congrArg (fun z : Int32 × K2 => wM G ad z.2) hE
    exact g_iret S hr hlocks hf hV hW dX4_undo_31
  · replace hF := (if_pos c1).symm.trans hF
    refine lv_aload_n hx hb dX4_undo_7 rfl (lv_at hl 0 rfl) ?_
    refine lv_ldc (v := -1000004) hx hb hown (hts _ kc68) dX4_undo_8 ?_
    obtain ⟨q4, h5, hF⟩ := Option.bind_eq_some_iff.mp hF
    refine g_cv0 (o := some (.int q4.1)) (As := [.int (-1000004)]) (rest := []) (st1 := [.int q4.1]) (ci := 4) S hf (c_X4_finding l G ad μ0 (-1000004) q4 h5) (cwV 1 hts gX4_undo_X4_finding rfl rfl rfl (by decide +kernel) ⟨Nat.le_of_ble_eq_true rfl, Nat.le_of_ble_eq_true rfl⟩) rfl rfl rfl 0 rfl rfl hl.1 rfl rfl (Nat.le_of_ble_eq_true rfl) ⟨Nat.zero_le _, Nat.zero_le _⟩ dX4_undo_10 (fun H locs hf => ?_)
    have hf : Fr G (va_A (wM G ad μ0) s.heap.size) s (wM G ad q4.2) H locs := hf
    have hE := Option.some.inj hF
    have hV := congrArg (fun z : Int32 × K2 => z.1) hE
    have hW := congrArg (fun z : Int32 × K2 => wM G ad z.2) hE
    exact g_iret S hr hlocks hf hV hW dX4_undo_13
def f_X4_tear (μ0 : K2) : Option (Int32 × K2) := if (μ0 11 0) = 0 then (some (0, va_up μ0 11 (upd (μ0 11) 0 0))) else (some (1, va_up μ0 11 (upd (μ0 11) 0 0)))
set_option maxHeartbeats 4000000 in
set_option maxRecDepth 100000 in
theorem c_X4_tear (l : Launch) (G : GT) (ad : Nat → Nat) (μ0 : K2) (q : Int32 × K2) (hF : f_X4_tear μ0 = some q) : Ct l G yX4_tear wsX4_tear ({ frames := 0, cells := 0, slots := 0, locals := 0 } : Room) ([.ref (ad 0)] : List Value) (wM G ad μ0) (some (.int q.1)) (wM G ad q.2) := by
  have k314 : Cond.fieldLink RX4 314 "PigeonRollsModel" "isKept" "Z" ∈ wsX4_tear := by decide +kernel
  have hinX4 : ∀ w ∈ u_ws RX4 TX4 21, w ∈ wsX4_tear := by decide +kernel
  refine Ct.of cX4_tear 2 (some .int) (by decide) rfl (Nat.le_of_ble_eq_true rfl) ?_
  intro p e s m below meth c ls S hr hlocks hf hl
  have S : CallFix p m c cX4_tear 2 s ([.ref (ad 0)] : List Value).toArray wsX4_tear RX4 := S
  obtain ⟨hx, hb, hml, hown, hts⟩ := id S
  have hl : lv_has ls 2 [(0, .ref (ad 0))] := hl
  unfold f_X4_tear at hF
  refine lv_aload_n hx hb dX4_tear_0 rfl (lv_at hl 0 rfl) ?_
  refine g_get (ci := 4) (C := RX4) (T := TX4) (N := 21) (v := .int (μ0 11 0)) S hf hinX4 0 rfl rfl 3 (by decide) k314 rfl rfl dX4_tear_1 ?_
  refine lv_if_eq (tgt := 11) hx hb dX4_tear_4 (by decide) (fun c1 => ?_) (fun c1 => ?_)
  · replace hF := (if_pos c1).symm.trans hF
    refine lv_iconst (v := 0) hx hb dX4_tear_11 (by decide) ?_
    refine lv_istore_n (lv' := [(1, .int 0), (0, .ref (ad 0))]) hx hb dX4_tear_12 rfl hl (by decide) rfl (fun ls hl => ?_)
    refine lv_aload_n hx hb dX4_tear_13 rfl (lv_at hl 1 rfl) ?_
    refine lv_iconst (v := 0) hx hb dX4_tear_14 (by decide) ?_
    refine g_put (ci := 4) (C := RX4) (T := TX4) (N := 21) (ww' := wM G ad (va_up μ0 11 (upd (μ0 11) 0 0))) S hf hinX4 tyX4 tyX4_ok nmX4 0 rfl rfl 3 (by decide) k314 rfl rfl (by decide) (by decide) (Nat.le_of_ble_eq_true rfl) rfl dX4_tear_15 (fun H locs hf => ?_)
    refine lv_iload_n hx hb dX4_tear_18 rfl (lv_at hl 0 rfl) ?_
    have hE := Option.some.inj hF
    have hV := congrArg (fun z : Int32 × K2 => z.1) hE
    have hW := congrArg (fun z : Int32 × K2 => wM G ad z.2) hE
    exact g_iret S hr hlocks hf hV hW dX4_tear_19
  · replace hF := (if_neg c1).symm.trans hF
    refine lv_iconst (v := 1) hx hb dX4_tear_7 (by decide) ?_
    refine lv_goto (tgt := 12) hx hb dX4_tear_8 (by decide) ?_
    refine lv_istore_n (lv' := [(1, .int 1), (0, .ref (ad 0))]) hx hb dX4_tear_12 rfl hl (by decide) rfl (fun ls hl => ?_)
    refine lv_aload_n hx hb dX4_tear_13 rfl (lv_at hl 1 rfl) ?_
    refine lv_iconst (v := 0) hx hb dX4_tear_14 (by decide) ?_
    refine g_put (ci := 4) (C := RX4) (T := TX4) (N := 21) (ww' := wM G ad (va_up μ0 11 (upd (μ0 11) 0 0))) S hf hinX4 tyX4 tyX4_ok nmX4 0 rfl rfl 3 (by decide) k314 rfl rfl (by decide) (by decide) (Nat.le_of_ble_eq_true rfl) rfl dX4_tear_15 (fun H locs hf => ?_)
    refine lv_iload_n hx hb dX4_tear_18 rfl (lv_at hl 0 rfl) ?_
    have hE := Option.some.inj hF
    have hV := congrArg (fun z : Int32 × K2 => z.1) hE
    have hW := congrArg (fun z : Int32 × K2 => wM G ad z.2) hE
    exact g_iret S hr hlocks hf hV hW dX4_tear_19
def f_X4_count_L97 : Nat → K2 → Int32 → Int32 → Option (Int32 × K2)
  | 0, _, _, _ => none
  | n + 1, μ, x2, x3 => if 10 ≤ x3 then (some (x2, μ)) else (if ix (10 + x3) 92 then (if 0 ≤ ((μ 0) (10 + x3).toNatClampNeg) then (f_X4_count_L97 n μ (x2 + 1) (x3 + 1)) else (f_X4_count_L97 n μ (x2 + 0) (x3 + 1))) else none)
def f_X4_count (μ0 : K2) (a1 : Int32) : Option (Int32 × K2) := if a1 = 0 then (some ((μ0 0) 0, μ0)) else (if a1 = 1 then (some ((μ0 0) 1, μ0)) else (if a1 = 2 then (some ((μ0 0) 3, μ0)) else (if a1 = 3 then (Option.bind (f_X4_sumOf μ0 7) (fun q5 => some (q5, μ0))) else (if a1 = 4 then (Option.bind (f_X4_sumOf μ0 8) (fun q8 => some (q8, μ0))) else (if a1 = 5 then (some (μ0 11 1, μ0)) else (if a1 = 6 then (some ((μ0 0) 2, μ0)) else (if a1 = 7 then (f_X4_count_L97 1000 μ0 0 0) else (Option.bind (f_X4_finding μ0 (-1000001)) (fun q16 => some (q16.1, q16.2))))))))))
set_option maxHeartbeats 4000000 in
set_option maxRecDepth 100000 in
theorem c_X4_count (l : Launch) (G : GT) (ad : Nat → Nat) (μ0 : K2) (a1 : Int32) (q : Int32 × K2) (hF : f_X4_count μ0 a1 = some q) : Ct l G yX4_count wsX4_count ({ frames := 3, cells := 0, slots := 0, locals := 66 } : Room) ([.ref (ad 0), .int a1] : List Value) (wM G ad μ0) (some (.int q.1)) (wM G ad q.2) := by
  have k9 : Cond.fieldLink RX4 9 "PigeonRollsModel" "now" "[I" ∈ wsX4_count := by decide +kernel
  have k218 : Cond.fieldLink RX4 218 "PigeonRollsModel" "taped" "I" ∈ wsX4_count := by decide +kernel
  have kc63 : Cond.constant RX4 63 (-1000001) ∈ wsX4_count := by decide +kernel
  have hinX4 : ∀ w ∈ u_ws RX4 TX4 21, w ∈ wsX4_count := by decide +kernel
  refine Ct.of cX4_count 4 (some .int) (by decide) rfl (Nat.le_of_ble_eq_true rfl) ?_
  intro p e s m below meth c ls S hr hlocks hf hl
  have S : CallFix p m c cX4_count 4 s ([.ref (ad 0), .int a1] : List Value).toArray wsX4_count RX4 := S
  obtain ⟨hx, hb, hml, hown, hts⟩ := id S
  have hl : lv_has ls 4 [(0, .ref (ad 0)), (1, .int a1)] := hl
  have hL97 : ∀ (n : Nat) (μ : K2) (x2 : Int32) (x3 : Int32)  (H : Heap) (locs : List Loc) (ls : Array Slot), f_X4_count_L97 n μ x2 x3 = some q → Fr G (va_A (wM G ad μ0) s.heap.size) s (wM G ad μ) H locs → lv_has ls 4 [(0, .ref (ad 0)), (2, .int x2), (3, .int x3)] → W p l e ({ frames := 3, cells := 0, slots := 0, locals := 66 } : Room) s m ([.ref (ad 0), .int a1] : List Value).toArray below meth c H locs 0 0 (MQ below (CPost G (wM G ad μ0) s.heap.size (some (.int q.1)) (wM G ad q.2)) ([.ref (ad 0), .int a1] : List Value).toArray s 0 0 (va_A (wM G ad μ0) s.heap.size)) (F0 m 97 ls []) := by
    intro n
    induction n with
    | zero =>
      intro μ x2 x3 H locs ls hF hf hl
      exact absurd hF (by simp [f_X4_count_L97])
    | succ n ih97 =>
      intro μ x2 x3 H locs ls hF hf hl
      rw [f_X4_count_L97] at hF
      refine lv_iload_n hx hb dX4_count_97 rfl (lv_at hl 2 rfl) ?_
      refine lv_bipush (v := 10) hx hb dX4_count_98 (by decide) ?_
      refine lv_icmp_ge (tgt := 129) hx hb dX4_count_100 (by decide) (fun c13 => ?_) (fun c13 => ?_)
      · replace hF := (if_pos c13).symm.trans hF
        refine lv_iload_n hx hb dX4_count_129 rfl (lv_at hl 1 rfl) ?_
        have hE := Option.some.inj hF
        have hV := congrArg (fun z : Int32 × K2 => z.1) hE
        have hW := congrArg (fun z : Int32 × K2 => wM G ad z.2) hE
        exact g_iret S hr hlocks hf hV hW dX4_count_130
      · replace hF := (if_neg c13).symm.trans hF
        refine lv_iload_n hx hb dX4_count_103 rfl (lv_at hl 1 rfl) ?_
        refine lv_aload_n hx hb dX4_count_104 rfl (lv_at hl 0 rfl) ?_
        refine g_get (ci := 4) (C := RX4) (T := TX4) (N := 21) (v := .ref (ad 1)) S hf hinX4 0 rfl rfl 0 (by decide) k9 rfl rfl dX4_count_105 ?_
        refine lv_bipush (v := 10) hx hb dX4_count_108 (by decide) ?_
        refine lv_iload_n hx hb dX4_count_110 rfl (lv_at hl 2 rfl) ?_
        refine lv_iadd hx hb dX4_count_111 ?_
        obtain ⟨g14, hF⟩ := gd_some hF
        refine g_ald (v := (μ 0) (10 + x3).toNatClampNeg) S hf 2 rfl g14 rfl dX4_count_112 ?_
        refine lv_if_ge (tgt := 120) hx hb dX4_count_113 (by decide) (fun c15 => ?_) (fun c15 => ?_)
        · replace hF := (if_pos c15).symm.trans hF
          refine lv_iconst (v := 1) hx hb dX4_count_120 (by decide) ?_
          refine lv_iadd hx hb dX4_count_121 ?_
          refine lv_istore_n (lv' := [(2, .int (x2 + 1)), (0, .ref (ad 0)), (3, .int x3)]) hx hb dX4_count_122 rfl hl (by decide) rfl (fun ls hl => ?_)
          refine lv_iinc (v := x3 + 1) (lv' := [(3, .int (x3 + 1)), (2, .int (x2 + 1)), (0, .ref (ad 0))]) hx hb dX4_count_123 hl (k := 2) rfl rfl (by decide) rfl (fun ls hl => ?_)
          refine lv_goto (tgt := 97) hx hb dX4_count_126 (by decide) ?_
          exact ih97 μ (x2 + 1) (x3 + 1) _ _ _ hF hf (lv_sub hl [2, 1, 0] rfl)
        · replace hF := (if_neg c15).symm.trans hF
          refine lv_iconst (v := 0) hx hb dX4_count_116 (by decide) ?_
          refine lv_goto (tgt := 121) hx hb dX4_count_117 (by decide) ?_
          refine lv_iadd hx hb dX4_count_121 ?_
          refine lv_istore_n (lv' := [(2, .int (x2 + 0)), (0, .ref (ad 0)), (3, .int x3)]) hx hb dX4_count_122 rfl hl (by decide) rfl (fun ls hl => ?_)
          refine lv_iinc (v := x3 + 1) (lv' := [(3, .int (x3 + 1)), (2, .int (x2 + 0)), (0, .ref (ad 0))]) hx hb dX4_count_123 hl (k := 2) rfl rfl (by decide) rfl (fun ls hl => ?_)
          refine lv_goto (tgt := 97) hx hb dX4_count_126 (by decide) ?_
          exact ih97 μ (x2 + 0) (x3 + 1) _ _ _ hF hf (lv_sub hl [2, 1, 0] rfl)
  unfold f_X4_count at hF
  refine lv_iconst (v := 0) hx hb dX4_count_0 (by decide) ?_
  refine lv_istore_n (lv' := [(2, .int 0), (0, .ref (ad 0)), (1, .int a1)]) hx hb dX4_count_1 rfl hl (by decide) rfl (fun ls hl => ?_)
  refine lv_iload_n hx hb dX4_count_2 rfl (lv_at hl 2 rfl) ?_
  by_cases c1 : a1 = 0
  · replace hF := (if_pos c1).symm.trans hF
    refine lv_tableIn (tgt := 48) hx hb dX4_count_3 (by rw [c1]; decide) (by rw [c1]; decide) (by rw [c1]; rfl) (by decide) ?_
    refine lv_aload_n hx hb dX4_count_48 rfl (lv_at hl 1 rfl) ?_
    refine g_get (ci := 4) (C := RX4) (T := TX4) (N := 21) (v := .ref (ad 1)) S hf hinX4 0 rfl rfl 0 (by decide) k9 rfl rfl dX4_count_49 ?_
    refine lv_iconst (v := 0) hx hb dX4_count_52 (by decide) ?_
    refine g_ald (v := (μ0 0) 0) S hf 2 rfl (by decide) rfl dX4_count_53 ?_
    have hE := Option.some.inj hF
    have hV := congrArg (fun z : Int32 × K2 => z.1) hE
    have hW := congrArg (fun z : Int32 × K2 => wM G ad z.2) hE
    exact g_iret S hr hlocks hf hV hW dX4_count_54
  replace hF := (if_neg c1).symm.trans hF
  by_cases c2 : a1 = 1
  · replace hF := (if_pos c2).symm.trans hF
    refine lv_tableIn (tgt := 55) hx hb dX4_count_3 (by rw [c2]; decide) (by rw [c2]; decide) (by rw [c2]; rfl) (by decide) ?_
    refine lv_aload_n hx hb dX4_count_55 rfl (lv_at hl 1 rfl) ?_
    refine g_get (ci := 4) (C := RX4) (T := TX4) (N := 21) (v := .ref (ad 1)) S hf hinX4 0 rfl rfl 0 (by decide) k9 rfl rfl dX4_count_56 ?_
    refine lv_iconst (v := 1) hx hb dX4_count_59 (by decide) ?_
    refine g_ald (v := (μ0 0) 1) S hf 2 rfl (by decide) rfl dX4_count_60 ?_
    have hE := Option.some.inj hF
    have hV := congrArg (fun z : Int32 × K2 => z.1) hE
    have hW := congrArg (fun z : Int32 × K2 => wM G ad z.2) hE
    exact g_iret S hr hlocks hf hV hW dX4_count_61
  replace hF := (if_neg c2).symm.trans hF
  by_cases c3 : a1 = 2
  · replace hF := (if_pos c3).symm.trans hF
    refine lv_tableIn (tgt := 62) hx hb dX4_count_3 (by rw [c3]; decide) (by rw [c3]; decide) (by rw [c3]; rfl) (by decide) ?_
    refine lv_aload_n hx hb dX4_count_62 rfl (lv_at hl 1 rfl) ?_
    refine g_get (ci := 4) (C := RX4) (T := TX4) (N := 21) (v := .ref (ad 1)) S hf hinX4 0 rfl rfl 0 (by decide) k9 rfl rfl dX4_count_63 ?_
    refine lv_iconst (v := 3) hx hb dX4_count_66 (by decide) ?_
    refine g_ald (v := (μ0 0) 3) S hf 2 rfl (by decide) rfl dX4_count_67 ?_
    have hE := Option.some.inj hF
    have hV := congrArg (fun z : Int32 × K2 => z.1) hE
    have hW := congrArg (fun z : Int32 × K2 => wM G ad z.2) hE
    exact g_iret S hr hlocks hf hV hW dX4_count_68
  replace hF := (if_neg c3).symm.trans hF
  by_cases c4 : a1 = 3
  · replace hF := (if_pos c4).symm.trans hF
    refine lv_tableIn (tgt := 69) hx hb dX4_count_3 (by rw [c4]; decide) (by rw [c4]; decide) (by rw [c4]; rfl) (by decide) ?_
    refine lv_aload_n hx hb dX4_count_69 rfl (lv_at hl 1 rfl) ?_
    refine lv_bipush (v := 7) hx hb dX4_count_70 (by decide) ?_
    obtain ⟨q5, h6, hF⟩ := Option.bind_eq_some_iff.mp hF
    refine g_cv0 (o := some (.int q5)) (As := [.int 7]) (rest := []) (st1 := [.int q5]) (ci := 4) S hf (c_X4_sumOf l G ad μ0 7 q5 h6) (cwV 1 hts gX4_count_X4_sumOf rfl rfl rfl (by decide +kernel) ⟨Nat.le_of_ble_eq_true rfl, Nat.le_of_ble_eq_true rfl⟩) rfl rfl rfl 0 rfl rfl hl.1 rfl rfl (Nat.le_of_ble_eq_true rfl) ⟨Nat.zero_le _, Nat.zero_le _⟩ dX4_count_72 (fun H locs hf => ?_)
    have hf : Fr G (va_A (wM G ad μ0) s.heap.size) s (wM G ad μ0) H locs := hf
    have hE := Option.some.inj hF
    have hV := congrArg (fun z : Int32 × K2 => z.1) hE
    have hW := congrArg (fun z : Int32 × K2 => wM G ad z.2) hE
    exact g_iret S hr hlocks hf hV hW dX4_count_75
  replace hF := (if_neg c4).symm.trans hF
  by_cases c7 : a1 = 4
  · replace hF := (if_pos c7).symm.trans hF
    refine lv_tableIn (tgt := 76) hx hb dX4_count_3 (by rw [c7]; decide) (by rw [c7]; decide) (by rw [c7]; rfl) (by decide) ?_
    refine lv_aload_n hx hb dX4_count_76 rfl (lv_at hl 1 rfl) ?_
    refine lv_bipush (v := 8) hx hb dX4_count_77 (by decide) ?_
    obtain ⟨q8, h9, hF⟩ := Option.bind_eq_some_iff.mp hF
    refine g_cv0 (o := some (.int q8)) (As := [.int 8]) (rest := []) (st1 := [.int q8]) (ci := 4) S hf (c_X4_sumOf l G ad μ0 8 q8 h9) (cwV 1 hts gX4_count_X4_sumOf rfl rfl rfl (by decide +kernel) ⟨Nat.le_of_ble_eq_true rfl, Nat.le_of_ble_eq_true rfl⟩) rfl rfl rfl 0 rfl rfl hl.1 rfl rfl (Nat.le_of_ble_eq_true rfl) ⟨Nat.zero_le _, Nat.zero_le _⟩ dX4_count_79 (fun H locs hf => ?_)
    have hf : Fr G (va_A (wM G ad μ0) s.heap.size) s (wM G ad μ0) H locs := hf
    have hE := Option.some.inj hF
    have hV := congrArg (fun z : Int32 × K2 => z.1) hE
    have hW := congrArg (fun z : Int32 × K2 => wM G ad z.2) hE
    exact g_iret S hr hlocks hf hV hW dX4_count_82
  replace hF := (if_neg c7).symm.trans hF
  by_cases c10 : a1 = 5
  · replace hF := (if_pos c10).symm.trans hF
    refine lv_tableIn (tgt := 83) hx hb dX4_count_3 (by rw [c10]; decide) (by rw [c10]; decide) (by rw [c10]; rfl) (by decide) ?_
    refine lv_aload_n hx hb dX4_count_83 rfl (lv_at hl 1 rfl) ?_
    refine g_get (ci := 4) (C := RX4) (T := TX4) (N := 21) (v := .int (μ0 11 1)) S hf hinX4 0 rfl rfl 7 (by decide) k218 rfl rfl dX4_count_84 ?_
    have hE := Option.some.inj hF
    have hV := congrArg (fun z : Int32 × K2 => z.1) hE
    have hW := congrArg (fun z : Int32 × K2 => wM G ad z.2) hE
    exact g_iret S hr hlocks hf hV hW dX4_count_87
  replace hF := (if_neg c10).symm.trans hF
  by_cases c11 : a1 = 6
  · replace hF := (if_pos c11).symm.trans hF
    refine lv_tableIn (tgt := 88) hx hb dX4_count_3 (by rw [c11]; decide) (by rw [c11]; decide) (by rw [c11]; rfl) (by decide) ?_
    refine lv_aload_n hx hb dX4_count_88 rfl (lv_at hl 1 rfl) ?_
    refine g_get (ci := 4) (C := RX4) (T := TX4) (N := 21) (v := .ref (ad 1)) S hf hinX4 0 rfl rfl 0 (by decide) k9 rfl rfl dX4_count_89 ?_
    refine lv_iconst (v := 2) hx hb dX4_count_92 (by decide) ?_
    refine g_ald (v := (μ0 0) 2) S hf 2 rfl (by decide) rfl dX4_count_93 ?_
    have hE := Option.some.inj hF
    have hV := congrArg (fun z : Int32 × K2 => z.1) hE
    have hW := congrArg (fun z : Int32 × K2 => wM G ad z.2) hE
    exact g_iret S hr hlocks hf hV hW dX4_count_94
  replace hF := (if_neg c11).symm.trans hF
  by_cases c12 : a1 = 7
  · replace hF := (if_pos c12).symm.trans hF
    refine lv_tableIn (tgt := 95) hx hb dX4_count_3 (by rw [c12]; decide) (by rw [c12]; decide) (by rw [c12]; rfl) (by decide) ?_
    refine lv_iconst (v := 0) hx hb dX4_count_95 (by decide) ?_
    refine lv_istore_n (lv' := [(3, .int 0), (2, .int 0), (0, .ref (ad 0)), (1, .int a1)]) hx hb dX4_count_96 rfl hl (by decide) rfl (fun ls hl => ?_)
    exact hL97 1000 μ0 0 0 _ _ _ hF hf (lv_sub hl [2, 1, 0] rfl)
  replace hF := (if_neg c12).symm.trans hF
  refine lv_tableOut (tgt := 131) hx hb dX4_count_3 (by have t0 := lv_neT (a := 0) c1 (by decide); have t1 := lv_neT (a := 1) c2 (by decide); have t2 := lv_neT (a := 2) c3 (by decide); have t3 := lv_neT (a := 3) c4 (by decide); have t4 := lv_neT (a := 4) c7 (by decide); have t5 := lv_neT (a := 5) c10 (by decide); have t6 := lv_neT (a := 6) c11 (by decide); have t7 := lv_neT (a := 7) c12 (by decide); omega) (by decide) ?_
  refine lv_aload_n hx hb dX4_count_131 rfl (lv_at hl 1 rfl) ?_
  refine lv_ldc (v := -1000001) hx hb hown (hts _ kc63) dX4_count_132 ?_
  obtain ⟨q16, h17, hF⟩ := Option.bind_eq_some_iff.mp hF
  refine g_cv0 (o := some (.int q16.1)) (As := [.int (-1000001)]) (rest := []) (st1 := [.int q16.1]) (ci := 4) S hf (c_X4_finding l G ad μ0 (-1000001) q16 h17) (cwV 1 hts gX4_count_X4_finding rfl rfl rfl (by decide +kernel) ⟨Nat.le_of_ble_eq_true rfl, Nat.le_of_ble_eq_true rfl⟩) rfl rfl rfl 0 rfl rfl hl.1 rfl rfl (Nat.le_of_ble_eq_true rfl) ⟨Nat.zero_le _, Nat.zero_le _⟩ dX4_count_134 (fun H locs hf => ?_)
  have hf : Fr G (va_A (wM G ad μ0) s.heap.size) s (wM G ad q16.2) H locs := hf
  have hE := Option.some.inj hF
  have hV := congrArg (fun z : Int32 × K2 => z.1) hE
  have hW := congrArg (fun z : Int32 × K2 => wM G ad z.2) hE
  exact g_iret S hr hlocks hf hV hW dX4_count_137
def f_X4_status (μ0 : K2) (a1 : Int32) : Option (Int32 × K2) := Option.bind (f_X4_within a1 (-1) 6) (fun q1 => if q1 = 0 then (Option.bind (f_X4_finding μ0 (-1000001)) (fun q4 => some (q4.1, q4.2))) else (if ix (a1 + 1) 8 then (some ((μ0 3) (a1 + 1).toNatClampNeg, μ0)) else none))
set_option maxHeartbeats 4000000 in
set_option maxRecDepth 100000 in
theorem c_X4_status (l : Launch) (G : GT) (ad : Nat → Nat) (μ0 : K2) (a1 : Int32) (q : Int32 × K2) (hF : f_X4_status μ0 a1 = some q) : Ct l G yX4_status wsX4_status ({ frames := 1, cells := 0, slots := 0, locals := 22 } : Room) ([.ref (ad 0), .int a1] : List Value) (wM G ad μ0) (some (.int q.1)) (wM G ad q.2) := by
  have kc63 : Cond.constant RX4 63 (-1000001) ∈ wsX4_status := by decide +kernel
  have k19 : Cond.fieldLink RX4 19 "PigeonRollsModel" "found" "[I" ∈ wsX4_status := by decide +kernel
  have hinX4 : ∀ w ∈ u_ws RX4 TX4 21, w ∈ wsX4_status := by decide +kernel
  refine Ct.of cX4_status 2 (some .int) (by decide) rfl (Nat.le_of_ble_eq_true rfl) ?_
  intro p e s m below meth c ls S hr hlocks hf hl
  have S : CallFix p m c cX4_status 2 s ([.ref (ad 0), .int a1] : List Value).toArray wsX4_status RX4 := S
  obtain ⟨hx, hb, hml, hown, hts⟩ := id S
  have hl : lv_has ls 2 [(0, .ref (ad 0)), (1, .int a1)] := hl
  unfold f_X4_status at hF
  refine lv_iload_n hx hb dX4_status_0 rfl (lv_at hl 1 rfl) ?_
  refine lv_iconst (v := -1) hx hb dX4_status_1 (by decide) ?_
  refine lv_bipush (v := 6) hx hb dX4_status_2 (by decide) ?_
  obtain ⟨q1, h2, hF⟩ := Option.bind_eq_some_iff.mp hF
  refine g_cs0 (o := some (.int q1)) (As := [.int a1, .int (-1), .int 6]) (rest := []) (st1 := [.int q1]) S hf (c_X4_within l G  a1 (-1) 6 q1 h2) (va_cwS 3 hts gX4_status_X4_within rfl rfl rfl (by decide +kernel) ⟨Nat.le_of_ble_eq_true rfl, Nat.le_of_ble_eq_true rfl⟩) rfl hl.1 rfl rfl (Nat.le_of_ble_eq_true rfl) ⟨Nat.zero_le _, Nat.zero_le _⟩ dX4_status_4 (fun H locs hf => ?_)
  refine lv_if_eq (tgt := 21) hx hb dX4_status_7 (by decide) (fun c3 => ?_) (fun c3 => ?_)
  · replace hF := (if_pos c3).symm.trans hF
    refine lv_aload_n hx hb dX4_status_21 rfl (lv_at hl 0 rfl) ?_
    refine lv_ldc (v := -1000001) hx hb hown (hts _ kc63) dX4_status_22 ?_
    obtain ⟨q4, h5, hF⟩ := Option.bind_eq_some_iff.mp hF
    refine g_cv0 (o := some (.int q4.1)) (As := [.int (-1000001)]) (rest := []) (st1 := [.int q4.1]) (ci := 4) S hf (c_X4_finding l G ad μ0 (-1000001) q4 h5) (cwV 1 hts gX4_status_X4_finding rfl rfl rfl (by decide +kernel) ⟨Nat.le_of_ble_eq_true rfl, Nat.le_of_ble_eq_true rfl⟩) rfl rfl rfl 0 rfl rfl hl.1 rfl rfl (Nat.le_of_ble_eq_true rfl) ⟨Nat.zero_le _, Nat.zero_le _⟩ dX4_status_24 (fun H locs hf => ?_)
    have hf : Fr G (va_A (wM G ad μ0) s.heap.size) s (wM G ad q4.2) H locs := hf
    have hE := Option.some.inj hF
    have hV := congrArg (fun z : Int32 × K2 => z.1) hE
    have hW := congrArg (fun z : Int32 × K2 => wM G ad z.2) hE
    exact g_iret S hr hlocks hf hV hW dX4_status_27
  · replace hF := (if_neg c3).symm.trans hF
    refine lv_aload_n hx hb dX4_status_10 rfl (lv_at hl 0 rfl) ?_
    refine g_get (ci := 4) (C := RX4) (T := TX4) (N := 21) (v := .ref (ad 4)) S hf hinX4 0 rfl rfl 4 (by decide) k19 rfl rfl dX4_status_11 ?_
    refine lv_iload_n hx hb dX4_status_14 rfl (lv_at hl 1 rfl) ?_
    refine lv_iconst (v := 1) hx hb dX4_status_15 (by decide) ?_
    refine lv_iadd hx hb dX4_status_16 ?_
    obtain ⟨g6, hF⟩ := gd_some hF
    refine g_ald (v := (μ0 3) (a1 + 1).toNatClampNeg) S hf 4 rfl g6 rfl dX4_status_17 ?_
    refine lv_goto (tgt := 27) hx hb dX4_status_18 (by decide) ?_
    have hE := Option.some.inj hF
    have hV := congrArg (fun z : Int32 × K2 => z.1) hE
    have hW := congrArg (fun z : Int32 × K2 => wM G ad z.2) hE
    exact g_iret S hr hlocks hf hV hW dX4_status_27
