def f_X4_odds_L94 : Nat → K2 → Int32 → Int32 → Int32 → Int32 → Int64 → Int32 → Option (Int64 × K2)
  | 0, _, _, _, _, _, _, _ => none
  | n + 1, μ, x2, x3, x4, x5, x7, x9 => if x2 ≤ x9 then (some (x7, μ)) else (if x3 = 0 then (if ¬ x5 = 0 then (f_X4_odds_L94 n μ x2 x3 x4 x5 (x7 * ((x4 / x5).toInt64)) (x9 + 1)) else none) else (if ¬ x5 = 0 then (f_X4_odds_L94 n μ x2 x3 x4 x5 (x7 * ((100 / x5).toInt64)) (x9 + 1)) else none))
def f_X4_odds_B88 (μ : K2) (x2 : Int32) (x3 : Int32) (x4 : Int32) (x5 : Int32) : Option (Int64 × K2) := f_X4_odds_L94 1000 μ x2 x3 x4 x5 1 0
def f_X4_odds_L65 : Nat → K2 → Int32 → Int32 → Int32 → Int32 → Int32 → Option (Int64 × K2)
  | 0, _, _, _, _, _, _ => none
  | n + 1, μ, x2, x3, x4, x5, x6 => if x6 = 0 then (f_X4_odds_B88 μ x2 x3 x4 x5) else (if ¬ x6 = 0 then (f_X4_odds_L65 n μ x2 x3 x4 x6 (irem x5 x6)) else none)
def f_X4_odds (μ0 : K2) (a1 : Int32) (a2 : Int32) (a3 : Int32) : Option (Int64 × K2) := Option.bind (f_X4_isBird μ0 a1) (fun q1 => if q1 = 0 then (Option.bind (f_X4_finding μ0 (-1000001)) (fun q4 => some (q4.1.toInt64, q4.2))) else (Option.bind (f_X4_within a2 0 9) (fun q6 => if q6 = 0 then (Option.bind (f_X4_finding μ0 (-1000001)) (fun q9 => some (q9.1.toInt64, q9.2))) else (Option.bind (f_X4_within a3 0 1) (fun q11 => if q11 = 0 then (Option.bind (f_X4_finding μ0 (-1000001)) (fun q24 => some (q24.1.toInt64, q24.2))) else (Option.bind (f_X4_rate μ0 a1) (fun q14 => Option.bind (f_X4_birdIs μ0 a1 7) (fun q16 => f_X4_odds_L65 1000 μ0 a2 a3 (imax 0 ((100 - q14) - q16)) 100 (imax 0 ((100 - q14) - q16))))))))))
set_option maxHeartbeats 4000000 in
set_option maxRecDepth 100000 in
theorem c_X4_odds (l : Launch) (G : GT) (ad : Nat → Nat) (μ0 : K2) (a1 : Int32) (a2 : Int32) (a3 : Int32) (q : Int64 × K2) (hF : f_X4_odds μ0 a1 a2 a3 = some q) : Ct l G yX4_odds wsX4_odds ({ frames := 6, cells := 0, slots := 0, locals := 130 } : Room) ([.ref (ad 0), .int a1, .int a2, .int a3] : List Value) (wM G ad μ0) (some (.long q.1)) (wM G ad q.2) := by
  have kc63 : Cond.constant RX4 63 (-1000001) ∈ wsX4_odds := by decide +kernel
  have k128 : Cond.methodLink RX4 128 Lib.Math.max.name ∈ wsX4_odds := by decide +kernel
  have ksmax : Cond.static Lib.Math.max.name ∈ wsX4_odds := by decide +kernel
  have kiM : Cond.initialized "java/lang/Math" ∈ wsX4_odds := by decide +kernel
  have komax : Cond.code Lib.Math.max.name Lib.Math.max.code 2 (some .int) ∈ wsX4_odds := by decide +kernel
  refine Ct.of cX4_odds 10 (some .long) (by decide) rfl (Nat.le_of_ble_eq_true rfl) ?_
  intro p e s m below meth c ls S hr hlocks hf hl
  have S : CallFix p m c cX4_odds 10 s ([.ref (ad 0), .int a1, .int a2, .int a3] : List Value).toArray wsX4_odds RX4 := S
  obtain ⟨hx, hb, hml, hown, hts⟩ := id S
  have hl : lv_has ls 10 [(0, .ref (ad 0)), (1, .int a1), (2, .int a2), (3, .int a3)] := hl
  have hL94 : ∀ (n : Nat) (μ : K2) (x2 : Int32) (x3 : Int32) (x4 : Int32) (x5 : Int32) (x7 : Int64) (x9 : Int32)  (H : Heap) (locs : List Loc) (ls : Array Slot), f_X4_odds_L94 n μ x2 x3 x4 x5 x7 x9 = some q → Fr G (va_A (wM G ad μ0) s.heap.size) s (wM G ad μ) H locs → lv_has ls 10 [(2, .int x2), (3, .int x3), (4, .int x4), (5, .int x5), (7, .long x7), (9, .int x9)] → W p l e ({ frames := 6, cells := 0, slots := 0, locals := 130 } : Room) s m ([.ref (ad 0), .int a1, .int a2, .int a3] : List Value).toArray below meth c H locs 0 0 (MQ below (CPost G (wM G ad μ0) s.heap.size (some (.long q.1)) (wM G ad q.2)) ([.ref (ad 0), .int a1, .int a2, .int a3] : List Value).toArray s 0 0 (va_A (wM G ad μ0) s.heap.size)) (F0 m 94 ls []) := by
    intro n
    induction n with
    | zero =>
      intro μ x2 x3 x4 x5 x7 x9 H locs ls hF hf hl
      exact absurd hF (by simp [f_X4_odds_L94])
    | succ n ih94 =>
      intro μ x2 x3 x4 x5 x7 x9 H locs ls hF hf hl
      rw [f_X4_odds_L94] at hF
      refine lv_iload hx hb dX4_odds_94 (lv_at hl 5 rfl) ?_
      refine lv_iload_n hx hb dX4_odds_96 rfl (lv_at hl 0 rfl) ?_
      refine lv_icmp_ge (tgt := 126) hx hb dX4_odds_97 (by decide) (fun c19 => ?_) (fun c19 => ?_)
      · replace hF := (if_pos c19).symm.trans hF
        refine lv_lload hx hb dX4_odds_126 (lv_at hl 4 rfl) ?_
        have hE := Option.some.inj hF
        have hV := congrArg (fun z : Int64 × K2 => z.1) hE
        have hW := congrArg (fun z : Int64 × K2 => wM G ad z.2) hE
        exact g_lret S hr hlocks hf hV hW dX4_odds_128
      · replace hF := (if_neg c19).symm.trans hF
        refine lv_lload hx hb dX4_odds_100 (lv_at hl 4 rfl) ?_
        refine lv_iload_n hx hb dX4_odds_102 rfl (lv_at hl 1 rfl) ?_
        refine lv_if_ne (tgt := 111) hx hb dX4_odds_103 (by decide) (fun c20 => ?_) (fun c20 => ?_)
        · replace hF := (if_neg c20).symm.trans hF
          refine lv_bipush (v := 100) hx hb dX4_odds_111 (by decide) ?_
          refine lv_iload hx hb dX4_odds_113 (lv_at hl 3 rfl) ?_
          obtain ⟨g21, hF⟩ := gd_some hF
          refine lv_idiv hx hb dX4_odds_115 g21 ?_
          refine lv_i2l (v := (100 / x5).toInt64) hx hb dX4_odds_116 rfl ?_
          refine lv_lmul hx hb dX4_odds_117 ?_
          refine lv_lstore (lv' := [(7, .long (x7 * ((100 / x5).toInt64))), (2, .int x2), (3, .int x3), (4, .int x4), (5, .int x5), (9, .int x9)]) hx hb dX4_odds_118 hl (by decide) rfl (fun ls hl => ?_)
          refine lv_iinc (v := x9 + 1) (lv' := [(9, .int (x9 + 1)), (7, .long (x7 * ((100 / x5).toInt64))), (2, .int x2), (3, .int x3), (4, .int x4), (5, .int x5)]) hx hb dX4_odds_120 hl (k := 5) rfl rfl (by decide) rfl (fun ls hl => ?_)
          refine lv_goto (tgt := 94) hx hb dX4_odds_123 (by decide) ?_
          exact ih94 μ x2 x3 x4 x5 (x7 * ((100 / x5).toInt64)) (x9 + 1) _ _ _ hF hf (lv_sub hl [2, 3, 4, 5, 1, 0] rfl)
        · replace hF := (if_pos c20).symm.trans hF
          refine lv_iload hx hb dX4_odds_106 (lv_at hl 2 rfl) ?_
          refine lv_goto (tgt := 113) hx hb dX4_odds_108 (by decide) ?_
          refine lv_iload hx hb dX4_odds_113 (lv_at hl 3 rfl) ?_
          obtain ⟨g22, hF⟩ := gd_some hF
          refine lv_idiv hx hb dX4_odds_115 g22 ?_
          refine lv_i2l (v := (x4 / x5).toInt64) hx hb dX4_odds_116 rfl ?_
          refine lv_lmul hx hb dX4_odds_117 ?_
          refine lv_lstore (lv' := [(7, .long (x7 * ((x4 / x5).toInt64))), (2, .int x2), (3, .int x3), (4, .int x4), (5, .int x5), (9, .int x9)]) hx hb dX4_odds_118 hl (by decide) rfl (fun ls hl => ?_)
          refine lv_iinc (v := x9 + 1) (lv' := [(9, .int (x9 + 1)), (7, .long (x7 * ((x4 / x5).toInt64))), (2, .int x2), (3, .int x3), (4, .int x4), (5, .int x5)]) hx hb dX4_odds_120 hl (k := 5) rfl rfl (by decide) rfl (fun ls hl => ?_)
          refine lv_goto (tgt := 94) hx hb dX4_odds_123 (by decide) ?_
          exact ih94 μ x2 x3 x4 x5 (x7 * ((x4 / x5).toInt64)) (x9 + 1) _ _ _ hF hf (lv_sub hl [2, 3, 4, 5, 1, 0] rfl)
  have hL88 : ∀ (μ : K2) (x2 : Int32) (x3 : Int32) (x4 : Int32) (x5 : Int32)  (H : Heap) (locs : List Loc) (ls : Array Slot), f_X4_odds_B88 μ x2 x3 x4 x5 = some q → Fr G (va_A (wM G ad μ0) s.heap.size) s (wM G ad μ) H locs → lv_has ls 10 [(2, .int x2), (3, .int x3), (4, .int x4), (5, .int x5)] → W p l e ({ frames := 6, cells := 0, slots := 0, locals := 130 } : Room) s m ([.ref (ad 0), .int a1, .int a2, .int a3] : List Value).toArray below meth c H locs 0 0 (MQ below (CPost G (wM G ad μ0) s.heap.size (some (.long q.1)) (wM G ad q.2)) ([.ref (ad 0), .int a1, .int a2, .int a3] : List Value).toArray s 0 0 (va_A (wM G ad μ0) s.heap.size)) (F0 m 88 ls []) := by
    intro μ x2 x3 x4 x5 H locs ls hF hf hl
    unfold f_X4_odds_B88 at hF
    refine lv_lconst (v := 1) hx hb dX4_odds_88 (by decide) ?_
    refine lv_lstore (lv' := [(7, .long 1), (2, .int x2), (3, .int x3), (4, .int x4), (5, .int x5)]) hx hb dX4_odds_89 hl (by decide) rfl (fun ls hl => ?_)
    refine lv_iconst (v := 0) hx hb dX4_odds_91 (by decide) ?_
    refine lv_istore (lv' := [(9, .int 0), (7, .long 1), (2, .int x2), (3, .int x3), (4, .int x4), (5, .int x5)]) hx hb dX4_odds_92 hl (by decide) rfl (fun ls hl => ?_)
    exact hL94 1000 μ x2 x3 x4 x5 1 0 _ _ _ hF hf (lv_sub hl [2, 3, 4, 5, 1, 0] rfl)
  have hL65 : ∀ (n : Nat) (μ : K2) (x2 : Int32) (x3 : Int32) (x4 : Int32) (x5 : Int32) (x6 : Int32)  (H : Heap) (locs : List Loc) (ls : Array Slot), f_X4_odds_L65 n μ x2 x3 x4 x5 x6 = some q → Fr G (va_A (wM G ad μ0) s.heap.size) s (wM G ad μ) H locs → lv_has ls 10 [(2, .int x2), (3, .int x3), (4, .int x4), (5, .int x5), (6, .int x6)] → W p l e ({ frames := 6, cells := 0, slots := 0, locals := 130 } : Room) s m ([.ref (ad 0), .int a1, .int a2, .int a3] : List Value).toArray below meth c H locs 0 0 (MQ below (CPost G (wM G ad μ0) s.heap.size (some (.long q.1)) (wM G ad q.2)) ([.ref (ad 0), .int a1, .int a2, .int a3] : List Value).toArray s 0 0 (va_A (wM G ad μ0) s.heap.size)) (F0 m 65 ls []) := by
    intro n
    induction n with
    | zero =>
      intro μ x2 x3 x4 x5 x6 H locs ls hF hf hl
      exact absurd hF (by simp [f_X4_odds_L65])
    | succ n ih65 =>
      intro μ x2 x3 x4 x5 x6 H locs ls hF hf hl
      rw [f_X4_odds_L65] at hF
      refine lv_iload hx hb dX4_odds_65 (lv_at hl 4 rfl) ?_
      refine lv_if_eq (tgt := 88) hx hb dX4_odds_67 (by decide) (fun c18 => ?_) (fun c18 => ?_)
      · replace hF := (if_pos c18).symm.trans hF
        exact hL88 μ x2 x3 x4 x5 _ _ _ hF hf (lv_sub hl [0, 1, 2, 3] rfl)
      · replace hF := (if_neg c18).symm.trans hF
        refine lv_iload hx hb dX4_odds_70 (lv_at hl 3 rfl) ?_
        refine lv_iload hx hb dX4_odds_72 (lv_at hl 4 rfl) ?_
        obtain ⟨g23, hF⟩ := gd_some hF
        refine lv_irem hx hb dX4_odds_74 g23 ?_
        refine lv_istore (lv' := [(7, .int (irem x5 x6)), (2, .int x2), (3, .int x3), (4, .int x4), (5, .int x5), (6, .int x6)]) hx hb dX4_odds_75 hl (by decide) rfl (fun ls hl => ?_)
        refine lv_iload hx hb dX4_odds_77 (lv_at hl 5 rfl) ?_
        refine lv_istore (lv' := [(5, .int x6), (7, .int (irem x5 x6)), (2, .int x2), (3, .int x3), (4, .int x4), (6, .int x6)]) hx hb dX4_odds_79 hl (by decide) rfl (fun ls hl => ?_)
        refine lv_iload hx hb dX4_odds_81 (lv_at hl 1 rfl) ?_
        refine lv_istore (lv' := [(6, .int (irem x5 x6)), (5, .int x6), (7, .int (irem x5 x6)), (2, .int x2), (3, .int x3), (4, .int x4)]) hx hb dX4_odds_83 hl (by decide) rfl (fun ls hl => ?_)
        refine lv_goto (tgt := 65) hx hb dX4_odds_85 (by decide) ?_
        exact ih65 μ x2 x3 x4 x6 (irem x5 x6) _ _ _ hF hf (lv_sub hl [3, 4, 5, 1, 0] rfl)
  unfold f_X4_odds at hF
  refine lv_aload_n hx hb dX4_odds_0 rfl (lv_at hl 0 rfl) ?_
  refine lv_iload_n hx hb dX4_odds_1 rfl (lv_at hl 1 rfl) ?_
  obtain ⟨q1, h2, hF⟩ := Option.bind_eq_some_iff.mp hF
  refine g_cv0 (o := some (.int q1)) (As := [.int a1]) (rest := []) (st1 := [.int q1]) (ci := 4) S hf (c_X4_isBird l G ad μ0 a1 q1 h2) (cwV 1 hts gX4_odds_X4_isBird rfl rfl rfl (by decide +kernel) ⟨Nat.le_of_ble_eq_true rfl, Nat.le_of_ble_eq_true rfl⟩) rfl rfl rfl 0 rfl rfl hl.1 rfl rfl (Nat.le_of_ble_eq_true rfl) ⟨Nat.zero_le _, Nat.zero_le _⟩ dX4_odds_2 (fun H locs hf => ?_)
  have hf : Fr G (va_A (wM G ad μ0) s.heap.size) s (wM G ad μ0) H locs := hf
  refine lv_if_eq (tgt := 27) hx hb dX4_odds_5 (by decide) (fun c3 => ?_) (fun c3 => ?_)
  · replace hF := (if_pos c3).symm.trans hF
    refine lv_aload_n hx hb dX4_odds_27 rfl (lv_at hl 0 rfl) ?_
    refine lv_ldc (v := -1000001) hx hb hown (hts _ kc63) dX4_odds_28 ?_
    obtain ⟨q4, h5, hF⟩ := Option.bind_eq_some_iff.mp hF
    refine g_cv0 (o := some (.int q4.1)) (As := [.int (-1000001)]) (rest := []) (st1 := [.int q4.1]) (ci := 4) S hf (c_X4_finding l G ad μ0 (-1000001) q4 h5) (cwV 1 hts gX4_odds_X4_finding rfl rfl rfl (by decide +kernel) ⟨Nat.le_of_ble_eq_true rfl, Nat.le_of_ble_eq_true rfl⟩) rfl rfl rfl 0 rfl rfl hl.1 rfl rfl (Nat.le_of_ble_eq_true rfl) ⟨Nat.zero_le _, Nat.zero_le _⟩ dX4_odds_30 (fun H locs hf => ?_)
    have hf : Fr G (va_A (wM G ad μ0) s.heap.size) s (wM G ad q4.2) H locs := hf
    refine lv_i2l (v := q4.1.toInt64) hx hb dX4_odds_33 rfl ?_
    have hE := Option.some.inj hF
    have hV := congrArg (fun z : Int64 × K2 => z.1) hE
    have hW := congrArg (fun z : Int64 × K2 => wM G ad z.2) hE
    exact g_lret S hr hlocks hf hV hW dX4_odds_34
  · replace hF := (if_neg c3).symm.trans hF
    refine lv_iload_n hx hb dX4_odds_8 rfl (lv_at hl 2 rfl) ?_
    refine lv_iconst (v := 0) hx hb dX4_odds_9 (by decide) ?_
    refine lv_bipush (v := 9) hx hb dX4_odds_10 (by decide) ?_
    obtain ⟨q6, h7, hF⟩ := Option.bind_eq_some_iff.mp hF
    refine g_cs0 (o := some (.int q6)) (As := [.int a2, .int 0, .int 9]) (rest := []) (st1 := [.int q6]) S hf (c_X4_within l G  a2 0 9 q6 h7) (va_cwS 3 hts gX4_odds_X4_within rfl rfl rfl (by decide +kernel) ⟨Nat.le_of_ble_eq_true rfl, Nat.le_of_ble_eq_true rfl⟩) rfl hl.1 rfl rfl (Nat.le_of_ble_eq_true rfl) ⟨Nat.zero_le _, Nat.zero_le _⟩ dX4_odds_12 (fun H locs hf => ?_)
    refine lv_if_eq (tgt := 27) hx hb dX4_odds_15 (by decide) (fun c8 => ?_) (fun c8 => ?_)
    · replace hF := (if_pos c8).symm.trans hF
      refine lv_aload_n hx hb dX4_odds_27 rfl (lv_at hl 0 rfl) ?_
      refine lv_ldc (v := -1000001) hx hb hown (hts _ kc63) dX4_odds_28 ?_
      obtain ⟨q9, h10, hF⟩ := Option.bind_eq_some_iff.mp hF
      refine g_cv0 (o := some (.int q9.1)) (As := [.int (-1000001)]) (rest := []) (st1 := [.int q9.1]) (ci := 4) S hf (c_X4_finding l G ad μ0 (-1000001) q9 h10) (cwV 1 hts gX4_odds_X4_finding rfl rfl rfl (by decide +kernel) ⟨Nat.le_of_ble_eq_true rfl, Nat.le_of_ble_eq_true rfl⟩) rfl rfl rfl 0 rfl rfl hl.1 rfl rfl (Nat.le_of_ble_eq_true rfl) ⟨Nat.zero_le _, Nat.zero_le _⟩ dX4_odds_30 (fun H locs hf => ?_)
      have hf : Fr G (va_A (wM G ad μ0) s.heap.size) s (wM G ad q9.2) H locs := hf
      refine lv_i2l (v := q9.1.toInt64) hx hb dX4_odds_33 rfl ?_
      have hE := Option.some.inj hF
      have hV := congrArg (fun z : Int64 × K2 => z.1) hE
      have hW := congrArg (fun z : Int64 × K2 => wM G ad z.2) hE
      exact g_lret S hr hlocks hf hV hW dX4_odds_34
    · replace hF := (if_neg c8).symm.trans hF
      refine lv_iload_n hx hb dX4_odds_18 rfl (lv_at hl 3 rfl) ?_
      refine lv_iconst (v := 0) hx hb dX4_odds_19 (by decide) ?_
      refine lv_iconst (v := 1) hx hb dX4_odds_20 (by decide) ?_
      obtain ⟨q11, h12, hF⟩ := Option.bind_eq_some_iff.mp hF
      refine g_cs0 (o := some (.int q11)) (As := [.int a3, .int 0, .int 1]) (rest := []) (st1 := [.int q11]) S hf (c_X4_within l G  a3 0 1 q11 h12) (va_cwS 3 hts gX4_odds_X4_within rfl rfl rfl (by decide +kernel) ⟨Nat.le_of_ble_eq_true rfl, Nat.le_of_ble_eq_true rfl⟩) rfl hl.1 rfl rfl (Nat.le_of_ble_eq_true rfl) ⟨Nat.zero_le _, Nat.zero_le _⟩ dX4_odds_21 (fun H locs hf => ?_)
      refine lv_if_ne (tgt := 35) hx hb dX4_odds_24 (by decide) (fun c13 => ?_) (fun c13 => ?_)
      · replace hF := (if_neg c13).symm.trans hF
        refine lv_iconst (v := 0) hx hb dX4_odds_35 (by decide) ?_
        refine lv_bipush (v := 100) hx hb dX4_odds_36 (by decide) ?_
        refine lv_aload_n hx hb dX4_odds_38 rfl (lv_at hl 0 rfl) ?_
        refine lv_iload_n hx hb dX4_odds_39 rfl (lv_at hl 1 rfl) ?_
        obtain ⟨q14, h15, hF⟩ := Option.bind_eq_some_iff.mp hF
        refine g_cv0 (o := some (.int q14)) (As := [.int a1]) (rest := [.int 100, .int 0]) (st1 := [.int q14, .int 100, .int 0]) (ci := 4) S hf (c_X4_rate l G ad μ0 a1 q14 h15) (cwV 1 hts gX4_odds_X4_rate rfl rfl rfl (by decide +kernel) ⟨Nat.le_of_ble_eq_true rfl, Nat.le_of_ble_eq_true rfl⟩) rfl rfl rfl 0 rfl rfl hl.1 rfl rfl (Nat.le_of_ble_eq_true rfl) ⟨Nat.zero_le _, Nat.zero_le _⟩ dX4_odds_40 (fun H locs hf => ?_)
        have hf : Fr G (va_A (wM G ad μ0) s.heap.size) s (wM G ad μ0) H locs := hf
        refine lv_isub hx hb dX4_odds_43 ?_
        refine lv_aload_n hx hb dX4_odds_44 rfl (lv_at hl 0 rfl) ?_
        refine lv_iload_n hx hb dX4_odds_45 rfl (lv_at hl 1 rfl) ?_
        refine lv_bipush (v := 7) hx hb dX4_odds_46 (by decide) ?_
        obtain ⟨q16, h17, hF⟩ := Option.bind_eq_some_iff.mp hF
        refine g_cv0 (o := some (.int q16)) (As := [.int a1, .int 7]) (rest := [.int (100 - q14), .int 0]) (st1 := [.int q16, .int (100 - q14), .int 0]) (ci := 4) S hf (c_X4_birdIs l G ad μ0 a1 7 q16 h17) (cwV 2 hts gX4_odds_X4_birdIs rfl rfl rfl (by decide +kernel) ⟨Nat.le_of_ble_eq_true rfl, Nat.le_of_ble_eq_true rfl⟩) rfl rfl rfl 0 rfl rfl hl.1 rfl rfl (Nat.le_of_ble_eq_true rfl) ⟨Nat.zero_le _, Nat.zero_le _⟩ dX4_odds_48 (fun H locs hf => ?_)
        have hf : Fr G (va_A (wM G ad μ0) s.heap.size) s (wM G ad μ0) H locs := hf
        refine lv_isub hx hb dX4_odds_51 ?_
        refine va_mmax hx hb (hml.trans hl.1.symm) hown (hts _ k128) (hts _ ksmax) (hts _ kiM) (hts _ komax) (Nat.le_of_ble_eq_true rfl) (Nat.le_of_ble_eq_true rfl) (Nat.zero_le _) (Nat.zero_le _) dX4_odds_52 ?_
        refine lv_istore (lv' := [(4, .int (imax 0 ((100 - q14) - q16))), (0, .ref (ad 0)), (1, .int a1), (2, .int a2), (3, .int a3)]) hx hb dX4_odds_55 hl (by decide) rfl (fun ls hl => ?_)
        refine lv_bipush (v := 100) hx hb dX4_odds_57 (by decide) ?_
        refine lv_istore (lv' := [(5, .int 100), (4, .int (imax 0 ((100 - q14) - q16))), (0, .ref (ad 0)), (1, .int a1), (2, .int a2), (3, .int a3)]) hx hb dX4_odds_59 hl (by decide) rfl (fun ls hl => ?_)
        refine lv_iload hx hb dX4_odds_61 (lv_at hl 1 rfl) ?_
        refine lv_istore (lv' := [(6, .int (imax 0 ((100 - q14) - q16))), (5, .int 100), (4, .int (imax 0 ((100 - q14) - q16))), (0, .ref (ad 0)), (1, .int a1), (2, .int a2), (3, .int a3)]) hx hb dX4_odds_63 hl (by decide) rfl (fun ls hl => ?_)
        exact hL65 1000 μ0 a2 a3 (imax 0 ((100 - q14) - q16)) 100 (imax 0 ((100 - q14) - q16)) _ _ _ hF hf (lv_sub hl [5, 6, 2, 1, 0] rfl)
      · replace hF := (if_pos c13).symm.trans hF
        refine lv_aload_n hx hb dX4_odds_27 rfl (lv_at hl 0 rfl) ?_
        refine lv_ldc (v := -1000001) hx hb hown (hts _ kc63) dX4_odds_28 ?_
        obtain ⟨q24, h25, hF⟩ := Option.bind_eq_some_iff.mp hF
        refine g_cv0 (o := some (.int q24.1)) (As := [.int (-1000001)]) (rest := []) (st1 := [.int q24.1]) (ci := 4) S hf (c_X4_finding l G ad μ0 (-1000001) q24 h25) (cwV 1 hts gX4_odds_X4_finding rfl rfl rfl (by decide +kernel) ⟨Nat.le_of_ble_eq_true rfl, Nat.le_of_ble_eq_true rfl⟩) rfl rfl rfl 0 rfl rfl hl.1 rfl rfl (Nat.le_of_ble_eq_true rfl) ⟨Nat.zero_le _, Nat.zero_le _⟩ dX4_odds_30 (fun H locs hf => ?_)
        have hf : Fr G (va_A (wM G ad μ0) s.heap.size) s (wM G ad q24.2) H locs := hf
        refine lv_i2l (v := q24.1.toInt64) hx hb dX4_odds_33 rfl ?_
        have hE := Option.some.inj hF
        have hV := congrArg (fun z : Int64 × K2 => z.1) hE
        have hW := congrArg (fun z : Int64 × K2 => wM G ad z.2) hE
        exact g_lret S hr hlocks hf hV hW dX4_odds_34
def f_X4_seed (μ0 : K2) (a1 : Int32) : Option (Int32 × K2) := Option.bind (f_X4_become μ0 2 a1) (fun q1 => some (q1.1, q1.2))
set_option maxHeartbeats 4000000 in
set_option maxRecDepth 100000 in
theorem c_X4_seed (l : Launch) (G : GT) (ad : Nat → Nat) (μ0 : K2) (a1 : Int32) (q : Int32 × K2) (hF : f_X4_seed μ0 a1 = some q) : Ct l G yX4_seed wsX4_seed ({ frames := 1, cells := 0, slots := 0, locals := 23 } : Room) ([.ref (ad 0), .int a1] : List Value) (wM G ad μ0) (some (.int q.1)) (wM G ad q.2) := by
  refine Ct.of cX4_seed 2 (some .int) (by decide) rfl (Nat.le_of_ble_eq_true rfl) ?_
  intro p e s m below meth c ls S hr hlocks hf hl
  have S : CallFix p m c cX4_seed 2 s ([.ref (ad 0), .int a1] : List Value).toArray wsX4_seed RX4 := S
  obtain ⟨hx, hb, hml, hown, hts⟩ := id S
  have hl : lv_has ls 2 [(0, .ref (ad 0)), (1, .int a1)] := hl
  unfold f_X4_seed at hF
  refine lv_aload_n hx hb dX4_seed_0 rfl (lv_at hl 0 rfl) ?_
  refine lv_iconst (v := 2) hx hb dX4_seed_1 (by decide) ?_
  refine lv_iload_n hx hb dX4_seed_2 rfl (lv_at hl 1 rfl) ?_
  obtain ⟨q1, h2, hF⟩ := Option.bind_eq_some_iff.mp hF
  refine g_cv0 (o := some (.int q1.1)) (As := [.int 2, .int a1]) (rest := []) (st1 := [.int q1.1]) (ci := 4) S hf (c_X4_become l G ad μ0 2 a1 q1 h2) (cwV 2 hts gX4_seed_X4_become rfl rfl rfl (by decide +kernel) ⟨Nat.le_of_ble_eq_true rfl, Nat.le_of_ble_eq_true rfl⟩) rfl rfl rfl 0 rfl rfl hl.1 rfl rfl (Nat.le_of_ble_eq_true rfl) ⟨Nat.zero_le _, Nat.zero_le _⟩ dX4_seed_3 (fun H locs hf => ?_)
  have hf : Fr G (va_A (wM G ad μ0) s.heap.size) s (wM G ad q1.2) H locs := hf
  have hE := Option.some.inj hF
  have hV := congrArg (fun z : Int32 × K2 => z.1) hE
  have hW := congrArg (fun z : Int32 × K2 => wM G ad z.2) hE
  exact g_iret S hr hlocks hf hV hW dX4_seed_6
def f_X4_feed_B77 (μ : K2) : Option (Int32 × K2) := some (μ 11 1, μ)
def f_X4_feed_L38 : Nat → K2 → Int32 → Int32 → Option (Int32 × K2)
  | 0, _, _, _ => none
  | n + 1, μ, x1, x3 => if x3 < 0 then (f_X4_feed_B77 μ) else (if ix (μ 11 1) 120 then (f_X4_feed_L38 n (va_up (va_up μ 5 (upd (μ 5) ((μ 11 1).toNatClampNeg) ((x1 >>> ((8 * x3) &&& 31)) &&& 255))) 11 (upd (μ 11) 1 ((μ 11 1) + 1))) x1 (x3 + (-1))) else none)
def f_X4_feed (μ0 : K2) (a1 : Int32) (a2 : Int32) : Option (Int32 × K2) := Option.bind (f_X4_within a2 1 4) (fun q1 => if q1 = 0 then (Option.bind (f_X4_finding μ0 (-1000001)) (fun q9 => some (q9.1, q9.2))) else (if ((μ0 11 1) + a2) ≤ 120 then (f_X4_feed_L38 1000 μ0 a1 (a2 - 1)) else (Option.bind (f_X4_finding μ0 (-1000002)) (fun q7 => some (q7.1, q7.2)))))
set_option maxHeartbeats 4000000 in
set_option maxRecDepth 100000 in
theorem c_X4_feed (l : Launch) (G : GT) (ad : Nat → Nat) (μ0 : K2) (a1 : Int32) (a2 : Int32) (q : Int32 × K2) (hF : f_X4_feed μ0 a1 a2 = some q) : Ct l G yX4_feed wsX4_feed ({ frames := 1, cells := 0, slots := 0, locals := 22 } : Room) ([.ref (ad 0), .int a1, .int a2] : List Value) (wM G ad μ0) (some (.int q.1)) (wM G ad q.2) := by
  have k218 : Cond.fieldLink RX4 218 "PigeonRollsModel" "taped" "I" ∈ wsX4_feed := by decide +kernel
  have k25 : Cond.fieldLink RX4 25 "PigeonRollsModel" "tape" "[I" ∈ wsX4_feed := by decide +kernel
  have kc98 : Cond.constant RX4 98 (-1000002) ∈ wsX4_feed := by decide +kernel
  have kc63 : Cond.constant RX4 63 (-1000001) ∈ wsX4_feed := by decide +kernel
  have hinX4 : ∀ w ∈ u_ws RX4 TX4 21, w ∈ wsX4_feed := by decide +kernel
  refine Ct.of cX4_feed 4 (some .int) (by decide) rfl (Nat.le_of_ble_eq_true rfl) ?_
  intro p e s m below meth c ls S hr hlocks hf hl
  have S : CallFix p m c cX4_feed 4 s ([.ref (ad 0), .int a1, .int a2] : List Value).toArray wsX4_feed RX4 := S
  obtain ⟨hx, hb, hml, hown, hts⟩ := id S
  have hl : lv_has ls 4 [(0, .ref (ad 0)), (1, .int a1), (2, .int a2)] := hl
  have hL77 : ∀ (μ : K2)  (H : Heap) (locs : List Loc) (ls : Array Slot), f_X4_feed_B77 μ = some q → Fr G (va_A (wM G ad μ0) s.heap.size) s (wM G ad μ) H locs → lv_has ls 4 [(0, .ref (ad 0))] → W p l e ({ frames := 1, cells := 0, slots := 0, locals := 22 } : Room) s m ([.ref (ad 0), .int a1, .int a2] : List Value).toArray below meth c H locs 0 0 (MQ below (CPost G (wM G ad μ0) s.heap.size (some (.int q.1)) (wM G ad q.2)) ([.ref (ad 0), .int a1, .int a2] : List Value).toArray s 0 0 (va_A (wM G ad μ0) s.heap.size)) (F0 m 77 ls []) := by
    intro μ H locs ls hF hf hl
    unfold f_X4_feed_B77 at hF
    refine lv_aload_n hx hb dX4_feed_77 rfl (lv_at hl 0 rfl) ?_
    refine g_get (ci := 4) (C := RX4) (T := TX4) (N := 21) (v := .int (μ 11 1)) S hf hinX4 0 rfl rfl 7 (by decide) k218 rfl rfl dX4_feed_78 ?_
    have hE := Option.some.inj hF
    have hV := congrArg (fun z : Int32 × K2 => z.1) hE
    have hW := congrArg (fun z : Int32 × K2 => wM G ad z.2) hE
    exact g_iret S hr hlocks hf hV hW dX4_feed_81
  have hL38 : ∀ (n : Nat) (μ : K2) (x1 : Int32) (x3 : Int32)  (H : Heap) (locs : List Loc) (ls : Array Slot), f_X4_feed_L38 n μ x1 x3 = some q → Fr G (va_A (wM G ad μ0) s.heap.size) s (wM G ad μ) H locs → lv_has ls 4 [(0, .ref (ad 0)), (1, .int x1), (3, .int x3)] → W p l e ({ frames := 1, cells := 0, slots := 0, locals := 22 } : Room) s m ([.ref (ad 0), .int a1, .int a2] : List Value).toArray below meth c H locs 0 0 (MQ below (CPost G (wM G ad μ0) s.heap.size (some (.int q.1)) (wM G ad q.2)) ([.ref (ad 0), .int a1, .int a2] : List Value).toArray s 0 0 (va_A (wM G ad μ0) s.heap.size)) (F0 m 38 ls []) := by
    intro n
    induction n with
    | zero =>
      intro μ x1 x3 H locs ls hF hf hl
      exact absurd hF (by simp [f_X4_feed_L38])
    | succ n ih38 =>
      intro μ x1 x3 H locs ls hF hf hl
      rw [f_X4_feed_L38] at hF
      refine lv_iload_n hx hb dX4_feed_38 rfl (lv_at hl 2 rfl) ?_
      refine lv_if_lt (tgt := 77) hx hb dX4_feed_39 (by decide) (fun c5 => ?_) (fun c5 => ?_)
      · replace hF := (if_pos c5).symm.trans hF
        exact hL77 μ _ _ _ hF hf (lv_sub hl [0] rfl)
      · replace hF := (if_neg c5).symm.trans hF
        refine lv_aload_n hx hb dX4_feed_42 rfl (lv_at hl 0 rfl) ?_
        refine g_get (ci := 4) (C := RX4) (T := TX4) (N := 21) (v := .ref (ad 6)) S hf hinX4 0 rfl rfl 6 (by decide) k25 rfl rfl dX4_feed_43 ?_
        refine lv_aload_n hx hb dX4_feed_46 rfl (lv_at hl 0 rfl) ?_
        refine g_get (ci := 4) (C := RX4) (T := TX4) (N := 21) (v := .int (μ 11 1)) S hf hinX4 0 rfl rfl 7 (by decide) k218 rfl rfl dX4_feed_47 ?_
        refine lv_iload_n hx hb dX4_feed_50 rfl (lv_at hl 1 rfl) ?_
        refine lv_bipush (v := 8) hx hb dX4_feed_51 (by decide) ?_
        refine lv_iload_n hx hb dX4_feed_53 rfl (lv_at hl 2 rfl) ?_
        refine lv_imul hx hb dX4_feed_54 ?_
        refine lv_ishr hx hb dX4_feed_55 ?_
        refine lv_sipush (v := 255) hx hb dX4_feed_56 (by decide) ?_
        refine lv_iand hx hb dX4_feed_59 ?_
        obtain ⟨g6, hF⟩ := gd_some hF
        refine g_ast (ww' := wM G ad (va_up μ 5 (upd (μ 5) ((μ 11 1).toNatClampNeg) ((x1 >>> ((8 * x3) &&& 31)) &&& 255)))) S hf 6 rfl g6 rfl dX4_feed_60 (fun H locs hf => ?_)
        refine lv_aload_n hx hb dX4_feed_61 rfl (lv_at hl 0 rfl) ?_
        refine lv_dup hx hb dX4_feed_62 rfl ?_
        refine g_get (ci := 4) (C := RX4) (T := TX4) (N := 21) (v := .int (μ 11 1)) S hf hinX4 0 rfl rfl 7 (by decide) k218 rfl rfl dX4_feed_63 ?_
        refine lv_iconst (v := 1) hx hb dX4_feed_66 (by decide) ?_
        refine lv_iadd hx hb dX4_feed_67 ?_
        refine g_put (ci := 4) (C := RX4) (T := TX4) (N := 21) (ww' := wM G ad (va_up (va_up μ 5 (upd (μ 5) ((μ 11 1).toNatClampNeg) ((x1 >>> ((8 * x3) &&& 31)) &&& 255))) 11 (upd (μ 11) 1 ((μ 11 1) + 1)))) S hf hinX4 tyX4 tyX4_ok nmX4 0 rfl rfl 7 (by decide) k218 rfl rfl rfl rfl (Nat.le_of_ble_eq_true rfl) rfl dX4_feed_68 (fun H locs hf => ?_)
        refine lv_iinc (v := x3 + (-1)) (lv' := [(3, .int (x3 + (-1))), (0, .ref (ad 0)), (1, .int x1)]) hx hb dX4_feed_71 hl (k := 2) rfl rfl (by decide) rfl (fun ls hl => ?_)
        refine lv_goto (tgt := 38) hx hb dX4_feed_74 (by decide) ?_
        exact ih38 (va_up (va_up μ 5 (upd (μ 5) ((μ 11 1).toNatClampNeg) ((x1 >>> ((8 * x3) &&& 31)) &&& 255))) 11 (upd (μ 11) 1 ((μ 11 1) + 1))) x1 (x3 + (-1)) _ _ _ hF hf (lv_sub hl [1, 2, 0] rfl)
  unfold f_X4_feed at hF
  refine lv_iload_n hx hb dX4_feed_0 rfl (lv_at hl 2 rfl) ?_
  refine lv_iconst (v := 1) hx hb dX4_feed_1 (by decide) ?_
  refine lv_iconst (v := 4) hx hb dX4_feed_2 (by decide) ?_
  obtain ⟨q1, h2, hF⟩ := Option.bind_eq_some_iff.mp hF
  refine g_cs0 (o := some (.int q1)) (As := [.int a2, .int 1, .int 4]) (rest := []) (st1 := [.int q1]) S hf (c_X4_within l G  a2 1 4 q1 h2) (va_cwS 3 hts gX4_feed_X4_within rfl rfl rfl (by decide +kernel) ⟨Nat.le_of_ble_eq_true rfl, Nat.le_of_ble_eq_true rfl⟩) rfl hl.1 rfl rfl (Nat.le_of_ble_eq_true rfl) ⟨Nat.zero_le _, Nat.zero_le _⟩ dX4_feed_3 (fun H locs hf => ?_)
  refine lv_if_ne (tgt := 16) hx hb dX4_feed_6 (by decide) (fun c3 => ?_) (fun c3 => ?_)
  · replace hF := (if_neg c3).symm.trans hF
    refine lv_aload_n hx hb dX4_feed_16 rfl (lv_at hl 0 rfl) ?_
    refine g_get (ci := 4) (C := RX4) (T := TX4) (N := 21) (v := .int (μ0 11 1)) S hf hinX4 0 rfl rfl 7 (by decide) k218 rfl rfl dX4_feed_17 ?_
    refine lv_iload_n hx hb dX4_feed_20 rfl (lv_at hl 2 rfl) ?_
    refine lv_iadd hx hb dX4_feed_21 ?_
    refine lv_bipush (v := 120) hx hb dX4_feed_22 (by decide) ?_
    refine lv_icmp_le (tgt := 34) hx hb dX4_feed_24 (by decide) (fun c4 => ?_) (fun c4 => ?_)
    · replace hF := (if_pos c4).symm.trans hF
      refine lv_iload_n hx hb dX4_feed_34 rfl (lv_at hl 2 rfl) ?_
      refine lv_iconst (v := 1) hx hb dX4_feed_35 (by decide) ?_
      refine lv_isub hx hb dX4_feed_36 ?_
      refine lv_istore_n (lv' := [(3, .int (a2 - 1)), (0, .ref (ad 0)), (1, .int a1), (2, .int a2)]) hx hb dX4_feed_37 rfl hl (by decide) rfl (fun ls hl => ?_)
      exact hL38 1000 μ0 a1 (a2 - 1) _ _ _ hF hf (lv_sub hl [1, 2, 0] rfl)
    · replace hF := (if_neg c4).symm.trans hF
      refine lv_aload_n hx hb dX4_feed_27 rfl (lv_at hl 0 rfl) ?_
      refine lv_ldc (v := -1000002) hx hb hown (hts _ kc98) dX4_feed_28 ?_
      obtain ⟨q7, h8, hF⟩ := Option.bind_eq_some_iff.mp hF
      refine g_cv0 (o := some (.int q7.1)) (As := [.int (-1000002)]) (rest := []) (st1 := [.int q7.1]) (ci := 4) S hf (c_X4_finding l G ad μ0 (-1000002) q7 h8) (cwV 1 hts gX4_feed_X4_finding rfl rfl rfl (by decide +kernel) ⟨Nat.le_of_ble_eq_true rfl, Nat.le_of_ble_eq_true rfl⟩) rfl rfl rfl 0 rfl rfl hl.1 rfl rfl (Nat.le_of_ble_eq_true rfl) ⟨Nat.zero_le _, Nat.zero_le _⟩ dX4_feed_30 (fun H locs hf => ?_)
      have hf : Fr G (va_A (wM G ad μ0) s.heap.size) s (wM G ad q7.2) H locs := hf
      have hE := Option.some.inj hF
      have hV := congrArg (fun z : Int32 × K2 => z.1) hE
      have hW := congrArg (fun z : Int32 × K2 => wM G ad z.2) hE
      exact g_iret S hr hlocks hf hV hW dX4_feed_33
  · replace hF := (if_pos c3).symm.trans hF
    refine lv_aload_n hx hb dX4_feed_9 rfl (lv_at hl 0 rfl) ?_
    refine lv_ldc (v := -1000001) hx hb hown (hts _ kc63) dX4_feed_10 ?_
    obtain ⟨q9, h10, hF⟩ := Option.bind_eq_some_iff.mp hF
    refine g_cv0 (o := some (.int q9.1)) (As := [.int (-1000001)]) (rest := []) (st1 := [.int q9.1]) (ci := 4) S hf (c_X4_finding l G ad μ0 (-1000001) q9 h10) (cwV 1 hts gX4_feed_X4_finding rfl rfl rfl (by decide +kernel) ⟨Nat.le_of_ble_eq_true rfl, Nat.le_of_ble_eq_true rfl⟩) rfl rfl rfl 0 rfl rfl hl.1 rfl rfl (Nat.le_of_ble_eq_true rfl) ⟨Nat.zero_le _, Nat.zero_le _⟩ dX4_feed_12 (fun H locs hf => ?_)
    have hf : Fr G (va_A (wM G ad μ0) s.heap.size) s (wM G ad q9.2) H locs := hf
    have hE := Option.some.inj hF
    have hV := congrArg (fun z : Int32 × K2 => z.1) hE
    have hW := congrArg (fun z : Int32 × K2 => wM G ad z.2) hE
    exact g_iret S hr hlocks hf hV hW dX4_feed_15
def f_X4_wipe (μ0 : K2) : Option (Int32 × K2) := some (μ0 11 1, va_up μ0 11 (upd (μ0 11) 1 0))
set_option maxHeartbeats 4000000 in
set_option maxRecDepth 100000 in
theorem c_X4_wipe (l : Launch) (G : GT) (ad : Nat → Nat) (μ0 : K2) (q : Int32 × K2) (hF : f_X4_wipe μ0 = some q) : Ct l G yX4_wipe wsX4_wipe ({ frames := 0, cells := 0, slots := 0, locals := 0 } : Room) ([.ref (ad 0)] : List Value) (wM G ad μ0) (some (.int q.1)) (wM G ad q.2) := by
  have k218 : Cond.fieldLink RX4 218 "PigeonRollsModel" "taped" "I" ∈ wsX4_wipe := by decide +kernel
  have hinX4 : ∀ w ∈ u_ws RX4 TX4 21, w ∈ wsX4_wipe := by decide +kernel
  refine Ct.of cX4_wipe 2 (some .int) (by decide) rfl (Nat.le_of_ble_eq_true rfl) ?_
  intro p e s m below meth c ls S hr hlocks hf hl
  have S : CallFix p m c cX4_wipe 2 s ([.ref (ad 0)] : List Value).toArray wsX4_wipe RX4 := S
  obtain ⟨hx, hb, hml, hown, hts⟩ := id S
  have hl : lv_has ls 2 [(0, .ref (ad 0))] := hl
  unfold f_X4_wipe at hF
  refine lv_aload_n hx hb dX4_wipe_0 rfl (lv_at hl 0 rfl) ?_
  refine g_get (ci := 4) (C := RX4) (T := TX4) (N := 21) (v := .int (μ0 11 1)) S hf hinX4 0 rfl rfl 7 (by decide) k218 rfl rfl dX4_wipe_1 ?_
  refine lv_istore_n (lv' := [(1, .int (μ0 11 1)), (0, .ref (ad 0))]) hx hb dX4_wipe_4 rfl hl (by decide) rfl (fun ls hl => ?_)
  refine lv_aload_n hx hb dX4_wipe_5 rfl (lv_at hl 1 rfl) ?_
  refine lv_iconst (v := 0) hx hb dX4_wipe_6 (by decide) ?_
  refine g_put (ci := 4) (C := RX4) (T := TX4) (N := 21) (ww' := wM G ad (va_up μ0 11 (upd (μ0 11) 1 0))) S hf hinX4 tyX4 tyX4_ok nmX4 0 rfl rfl 7 (by decide) k218 rfl rfl rfl rfl (Nat.le_of_ble_eq_true rfl) rfl dX4_wipe_7 (fun H locs hf => ?_)
  refine lv_iload_n hx hb dX4_wipe_10 rfl (lv_at hl 0 rfl) ?_
  have hE := Option.some.inj hF
  have hV := congrArg (fun z : Int32 × K2 => z.1) hE
  have hW := congrArg (fun z : Int32 × K2 => wM G ad z.2) hE
  exact g_iret S hr hlocks hf hV hW dX4_wipe_11
def f_X4_byteAt (μ0 : K2) (a1 : Int32) : Option (Int32) := if (μ0 11 1) ≤ a1 then (some ((-1))) else (if ix a1 120 then (some ((μ0 5) a1.toNatClampNeg)) else none)
set_option maxHeartbeats 4000000 in
set_option maxRecDepth 100000 in
theorem c_X4_byteAt (l : Launch) (G : GT) (ad : Nat → Nat) (μ0 : K2) (a1 : Int32) (q : Int32) (hF : f_X4_byteAt μ0 a1 = some q) : Ct l G yX4_byteAt wsX4_byteAt ({ frames := 0, cells := 0, slots := 0, locals := 0 } : Room) ([.ref (ad 0), .int a1] : List Value) (wM G ad μ0) (some (.int q)) (wM G ad μ0) := by
  have k218 : Cond.fieldLink RX4 218 "PigeonRollsModel" "taped" "I" ∈ wsX4_byteAt := by decide +kernel
  have k25 : Cond.fieldLink RX4 25 "PigeonRollsModel" "tape" "[I" ∈ wsX4_byteAt := by decide +kernel
  have hinX4 : ∀ w ∈ u_ws RX4 TX4 21, w ∈ wsX4_byteAt := by decide +kernel
  refine Ct.of cX4_byteAt 2 (some .int) (by decide) rfl (Nat.le_of_ble_eq_true rfl) ?_
  intro p e s m below meth c ls S hr hlocks hf hl
  have S : CallFix p m c cX4_byteAt 2 s ([.ref (ad 0), .int a1] : List Value).toArray wsX4_byteAt RX4 := S
  obtain ⟨hx, hb, hml, hown, hts⟩ := id S
  have hl : lv_has ls 2 [(0, .ref (ad 0)), (1, .int a1)] := hl
  unfold f_X4_byteAt at hF
  refine lv_iload_n hx hb dX4_byteAt_0 rfl (lv_at hl 1 rfl) ?_
  refine lv_aload_n hx hb dX4_byteAt_1 rfl (lv_at hl 0 rfl) ?_
  refine g_get (ci := 4) (C := RX4) (T := TX4) (N := 21) (v := .int (μ0 11 1)) S hf hinX4 0 rfl rfl 7 (by decide) k218 rfl rfl dX4_byteAt_2 ?_
  refine lv_icmp_ge (tgt := 17) hx hb dX4_byteAt_5 (by decide) (fun c1 => ?_) (fun c1 => ?_)
  · replace hF := (if_pos c1).symm.trans hF
    refine lv_iconst (v := -1) hx hb dX4_byteAt_17 (by decide) ?_
    have hE := Option.some.inj hF
    have hV := congrArg (fun z : Int32 => z) hE
    exact g_iret S hr hlocks hf hV rfl dX4_byteAt_18
  · replace hF := (if_neg c1).symm.trans hF
    refine lv_aload_n hx hb dX4_byteAt_8 rfl (lv_at hl 0 rfl) ?_
    refine g_get (ci := 4) (C := RX4) (T := TX4) (N := 21) (v := .ref (ad 6)) S hf hinX4 0 rfl rfl 6 (by decide) k25 rfl rfl dX4_byteAt_9 ?_
    refine lv_iload_n hx hb dX4_byteAt_12 rfl (lv_at hl 1 rfl) ?_
    obtain ⟨g2, hF⟩ := gd_some hF
    refine g_ald (v := (μ0 5) a1.toNatClampNeg) S hf 6 rfl g2 rfl dX4_byteAt_13 ?_
    refine lv_goto (tgt := 18) hx hb dX4_byteAt_14 (by decide) ?_
    have hE := Option.some.inj hF
    have hV := congrArg (fun z : Int32 => z) hE
    exact g_iret S hr hlocks hf hV rfl dX4_byteAt_18
def f_X4_token_L131 : Nat → K2 → Option (K2)
  | 0, _ => none
  | n + 1, μ => Option.bind (f_X4_byteAt μ (μ 11 3)) (fun q13 => Option.bind (f_X4_within q13 48 57) (fun q15 => if q15 = 0 then (some (μ)) else (Option.bind (f_X4_byteAt μ (μ 11 3)) (fun q18 => f_X4_token_L131 n (va_up μ 11 (upd (upd (μ 11) 3 ((μ 11 3) + 1)) 5 (imin 10000 (((10 * (μ 11 5)) + q18) - 48))))))))
def f_X4_token_L84 : Nat → K2 → Option (K2)
  | 0, _ => none
  | n + 1, μ => Option.bind (f_X4_byteAt μ (μ 11 3)) (fun q20 => Option.bind (f_X4_within q20 97 122) (fun q22 => if q22 = 0 then (some (μ)) else (f_X4_token_L84 n (va_up μ 11 (upd (μ 11) 3 ((μ 11 3) + 1))))))
def f_X4_token_B34 (μ : K2) : Option (K2) := Option.bind (f_X4_byteAt μ (μ 11 2)) (fun q4 => if 0 ≤ q4 then (Option.bind (f_X4_within q4 97 122) (fun q7 => if q7 = 0 then (Option.bind (f_X4_within q4 48 57) (fun q10 => if q10 = 0 then (some (va_up μ 11 (upd (upd (upd (μ 11) 3 ((μ 11 2) + 1)) 4 3) 5 0))) else (f_X4_token_L131 1000 (va_up μ 11 (upd (upd (upd (μ 11) 3 (μ 11 2)) 4 2) 5 0))))) else (f_X4_token_L84 1000 (va_up μ 11 (upd (upd (upd (μ 11) 3 (μ 11 2)) 4 1) 5 0))))) else (some (va_up μ 11 (upd (upd (upd (μ 11) 3 (μ 11 2)) 4 0) 5 0))))
def f_X4_token_L8 : Nat → K2 → Option (K2)
  | 0, _ => none
  | n + 1, μ => Option.bind (f_X4_byteAt μ (μ 11 2)) (fun q1 => if q1 = 32 then (f_X4_token_L8 n (va_up μ 11 (upd (μ 11) 2 ((μ 11 2) + 1)))) else (f_X4_token_B34 μ))
def f_X4_token (μ0 : K2) : Option (K2) := f_X4_token_L8 1000 (va_up μ0 11 (upd (μ0 11) 2 (μ0 11 3)))
set_option maxHeartbeats 4000000 in
set_option maxRecDepth 100000 in
theorem c_X4_token (l : Launch) (G : GT) (ad : Nat → Nat) (μ0 : K2) (q : K2) (hF : f_X4_token μ0 = some q) : Ct l G yX4_token wsX4_token ({ frames := 1, cells := 0, slots := 0, locals := 22 } : Room) ([.ref (ad 0)] : List Value) (wM G ad μ0) (none) (wM G ad q) := by
  have k222 : Cond.fieldLink RX4 222 "PigeonRollsModel" "ends" "I" ∈ wsX4_token := by decide +kernel
  have k225 : Cond.fieldLink RX4 225 "PigeonRollsModel" "begins" "I" ∈ wsX4_token := by decide +kernel
  have k231 : Cond.fieldLink RX4 231 "PigeonRollsModel" "value" "I" ∈ wsX4_token := by decide +kernel
  have k234 : Cond.fieldLink RX4 234 "PigeonRollsModel" "sort" "I" ∈ wsX4_token := by decide +kernel
  have k148 : Cond.methodLink RX4 148 Lib.Math.min.name ∈ wsX4_token := by decide +kernel
  have ksmin : Cond.static Lib.Math.min.name ∈ wsX4_token := by decide +kernel
  have kiM : Cond.initialized "java/lang/Math" ∈ wsX4_token := by decide +kernel
  have komin : Cond.code Lib.Math.min.name Lib.Math.min.code 2 (some .int) ∈ wsX4_token := by decide +kernel
  have hinX4 : ∀ w ∈ u_ws RX4 TX4 21, w ∈ wsX4_token := by decide +kernel
  refine Ct.of cX4_token 2 none (by decide) rfl (Nat.le_of_ble_eq_true rfl) ?_
  intro p e s m below meth c ls S hr hlocks hf hl
  have S : CallFix p m c cX4_token 2 s ([.ref (ad 0)] : List Value).toArray wsX4_token RX4 := S
  obtain ⟨hx, hb, hml, hown, hts⟩ := id S
  have hl : lv_has ls 2 [(0, .ref (ad 0))] := hl
  have hL131 : ∀ (n : Nat) (μ : K2)  (H : Heap) (locs : List Loc) (ls : Array Slot), f_X4_token_L131 n μ = some q → Fr G (va_A (wM G ad μ0) s.heap.size) s (wM G ad μ) H locs → lv_has ls 2 [(0, .ref (ad 0))] → W p l e ({ frames := 1, cells := 0, slots := 0, locals := 22 } : Room) s m ([.ref (ad 0)] : List Value).toArray below meth c H locs 0 0 (MQ below (CPost G (wM G ad μ0) s.heap.size (none) (wM G ad q)) ([.ref (ad 0)] : List Value).toArray s 0 0 (va_A (wM G ad μ0) s.heap.size)) (F0 m 131 ls []) := by
    intro n
    induction n with
    | zero =>
      intro μ H locs ls hF hf hl
      exact absurd hF (by simp [f_X4_token_L131])
    | succ n ih131 =>
      intro μ H locs ls hF hf hl
      rw [f_X4_token_L131] at hF
      refine lv_aload_n hx hb dX4_token_131 rfl (lv_at hl 0 rfl) ?_
      refine lv_aload_n hx hb dX4_token_132 rfl (lv_at hl 0 rfl) ?_
      refine g_get (ci := 4) (C := RX4) (T := TX4) (N := 21) (v := .int (μ 11 3)) S hf hinX4 0 rfl rfl 9 (by decide) k222 rfl rfl dX4_token_133 ?_
      obtain ⟨q13, h14, hF⟩ := Option.bind_eq_some_iff.mp hF
      refine g_cv0 (o := some (.int q13)) (As := [.int (μ 11 3)]) (rest := []) (st1 := [.int q13]) (ci := 4) S hf (c_X4_byteAt l G ad μ (μ 11 3) q13 h14) (cwV 1 hts gX4_token_X4_byteAt rfl rfl rfl (by decide +kernel) ⟨Nat.le_of_ble_eq_true rfl, Nat.le_of_ble_eq_true rfl⟩) rfl rfl rfl 0 rfl rfl hl.1 rfl rfl (Nat.le_of_ble_eq_true rfl) ⟨Nat.zero_le _, Nat.zero_le _⟩ dX4_token_136 (fun H locs hf => ?_)
      have hf : Fr G (va_A (wM G ad μ0) s.heap.size) s (wM G ad μ) H locs := hf
      refine lv_bipush (v := 48) hx hb dX4_token_139 (by decide) ?_
      refine lv_bipush (v := 57) hx hb dX4_token_141 (by decide) ?_
      obtain ⟨q15, h16, hF⟩ := Option.bind_eq_some_iff.mp hF
      refine g_cs0 (o := some (.int q15)) (As := [.int q13, .int 48, .int 57]) (rest := []) (st1 := [.int q15]) S hf (c_X4_within l G  q13 48 57 q15 h16) (va_cwS 3 hts gX4_token_X4_within rfl rfl rfl (by decide +kernel) ⟨Nat.le_of_ble_eq_true rfl, Nat.le_of_ble_eq_true rfl⟩) rfl hl.1 rfl rfl (Nat.le_of_ble_eq_true rfl) ⟨Nat.zero_le _, Nat.zero_le _⟩ dX4_token_143 (fun H locs hf => ?_)
      refine lv_if_eq (tgt := 206) hx hb dX4_token_146 (by decide) (fun c17 => ?_) (fun c17 => ?_)
      · replace hF := (if_pos c17).symm.trans hF
        have hE := Option.some.inj hF
        have hW := congrArg (fun z : K2 => wM G ad z) hE
        exact g_vret S hr hlocks hf hW dX4_token_206
      · replace hF := (if_neg c17).symm.trans hF
        refine lv_aload_n hx hb dX4_token_149 rfl (lv_at hl 0 rfl) ?_
        refine lv_sipush (v := 10000) hx hb dX4_token_150 (by decide) ?_
        refine lv_bipush (v := 10) hx hb dX4_token_153 (by decide) ?_
        refine lv_aload_n hx hb dX4_token_155 rfl (lv_at hl 0 rfl) ?_
        refine g_get (ci := 4) (C := RX4) (T := TX4) (N := 21) (v := .int (μ 11 5)) S hf hinX4 0 rfl rfl 11 (by decide) k231 rfl rfl dX4_token_156 ?_
        refine lv_imul hx hb dX4_token_159 ?_
        refine lv_aload_n hx hb dX4_token_160 rfl (lv_at hl 0 rfl) ?_
        refine lv_aload_n hx hb dX4_token_161 rfl (lv_at hl 0 rfl) ?_
        refine g_get (ci := 4) (C := RX4) (T := TX4) (N := 21) (v := .int (μ 11 3)) S hf hinX4 0 rfl rfl 9 (by decide) k222 rfl rfl dX4_token_162 ?_
        obtain ⟨q18, h19, hF⟩ := Option.bind_eq_some_iff.mp hF
        refine g_cv0 (o := some (.int q18)) (As := [.int (μ 11 3)]) (rest := [.int (10 * (μ 11 5)), .int 10000, .ref (ad 0)]) (st1 := [.int q18, .int (10 * (μ 11 5)), .int 10000, .ref (ad 0)]) (ci := 4) S hf (c_X4_byteAt l G ad μ (μ 11 3) q18 h19) (cwV 1 hts gX4_token_X4_byteAt rfl rfl rfl (by decide +kernel) ⟨Nat.le_of_ble_eq_true rfl, Nat.le_of_ble_eq_true rfl⟩) rfl rfl rfl 0 rfl rfl hl.1 rfl rfl (Nat.le_of_ble_eq_true rfl) ⟨Nat.zero_le _, Nat.zero_le _⟩ dX4_token_165 (fun H locs hf => ?_)
        have hf : Fr G (va_A (wM G ad μ0) s.heap.size) s (wM G ad μ) H locs := hf
        refine lv_iadd hx hb dX4_token_168 ?_
        refine lv_bipush (v := 48) hx hb dX4_token_169 (by decide) ?_
        refine lv_isub hx hb dX4_token_171 ?_
        refine va_mmin hx hb (hml.trans hl.1.symm) hown (hts _ k148) (hts _ ksmin) (hts _ kiM) (hts _ komin) (Nat.le_of_ble_eq_true rfl) (Nat.le_of_ble_eq_true rfl) (Nat.zero_le _) (Nat.zero_le _) dX4_token_172 ?_
        refine g_put (ci := 4) (C := RX4) (T := TX4) (N := 21) (ww' := wM G ad (va_up μ 11 (upd (μ 11) 5 (imin 10000 (((10 * (μ 11 5)) + q18) - 48))))) S hf hinX4 tyX4 tyX4_ok nmX4 0 rfl rfl 11 (by decide) k231 rfl rfl rfl rfl (Nat.le_of_ble_eq_true rfl) rfl dX4_token_175 (fun H locs hf => ?_)
        refine lv_aload_n hx hb dX4_token_178 rfl (lv_at hl 0 rfl) ?_
        refine lv_dup hx hb dX4_token_179 rfl ?_
        refine g_get (ci := 4) (C := RX4) (T := TX4) (N := 21) (v := .int (μ 11 3)) S hf hinX4 0 rfl rfl 9 (by decide) k222 rfl rfl dX4_token_180 ?_
        refine lv_iconst (v := 1) hx hb dX4_token_183 (by decide) ?_
        refine lv_iadd hx hb dX4_token_184 ?_
        refine g_put (ci := 4) (C := RX4) (T := TX4) (N := 21) (ww' := wM G ad (va_up μ 11 (upd (upd (μ 11) 3 ((μ 11 3) + 1)) 5 (imin 10000 (((10 * (μ 11 5)) + q18) - 48))))) S hf hinX4 tyX4 tyX4_ok nmX4 0 rfl rfl 9 (by decide) k222 rfl rfl rfl rfl (Nat.le_of_ble_eq_true rfl) rfl dX4_token_185 (fun H locs hf => ?_)
        refine lv_goto (tgt := 131) hx hb dX4_token_188 (by decide) ?_
        exact ih131 (va_up μ 11 (upd (upd (μ 11) 3 ((μ 11 3) + 1)) 5 (imin 10000 (((10 * (μ 11 5)) + q18) - 48)))) _ _ _ hF hf (lv_sub hl [0] rfl)
  have hL84 : ∀ (n : Nat) (μ : K2)  (H : Heap) (locs : List Loc) (ls : Array Slot), f_X4_token_L84 n μ = some q → Fr G (va_A (wM G ad μ0) s.heap.size) s (wM G ad μ) H locs → lv_has ls 2 [(0, .ref (ad 0))] → W p l e ({ frames := 1, cells := 0, slots := 0, locals := 22 } : Room) s m ([.ref (ad 0)] : List Value).toArray below meth c H locs 0 0 (MQ below (CPost G (wM G ad μ0) s.heap.size (none) (wM G ad q)) ([.ref (ad 0)] : List Value).toArray s 0 0 (va_A (wM G ad μ0) s.heap.size)) (F0 m 84 ls []) := by
    intro n
    induction n with
    | zero =>
      intro μ H locs ls hF hf hl
      exact absurd hF (by simp [f_X4_token_L84])
    | succ n ih84 =>
      intro μ H locs ls hF hf hl
      rw [f_X4_token_L84] at hF
      refine lv_aload_n hx hb dX4_token_84 rfl (lv_at hl 0 rfl) ?_
      refine lv_aload_n hx hb dX4_token_85 rfl (lv_at hl 0 rfl) ?_
      refine g_get (ci := 4) (C := RX4) (T := TX4) (N := 21) (v := .int (μ 11 3)) S hf hinX4 0 rfl rfl 9 (by decide) k222 rfl rfl dX4_token_86 ?_
      obtain ⟨q20, h21, hF⟩ := Option.bind_eq_some_iff.mp hF
      refine g_cv0 (o := some (.int q20)) (As := [.int (μ 11 3)]) (rest := []) (st1 := [.int q20]) (ci := 4) S hf (c_X4_byteAt l G ad μ (μ 11 3) q20 h21) (cwV 1 hts gX4_token_X4_byteAt rfl rfl rfl (by decide +kernel) ⟨Nat.le_of_ble_eq_true rfl, Nat.le_of_ble_eq_true rfl⟩) rfl rfl rfl 0 rfl rfl hl.1 rfl rfl (Nat.le_of_ble_eq_true rfl) ⟨Nat.zero_le _, Nat.zero_le _⟩ dX4_token_89 (fun H locs hf => ?_)
      have hf : Fr G (va_A (wM G ad μ0) s.heap.size) s (wM G ad μ) H locs := hf
      refine lv_bipush (v := 97) hx hb dX4_token_92 (by decide) ?_
      refine lv_bipush (v := 122) hx hb dX4_token_94 (by decide) ?_
      obtain ⟨q22, h23, hF⟩ := Option.bind_eq_some_iff.mp hF
      refine g_cs0 (o := some (.int q22)) (As := [.int q20, .int 97, .int 122]) (rest := []) (st1 := [.int q22]) S hf (c_X4_within l G  q20 97 122 q22 h23) (va_cwS 3 hts gX4_token_X4_within rfl rfl rfl (by decide +kernel) ⟨Nat.le_of_ble_eq_true rfl, Nat.le_of_ble_eq_true rfl⟩) rfl hl.1 rfl rfl (Nat.le_of_ble_eq_true rfl) ⟨Nat.zero_le _, Nat.zero_le _⟩ dX4_token_96 (fun H locs hf => ?_)
      refine lv_if_eq (tgt := 206) hx hb dX4_token_99 (by decide) (fun c24 => ?_) (fun c24 => ?_)
      · replace hF := (if_pos c24).symm.trans hF
        have hE := Option.some.inj hF
        have hW := congrArg (fun z : K2 => wM G ad z) hE
        exact g_vret S hr hlocks hf hW dX4_token_206
      · replace hF := (if_neg c24).symm.trans hF
        refine lv_aload_n hx hb dX4_token_102 rfl (lv_at hl 0 rfl) ?_
        refine lv_dup hx hb dX4_token_103 rfl ?_
        refine g_get (ci := 4) (C := RX4) (T := TX4) (N := 21) (v := .int (μ 11 3)) S hf hinX4 0 rfl rfl 9 (by decide) k222 rfl rfl dX4_token_104 ?_
        refine lv_iconst (v := 1) hx hb dX4_token_107 (by decide) ?_
        refine lv_iadd hx hb dX4_token_108 ?_
        refine g_put (ci := 4) (C := RX4) (T := TX4) (N := 21) (ww' := wM G ad (va_up μ 11 (upd (μ 11) 3 ((μ 11 3) + 1)))) S hf hinX4 tyX4 tyX4_ok nmX4 0 rfl rfl 9 (by decide) k222 rfl rfl rfl rfl (Nat.le_of_ble_eq_true rfl) rfl dX4_token_109 (fun H locs hf => ?_)
        refine lv_goto (tgt := 84) hx hb dX4_token_112 (by decide) ?_
        exact ih84 (va_up μ 11 (upd (μ 11) 3 ((μ 11 3) + 1))) _ _ _ hF hf (lv_sub hl [0] rfl)
  have hL34 : ∀ (μ : K2)  (H : Heap) (locs : List Loc) (ls : Array Slot), f_X4_token_B34 μ = some q → Fr G (va_A (wM G ad μ0) s.heap.size) s (wM G ad μ) H locs → lv_has ls 2 [(0, .ref (ad 0))] → W p l e ({ frames := 1, cells := 0, slots := 0, locals := 22 } : Room) s m ([.ref (ad 0)] : List Value).toArray below meth c H locs 0 0 (MQ below (CPost G (wM G ad μ0) s.heap.size (none) (wM G ad q)) ([.ref (ad 0)] : List Value).toArray s 0 0 (va_A (wM G ad μ0) s.heap.size)) (F0 m 34 ls []) := by
    intro μ H locs ls hF hf hl
    unfold f_X4_token_B34 at hF
    refine lv_aload_n hx hb dX4_token_34 rfl (lv_at hl 0 rfl) ?_
    refine lv_aload_n hx hb dX4_token_35 rfl (lv_at hl 0 rfl) ?_
    refine g_get (ci := 4) (C := RX4) (T := TX4) (N := 21) (v := .int (μ 11 2)) S hf hinX4 0 rfl rfl 8 (by decide) k225 rfl rfl dX4_token_36 ?_
    obtain ⟨q4, h5, hF⟩ := Option.bind_eq_some_iff.mp hF
    refine g_cv0 (o := some (.int q4)) (As := [.int (μ 11 2)]) (rest := []) (st1 := [.int q4]) (ci := 4) S hf (c_X4_byteAt l G ad μ (μ 11 2) q4 h5) (cwV 1 hts gX4_token_X4_byteAt rfl rfl rfl (by decide +kernel) ⟨Nat.le_of_ble_eq_true rfl, Nat.le_of_ble_eq_true rfl⟩) rfl rfl rfl 0 rfl rfl hl.1 rfl rfl (Nat.le_of_ble_eq_true rfl) ⟨Nat.zero_le _, Nat.zero_le _⟩ dX4_token_39 (fun H locs hf => ?_)
    have hf : Fr G (va_A (wM G ad μ0) s.heap.size) s (wM G ad μ) H locs := hf
    refine lv_istore_n (lv' := [(1, .int q4), (0, .ref (ad 0))]) hx hb dX4_token_42 rfl hl (by decide) rfl (fun ls hl => ?_)
    refine lv_aload_n hx hb dX4_token_43 rfl (lv_at hl 1 rfl) ?_
    refine lv_aload_n hx hb dX4_token_44 rfl (lv_at hl 1 rfl) ?_
    refine g_get (ci := 4) (C := RX4) (T := TX4) (N := 21) (v := .int (μ 11 2)) S hf hinX4 0 rfl rfl 8 (by decide) k225 rfl rfl dX4_token_45 ?_
    refine g_put (ci := 4) (C := RX4) (T := TX4) (N := 21) (ww' := wM G ad (va_up μ 11 (upd (μ 11) 3 (μ 11 2)))) S hf hinX4 tyX4 tyX4_ok nmX4 0 rfl rfl 9 (by decide) k222 rfl rfl rfl rfl (Nat.le_of_ble_eq_true rfl) rfl dX4_token_48 (fun H locs hf => ?_)
    refine lv_aload_n hx hb dX4_token_51 rfl (lv_at hl 1 rfl) ?_
    refine lv_iconst (v := 0) hx hb dX4_token_52 (by decide) ?_
    refine g_put (ci := 4) (C := RX4) (T := TX4) (N := 21) (ww' := wM G ad (va_up μ 11 (upd (upd (μ 11) 3 (μ 11 2)) 5 0))) S hf hinX4 tyX4 tyX4_ok nmX4 0 rfl rfl 11 (by decide) k231 rfl rfl rfl rfl (Nat.le_of_ble_eq_true rfl) rfl dX4_token_53 (fun H locs hf => ?_)
    refine lv_iload_n hx hb dX4_token_56 rfl (lv_at hl 0 rfl) ?_
    refine lv_if_ge (tgt := 68) hx hb dX4_token_57 (by decide) (fun c6 => ?_) (fun c6 => ?_)
    · replace hF := (if_pos c6).symm.trans hF
      refine lv_iload_n hx hb dX4_token_68 rfl (lv_at hl 0 rfl) ?_
      refine lv_bipush (v := 97) hx hb dX4_token_69 (by decide) ?_
      refine lv_bipush (v := 122) hx hb dX4_token_71 (by decide) ?_
      obtain ⟨q7, h8, hF⟩ := Option.bind_eq_some_iff.mp hF
      refine g_cs0 (o := some (.int q7)) (As := [.int q4, .int 97, .int 122]) (rest := []) (st1 := [.int q7]) S hf (c_X4_within l G  q4 97 122 q7 h8) (va_cwS 3 hts gX4_token_X4_within rfl rfl rfl (by decide +kernel) ⟨Nat.le_of_ble_eq_true rfl, Nat.le_of_ble_eq_true rfl⟩) rfl hl.1 rfl rfl (Nat.le_of_ble_eq_true rfl) ⟨Nat.zero_le _, Nat.zero_le _⟩ dX4_token_73 (fun H locs hf => ?_)
      refine lv_if_eq (tgt := 115) hx hb dX4_token_76 (by decide) (fun c9 => ?_) (fun c9 => ?_)
      · replace hF := (if_pos c9).symm.trans hF
        refine lv_iload_n hx hb dX4_token_115 rfl (lv_at hl 0 rfl) ?_
        refine lv_bipush (v := 48) hx hb dX4_token_116 (by decide) ?_
        refine lv_bipush (v := 57) hx hb dX4_token_118 (by decide) ?_
        obtain ⟨q10, h11, hF⟩ := Option.bind_eq_some_iff.mp hF
        refine g_cs0 (o := some (.int q10)) (As := [.int q4, .int 48, .int 57]) (rest := []) (st1 := [.int q10]) S hf (c_X4_within l G  q4 48 57 q10 h11) (va_cwS 3 hts gX4_token_X4_within rfl rfl rfl (by decide +kernel) ⟨Nat.le_of_ble_eq_true rfl, Nat.le_of_ble_eq_true rfl⟩) rfl hl.1 rfl rfl (Nat.le_of_ble_eq_true rfl) ⟨Nat.zero_le _, Nat.zero_le _⟩ dX4_token_120 (fun H locs hf => ?_)
        refine lv_if_eq (tgt := 191) hx hb dX4_token_123 (by decide) (fun c12 => ?_) (fun c12 => ?_)
        · replace hF := (if_pos c12).symm.trans hF
          refine lv_aload_n hx hb dX4_token_191 rfl (lv_at hl 1 rfl) ?_
          refine lv_iconst (v := 3) hx hb dX4_token_192 (by decide) ?_
          refine g_put (ci := 4) (C := RX4) (T := TX4) (N := 21) (ww' := wM G ad (va_up μ 11 (upd (upd (upd (μ 11) 3 (μ 11 2)) 4 3) 5 0))) S hf hinX4 tyX4 tyX4_ok nmX4 0 rfl rfl 10 (by decide) k234 rfl rfl rfl rfl (Nat.le_of_ble_eq_true rfl) rfl dX4_token_193 (fun H locs hf => ?_)
          refine lv_aload_n hx hb dX4_token_196 rfl (lv_at hl 1 rfl) ?_
          refine lv_dup hx hb dX4_token_197 rfl ?_
          refine g_get (ci := 4) (C := RX4) (T := TX4) (N := 21) (v := .int (μ 11 2)) S hf hinX4 0 rfl rfl 9 (by decide) k222 rfl rfl dX4_token_198 ?_
          refine lv_iconst (v := 1) hx hb dX4_token_201 (by decide) ?_
          refine lv_iadd hx hb dX4_token_202 ?_
          refine g_put (ci := 4) (C := RX4) (T := TX4) (N := 21) (ww' := wM G ad (va_up μ 11 (upd (upd (upd (μ 11) 3 ((μ 11 2) + 1)) 4 3) 5 0))) S hf hinX4 tyX4 tyX4_ok nmX4 0 rfl rfl 9 (by decide) k222 rfl rfl rfl rfl (Nat.le_of_ble_eq_true rfl) rfl dX4_token_203 (fun H locs hf => ?_)
          have hE := Option.some.inj hF
          have hW := congrArg (fun z : K2 => wM G ad z) hE
          exact g_vret S hr hlocks hf hW dX4_token_206
        · replace hF := (if_neg c12).symm.trans hF
          refine lv_aload_n hx hb dX4_token_126 rfl (lv_at hl 1 rfl) ?_
          refine lv_iconst (v := 2) hx hb dX4_token_127 (by decide) ?_
          refine g_put (ci := 4) (C := RX4) (T := TX4) (N := 21) (ww' := wM G ad (va_up μ 11 (upd (upd (upd (μ 11) 3 (μ 11 2)) 4 2) 5 0))) S hf hinX4 tyX4 tyX4_ok nmX4 0 rfl rfl 10 (by decide) k234 rfl rfl rfl rfl (Nat.le_of_ble_eq_true rfl) rfl dX4_token_128 (fun H locs hf => ?_)
          exact hL131 1000 (va_up μ 11 (upd (upd (upd (μ 11) 3 (μ 11 2)) 4 2) 5 0)) _ _ _ hF hf (lv_sub hl [1] rfl)
      · replace hF := (if_neg c9).symm.trans hF
        refine lv_aload_n hx hb dX4_token_79 rfl (lv_at hl 1 rfl) ?_
        refine lv_iconst (v := 1) hx hb dX4_token_80 (by decide) ?_
        refine g_put (ci := 4) (C := RX4) (T := TX4) (N := 21) (ww' := wM G ad (va_up μ 11 (upd (upd (upd (μ 11) 3 (μ 11 2)) 4 1) 5 0))) S hf hinX4 tyX4 tyX4_ok nmX4 0 rfl rfl 10 (by decide) k234 rfl rfl rfl rfl (Nat.le_of_ble_eq_true rfl) rfl dX4_token_81 (fun H locs hf => ?_)
        exact hL84 1000 (va_up μ 11 (upd (upd (upd (μ 11) 3 (μ 11 2)) 4 1) 5 0)) _ _ _ hF hf (lv_sub hl [1] rfl)
    · replace hF := (if_neg c6).symm.trans hF
      refine lv_aload_n hx hb dX4_token_60 rfl (lv_at hl 1 rfl) ?_
      refine lv_iconst (v := 0) hx hb dX4_token_61 (by decide) ?_
      refine g_put (ci := 4) (C := RX4) (T := TX4) (N := 21) (ww' := wM G ad (va_up μ 11 (upd (upd (upd (μ 11) 3 (μ 11 2)) 4 0) 5 0))) S hf hinX4 tyX4 tyX4_ok nmX4 0 rfl rfl 10 (by decide) k234 rfl rfl rfl rfl (Nat.le_of_ble_eq_true rfl) rfl dX4_token_62 (fun H locs hf => ?_)
      refine lv_goto (tgt := 206) hx hb dX4_token_65 (by decide) ?_
      have hE := Option.some.inj hF
      have hW := congrArg (fun z : K2 => wM G ad z) hE
      exact g_vret S hr hlocks hf hW dX4_token_206
  have hL8 : ∀ (n : Nat) (μ : K2)  (H : Heap) (locs : List Loc) (ls : Array Slot), f_X4_token_L8 n μ = some q → Fr G (va_A (wM G ad μ0) s.heap.size) s (wM G ad μ) H locs → lv_has ls 2 [(0, .ref (ad 0))] → W p l e ({ frames := 1, cells := 0, slots := 0, locals := 22 } : Room) s m ([.ref (ad 0)] : List Value).toArray below meth c H locs 0 0 (MQ below (CPost G (wM G ad μ0) s.heap.size (none) (wM G ad q)) ([.ref (ad 0)] : List Value).toArray s 0 0 (va_A (wM G ad μ0) s.heap.size)) (F0 m 8 ls []) := by
    intro n
    induction n with
    | zero =>
      intro μ H locs ls hF hf hl
      exact absurd hF (by simp [f_X4_token_L8])
    | succ n ih8 =>
      intro μ H locs ls hF hf hl
      rw [f_X4_token_L8] at hF
      refine lv_aload_n hx hb dX4_token_8 rfl (lv_at hl 0 rfl) ?_
      refine lv_aload_n hx hb dX4_token_9 rfl (lv_at hl 0 rfl) ?_
      refine g_get (ci := 4) (C := RX4) (T := TX4) (N := 21) (v := .int (μ 11 2)) S hf hinX4 0 rfl rfl 8 (by decide) k225 rfl rfl dX4_token_10 ?_
      obtain ⟨q1, h2, hF⟩ := Option.bind_eq_some_iff.mp hF
      refine g_cv0 (o := some (.int q1)) (As := [.int (μ 11 2)]) (rest := []) (st1 := [.int q1]) (ci := 4) S hf (c_X4_byteAt l G ad μ (μ 11 2) q1 h2) (cwV 1 hts gX4_token_X4_byteAt rfl rfl rfl (by decide +kernel) ⟨Nat.le_of_ble_eq_true rfl, Nat.le_of_ble_eq_true rfl⟩) rfl rfl rfl 0 rfl rfl hl.1 rfl rfl (Nat.le_of_ble_eq_true rfl) ⟨Nat.zero_le _, Nat.zero_le _⟩ dX4_token_13 (fun H locs hf => ?_)
      have hf : Fr G (va_A (wM G ad μ0) s.heap.size) s (wM G ad μ) H locs := hf
      refine lv_bipush (v := 32) hx hb dX4_token_16 (by decide) ?_
      refine lv_icmp_ne (tgt := 34) hx hb dX4_token_18 (by decide) (fun c3 => ?_) (fun c3 => ?_)
      · replace hF := (if_neg c3).symm.trans hF
        exact hL34 μ _ _ _ hF hf (lv_sub hl [0] rfl)
      · replace hF := (if_pos c3).symm.trans hF
        refine lv_aload_n hx hb dX4_token_21 rfl (lv_at hl 0 rfl) ?_
        refine lv_dup hx hb dX4_token_22 rfl ?_
        refine g_get (ci := 4) (C := RX4) (T := TX4) (N := 21) (v := .int (μ 11 2)) S hf hinX4 0 rfl rfl 8 (by decide) k225 rfl rfl dX4_token_23 ?_
        refine lv_iconst (v := 1) hx hb dX4_token_26 (by decide) ?_
        refine lv_iadd hx hb dX4_token_27 ?_
        refine g_put (ci := 4) (C := RX4) (T := TX4) (N := 21) (ww' := wM G ad (va_up μ 11 (upd (μ 11) 2 ((μ 11 2) + 1)))) S hf hinX4 tyX4 tyX4_ok nmX4 0 rfl rfl 8 (by decide) k225 rfl rfl rfl rfl (Nat.le_of_ble_eq_true rfl) rfl dX4_token_28 (fun H locs hf => ?_)
        refine lv_goto (tgt := 8) hx hb dX4_token_31 (by decide) ?_
        exact ih8 (va_up μ 11 (upd (μ 11) 2 ((μ 11 2) + 1))) _ _ _ hF hf (lv_sub hl [0] rfl)
  unfold f_X4_token at hF
  refine lv_aload_n hx hb dX4_token_0 rfl (lv_at hl 0 rfl) ?_
  refine lv_aload_n hx hb dX4_token_1 rfl (lv_at hl 0 rfl) ?_
  refine g_get (ci := 4) (C := RX4) (T := TX4) (N := 21) (v := .int (μ0 11 3)) S hf hinX4 0 rfl rfl 9 (by decide) k222 rfl rfl dX4_token_2 ?_
  refine g_put (ci := 4) (C := RX4) (T := TX4) (N := 21) (ww' := wM G ad (va_up μ0 11 (upd (μ0 11) 2 (μ0 11 3)))) S hf hinX4 tyX4 tyX4_ok nmX4 0 rfl rfl 8 (by decide) k225 rfl rfl rfl rfl (Nat.le_of_ble_eq_true rfl) rfl dX4_token_5 (fun H locs hf => ?_)
  exact hL8 1000 (va_up μ0 11 (upd (μ0 11) 2 (μ0 11 3))) _ _ _ hF hf (lv_sub hl [0] rfl)
def f_X4_isWord_L32 (μ0 : K2) (a1 : Nat) : Nat → Int32 → Int32 → Option (Int32)
  | 0, _, _ => none
  | n + 1, x2, x3 => if (nI (slen a1)) ≤ x3 then (if x2 = 0 ∨ x2 = 1 then some (x2) else none) else (if x2 = 0 then (if x2 = 0 ∨ x2 = 1 then some (x2) else none) else (if ix ((μ0 11 2) + x3) 120 then (if ix x3 (slen a1) then (if ((μ0 5) ((μ0 11 2) + x3).toNatClampNeg) = (sch a1 x3.toNatClampNeg) then (f_X4_isWord_L32 μ0 a1 n 1 (x3 + 1)) else (f_X4_isWord_L32 μ0 a1 n 0 (x3 + 1))) else none) else none))
def f_X4_isWord (μ0 : K2) (a1 : Nat) : Option (Int32) := if (μ0 11 4) = 1 then (if ((μ0 11 3) - (μ0 11 2)) = (nI (slen a1)) then (f_X4_isWord_L32 μ0 a1 1000 1 0) else (f_X4_isWord_L32 μ0 a1 1000 0 0)) else (f_X4_isWord_L32 μ0 a1 1000 0 0)
set_option maxHeartbeats 4000000 in
set_option maxRecDepth 100000 in
theorem c_X4_isWord (l : Launch) (G : GT) (ad : Nat → Nat) (μ0 : K2) (a1 : Nat) (q : Int32) (hF : f_X4_isWord μ0 a1 = some q) (h_a1 : a1 < 15) : Ct l G yX4_isWord wsX4_isWord ({ frames := 4, cells := 0, slots := 0, locals := 85 } : Room) ([.ref (ad 0), .ref (gk G a1)] : List Value) (wM G ad μ0) (some (.int q)) (wM G ad μ0) := by
  have k234 : Cond.fieldLink RX4 234 "PigeonRollsModel" "sort" "I" ∈ wsX4_isWord := by decide +kernel
  have k25 : Cond.fieldLink RX4 25 "PigeonRollsModel" "tape" "[I" ∈ wsX4_isWord := by decide +kernel
  have k225 : Cond.fieldLink RX4 225 "PigeonRollsModel" "begins" "I" ∈ wsX4_isWord := by decide +kernel
  have k222 : Cond.fieldLink RX4 222 "PigeonRollsModel" "ends" "I" ∈ wsX4_isWord := by decide +kernel
  have hinX4 : ∀ w ∈ u_ws RX4 TX4 21, w ∈ wsX4_isWord := by decide +kernel
  refine Ct.of cX4_isWord 4 (some .boolean) (by decide) rfl (Nat.le_of_ble_eq_true rfl) ?_
  intro p e s m below meth c ls S hr hlocks hf hl
  have S : CallFix p m c cX4_isWord 4 s ([.ref (ad 0), .ref (gk G a1)] : List Value).toArray wsX4_isWord RX4 := S
  obtain ⟨hx, hb, hml, hown, hts⟩ := id S
  have hl : lv_has ls 4 [(0, .ref (ad 0)), (1, .ref (gk G a1))] := hl
  have hL32 : ∀ (n : Nat) (x2 : Int32) (x3 : Int32)  (H : Heap) (locs : List Loc) (ls : Array Slot), f_X4_isWord_L32 μ0 a1 n x2 x3 = some q → Fr G (va_A (wM G ad μ0) s.heap.size) s (wM G ad μ0) H locs → lv_has ls 4 [(0, .ref (ad 0)), (1, .ref (gk G a1)), (2, .int x2), (3, .int x3)] → W p l e ({ frames := 4, cells := 0, slots := 0, locals := 85 } : Room) s m ([.ref (ad 0), .ref (gk G a1)] : List Value).toArray below meth c H locs 0 0 (MQ below (CPost G (wM G ad μ0) s.heap.size (some (.int q)) (wM G ad μ0)) ([.ref (ad 0), .ref (gk G a1)] : List Value).toArray s 0 0 (va_A (wM G ad μ0) s.heap.size)) (F0 m 32 ls []) := by
    intro n
    induction n with
    | zero =>
      intro x2 x3 H locs ls hF hf hl
      exact absurd hF (by simp [f_X4_isWord_L32])
    | succ n ih32 =>
      intro x2 x3 H locs ls hF hf hl
      rw [f_X4_isWord_L32] at hF
      refine lv_iload_n hx hb dX4_isWord_32 rfl (lv_at hl 3 rfl) ?_
      refine lv_aload_n hx hb dX4_isWord_33 rfl (lv_at hl 1 rfl) ?_
      refine g_cstr (o := some (.int (nI (slen a1)))) (As := []) (rest := [.int x3]) (st1 := [.int (nI (slen a1)), .int x3]) (w := a1) S hf h_a1 (c_J0_length l G a1 h_a1) (cwV 0 hts gX4_isWord_J0_length_8abf5 rfl rfl rfl (by decide +kernel) ⟨Nat.le_of_ble_eq_true rfl, Nat.le_of_ble_eq_true rfl⟩) rfl hl.1 rfl rfl (Nat.le_of_ble_eq_true rfl) ⟨Nat.zero_le _, Nat.zero_le _⟩ dX4_isWord_34 (fun H locs hf => ?_)
      refine lv_icmp_ge (tgt := 75) hx hb dX4_isWord_37 (by decide) (fun c2 => ?_) (fun c2 => ?_)
      · replace hF := (if_pos c2).symm.trans hF
        refine lv_iload_n hx hb dX4_isWord_75 rfl (lv_at hl 2 rfl) ?_
        obtain ⟨g3, hF⟩ := gd_some hF
        have hE := Option.some.inj hF
        have hV := congrArg (fun z : Int32 => z) hE
        exact g_zret S hr hlocks hf (nz g3) hV rfl dX4_isWord_76
      · replace hF := (if_neg c2).symm.trans hF
        refine lv_iload_n hx hb dX4_isWord_40 rfl (lv_at hl 2 rfl) ?_
        refine lv_if_eq (tgt := 75) hx hb dX4_isWord_41 (by decide) (fun c4 => ?_) (fun c4 => ?_)
        · replace hF := (if_pos c4).symm.trans hF
          refine lv_iload_n hx hb dX4_isWord_75 rfl (lv_at hl 2 rfl) ?_
          obtain ⟨g5, hF⟩ := gd_some hF
          have hE := Option.some.inj hF
          have hV := congrArg (fun z : Int32 => z) hE
          exact g_zret S hr hlocks hf (nz g5) hV rfl dX4_isWord_76
        · replace hF := (if_neg c4).symm.trans hF
          refine lv_aload_n hx hb dX4_isWord_44 rfl (lv_at hl 0 rfl) ?_
          refine g_get (ci := 4) (C := RX4) (T := TX4) (N := 21) (v := .ref (ad 6)) S hf hinX4 0 rfl rfl 6 (by decide) k25 rfl rfl dX4_isWord_45 ?_
          refine lv_aload_n hx hb dX4_isWord_48 rfl (lv_at hl 0 rfl) ?_
          refine g_get (ci := 4) (C := RX4) (T := TX4) (N := 21) (v := .int (μ0 11 2)) S hf hinX4 0 rfl rfl 8 (by decide) k225 rfl rfl dX4_isWord_49 ?_
          refine lv_iload_n hx hb dX4_isWord_52 rfl (lv_at hl 3 rfl) ?_
          refine lv_iadd hx hb dX4_isWord_53 ?_
          obtain ⟨g6, hF⟩ := gd_some hF
          refine g_ald (v := (μ0 5) ((μ0 11 2) + x3).toNatClampNeg) S hf 6 rfl g6 rfl dX4_isWord_54 ?_
          refine lv_aload_n hx hb dX4_isWord_55 rfl (lv_at hl 1 rfl) ?_
          refine lv_iload_n hx hb dX4_isWord_56 rfl (lv_at hl 3 rfl) ?_
          obtain ⟨g7, hF⟩ := gd_some hF
          refine g_cstr (o := some (.int (sch a1 x3.toNatClampNeg))) (As := [.int x3]) (rest := [.int ((μ0 5) ((μ0 11 2) + x3).toNatClampNeg)]) (st1 := [.int (sch a1 x3.toNatClampNeg), .int ((μ0 5) ((μ0 11 2) + x3).toNatClampNeg)]) (w := a1) S hf h_a1 (c_J0_charAt l G a1 h_a1 x3 g7) (cwV 1 hts gX4_isWord_J0_charAt_5068e rfl rfl rfl (by decide +kernel) ⟨Nat.le_of_ble_eq_true rfl, Nat.le_of_ble_eq_true rfl⟩) rfl hl.1 rfl rfl (Nat.le_of_ble_eq_true rfl) ⟨Nat.zero_le _, Nat.zero_le _⟩ dX4_isWord_57 (fun H locs hf => ?_)
          refine lv_icmp_ne (tgt := 67) hx hb dX4_isWord_60 (by decide) (fun c8 => ?_) (fun c8 => ?_)
          · replace hF := (if_neg c8).symm.trans hF
            refine lv_iconst (v := 0) hx hb dX4_isWord_67 (by decide) ?_
            refine lv_istore_n (lv' := [(2, .int 0), (0, .ref (ad 0)), (1, .ref (gk G a1)), (3, .int x3)]) hx hb dX4_isWord_68 rfl hl (by decide) rfl (fun ls hl => ?_)
            refine lv_iinc (v := x3 + 1) (lv' := [(3, .int (x3 + 1)), (2, .int 0), (0, .ref (ad 0)), (1, .ref (gk G a1))]) hx hb dX4_isWord_69 hl (k := 3) rfl rfl (by decide) rfl (fun ls hl => ?_)
            refine lv_goto (tgt := 32) hx hb dX4_isWord_72 (by decide) ?_
            exact ih32 0 (x3 + 1) _ _ _ hF hf (lv_sub hl [2, 3, 1, 0] rfl)
          · replace hF := (if_pos c8).symm.trans hF
            refine lv_iconst (v := 1) hx hb dX4_isWord_63 (by decide) ?_
            refine lv_goto (tgt := 68) hx hb dX4_isWord_64 (by decide) ?_
            refine lv_istore_n (lv' := [(2, .int 1), (0, .ref (ad 0)), (1, .ref (gk G a1)), (3, .int x3)]) hx hb dX4_isWord_68 rfl hl (by decide) rfl (fun ls hl => ?_)
            refine lv_iinc (v := x3 + 1) (lv' := [(3, .int (x3 + 1)), (2, .int 1), (0, .ref (ad 0)), (1, .ref (gk G a1))]) hx hb dX4_isWord_69 hl (k := 3) rfl rfl (by decide) rfl (fun ls hl => ?_)
            refine lv_goto (tgt := 32) hx hb dX4_isWord_72 (by decide) ?_
            exact ih32 1 (x3 + 1) _ _ _ hF hf (lv_sub hl [2, 3, 1, 0] rfl)
  unfold f_X4_isWord at hF
  refine lv_aload_n hx hb dX4_isWord_0 rfl (lv_at hl 0 rfl) ?_
  refine g_get (ci := 4) (C := RX4) (T := TX4) (N := 21) (v := .int (μ0 11 4)) S hf hinX4 0 rfl rfl 10 (by decide) k234 rfl rfl dX4_isWord_1 ?_
  refine lv_iconst (v := 1) hx hb dX4_isWord_4 (by decide) ?_
  refine lv_icmp_ne (tgt := 28) hx hb dX4_isWord_5 (by decide) (fun c1 => ?_) (fun c1 => ?_)
  · replace hF := (if_neg c1).symm.trans hF
    refine lv_iconst (v := 0) hx hb dX4_isWord_28 (by decide) ?_
    refine lv_istore_n (lv' := [(2, .int 0), (0, .ref (ad 0)), (1, .ref (gk G a1))]) hx hb dX4_isWord_29 rfl hl (by decide) rfl (fun ls hl => ?_)
    refine lv_iconst (v := 0) hx hb dX4_isWord_30 (by decide) ?_
    refine lv_istore_n (lv' := [(3, .int 0), (2, .int 0), (0, .ref (ad 0)), (1, .ref (gk G a1))]) hx hb dX4_isWord_31 rfl hl (by decide) rfl (fun ls hl => ?_)
    exact hL32 1000 0 0 _ _ _ hF hf (lv_sub hl [2, 3, 1, 0] rfl)
  · replace hF := (if_pos c1).symm.trans hF
    refine lv_aload_n hx hb dX4_isWord_8 rfl (lv_at hl 0 rfl) ?_
    refine g_get (ci := 4) (C := RX4) (T := TX4) (N := 21) (v := .int (μ0 11 3)) S hf hinX4 0 rfl rfl 9 (by decide) k222 rfl rfl dX4_isWord_9 ?_
    refine lv_aload_n hx hb dX4_isWord_12 rfl (lv_at hl 0 rfl) ?_
    refine g_get (ci := 4) (C := RX4) (T := TX4) (N := 21) (v := .int (μ0 11 2)) S hf hinX4 0 rfl rfl 8 (by decide) k225 rfl rfl dX4_isWord_13 ?_
    refine lv_isub hx hb dX4_isWord_16 ?_
    refine lv_aload_n hx hb dX4_isWord_17 rfl (lv_at hl 1 rfl) ?_
    refine g_cstr (o := some (.int (nI (slen a1)))) (As := []) (rest := [.int ((μ0 11 3) - (μ0 11 2))]) (st1 := [.int (nI (slen a1)), .int ((μ0 11 3) - (μ0 11 2))]) (w := a1) S hf h_a1 (c_J0_length l G a1 h_a1) (cwV 0 hts gX4_isWord_J0_length_8abf5 rfl rfl rfl (by decide +kernel) ⟨Nat.le_of_ble_eq_true rfl, Nat.le_of_ble_eq_true rfl⟩) rfl hl.1 rfl rfl (Nat.le_of_ble_eq_true rfl) ⟨Nat.zero_le _, Nat.zero_le _⟩ dX4_isWord_18 (fun H locs hf => ?_)
    refine lv_icmp_ne (tgt := 28) hx hb dX4_isWord_21 (by decide) (fun c9 => ?_) (fun c9 => ?_)
    · replace hF := (if_neg c9).symm.trans hF
      refine lv_iconst (v := 0) hx hb dX4_isWord_28 (by decide) ?_
      refine lv_istore_n (lv' := [(2, .int 0), (0, .ref (ad 0)), (1, .ref (gk G a1))]) hx hb dX4_isWord_29 rfl hl (by decide) rfl (fun ls hl => ?_)
      refine lv_iconst (v := 0) hx hb dX4_isWord_30 (by decide) ?_
      refine lv_istore_n (lv' := [(3, .int 0), (2, .int 0), (0, .ref (ad 0)), (1, .ref (gk G a1))]) hx hb dX4_isWord_31 rfl hl (by decide) rfl (fun ls hl => ?_)
      exact hL32 1000 0 0 _ _ _ hF hf (lv_sub hl [2, 3, 1, 0] rfl)
    · replace hF := (if_pos c9).symm.trans hF
      refine lv_iconst (v := 1) hx hb dX4_isWord_24 (by decide) ?_
      refine lv_goto (tgt := 29) hx hb dX4_isWord_25 (by decide) ?_
      refine lv_istore_n (lv' := [(2, .int 1), (0, .ref (ad 0)), (1, .ref (gk G a1))]) hx hb dX4_isWord_29 rfl hl (by decide) rfl (fun ls hl => ?_)
      refine lv_iconst (v := 0) hx hb dX4_isWord_30 (by decide) ?_
      refine lv_istore_n (lv' := [(3, .int 0), (2, .int 1), (0, .ref (ad 0)), (1, .ref (gk G a1))]) hx hb dX4_isWord_31 rfl hl (by decide) rfl (fun ls hl => ?_)
      exact hL32 1000 1 0 _ _ _ hF hf (lv_sub hl [2, 3, 1, 0] rfl)
def f_X4_must (μ0 : K2) (a1 : Int32) : Option (K2) := if (μ0 11 6) = 0 then (if a1 = 0 then (some (va_up μ0 11 (upd (μ0 11) 6 1))) else (Option.bind (f_X4_token (va_up μ0 11 (upd (μ0 11) 6 0))) (fun q3 => some (q3)))) else (some (va_up μ0 11 (upd (μ0 11) 6 1)))
set_option maxHeartbeats 4000000 in
set_option maxRecDepth 100000 in
theorem c_X4_must (l : Launch) (G : GT) (ad : Nat → Nat) (μ0 : K2) (a1 : Int32) (q : K2) (hF : f_X4_must μ0 a1 = some q) : Ct l G yX4_must wsX4_must ({ frames := 2, cells := 0, slots := 0, locals := 43 } : Room) ([.ref (ad 0), .int a1] : List Value) (wM G ad μ0) (none) (wM G ad q) := by
  have k244 : Cond.fieldLink RX4 244 "PigeonRollsModel" "isWrong" "Z" ∈ wsX4_must := by decide +kernel
  have hinX4 : ∀ w ∈ u_ws RX4 TX4 21, w ∈ wsX4_must := by decide +kernel
  refine Ct.of cX4_must 2 none (by decide) rfl (Nat.le_of_ble_eq_true rfl) ?_
  intro p e s m below meth c ls S hr hlocks hf hl
  have S : CallFix p m c cX4_must 2 s ([.ref (ad 0), .int a1] : List Value).toArray wsX4_must RX4 := S
  obtain ⟨hx, hb, hml, hown, hts⟩ := id S
  have hl : lv_has ls 2 [(0, .ref (ad 0)), (1, .int a1)] := hl
  unfold f_X4_must at hF
  refine lv_aload_n hx hb dX4_must_0 rfl (lv_at hl 0 rfl) ?_
  refine lv_aload_n hx hb dX4_must_1 rfl (lv_at hl 0 rfl) ?_
  refine g_get (ci := 4) (C := RX4) (T := TX4) (N := 21) (v := .int (μ0 11 6)) S hf hinX4 0 rfl rfl 12 (by decide) k244 rfl rfl dX4_must_2 ?_
  refine lv_if_ne (tgt := 12) hx hb dX4_must_5 (by decide) (fun c1 => ?_) (fun c1 => ?_)
  · replace hF := (if_neg c1).symm.trans hF
    refine lv_iconst (v := 1) hx hb dX4_must_12 (by decide) ?_
    refine lv_goto (tgt := 17) hx hb dX4_must_13 (by decide) ?_
    refine g_put (ci := 4) (C := RX4) (T := TX4) (N := 21) (ww' := wM G ad (va_up μ0 11 (upd (μ0 11) 6 1))) S hf hinX4 tyX4 tyX4_ok nmX4 0 rfl rfl 12 (by decide) k244 rfl rfl (by decide) (by decide) (Nat.le_of_ble_eq_true rfl) rfl dX4_must_17 (fun H locs hf => ?_)
    refine lv_aload_n hx hb dX4_must_20 rfl (lv_at hl 0 rfl) ?_
    refine g_get (ci := 4) (C := RX4) (T := TX4) (N := 21) (v := .int 1) S hf hinX4 0 rfl rfl 12 (by decide) k244 rfl rfl dX4_must_21 ?_
    refine lv_if_ne (tgt := 31) hx hb dX4_must_24 (by decide) (fun c => ?_) (fun c => absurd c (by decide))
    have hE := Option.some.inj hF
    have hW := congrArg (fun z : K2 => wM G ad z) hE
    exact g_vret S hr hlocks hf hW dX4_must_31
  · replace hF := (if_pos c1).symm.trans hF
    refine lv_iload_n hx hb dX4_must_8 rfl (lv_at hl 1 rfl) ?_
    refine lv_if_ne (tgt := 16) hx hb dX4_must_9 (by decide) (fun c2 => ?_) (fun c2 => ?_)
    · replace hF := (if_neg c2).symm.trans hF
      refine lv_iconst (v := 0) hx hb dX4_must_16 (by decide) ?_
      refine g_put (ci := 4) (C := RX4) (T := TX4) (N := 21) (ww' := wM G ad (va_up μ0 11 (upd (μ0 11) 6 0))) S hf hinX4 tyX4 tyX4_ok nmX4 0 rfl rfl 12 (by decide) k244 rfl rfl (by decide) (by decide) (Nat.le_of_ble_eq_true rfl) rfl dX4_must_17 (fun H locs hf => ?_)
      refine lv_aload_n hx hb dX4_must_20 rfl (lv_at hl 0 rfl) ?_
      refine g_get (ci := 4) (C := RX4) (T := TX4) (N := 21) (v := .int 0) S hf hinX4 0 rfl rfl 12 (by decide) k244 rfl rfl dX4_must_21 ?_
      refine lv_if_ne (tgt := 31) hx hb dX4_must_24 (by decide) (fun c => absurd c (by decide)) (fun c => ?_)
      refine lv_aload_n hx hb dX4_must_27 rfl (lv_at hl 0 rfl) ?_
      obtain ⟨q3, h4, hF⟩ := Option.bind_eq_some_iff.mp hF
      refine g_cv0 (o := none) (As := []) (rest := []) (st1 := []) (ci := 4) S hf (c_X4_token l G ad (va_up μ0 11 (upd (μ0 11) 6 0)) q3 h4) (cwV 0 hts gX4_must_X4_token rfl rfl rfl (by decide +kernel) ⟨Nat.le_of_ble_eq_true rfl, Nat.le_of_ble_eq_true rfl⟩) rfl rfl rfl 0 rfl rfl hl.1 rfl rfl (Nat.le_of_ble_eq_true rfl) ⟨Nat.zero_le _, Nat.zero_le _⟩ dX4_must_28 (fun H locs hf => ?_)
      have hf : Fr G (va_A (wM G ad μ0) s.heap.size) s (wM G ad q3) H locs := hf
      have hE := Option.some.inj hF
      have hW := congrArg (fun z : K2 => wM G ad z) hE
      exact g_vret S hr hlocks hf hW dX4_must_31
    · replace hF := (if_pos c2).symm.trans hF
      refine lv_iconst (v := 1) hx hb dX4_must_12 (by decide) ?_
      refine lv_goto (tgt := 17) hx hb dX4_must_13 (by decide) ?_
      refine g_put (ci := 4) (C := RX4) (T := TX4) (N := 21) (ww' := wM G ad (va_up μ0 11 (upd (μ0 11) 6 1))) S hf hinX4 tyX4 tyX4_ok nmX4 0 rfl rfl 12 (by decide) k244 rfl rfl (by decide) (by decide) (Nat.le_of_ble_eq_true rfl) rfl dX4_must_17 (fun H locs hf => ?_)
      refine lv_aload_n hx hb dX4_must_20 rfl (lv_at hl 0 rfl) ?_
      refine g_get (ci := 4) (C := RX4) (T := TX4) (N := 21) (v := .int 1) S hf hinX4 0 rfl rfl 12 (by decide) k244 rfl rfl dX4_must_21 ?_
      refine lv_if_ne (tgt := 31) hx hb dX4_must_24 (by decide) (fun c => ?_) (fun c => absurd c (by decide))
      have hE := Option.some.inj hF
      have hW := congrArg (fun z : K2 => wM G ad z) hE
      exact g_vret S hr hlocks hf hW dX4_must_31
def f_X4_number (μ0 : K2) (a1 : Int32) (a2 : Int32) : Option (Int32 × K2) := if (μ0 11 4) = 2 then (Option.bind (f_X4_within (μ0 11 5) a1 a2) (fun q4 => if q4 = 0 then (Option.bind (f_X4_must μ0 0) (fun q7 => some (μ0 11 5, q7))) else (Option.bind (f_X4_must μ0 1) (fun q9 => some (μ0 11 5, q9))))) else (Option.bind (f_X4_must μ0 0) (fun q2 => some (μ0 11 5, q2)))
set_option maxHeartbeats 4000000 in
set_option maxRecDepth 100000 in
theorem c_X4_number (l : Launch) (G : GT) (ad : Nat → Nat) (μ0 : K2) (a1 : Int32) (a2 : Int32) (q : Int32 × K2) (hF : f_X4_number μ0 a1 a2 = some q) : Ct l G yX4_number wsX4_number ({ frames := 3, cells := 0, slots := 0, locals := 64 } : Room) ([.ref (ad 0), .int a1, .int a2] : List Value) (wM G ad μ0) (some (.int q.1)) (wM G ad q.2) := by
  have k231 : Cond.fieldLink RX4 231 "PigeonRollsModel" "value" "I" ∈ wsX4_number := by decide +kernel
  have k234 : Cond.fieldLink RX4 234 "PigeonRollsModel" "sort" "I" ∈ wsX4_number := by decide +kernel
  have hinX4 : ∀ w ∈ u_ws RX4 TX4 21, w ∈ wsX4_number := by decide +kernel
  refine Ct.of cX4_number 4 (some .int) (by decide) rfl (Nat.le_of_ble_eq_true rfl) ?_
  intro p e s m below meth c ls S hr hlocks hf hl
  have S : CallFix p m c cX4_number 4 s ([.ref (ad 0), .int a1, .int a2] : List Value).toArray wsX4_number RX4 := S
  obtain ⟨hx, hb, hml, hown, hts⟩ := id S
  have hl : lv_has ls 4 [(0, .ref (ad 0)), (1, .int a1), (2, .int a2)] := hl
  unfold f_X4_number at hF
  refine lv_aload_n hx hb dX4_number_0 rfl (lv_at hl 0 rfl) ?_
  refine g_get (ci := 4) (C := RX4) (T := TX4) (N := 21) (v := .int (μ0 11 5)) S hf hinX4 0 rfl rfl 11 (by decide) k231 rfl rfl dX4_number_1 ?_
  refine lv_istore_n (lv' := [(3, .int (μ0 11 5)), (0, .ref (ad 0)), (1, .int a1), (2, .int a2)]) hx hb dX4_number_4 rfl hl (by decide) rfl (fun ls hl => ?_)
  refine lv_aload_n hx hb dX4_number_5 rfl (lv_at hl 1 rfl) ?_
  refine lv_aload_n hx hb dX4_number_6 rfl (lv_at hl 1 rfl) ?_
  refine g_get (ci := 4) (C := RX4) (T := TX4) (N := 21) (v := .int (μ0 11 4)) S hf hinX4 0 rfl rfl 10 (by decide) k234 rfl rfl dX4_number_7 ?_
  refine lv_iconst (v := 2) hx hb dX4_number_10 (by decide) ?_
  refine lv_icmp_ne (tgt := 27) hx hb dX4_number_11 (by decide) (fun c1 => ?_) (fun c1 => ?_)
  · replace hF := (if_neg c1).symm.trans hF
    refine lv_iconst (v := 0) hx hb dX4_number_27 (by decide) ?_
    obtain ⟨q2, h3, hF⟩ := Option.bind_eq_some_iff.mp hF
    refine g_cv0 (o := none) (As := [.int 0]) (rest := []) (st1 := []) (ci := 4) S hf (c_X4_must l G ad μ0 0 q2 h3) (cwV 1 hts gX4_number_X4_must rfl rfl rfl (by decide +kernel) ⟨Nat.le_of_ble_eq_true rfl, Nat.le_of_ble_eq_true rfl⟩) rfl rfl rfl 0 rfl rfl hl.1 rfl rfl (Nat.le_of_ble_eq_true rfl) ⟨Nat.zero_le _, Nat.zero_le _⟩ dX4_number_28 (fun H locs hf => ?_)
    have hf : Fr G (va_A (wM G ad μ0) s.heap.size) s (wM G ad q2) H locs := hf
    refine lv_iload_n hx hb dX4_number_31 rfl (lv_at hl 0 rfl) ?_
    have hE := Option.some.inj hF
    have hV := congrArg (fun z : Int32 × K2 => z.1) hE
    have hW := congrArg (fun z : Int32 × K2 => wM G ad z.2) hE
    exact g_iret S hr hlocks hf hV hW dX4_number_32
  · replace hF := (if_pos c1).symm.trans hF
    refine lv_iload_n hx hb dX4_number_14 rfl (lv_at hl 0 rfl) ?_
    refine lv_iload_n hx hb dX4_number_15 rfl (lv_at hl 2 rfl) ?_
    refine lv_iload_n hx hb dX4_number_16 rfl (lv_at hl 3 rfl) ?_
    obtain ⟨q4, h5, hF⟩ := Option.bind_eq_some_iff.mp hF
    refine g_cs0 (o := some (.int q4)) (As := [.int (μ0 11 5), .int a1, .int a2]) (rest := [.ref (ad 0)]) (st1 := [.int q4, .ref (ad 0)]) S hf (c_X4_within l G  (μ0 11 5) a1 a2 q4 h5) (va_cwS 3 hts gX4_number_X4_within rfl rfl rfl (by decide +kernel) ⟨Nat.le_of_ble_eq_true rfl, Nat.le_of_ble_eq_true rfl⟩) rfl hl.1 rfl rfl (Nat.le_of_ble_eq_true rfl) ⟨Nat.zero_le _, Nat.zero_le _⟩ dX4_number_17 (fun H locs hf => ?_)
    refine lv_if_eq (tgt := 27) hx hb dX4_number_20 (by decide) (fun c6 => ?_) (fun c6 => ?_)
    · replace hF := (if_pos c6).symm.trans hF
      refine lv_iconst (v := 0) hx hb dX4_number_27 (by decide) ?_
      obtain ⟨q7, h8, hF⟩ := Option.bind_eq_some_iff.mp hF
      refine g_cv0 (o := none) (As := [.int 0]) (rest := []) (st1 := []) (ci := 4) S hf (c_X4_must l G ad μ0 0 q7 h8) (cwV 1 hts gX4_number_X4_must rfl rfl rfl (by decide +kernel) ⟨Nat.le_of_ble_eq_true rfl, Nat.le_of_ble_eq_true rfl⟩) rfl rfl rfl 0 rfl rfl hl.1 rfl rfl (Nat.le_of_ble_eq_true rfl) ⟨Nat.zero_le _, Nat.zero_le _⟩ dX4_number_28 (fun H locs hf => ?_)
      have hf : Fr G (va_A (wM G ad μ0) s.heap.size) s (wM G ad q7) H locs := hf
      refine lv_iload_n hx hb dX4_number_31 rfl (lv_at hl 0 rfl) ?_
      have hE := Option.some.inj hF
      have hV := congrArg (fun z : Int32 × K2 => z.1) hE
      have hW := congrArg (fun z : Int32 × K2 => wM G ad z.2) hE
      exact g_iret S hr hlocks hf hV hW dX4_number_32
    · replace hF := (if_neg c6).symm.trans hF
      refine lv_iconst (v := 1) hx hb dX4_number_23 (by decide) ?_
      refine lv_goto (tgt := 28) hx hb dX4_number_24 (by decide) ?_
      obtain ⟨q9, h10, hF⟩ := Option.bind_eq_some_iff.mp hF
      refine g_cv0 (o := none) (As := [.int 1]) (rest := []) (st1 := []) (ci := 4) S hf (c_X4_must l G ad μ0 1 q9 h10) (cwV 1 hts gX4_number_X4_must rfl rfl rfl (by decide +kernel) ⟨Nat.le_of_ble_eq_true rfl, Nat.le_of_ble_eq_true rfl⟩) rfl rfl rfl 0 rfl rfl hl.1 rfl rfl (Nat.le_of_ble_eq_true rfl) ⟨Nat.zero_le _, Nat.zero_le _⟩ dX4_number_28 (fun H locs hf => ?_)
      have hf : Fr G (va_A (wM G ad μ0) s.heap.size) s (wM G ad q9) H locs := hf
      refine lv_iload_n hx hb dX4_number_31 rfl (lv_at hl 0 rfl) ?_
      have hE := Option.some.inj hF
      have hV := congrArg (fun z : Int32 × K2 => z.1) hE
      have hW := congrArg (fun z : Int32 × K2 => wM G ad z.2) hE
      exact g_iret S hr hlocks hf hV hW dX4_number_32
def f_X4_addItem (μ0 : K2) (a1 : Int32) (a2 : Int32) (a3 : Int32) (a4 : Int32) (a5 : Int32) (a6 : Int32) : Option (K2) := if ix (6 * (μ0 11 7)) 720 then (if ix ((6 * (μ0 11 7)) + 1) 720 then (if ix ((6 * (μ0 11 7)) + 2) 720 then (if ix ((6 * (μ0 11 7)) + 3) 720 then (if ix ((6 * (μ0 11 7)) + 4) 720 then (if ix ((6 * (μ0 11 7)) + 5) 720 then (some (va_up (va_up μ0 6 (upd (upd (upd (upd (upd (upd (μ0 6) ((6 * (μ0 11 7)).toNatClampNeg) a1) (((6 * (μ0 11 7)) + 1).toNatClampNeg) a2) (((6 * (μ0 11 7)) + 2).toNatClampNeg) a3) (((6 * (μ0 11 7)) + 3).toNatClampNeg) a4) (((6 * (μ0 11 7)) + 4).toNatClampNeg) a5) (((6 * (μ0 11 7)) + 5).toNatClampNeg) a6)) 11 (upd (μ0 11) 7 ((μ0 11 7) + 1)))) else none) else none) else none) else none) else none) else none
set_option maxHeartbeats 4000000 in
set_option maxRecDepth 100000 in
theorem c_X4_addItem (l : Launch) (G : GT) (ad : Nat → Nat) (μ0 : K2) (a1 : Int32) (a2 : Int32) (a3 : Int32) (a4 : Int32) (a5 : Int32) (a6 : Int32) (q : K2) (hF : f_X4_addItem μ0 a1 a2 a3 a4 a5 a6 = some q) : Ct l G yX4_addItem wsX4_addItem ({ frames := 0, cells := 0, slots := 0, locals := 0 } : Room) ([.ref (ad 0), .int a1, .int a2, .int a3, .int a4, .int a5, .int a6] : List Value) (wM G ad μ0) (none) (wM G ad q) := by
  have k255 : Cond.fieldLink RX4 255 "PigeonRollsModel" "itemMany" "I" ∈ wsX4_addItem := by decide +kernel
  have k48 : Cond.fieldLink RX4 48 "PigeonRollsModel" "items" "[I" ∈ wsX4_addItem := by decide +kernel
  have hinX4 : ∀ w ∈ u_ws RX4 TX4 21, w ∈ wsX4_addItem := by decide +kernel
  refine Ct.of cX4_addItem 8 none (by decide) rfl (Nat.le_of_ble_eq_true rfl) ?_
  intro p e s m below meth c ls S hr hlocks hf hl
  have S : CallFix p m c cX4_addItem 8 s ([.ref (ad 0), .int a1, .int a2, .int a3, .int a4, .int a5, .int a6] : List Value).toArray wsX4_addItem RX4 := S
  obtain ⟨hx, hb, hml, hown, hts⟩ := id S
  have hl : lv_has ls 8 [(0, .ref (ad 0)), (1, .int a1), (2, .int a2), (3, .int a3), (4, .int a4), (5, .int a5), (6, .int a6)] := hl
  unfold f_X4_addItem at hF
  refine lv_bipush (v := 6) hx hb dX4_addItem_0 (by decide) ?_
  refine lv_aload_n hx hb dX4_addItem_2 rfl (lv_at hl 0 rfl) ?_
  refine g_get (ci := 4) (C := RX4) (T := TX4) (N := 21) (v := .int (μ0 11 7)) S hf hinX4 0 rfl rfl 15 (by decide) k255 rfl rfl dX4_addItem_3 ?_
  refine lv_imul hx hb dX4_addItem_6 ?_
  refine lv_istore (lv' := [(7, .int (6 * (μ0 11 7))), (0, .ref (ad 0)), (1, .int a1), (2, .int a2), (3, .int a3), (4, .int a4), (5, .int a5), (6, .int a6)]) hx hb dX4_addItem_7 hl (by decide) rfl (fun ls hl => ?_)
  refine lv_aload_n hx hb dX4_addItem_9 rfl (lv_at hl 1 rfl) ?_
  refine g_get (ci := 4) (C := RX4) (T := TX4) (N := 21) (v := .ref (ad 7)) S hf hinX4 0 rfl rfl 14 (by decide) k48 rfl rfl dX4_addItem_10 ?_
  refine lv_iload hx hb dX4_addItem_13 (lv_at hl 0 rfl) ?_
  refine lv_iload_n hx hb dX4_addItem_15 rfl (lv_at hl 2 rfl) ?_
  obtain ⟨g1, hF⟩ := gd_some hF
  refine g_ast (ww' := wM G ad (va_up μ0 6 (upd (μ0 6) ((6 * (μ0 11 7)).toNatClampNeg) a1))) S hf 7 rfl g1 rfl dX4_addItem_16 (fun H locs hf => ?_)
  refine lv_aload_n hx hb dX4_addItem_17 rfl (lv_at hl 1 rfl) ?_
  refine g_get (ci := 4) (C := RX4) (T := TX4) (N := 21) (v := .ref (ad 7)) S hf hinX4 0 rfl rfl 14 (by decide) k48 rfl rfl dX4_addItem_18 ?_
  refine lv_iload hx hb dX4_addItem_21 (lv_at hl 0 rfl) ?_
  refine lv_iconst (v := 1) hx hb dX4_addItem_23 (by decide) ?_
  refine lv_iadd hx hb dX4_addItem_24 ?_
  refine lv_iload_n hx hb dX4_addItem_25 rfl (lv_at hl 3 rfl) ?_
  obtain ⟨g2, hF⟩ := gd_some hF
  refine g_ast (f := upd (μ0 6) ((6 * (μ0 11 7)).toNatClampNeg) a1) (ww' := wM G ad (va_up μ0 6 (upd (upd (μ0 6) ((6 * (μ0 11 7)).toNatClampNeg) a1) (((6 * (μ0 11 7)) + 1).toNatClampNeg) a2))) S hf 7 rfl g2 wM_u6 dX4_addItem_26 (fun H locs hf => ?_)
  refine lv_aload_n hx hb dX4_addItem_27 rfl (lv_at hl 1 rfl) ?_
  refine g_get (ci := 4) (C := RX4) (T := TX4) (N := 21) (v := .ref (ad 7)) S hf hinX4 0 rfl rfl 14 (by decide) k48 rfl rfl dX4_addItem_28 ?_
  refine lv_iload hx hb dX4_addItem_31 (lv_at hl 0 rfl) ?_
  refine lv_iconst (v := 2) hx hb dX4_addItem_33 (by decide) ?_
  refine lv_iadd hx hb dX4_addItem_34 ?_
  refine lv_iload_n hx hb dX4_addItem_35 rfl (lv_at hl 4 rfl) ?_
  obtain ⟨g3, hF⟩ := gd_some hF
  refine g_ast (f := upd (upd (μ0 6) ((6 * (μ0 11 7)).toNatClampNeg) a1) (((6 * (μ0 11 7)) + 1).toNatClampNeg) a2) (ww' := wM G ad (va_up μ0 6 (upd (upd (upd (μ0 6) ((6 * (μ0 11 7)).toNatClampNeg) a1) (((6 * (μ0 11 7)) + 1).toNatClampNeg) a2) (((6 * (μ0 11 7)) + 2).toNatClampNeg) a3))) S hf 7 rfl g3 wM_u6 dX4_addItem_36 (fun H locs hf => ?_)
  refine lv_aload_n hx hb dX4_addItem_37 rfl (lv_at hl 1 rfl) ?_
  refine g_get (ci := 4) (C := RX4) (T := TX4) (N := 21) (v := .ref (ad 7)) S hf hinX4 0 rfl rfl 14 (by decide) k48 rfl rfl dX4_addItem_38 ?_
  refine lv_iload hx hb dX4_addItem_41 (lv_at hl 0 rfl) ?_
  refine lv_iconst (v := 3) hx hb dX4_addItem_43 (by decide) ?_
  refine lv_iadd hx hb dX4_addItem_44 ?_
  refine lv_iload hx hb dX4_addItem_45 (lv_at hl 5 rfl) ?_
  obtain ⟨g4, hF⟩ := gd_some hF
  refine g_ast (f := upd (upd (upd (μ0 6) ((6 * (μ0 11 7)).toNatClampNeg) a1) (((6 * (μ0 11 7)) + 1).toNatClampNeg) a2) (((6 * (μ0 11 7)) + 2).toNatClampNeg) a3) (ww' := wM G ad (va_up μ0 6 (upd (upd (upd (upd (μ0 6) ((6 * (μ0 11 7)).toNatClampNeg) a1) (((6 * (μ0 11 7)) + 1).toNatClampNeg) a2) (((6 * (μ0 11 7)) + 2).toNatClampNeg) a3) (((6 * (μ0 11 7)) + 3).toNatClampNeg) a4))) S hf 7 rfl g4 wM_u6 dX4_addItem_47 (fun H locs hf => ?_)
  refine lv_aload_n hx hb dX4_addItem_48 rfl (lv_at hl 1 rfl) ?_
  refine g_get (ci := 4) (C := RX4) (T := TX4) (N := 21) (v := .ref (ad 7)) S hf hinX4 0 rfl rfl 14 (by decide) k48 rfl rfl dX4_addItem_49 ?_
  refine lv_iload hx hb dX4_addItem_52 (lv_at hl 0 rfl) ?_
  refine lv_iconst (v := 4) hx hb dX4_addItem_54 (by decide) ?_
  refine lv_iadd hx hb dX4_addItem_55 ?_
  refine lv_iload hx hb dX4_addItem_56 (lv_at hl 6 rfl) ?_
  obtain ⟨g5, hF⟩ := gd_some hF
  refine g_ast (f := upd (upd (upd (upd (μ0 6) ((6 * (μ0 11 7)).toNatClampNeg) a1) (((6 * (μ0 11 7)) + 1).toNatClampNeg) a2) (((6 * (μ0 11 7)) + 2).toNatClampNeg) a3) (((6 * (μ0 11 7)) + 3).toNatClampNeg) a4) (ww' := wM G ad (va_up μ0 6 (upd (upd (upd (upd (upd (μ0 6) ((6 * (μ0 11 7)).toNatClampNeg) a1) (((6 * (μ0 11 7)) + 1).toNatClampNeg) a2) (((6 * (μ0 11 7)) + 2).toNatClampNeg) a3) (((6 * (μ0 11 7)) + 3).toNatClampNeg) a4) (((6 * (μ0 11 7)) + 4).toNatClampNeg) a5))) S hf 7 rfl g5 wM_u6 dX4_addItem_58 (fun H locs hf => ?_)
  refine lv_aload_n hx hb dX4_addItem_59 rfl (lv_at hl 1 rfl) ?_
  refine g_get (ci := 4) (C := RX4) (T := TX4) (N := 21) (v := .ref (ad 7)) S hf hinX4 0 rfl rfl 14 (by decide) k48 rfl rfl dX4_addItem_60 ?_
  refine lv_iload hx hb dX4_addItem_63 (lv_at hl 0 rfl) ?_
  refine lv_iconst (v := 5) hx hb dX4_addItem_65 (by decide) ?_
  refine lv_iadd hx hb dX4_addItem_66 ?_
  refine lv_iload hx hb dX4_addItem_67 (lv_at hl 7 rfl) ?_
  obtain ⟨g6, hF⟩ := gd_some hF
  refine g_ast (f := upd (upd (upd (upd (upd (μ0 6) ((6 * (μ0 11 7)).toNatClampNeg) a1) (((6 * (μ0 11 7)) + 1).toNatClampNeg) a2) (((6 * (μ0 11 7)) + 2).toNatClampNeg) a3) (((6 * (μ0 11 7)) + 3).toNatClampNeg) a4) (((6 * (μ0 11 7)) + 4).toNatClampNeg) a5) (ww' := wM G ad (va_up μ0 6 (upd (upd (upd (upd (upd (upd (μ0 6) ((6 * (μ0 11 7)).toNatClampNeg) a1) (((6 * (μ0 11 7)) + 1).toNatClampNeg) a2) (((6 * (μ0 11 7)) + 2).toNatClampNeg) a3) (((6 * (μ0 11 7)) + 3).toNatClampNeg) a4) (((6 * (μ0 11 7)) + 4).toNatClampNeg) a5) (((6 * (μ0 11 7)) + 5).toNatClampNeg) a6))) S hf 7 rfl g6 wM_u6 dX4_addItem_69 (fun H locs hf => ?_)
  refine lv_aload_n hx hb dX4_addItem_70 rfl (lv_at hl 1 rfl) ?_
  refine lv_dup hx hb dX4_addItem_71 rfl ?_
  refine g_get (ci := 4) (C := RX4) (T := TX4) (N := 21) (v := .int (μ0 11 7)) S hf hinX4 0 rfl rfl 15 (by decide) k255 rfl rfl dX4_addItem_72 ?_
  refine lv_iconst (v := 1) hx hb dX4_addItem_75 (by decide) ?_
  refine lv_iadd hx hb dX4_addItem_76 ?_
  refine g_put (ci := 4) (C := RX4) (T := TX4) (N := 21) (ww' := wM G ad (va_up (va_up μ0 6 (upd (upd (upd (upd (upd (upd (μ0 6) ((6 * (μ0 11 7)).toNatClampNeg) a1) (((6 * (μ0 11 7)) + 1).toNatClampNeg) a2) (((6 * (μ0 11 7)) + 2).toNatClampNeg) a3) (((6 * (μ0 11 7)) + 3).toNatClampNeg) a4) (((6 * (μ0 11 7)) + 4).toNatClampNeg) a5) (((6 * (μ0 11 7)) + 5).toNatClampNeg) a6)) 11 (upd (μ0 11) 7 ((μ0 11 7) + 1)))) S hf hinX4 tyX4 tyX4_ok nmX4 0 rfl rfl 15 (by decide) k255 rfl rfl rfl rfl (Nat.le_of_ble_eq_true rfl) rfl dX4_addItem_77 (fun H locs hf => ?_)
  have hE := Option.some.inj hF
  have hW := congrArg (fun z : K2 => wM G ad z) hE
  exact g_vret S hr hlocks hf hW dX4_addItem_80
