def f_X4_deny_L19 : Nat → K2 → Int32 → Int32 → Option (Int32 × K2)
  | 0, _, _, _ => none
  | n + 1, μ, x2, x3 => if x3 < 0 then (some (x2, μ)) else (Option.bind (f_X4_birdIs μ x3 4) (fun q5 => Option.bind (f_X4_birdIs μ x3 2) (fun q7 => f_X4_deny_L19 n μ (x2 ||| (q5 <<< (x3 &&& 31))) q7)))
def f_X4_deny (μ0 : K2) (a1 : Int32) : Option (Int32 × K2) := Option.bind (f_X4_isBird μ0 a1) (fun q1 => if q1 = 0 then (Option.bind (f_X4_finding μ0 (-1000001)) (fun q9 => some (q9.1, q9.2))) else (f_X4_deny_L19 1000 μ0 0 a1))
set_option maxHeartbeats 4000000 in
set_option maxRecDepth 100000 in
theorem c_X4_deny (l : Launch) (G : GT) (ad : Nat → Nat) (μ0 : K2) (a1 : Int32) (q : Int32 × K2) (hF : f_X4_deny μ0 a1 = some q) : Ct l G yX4_deny wsX4_deny ({ frames := 2, cells := 0, slots := 0, locals := 43 } : Room) ([.ref (ad 0), .int a1] : List Value) (wM G ad μ0) (some (.int q.1)) (wM G ad q.2) := by
  have kc63 : Cond.constant RX4 63 (-1000001) ∈ wsX4_deny := by decide +kernel
  refine Ct.of cX4_deny 4 (some .int) (by decide) rfl (Nat.le_of_ble_eq_true rfl) ?_
  intro p e s m below meth c ls S hr hlocks hf hl
  have S : CallFix p m c cX4_deny 4 s ([.ref (ad 0), .int a1] : List Value).toArray wsX4_deny RX4 := S
  obtain ⟨hx, hb, hml, hown, hts⟩ := id S
  have hl : lv_has ls 4 [(0, .ref (ad 0)), (1, .int a1)] := hl
  have hL19 : ∀ (n : Nat) (μ : K2) (x2 : Int32) (x3 : Int32)  (H : Heap) (locs : List Loc) (ls : Array Slot), f_X4_deny_L19 n μ x2 x3 = some q → Fr G (va_A (wM G ad μ0) s.heap.size) s (wM G ad μ) H locs → lv_has ls 4 [(0, .ref (ad 0)), (2, .int x2), (3, .int x3)] → W p l e ({ frames := 2, cells := 0, slots := 0, locals := 43 } : Room) s m ([.ref (ad 0), .int a1] : List Value).toArray below meth c H locs 0 0 (MQ below (CPost G (wM G ad μ0) s.heap.size (some (.int q.1)) (wM G ad q.2)) ([.ref (ad 0), .int a1] : List Value).toArray s 0 0 (va_A (wM G ad μ0) s.heap.size)) (F0 m 19 ls []) := by
    intro n
    induction n with
    | zero =>
      intro μ x2 x3 H locs ls hF hf hl
      exact absurd hF (by simp [f_X4_deny_L19])
    | succ n ih19 =>
      intro μ x2 x3 H locs ls hF hf hl
      rw [f_X4_deny_L19] at hF
      refine lv_iload_n hx hb dX4_deny_19 rfl (lv_at hl 2 rfl) ?_
      refine lv_if_lt (tgt := 44) hx hb dX4_deny_20 (by decide) (fun c4 => ?_) (fun c4 => ?_)
      · replace hF := (if_pos c4).symm.trans hF
        refine lv_iload_n hx hb dX4_deny_44 rfl (lv_at hl 1 rfl) ?_
        have hE := Option.some.inj hF
        have hV := congrArg (fun z : Int32 × K2 => z.1) hE
        have hW := congrArg (fun z : Int32 × K2 => wM G ad z.2) hE
        exact g_iret S hr hlocks hf hV hW dX4_deny_45
      · replace hF := (if_neg c4).symm.trans hF
        refine lv_iload_n hx hb dX4_deny_23 rfl (lv_at hl 1 rfl) ?_
        refine lv_aload_n hx hb dX4_deny_24 rfl (lv_at hl 0 rfl) ?_
        refine lv_iload_n hx hb dX4_deny_25 rfl (lv_at hl 2 rfl) ?_
        refine lv_iconst (v := 4) hx hb dX4_deny_26 (by decide) ?_
        obtain ⟨q5, h6, hF⟩ := Option.bind_eq_some_iff.mp hF
        refine g_cv0 (o := some (.int q5)) (As := [.int x3, .int 4]) (rest := [.int x2]) (st1 := [.int q5, .int x2]) (ci := 4) S hf (c_X4_birdIs l G ad μ x3 4 q5 h6) (cwV 2 hts gX4_deny_X4_birdIs rfl rfl rfl (by decide +kernel) ⟨Nat.le_of_ble_eq_true rfl, Nat.le_of_ble_eq_true rfl⟩) rfl rfl rfl 0 rfl rfl hl.1 rfl rfl (Nat.le_of_ble_eq_true rfl) ⟨Nat.zero_le _, Nat.zero_le _⟩ dX4_deny_27 (fun H locs hf => ?_)
        have hf : Fr G (va_A (wM G ad μ0) s.heap.size) s (wM G ad μ) H locs := hf
        refine lv_iload_n hx hb dX4_deny_30 rfl (lv_at hl 2 rfl) ?_
        refine lv_ishl hx hb dX4_deny_31 ?_
        refine lv_ior hx hb dX4_deny_32 ?_
        refine lv_istore_n (lv' := [(2, .int (x2 ||| (q5 <<< (x3 &&& 31)))), (0, .ref (ad 0)), (3, .int x3)]) hx hb dX4_deny_33 rfl hl (by decide) rfl (fun ls hl => ?_)
        refine lv_aload_n hx hb dX4_deny_34 rfl (lv_at hl 1 rfl) ?_
        refine lv_iload_n hx hb dX4_deny_35 rfl (lv_at hl 2 rfl) ?_
        refine lv_iconst (v := 2) hx hb dX4_deny_36 (by decide) ?_
        obtain ⟨q7, h8, hF⟩ := Option.bind_eq_some_iff.mp hF
        refine g_cv0 (o := some (.int q7)) (As := [.int x3, .int 2]) (rest := []) (st1 := [.int q7]) (ci := 4) S hf (c_X4_birdIs l G ad μ x3 2 q7 h8) (cwV 2 hts gX4_deny_X4_birdIs rfl rfl rfl (by decide +kernel) ⟨Nat.le_of_ble_eq_true rfl, Nat.le_of_ble_eq_true rfl⟩) rfl rfl rfl 0 rfl rfl hl.1 rfl rfl (Nat.le_of_ble_eq_true rfl) ⟨Nat.zero_le _, Nat.zero_le _⟩ dX4_deny_37 (fun H locs hf => ?_)
        have hf : Fr G (va_A (wM G ad μ0) s.heap.size) s (wM G ad μ) H locs := hf
        refine lv_istore_n (lv' := [(3, .int q7), (2, .int (x2 ||| (q5 <<< (x3 &&& 31)))), (0, .ref (ad 0))]) hx hb dX4_deny_40 rfl hl (by decide) rfl (fun ls hl => ?_)
        refine lv_goto (tgt := 19) hx hb dX4_deny_41 (by decide) ?_
        exact ih19 μ (x2 ||| (q5 <<< (x3 &&& 31))) q7 _ _ _ hF hf (lv_sub hl [2, 1, 0] rfl)
  unfold f_X4_deny at hF
  refine lv_aload_n hx hb dX4_deny_0 rfl (lv_at hl 0 rfl) ?_
  refine lv_iload_n hx hb dX4_deny_1 rfl (lv_at hl 1 rfl) ?_
  obtain ⟨q1, h2, hF⟩ := Option.bind_eq_some_iff.mp hF
  refine g_cv0 (o := some (.int q1)) (As := [.int a1]) (rest := []) (st1 := [.int q1]) (ci := 4) S hf (c_X4_isBird l G ad μ0 a1 q1 h2) (cwV 1 hts gX4_deny_X4_isBird rfl rfl rfl (by decide +kernel) ⟨Nat.le_of_ble_eq_true rfl, Nat.le_of_ble_eq_true rfl⟩) rfl rfl rfl 0 rfl rfl hl.1 rfl rfl (Nat.le_of_ble_eq_true rfl) ⟨Nat.zero_le _, Nat.zero_le _⟩ dX4_deny_2 (fun H locs hf => ?_)
  have hf : Fr G (va_A (wM G ad μ0) s.heap.size) s (wM G ad μ0) H locs := hf
  refine lv_if_ne (tgt := 15) hx hb dX4_deny_5 (by decide) (fun c3 => ?_) (fun c3 => ?_)
  · replace hF := (if_neg c3).symm.trans hF
    refine lv_iconst (v := 0) hx hb dX4_deny_15 (by decide) ?_
    refine lv_istore_n (lv' := [(2, .int 0), (0, .ref (ad 0)), (1, .int a1)]) hx hb dX4_deny_16 rfl hl (by decide) rfl (fun ls hl => ?_)
    refine lv_iload_n hx hb dX4_deny_17 rfl (lv_at hl 2 rfl) ?_
    refine lv_istore_n (lv' := [(3, .int a1), (2, .int 0), (0, .ref (ad 0)), (1, .int a1)]) hx hb dX4_deny_18 rfl hl (by decide) rfl (fun ls hl => ?_)
    exact hL19 1000 μ0 0 a1 _ _ _ hF hf (lv_sub hl [2, 1, 0] rfl)
  · replace hF := (if_pos c3).symm.trans hF
    refine lv_aload_n hx hb dX4_deny_8 rfl (lv_at hl 0 rfl) ?_
    refine lv_ldc (v := -1000001) hx hb hown (hts _ kc63) dX4_deny_9 ?_
    obtain ⟨q9, h10, hF⟩ := Option.bind_eq_some_iff.mp hF
    refine g_cv0 (o := some (.int q9.1)) (As := [.int (-1000001)]) (rest := []) (st1 := [.int q9.1]) (ci := 4) S hf (c_X4_finding l G ad μ0 (-1000001) q9 h10) (cwV 1 hts gX4_deny_X4_finding rfl rfl rfl (by decide +kernel) ⟨Nat.le_of_ble_eq_true rfl, Nat.le_of_ble_eq_true rfl⟩) rfl rfl rfl 0 rfl rfl hl.1 rfl rfl (Nat.le_of_ble_eq_true rfl) ⟨Nat.zero_le _, Nat.zero_le _⟩ dX4_deny_11 (fun H locs hf => ?_)
    have hf : Fr G (va_A (wM G ad μ0) s.heap.size) s (wM G ad q9.2) H locs := hf
    have hE := Option.some.inj hF
    have hV := congrArg (fun z : Int32 × K2 => z.1) hE
    have hW := congrArg (fun z : Int32 × K2 => wM G ad z.2) hE
    exact g_iret S hr hlocks hf hV hW dX4_deny_14
def f_X4_isSheet (a0 : Int32) : Option (Int32) := Option.bind (f_X4_within a0 0 3) (fun q1 => if q1 = 0 ∨ q1 = 1 then some (q1) else none)
set_option maxHeartbeats 4000000 in
set_option maxRecDepth 100000 in
theorem c_X4_isSheet (l : Launch) (G : GT)  (a0 : Int32) (q : Int32) (hF : f_X4_isSheet a0 = some q) : Ct l G yX4_isSheet wsX4_isSheet ({ frames := 1, cells := 0, slots := 0, locals := 22 } : Room) ([.int a0] : List Value) (([] : va_W)) (some (.int q)) (([] : va_W)) := by
  refine Ct.of cX4_isSheet 1 (some .boolean) (by decide) rfl (Nat.le_of_ble_eq_true rfl) ?_
  intro p e s m below meth c ls S hr hlocks hf hl
  have S : CallFix p m c cX4_isSheet 1 s ([.int a0] : List Value).toArray wsX4_isSheet RX4 := S
  obtain ⟨hx, hb, hml, hown, hts⟩ := id S
  have hl : lv_has ls 1 [(0, .int a0)] := hl
  unfold f_X4_isSheet at hF
  refine lv_iload_n hx hb dX4_isSheet_0 rfl (lv_at hl 0 rfl) ?_
  refine lv_iconst (v := 0) hx hb dX4_isSheet_1 (by decide) ?_
  refine lv_iconst (v := 3) hx hb dX4_isSheet_2 (by decide) ?_
  obtain ⟨q1, h2, hF⟩ := Option.bind_eq_some_iff.mp hF
  refine g_cs0 (o := some (.int q1)) (As := [.int a0, .int 0, .int 3]) (rest := []) (st1 := [.int q1]) S hf (c_X4_within l G  a0 0 3 q1 h2) (va_cwS 3 hts gX4_isSheet_X4_within rfl rfl rfl (by decide +kernel) ⟨Nat.le_of_ble_eq_true rfl, Nat.le_of_ble_eq_true rfl⟩) rfl hl.1 rfl rfl (Nat.le_of_ble_eq_true rfl) ⟨Nat.zero_le _, Nat.zero_le _⟩ dX4_isSheet_3 (fun H locs hf => ?_)
  obtain ⟨g3, hF⟩ := gd_some hF
  have hE := Option.some.inj hF
  have hV := congrArg (fun z : Int32 => z) hE
  exact g_zret S hr hlocks hf (nz g3) hV rfl dX4_isSheet_6
def f_X4_lacks (μ0 : K2) (a1 : Int32) (a2 : Int32) : Option (Int32) := Option.bind (f_X4_isSheet a1) (fun q1 => if q1 = 0 then (some ((-1000001))) else (if ix a1 4 then (if ((μ0 7) a1.toNatClampNeg) = 0 then (some ((-1000006))) else (if a2 = 0 then (some ((-1000001))) else (some (0)))) else none))
set_option maxHeartbeats 4000000 in
set_option maxRecDepth 100000 in
theorem c_X4_lacks (l : Launch) (G : GT) (ad : Nat → Nat) (μ0 : K2) (a1 : Int32) (a2 : Int32) (q : Int32) (hF : f_X4_lacks μ0 a1 a2 = some q) : Ct l G yX4_lacks wsX4_lacks ({ frames := 2, cells := 0, slots := 0, locals := 42 } : Room) ([.ref (ad 0), .int a1, .int a2] : List Value) (wM G ad μ0) (some (.int q)) (wM G ad μ0) := by
  have k51 : Cond.fieldLink RX4 51 "PigeonRollsModel" "widths" "[I" ∈ wsX4_lacks := by decide +kernel
  have kc63 : Cond.constant RX4 63 (-1000001) ∈ wsX4_lacks := by decide +kernel
  have kc206 : Cond.constant RX4 206 (-1000006) ∈ wsX4_lacks := by decide +kernel
  have hinX4 : ∀ w ∈ u_ws RX4 TX4 21, w ∈ wsX4_lacks := by decide +kernel
  refine Ct.of cX4_lacks 3 (some .int) (by decide) rfl (Nat.le_of_ble_eq_true rfl) ?_
  intro p e s m below meth c ls S hr hlocks hf hl
  have S : CallFix p m c cX4_lacks 3 s ([.ref (ad 0), .int a1, .int a2] : List Value).toArray wsX4_lacks RX4 := S
  obtain ⟨hx, hb, hml, hown, hts⟩ := id S
  have hl : lv_has ls 3 [(0, .ref (ad 0)), (1, .int a1), (2, .int a2)] := hl
  unfold f_X4_lacks at hF
  refine lv_iload_n hx hb dX4_lacks_0 rfl (lv_at hl 1 rfl) ?_
  obtain ⟨q1, h2, hF⟩ := Option.bind_eq_some_iff.mp hF
  refine g_cs0 (o := some (.int q1)) (As := [.int a1]) (rest := []) (st1 := [.int q1]) S hf (c_X4_isSheet l G  a1 q1 h2) (va_cwS 1 hts gX4_lacks_X4_isSheet rfl rfl rfl (by decide +kernel) ⟨Nat.le_of_ble_eq_true rfl, Nat.le_of_ble_eq_true rfl⟩) rfl hl.1 rfl rfl (Nat.le_of_ble_eq_true rfl) ⟨Nat.zero_le _, Nat.zero_le _⟩ dX4_lacks_1 (fun H locs hf => ?_)
  refine lv_if_ne (tgt := 12) hx hb dX4_lacks_4 (by decide) (fun c3 => ?_) (fun c3 => ?_)
  · replace hF := (if_neg c3).symm.trans hF
    refine lv_aload_n hx hb dX4_lacks_12 rfl (lv_at hl 0 rfl) ?_
    refine g_get (ci := 4) (C := RX4) (T := TX4) (N := 21) (v := .ref (ad 8)) S hf hinX4 0 rfl rfl 17 (by decide) k51 rfl rfl dX4_lacks_13 ?_
    refine lv_iload_n hx hb dX4_lacks_16 rfl (lv_at hl 1 rfl) ?_
    obtain ⟨g4, hF⟩ := gd_some hF
    refine g_ald (v := (μ0 7) a1.toNatClampNeg) S hf 8 rfl g4 rfl dX4_lacks_17 ?_
    refine lv_if_ne (tgt := 26) hx hb dX4_lacks_18 (by decide) (fun c5 => ?_) (fun c5 => ?_)
    · replace hF := (if_neg c5).symm.trans hF
      refine lv_iload_n hx hb dX4_lacks_26 rfl (lv_at hl 2 rfl) ?_
      refine lv_if_eq (tgt := 34) hx hb dX4_lacks_27 (by decide) (fun c6 => ?_) (fun c6 => ?_)
      · replace hF := (if_pos c6).symm.trans hF
        refine lv_ldc (v := -1000001) hx hb hown (hts _ kc63) dX4_lacks_34 ?_
        have hE := Option.some.inj hF
        have hV := congrArg (fun z : Int32 => z) hE
        exact g_iret S hr hlocks hf hV rfl dX4_lacks_36
      · replace hF := (if_neg c6).symm.trans hF
        refine lv_iconst (v := 0) hx hb dX4_lacks_30 (by decide) ?_
        refine lv_goto (tgt := 36) hx hb dX4_lacks_31 (by decide) ?_
        have hE := Option.some.inj hF
        have hV := congrArg (fun z : Int32 => z) hE
        exact g_iret S hr hlocks hf hV rfl dX4_lacks_36
    · replace hF := (if_pos c5).symm.trans hF
      refine lv_ldc (v := -1000006) hx hb hown (hts _ kc206) dX4_lacks_21 ?_
      refine lv_goto (tgt := 36) hx hb dX4_lacks_23 (by decide) ?_
      have hE := Option.some.inj hF
      have hV := congrArg (fun z : Int32 => z) hE
      exact g_iret S hr hlocks hf hV rfl dX4_lacks_36
  · replace hF := (if_pos c3).symm.trans hF
    refine lv_ldc (v := -1000001) hx hb hown (hts _ kc63) dX4_lacks_7 ?_
    refine lv_goto (tgt := 36) hx hb dX4_lacks_9 (by decide) ?_
    have hE := Option.some.inj hF
    have hV := congrArg (fun z : Int32 => z) hE
    exact g_iret S hr hlocks hf hV rfl dX4_lacks_36
def f_X4_isSo_B87 (μ : K2) (x3 : Int32) : Option (Int32 × K2) := Option.bind (f_X4_copyRow2 (μ 2) (μ 0)) (fun q5 => if x3 = 0 ∨ x3 = 1 then some (x3, va_up μ 0 q5) else none)
def f_X4_isSo_L16 : Nat → K2 → Int32 → Int32 → Int32 → Int32 → Option (Int32 × K2)
  | 0, _, _, _, _, _ => none
  | n + 1, μ, x1, x2, x3, x4 => if ix x1 4 then (if ((μ 8) x1.toNatClampNeg) ≤ x4 then (f_X4_isSo_B87 μ x3) else (if 10 ≤ x4 then (f_X4_isSo_B87 μ x3) else (if x3 = 0 then (f_X4_isSo_B87 μ x3) else (if ix ((40 * x1) + x4) 160 then (if ((μ 9) ((40 * x1) + x4).toNatClampNeg) = (-1) then (Option.bind (f_X4_daysGo μ 6) (fun q12 => f_X4_isSo_L16 n q12 x1 x2 1 (x4 + 1))) else (if ix x2 92 then (if ((μ 9) ((40 * x1) + x4).toNatClampNeg) = ((μ 0) x2.toNatClampNeg) then (Option.bind (f_X4_daysGo μ 6) (fun q18 => f_X4_isSo_L16 n q18 x1 x2 1 (x4 + 1))) else (Option.bind (f_X4_daysGo μ 6) (fun q16 => f_X4_isSo_L16 n q16 x1 x2 0 (x4 + 1)))) else none)) else none)))) else none
def f_X4_isSo (μ0 : K2) (a1 : Int32) (a2 : Int32) : Option (Int32 × K2) := Option.bind (f_X4_copyRow (μ0 0) (μ0 2)) (fun q1 => f_X4_isSo_L16 1000 (va_up μ0 2 q1) a1 a2 1 0)
set_option maxHeartbeats 4000000 in
set_option maxRecDepth 100000 in
theorem c_X4_isSo (l : Launch) (G : GT) (ad : Nat → Nat) (μ0 : K2) (a1 : Int32) (a2 : Int32) (q : Int32 × K2) (hF : f_X4_isSo μ0 a1 a2 = some q) : Ct l G yX4_isSo wsX4_isSo ({ frames := 9, cells := 0, slots := 0, locals := 197 } : Room) ([.ref (ad 0), .int a1, .int a2] : List Value) (wM G ad μ0) (some (.int q.1)) (wM G ad q.2) := by
  have k9 : Cond.fieldLink RX4 9 "PigeonRollsModel" "now" "[I" ∈ wsX4_isSo := by decide +kernel
  have k16 : Cond.fieldLink RX4 16 "PigeonRollsModel" "aside" "[I" ∈ wsX4_isSo := by decide +kernel
  have k54 : Cond.fieldLink RX4 54 "PigeonRollsModel" "sizes" "[I" ∈ wsX4_isSo := by decide +kernel
  have k57 : Cond.fieldLink RX4 57 "PigeonRollsModel" "numbers" "[I" ∈ wsX4_isSo := by decide +kernel
  have hinX4 : ∀ w ∈ u_ws RX4 TX4 21, w ∈ wsX4_isSo := by decide +kernel
  refine Ct.of cX4_isSo 6 (some .boolean) (by decide) rfl (Nat.le_of_ble_eq_true rfl) ?_
  intro p e s m below meth c ls S hr hlocks hf hl
  have S : CallFix p m c cX4_isSo 6 s ([.ref (ad 0), .int a1, .int a2] : List Value).toArray wsX4_isSo RX4 := S
  obtain ⟨hx, hb, hml, hown, hts⟩ := id S
  have hl : lv_has ls 6 [(0, .ref (ad 0)), (1, .int a1), (2, .int a2)] := hl
  have hL87 : ∀ (μ : K2) (x3 : Int32)  (H : Heap) (locs : List Loc) (ls : Array Slot), f_X4_isSo_B87 μ x3 = some q → Fr G (va_A (wM G ad μ0) s.heap.size) s (wM G ad μ) H locs → lv_has ls 6 [(0, .ref (ad 0)), (3, .int x3)] → W p l e ({ frames := 9, cells := 0, slots := 0, locals := 197 } : Room) s m ([.ref (ad 0), .int a1, .int a2] : List Value).toArray below meth c H locs 0 0 (MQ below (CPost G (wM G ad μ0) s.heap.size (some (.int q.1)) (wM G ad q.2)) ([.ref (ad 0), .int a1, .int a2] : List Value).toArray s 0 0 (va_A (wM G ad μ0) s.heap.size)) (F0 m 87 ls []) := by
    intro μ x3 H locs ls hF hf hl
    unfold f_X4_isSo_B87 at hF
    refine lv_aload_n hx hb dX4_isSo_87 rfl (lv_at hl 0 rfl) ?_
    refine g_get (ci := 4) (C := RX4) (T := TX4) (N := 21) (v := .ref (ad 3)) S hf hinX4 0 rfl rfl 2 (by decide) k16 rfl rfl dX4_isSo_88 ?_
    refine lv_aload_n hx hb dX4_isSo_91 rfl (lv_at hl 0 rfl) ?_
    refine g_get (ci := 4) (C := RX4) (T := TX4) (N := 21) (v := .ref (ad 1)) S hf hinX4 0 rfl rfl 0 (by decide) k9 rfl rfl dX4_isSo_92 ?_
    obtain ⟨q5, h6, hF⟩ := Option.bind_eq_some_iff.mp hF
    refine g_cs (o := none) (As := [.ref (ad 3), .ref (ad 1)]) (rest := []) (st1 := []) (a := List.take 2 (wM G ad μ)) (b := List.drop 4 (wM G ad μ)) S hf (c_X4_copyRow2 l G (ad 3) (ad 1) (μ 2) (μ 0) q5 h6) (va_cwS 2 hts gX4_isSo_X4_copyRow rfl rfl rfl (by decide +kernel) ⟨Nat.le_of_ble_eq_true rfl, Nat.le_of_ble_eq_true rfl⟩) rfl rfl rfl hl.1 rfl rfl (Nat.le_of_ble_eq_true rfl) ⟨Nat.zero_le _, Nat.zero_le _⟩ dX4_isSo_95 (fun H locs hf => ?_)
    have hf : Fr G (va_A (wM G ad μ0) s.heap.size) s (wM G ad (va_up μ 0 q5)) H locs := hf
    refine lv_iload_n hx hb dX4_isSo_98 rfl (lv_at hl 1 rfl) ?_
    obtain ⟨g7, hF⟩ := gd_some hF
    have hE := Option.some.inj hF
    have hV := congrArg (fun z : Int32 × K2 => z.1) hE
    have hW := congrArg (fun z : Int32 × K2 => wM G ad z.2) hE
    exact g_zret S hr hlocks hf (nz g7) hV hW dX4_isSo_99
  have hL16 : ∀ (n : Nat) (μ : K2) (x1 : Int32) (x2 : Int32) (x3 : Int32) (x4 : Int32)  (H : Heap) (locs : List Loc) (ls : Array Slot), f_X4_isSo_L16 n μ x1 x2 x3 x4 = some q → Fr G (va_A (wM G ad μ0) s.heap.size) s (wM G ad μ) H locs → lv_has ls 6 [(0, .ref (ad 0)), (1, .int x1), (2, .int x2), (3, .int x3), (4, .int x4)] → W p l e ({ frames := 9, cells := 0, slots := 0, locals := 197 } : Room) s m ([.ref (ad 0), .int a1, .int a2] : List Value).toArray below meth c H locs 0 0 (MQ below (CPost G (wM G ad μ0) s.heap.size (some (.int q.1)) (wM G ad q.2)) ([.ref (ad 0), .int a1, .int a2] : List Value).toArray s 0 0 (va_A (wM G ad μ0) s.heap.size)) (F0 m 16 ls []) := by
    intro n
    induction n with
    | zero =>
      intro μ x1 x2 x3 x4 H locs ls hF hf hl
      exact absurd hF (by simp [f_X4_isSo_L16])
    | succ n ih16 =>
      intro μ x1 x2 x3 x4 H locs ls hF hf hl
      rw [f_X4_isSo_L16] at hF
      refine lv_iload hx hb dX4_isSo_16 (lv_at hl 4 rfl) ?_
      refine lv_aload_n hx hb dX4_isSo_18 rfl (lv_at hl 0 rfl) ?_
      refine g_get (ci := 4) (C := RX4) (T := TX4) (N := 21) (v := .ref (ad 9)) S hf hinX4 0 rfl rfl 18 (by decide) k54 rfl rfl dX4_isSo_19 ?_
      refine lv_iload_n hx hb dX4_isSo_22 rfl (lv_at hl 1 rfl) ?_
      obtain ⟨g3, hF⟩ := gd_some hF
      refine g_ald (v := (μ 8) x1.toNatClampNeg) S hf 9 rfl g3 rfl dX4_isSo_23 ?_
      refine lv_icmp_ge (tgt := 87) hx hb dX4_isSo_24 (by decide) (fun c4 => ?_) (fun c4 => ?_)
      · replace hF := (if_pos c4).symm.trans hF
        exact hL87 μ x3 _ _ _ hF hf (lv_sub hl [0, 3] rfl)
      · replace hF := (if_neg c4).symm.trans hF
        refine lv_iload hx hb dX4_isSo_27 (lv_at hl 4 rfl) ?_
        refine lv_bipush (v := 10) hx hb dX4_isSo_29 (by decide) ?_
        refine lv_icmp_ge (tgt := 87) hx hb dX4_isSo_31 (by decide) (fun c8 => ?_) (fun c8 => ?_)
        · replace hF := (if_pos c8).symm.trans hF
          exact hL87 μ x3 _ _ _ hF hf (lv_sub hl [0, 3] rfl)
        · replace hF := (if_neg c8).symm.trans hF
          refine lv_iload_n hx hb dX4_isSo_34 rfl (lv_at hl 3 rfl) ?_
          refine lv_if_eq (tgt := 87) hx hb dX4_isSo_35 (by decide) (fun c9 => ?_) (fun c9 => ?_)
          · replace hF := (if_pos c9).symm.trans hF
            exact hL87 μ x3 _ _ _ hF hf (lv_sub hl [0, 3] rfl)
          · replace hF := (if_neg c9).symm.trans hF
            refine lv_aload_n hx hb dX4_isSo_38 rfl (lv_at hl 0 rfl) ?_
            refine g_get (ci := 4) (C := RX4) (T := TX4) (N := 21) (v := .ref (ad 10)) S hf hinX4 0 rfl rfl 19 (by decide) k57 rfl rfl dX4_isSo_39 ?_
            refine lv_bipush (v := 40) hx hb dX4_isSo_42 (by decide) ?_
            refine lv_iload_n hx hb dX4_isSo_44 rfl (lv_at hl 1 rfl) ?_
            refine lv_imul hx hb dX4_isSo_45 ?_
            refine lv_iload hx hb dX4_isSo_46 (lv_at hl 4 rfl) ?_
            refine lv_iadd hx hb dX4_isSo_48 ?_
            obtain ⟨g10, hF⟩ := gd_some hF
            refine g_ald (v := (μ 9) ((40 * x1) + x4).toNatClampNeg) S hf 10 rfl g10 rfl dX4_isSo_49 ?_
            refine lv_istore (lv' := [(5, .int ((μ 9) ((40 * x1) + x4).toNatClampNeg)), (0, .ref (ad 0)), (1, .int x1), (2, .int x2), (3, .int x3), (4, .int x4)]) hx hb dX4_isSo_50 hl (by decide) rfl (fun ls hl => ?_)
            refine lv_iload hx hb dX4_isSo_52 (lv_at hl 0 rfl) ?_
            refine lv_iconst (v := -1) hx hb dX4_isSo_54 (by decide) ?_
            refine lv_icmp_eq (tgt := 69) hx hb dX4_isSo_55 (by decide) (fun c11 => ?_) (fun c11 => ?_)
            · replace hF := (if_pos c11).symm.trans hF
              refine lv_iconst (v := 1) hx hb dX4_isSo_69 (by decide) ?_
              refine lv_goto (tgt := 74) hx hb dX4_isSo_70 (by decide) ?_
              refine lv_istore_n (lv' := [(3, .int 1), (5, .int ((μ 9) ((40 * x1) + x4).toNatClampNeg)), (0, .ref (ad 0)), (1, .int x1), (2, .int x2), (4, .int x4)]) hx hb dX4_isSo_74 rfl hl (by decide) rfl (fun ls hl => ?_)
              refine lv_aload_n hx hb dX4_isSo_75 rfl (lv_at hl 2 rfl) ?_
              refine lv_bipush (v := 6) hx hb dX4_isSo_76 (by decide) ?_
              obtain ⟨q12, h13, hF⟩ := Option.bind_eq_some_iff.mp hF
              refine g_cv0 (o := none) (As := [.int 6]) (rest := []) (st1 := []) (ci := 4) S hf (c_X4_daysGo l G ad μ 6 q12 h13) (cwV 1 hts gX4_isSo_X4_daysGo rfl rfl rfl (by decide +kernel) ⟨Nat.le_of_ble_eq_true rfl, Nat.le_of_ble_eq_true rfl⟩) rfl rfl rfl 0 rfl rfl hl.1 rfl rfl (Nat.le_of_ble_eq_true rfl) ⟨Nat.zero_le _, Nat.zero_le _⟩ dX4_isSo_78 (fun H locs hf => ?_)
              have hf : Fr G (va_A (wM G ad μ0) s.heap.size) s (wM G ad q12) H locs := hf
              refine lv_iinc (v := x4 + 1) (lv' := [(4, .int (x4 + 1)), (3, .int 1), (5, .int ((μ 9) ((40 * x1) + x4).toNatClampNeg)), (0, .ref (ad 0)), (1, .int x1), (2, .int x2)]) hx hb dX4_isSo_81 hl (k := 5) rfl rfl (by decide) rfl (fun ls hl => ?_)
              refine lv_goto (tgt := 16) hx hb dX4_isSo_84 (by decide) ?_
              exact ih16 q12 x1 x2 1 (x4 + 1) _ _ _ hF hf (lv_sub hl [3, 4, 5, 1, 0] rfl)
            · replace hF := (if_neg c11).symm.trans hF
              refine lv_iload hx hb dX4_isSo_58 (lv_at hl 0 rfl) ?_
              refine lv_aload_n hx hb dX4_isSo_60 rfl (lv_at hl 1 rfl) ?_
              refine g_get (ci := 4) (C := RX4) (T := TX4) (N := 21) (v := .ref (ad 1)) S hf hinX4 0 rfl rfl 0 (by decide) k9 rfl rfl dX4_isSo_61 ?_
              refine lv_iload_n hx hb dX4_isSo_64 rfl (lv_at hl 3 rfl) ?_
              obtain ⟨g14, hF⟩ := gd_some hF
              refine g_ald (v := (μ 0) x2.toNatClampNeg) S hf 2 rfl g14 rfl dX4_isSo_65 ?_
              refine lv_icmp_ne (tgt := 73) hx hb dX4_isSo_66 (by decide) (fun c15 => ?_) (fun c15 => ?_)
              · replace hF := (if_neg c15).symm.trans hF
                refine lv_iconst (v := 0) hx hb dX4_isSo_73 (by decide) ?_
                refine lv_istore_n (lv' := [(3, .int 0), (5, .int ((μ 9) ((40 * x1) + x4).toNatClampNeg)), (0, .ref (ad 0)), (1, .int x1), (2, .int x2), (4, .int x4)]) hx hb dX4_isSo_74 rfl hl (by decide) rfl (fun ls hl => ?_)
                refine lv_aload_n hx hb dX4_isSo_75 rfl (lv_at hl 2 rfl) ?_
                refine lv_bipush (v := 6) hx hb dX4_isSo_76 (by decide) ?_
                obtain ⟨q16, h17, hF⟩ := Option.bind_eq_some_iff.mp hF
                refine g_cv0 (o := none) (As := [.int 6]) (rest := []) (st1 := []) (ci := 4) S hf (c_X4_daysGo l G ad μ 6 q16 h17) (cwV 1 hts gX4_isSo_X4_daysGo rfl rfl rfl (by decide +kernel) ⟨Nat.le_of_ble_eq_true rfl, Nat.le_of_ble_eq_true rfl⟩) rfl rfl rfl 0 rfl rfl hl.1 rfl rfl (Nat.le_of_ble_eq_true rfl) ⟨Nat.zero_le _, Nat.zero_le _⟩ dX4_isSo_78 (fun H locs hf => ?_)
                have hf : Fr G (va_A (wM G ad μ0) s.heap.size) s (wM G ad q16) H locs := hf
                refine lv_iinc (v := x4 + 1) (lv' := [(4, .int (x4 + 1)), (3, .int 0), (5, .int ((μ 9) ((40 * x1) + x4).toNatClampNeg)), (0, .ref (ad 0)), (1, .int x1), (2, .int x2)]) hx hb dX4_isSo_81 hl (k := 5) rfl rfl (by decide) rfl (fun ls hl => ?_)
                refine lv_goto (tgt := 16) hx hb dX4_isSo_84 (by decide) ?_
                exact ih16 q16 x1 x2 0 (x4 + 1) _ _ _ hF hf (lv_sub hl [3, 4, 5, 1, 0] rfl)
              · replace hF := (if_pos c15).symm.trans hF
                refine lv_iconst (v := 1) hx hb dX4_isSo_69 (by decide) ?_
                refine lv_goto (tgt := 74) hx hb dX4_isSo_70 (by decide) ?_
                refine lv_istore_n (lv' := [(3, .int 1), (5, .int ((μ 9) ((40 * x1) + x4).toNatClampNeg)), (0, .ref (ad 0)), (1, .int x1), (2, .int x2), (4, .int x4)]) hx hb dX4_isSo_74 rfl hl (by decide) rfl (fun ls hl => ?_)
                refine lv_aload_n hx hb dX4_isSo_75 rfl (lv_at hl 2 rfl) ?_
                refine lv_bipush (v := 6) hx hb dX4_isSo_76 (by decide) ?_
                obtain ⟨q18, h19, hF⟩ := Option.bind_eq_some_iff.mp hF
                refine g_cv0 (o := none) (As := [.int 6]) (rest := []) (st1 := []) (ci := 4) S hf (c_X4_daysGo l G ad μ 6 q18 h19) (cwV 1 hts gX4_isSo_X4_daysGo rfl rfl rfl (by decide +kernel) ⟨Nat.le_of_ble_eq_true rfl, Nat.le_of_ble_eq_true rfl⟩) rfl rfl rfl 0 rfl rfl hl.1 rfl rfl (Nat.le_of_ble_eq_true rfl) ⟨Nat.zero_le _, Nat.zero_le _⟩ dX4_isSo_78 (fun H locs hf => ?_)
                have hf : Fr G (va_A (wM G ad μ0) s.heap.size) s (wM G ad q18) H locs := hf
                refine lv_iinc (v := x4 + 1) (lv' := [(4, .int (x4 + 1)), (3, .int 1), (5, .int ((μ 9) ((40 * x1) + x4).toNatClampNeg)), (0, .ref (ad 0)), (1, .int x1), (2, .int x2)]) hx hb dX4_isSo_81 hl (k := 5) rfl rfl (by decide) rfl (fun ls hl => ?_)
                refine lv_goto (tgt := 16) hx hb dX4_isSo_84 (by decide) ?_
                exact ih16 q18 x1 x2 1 (x4 + 1) _ _ _ hF hf (lv_sub hl [3, 4, 5, 1, 0] rfl)
  unfold f_X4_isSo at hF
  refine lv_aload_n hx hb dX4_isSo_0 rfl (lv_at hl 0 rfl) ?_
  refine g_get (ci := 4) (C := RX4) (T := TX4) (N := 21) (v := .ref (ad 1)) S hf hinX4 0 rfl rfl 0 (by decide) k9 rfl rfl dX4_isSo_1 ?_
  refine lv_aload_n hx hb dX4_isSo_4 rfl (lv_at hl 0 rfl) ?_
  refine g_get (ci := 4) (C := RX4) (T := TX4) (N := 21) (v := .ref (ad 3)) S hf hinX4 0 rfl rfl 2 (by decide) k16 rfl rfl dX4_isSo_5 ?_
  obtain ⟨q1, h2, hF⟩ := Option.bind_eq_some_iff.mp hF
  refine g_cs (o := none) (As := [.ref (ad 1), .ref (ad 3)]) (rest := []) (st1 := []) (a := List.take 2 (wM G ad μ0)) (b := List.drop 4 (wM G ad μ0)) S hf (c_X4_copyRow l G (ad 1) (ad 3) (μ0 0) (μ0 2) q1 h2) (va_cwS 2 hts gX4_isSo_X4_copyRow rfl rfl rfl (by decide +kernel) ⟨Nat.le_of_ble_eq_true rfl, Nat.le_of_ble_eq_true rfl⟩) rfl rfl rfl hl.1 rfl rfl (Nat.le_of_ble_eq_true rfl) ⟨Nat.zero_le _, Nat.zero_le _⟩ dX4_isSo_8 (fun H locs hf => ?_)
  have hf : Fr G (va_A (wM G ad μ0) s.heap.size) s (wM G ad (va_up μ0 2 q1)) H locs := hf
  refine lv_iconst (v := 1) hx hb dX4_isSo_11 (by decide) ?_
  refine lv_istore_n (lv' := [(3, .int 1), (0, .ref (ad 0)), (1, .int a1), (2, .int a2)]) hx hb dX4_isSo_12 rfl hl (by decide) rfl (fun ls hl => ?_)
  refine lv_iconst (v := 0) hx hb dX4_isSo_13 (by decide) ?_
  refine lv_istore (lv' := [(4, .int 0), (3, .int 1), (0, .ref (ad 0)), (1, .int a1), (2, .int a2)]) hx hb dX4_isSo_14 hl (by decide) rfl (fun ls hl => ?_)
  exact hL16 1000 (va_up μ0 2 q1) a1 a2 1 0 _ _ _ hF hf (lv_sub hl [2, 3, 4, 1, 0] rfl)
def f_X4_fits_B89 (μ : K2) (x4 : Int32) (x5 : Int32) (x6 : Int32) : Option (Int32 × K2) := if ix x4 92 then (some (x6, va_up μ 0 (upd (μ 0) x4.toNatClampNeg x5))) else none
def f_X4_fits_L43 : Nat → K2 → Int32 → Int32 → Int32 → Int32 → Int32 → Int32 → Option (Int32 × K2)
  | 0, _, _, _, _, _, _, _ => none
  | n + 1, μ, x1, x2, x4, x5, x6, x7 => if 100 ≤ x7 then (f_X4_fits_B89 μ x4 x5 x6) else (if ix x4 92 then (Option.bind (f_X4_birdAt x2 7) (fun q12 => Option.bind (f_X4_isSo (va_up μ 0 (upd (μ 0) x4.toNatClampNeg x7)) x1 q12) (fun q14 => if q14.1 = 0 then (f_X4_fits_L43 n q14.2 x1 x2 x4 x5 (x6 + 0) (x7 + 1)) else (f_X4_fits_L43 n q14.2 x1 x2 x4 x5 (x6 + 1) (x7 + 1))))) else none)
def f_X4_fits (μ0 : K2) (a1 : Int32) (a2 : Int32) : Option (Int32 × K2) := Option.bind (f_X4_isBird μ0 a2) (fun q1 => Option.bind (f_X4_lacks μ0 a1 q1) (fun q3 => if q3 = 0 then (Option.bind (f_X4_birdAt a2 3) (fun q6 => if ix q6 92 then (f_X4_fits_L43 1000 μ0 a1 a2 q6 ((μ0 0) q6.toNatClampNeg) 0 0) else none)) else (Option.bind (f_X4_finding μ0 q3) (fun q17 => some (q17.1, q17.2)))))
set_option maxHeartbeats 4000000 in
set_option maxRecDepth 100000 in
theorem c_X4_fits (l : Launch) (G : GT) (ad : Nat → Nat) (μ0 : K2) (a1 : Int32) (a2 : Int32) (q : Int32 × K2) (hF : f_X4_fits μ0 a1 a2 = some q) : Ct l G yX4_fits wsX4_fits ({ frames := 10, cells := 0, slots := 0, locals := 222 } : Room) ([.ref (ad 0), .int a1, .int a2] : List Value) (wM G ad μ0) (some (.int q.1)) (wM G ad q.2) := by
  have k9 : Cond.fieldLink RX4 9 "PigeonRollsModel" "now" "[I" ∈ wsX4_fits := by decide +kernel
  have hinX4 : ∀ w ∈ u_ws RX4 TX4 21, w ∈ wsX4_fits := by decide +kernel
  refine Ct.of cX4_fits 8 (some .int) (by decide) rfl (Nat.le_of_ble_eq_true rfl) ?_
  intro p e s m below meth c ls S hr hlocks hf hl
  have S : CallFix p m c cX4_fits 8 s ([.ref (ad 0), .int a1, .int a2] : List Value).toArray wsX4_fits RX4 := S
  obtain ⟨hx, hb, hml, hown, hts⟩ := id S
  have hl : lv_has ls 8 [(0, .ref (ad 0)), (1, .int a1), (2, .int a2)] := hl
  have hL89 : ∀ (μ : K2) (x4 : Int32) (x5 : Int32) (x6 : Int32)  (H : Heap) (locs : List Loc) (ls : Array Slot), f_X4_fits_B89 μ x4 x5 x6 = some q → Fr G (va_A (wM G ad μ0) s.heap.size) s (wM G ad μ) H locs → lv_has ls 8 [(0, .ref (ad 0)), (4, .int x4), (5, .int x5), (6, .int x6)] → W p l e ({ frames := 10, cells := 0, slots := 0, locals := 222 } : Room) s m ([.ref (ad 0), .int a1, .int a2] : List Value).toArray below meth c H locs 0 0 (MQ below (CPost G (wM G ad μ0) s.heap.size (some (.int q.1)) (wM G ad q.2)) ([.ref (ad 0), .int a1, .int a2] : List Value).toArray s 0 0 (va_A (wM G ad μ0) s.heap.size)) (F0 m 89 ls []) := by
    intro μ x4 x5 x6 H locs ls hF hf hl
    unfold f_X4_fits_B89 at hF
    refine lv_aload_n hx hb dX4_fits_89 rfl (lv_at hl 0 rfl) ?_
    refine g_get (ci := 4) (C := RX4) (T := TX4) (N := 21) (v := .ref (ad 1)) S hf hinX4 0 rfl rfl 0 (by decide) k9 rfl rfl dX4_fits_90 ?_
    refine lv_iload hx hb dX4_fits_93 (lv_at hl 1 rfl) ?_
    refine lv_iload hx hb dX4_fits_95 (lv_at hl 2 rfl) ?_
    obtain ⟨g10, hF⟩ := gd_some hF
    refine g_ast (ww' := wM G ad (va_up μ 0 (upd (μ 0) x4.toNatClampNeg x5))) S hf 2 rfl g10 rfl dX4_fits_97 (fun H locs hf => ?_)
    refine lv_iload hx hb dX4_fits_98 (lv_at hl 3 rfl) ?_
    have hE := Option.some.inj hF
    have hV := congrArg (fun z : Int32 × K2 => z.1) hE
    have hW := congrArg (fun z : Int32 × K2 => wM G ad z.2) hE
    exact g_iret S hr hlocks hf hV hW dX4_fits_100
  have hL43 : ∀ (n : Nat) (μ : K2) (x1 : Int32) (x2 : Int32) (x4 : Int32) (x5 : Int32) (x6 : Int32) (x7 : Int32)  (H : Heap) (locs : List Loc) (ls : Array Slot), f_X4_fits_L43 n μ x1 x2 x4 x5 x6 x7 = some q → Fr G (va_A (wM G ad μ0) s.heap.size) s (wM G ad μ) H locs → lv_has ls 8 [(0, .ref (ad 0)), (1, .int x1), (2, .int x2), (4, .int x4), (5, .int x5), (6, .int x6), (7, .int x7)] → W p l e ({ frames := 10, cells := 0, slots := 0, locals := 222 } : Room) s m ([.ref (ad 0), .int a1, .int a2] : List Value).toArray below meth c H locs 0 0 (MQ below (CPost G (wM G ad μ0) s.heap.size (some (.int q.1)) (wM G ad q.2)) ([.ref (ad 0), .int a1, .int a2] : List Value).toArray s 0 0 (va_A (wM G ad μ0) s.heap.size)) (F0 m 43 ls []) := by
    intro n
    induction n with
    | zero =>
      intro μ x1 x2 x4 x5 x6 x7 H locs ls hF hf hl
      exact absurd hF (by simp [f_X4_fits_L43])
    | succ n ih43 =>
      intro μ x1 x2 x4 x5 x6 x7 H locs ls hF hf hl
      rw [f_X4_fits_L43] at hF
      refine lv_iload hx hb dX4_fits_43 (lv_at hl 6 rfl) ?_
      refine lv_bipush (v := 100) hx hb dX4_fits_45 (by decide) ?_
      refine lv_icmp_ge (tgt := 89) hx hb dX4_fits_47 (by decide) (fun c9 => ?_) (fun c9 => ?_)
      · replace hF := (if_pos c9).symm.trans hF
        exact hL89 μ x4 x5 x6 _ _ _ hF hf (lv_sub hl [0, 3, 4, 5] rfl)
      · replace hF := (if_neg c9).symm.trans hF
        refine lv_aload_n hx hb dX4_fits_50 rfl (lv_at hl 0 rfl) ?_
        refine g_get (ci := 4) (C := RX4) (T := TX4) (N := 21) (v := .ref (ad 1)) S hf hinX4 0 rfl rfl 0 (by decide) k9 rfl rfl dX4_fits_51 ?_
        refine lv_iload hx hb dX4_fits_54 (lv_at hl 3 rfl) ?_
        refine lv_iload hx hb dX4_fits_56 (lv_at hl 6 rfl) ?_
        obtain ⟨g11, hF⟩ := gd_some hF
        refine g_ast (ww' := wM G ad (va_up μ 0 (upd (μ 0) x4.toNatClampNeg x7))) S hf 2 rfl g11 rfl dX4_fits_58 (fun H locs hf => ?_)
        refine lv_iload hx hb dX4_fits_59 (lv_at hl 5 rfl) ?_
        refine lv_aload_n hx hb dX4_fits_61 rfl (lv_at hl 0 rfl) ?_
        refine lv_iload_n hx hb dX4_fits_62 rfl (lv_at hl 1 rfl) ?_
        refine lv_iload_n hx hb dX4_fits_63 rfl (lv_at hl 2 rfl) ?_
        refine lv_bipush (v := 7) hx hb dX4_fits_64 (by decide) ?_
        obtain ⟨q12, h13, hF⟩ := Option.bind_eq_some_iff.mp hF
        refine g_cs0 (o := some (.int q12)) (As := [.int x2, .int 7]) (rest := [.int x1, .ref (ad 0), .int x6]) (st1 := [.int q12, .int x1, .ref (ad 0), .int x6]) S hf (c_X4_birdAt l G  x2 7 q12 h13) (va_cwS 2 hts gX4_fits_X4_birdAt rfl rfl rfl (by decide +kernel) ⟨Nat.le_of_ble_eq_true rfl, Nat.le_of_ble_eq_true rfl⟩) rfl hl.1 rfl rfl (Nat.le_of_ble_eq_true rfl) ⟨Nat.zero_le _, Nat.zero_le _⟩ dX4_fits_66 (fun H locs hf => ?_)
        obtain ⟨q14, h15, hF⟩ := Option.bind_eq_some_iff.mp hF
        refine g_cv0 (o := some (.int q14.1)) (As := [.int x1, .int q12]) (rest := [.int x6]) (st1 := [.int q14.1, .int x6]) (ci := 4) S hf (c_X4_isSo l G ad (va_up μ 0 (upd (μ 0) x4.toNatClampNeg x7)) x1 q12 q14 h15) (cwV 2 hts gX4_fits_X4_isSo rfl rfl rfl (by decide +kernel) ⟨Nat.le_of_ble_eq_true rfl, Nat.le_of_ble_eq_true rfl⟩) rfl rfl rfl 0 rfl rfl hl.1 rfl rfl (Nat.le_of_ble_eq_true rfl) ⟨Nat.zero_le _, Nat.zero_le _⟩ dX4_fits_69 (fun H locs hf => ?_)
        have hf : Fr G (va_A (wM G ad μ0) s.heap.size) s (wM G ad q14.2) H locs := hf
        refine lv_if_eq (tgt := 79) hx hb dX4_fits_72 (by decide) (fun c16 => ?_) (fun c16 => ?_)
        · replace hF := (if_pos c16).symm.trans hF
          refine lv_iconst (v := 0) hx hb dX4_fits_79 (by decide) ?_
          refine lv_iadd hx hb dX4_fits_80 ?_
          refine lv_istore (lv' := [(6, .int (x6 + 0)), (0, .ref (ad 0)), (1, .int x1), (2, .int x2), (4, .int x4), (5, .int x5), (7, .int x7)]) hx hb dX4_fits_81 hl (by decide) rfl (fun ls hl => ?_)
          refine lv_iinc (v := x7 + 1) (lv' := [(7, .int (x7 + 1)), (6, .int (x6 + 0)), (0, .ref (ad 0)), (1, .int x1), (2, .int x2), (4, .int x4), (5, .int x5)]) hx hb dX4_fits_83 hl (k := 6) rfl rfl (by decide) rfl (fun ls hl => ?_)
          refine lv_goto (tgt := 43) hx hb dX4_fits_86 (by decide) ?_
          exact ih43 q14.2 x1 x2 x4 x5 (x6 + 0) (x7 + 1) _ _ _ hF hf (lv_sub hl [2, 3, 4, 5, 6, 1, 0] rfl)
        · replace hF := (if_neg c16).symm.trans hF
          refine lv_iconst (v := 1) hx hb dX4_fits_75 (by decide) ?_
          refine lv_goto (tgt := 80) hx hb dX4_fits_76 (by decide) ?_
          refine lv_iadd hx hb dX4_fits_80 ?_
          refine lv_istore (lv' := [(6, .int (x6 + 1)), (0, .ref (ad 0)), (1, .int x1), (2, .int x2), (4, .int x4), (5, .int x5), (7, .int x7)]) hx hb dX4_fits_81 hl (by decide) rfl (fun ls hl => ?_)
          refine lv_iinc (v := x7 + 1) (lv' := [(7, .int (x7 + 1)), (6, .int (x6 + 1)), (0, .ref (ad 0)), (1, .int x1), (2, .int x2), (4, .int x4), (5, .int x5)]) hx hb dX4_fits_83 hl (k := 6) rfl rfl (by decide) rfl (fun ls hl => ?_)
          refine lv_goto (tgt := 43) hx hb dX4_fits_86 (by decide) ?_
          exact ih43 q14.2 x1 x2 x4 x5 (x6 + 1) (x7 + 1) _ _ _ hF hf (lv_sub hl [2, 3, 4, 5, 6, 1, 0] rfl)
  unfold f_X4_fits at hF
  refine lv_aload_n hx hb dX4_fits_0 rfl (lv_at hl 0 rfl) ?_
  refine lv_iload_n hx hb dX4_fits_1 rfl (lv_at hl 1 rfl) ?_
  refine lv_aload_n hx hb dX4_fits_2 rfl (lv_at hl 0 rfl) ?_
  refine lv_iload_n hx hb dX4_fits_3 rfl (lv_at hl 2 rfl) ?_
  obtain ⟨q1, h2, hF⟩ := Option.bind_eq_some_iff.mp hF
  refine g_cv0 (o := some (.int q1)) (As := [.int a2]) (rest := [.int a1, .ref (ad 0)]) (st1 := [.int q1, .int a1, .ref (ad 0)]) (ci := 4) S hf (c_X4_isBird l G ad μ0 a2 q1 h2) (cwV 1 hts gX4_fits_X4_isBird rfl rfl rfl (by decide +kernel) ⟨Nat.le_of_ble_eq_true rfl, Nat.le_of_ble_eq_true rfl⟩) rfl rfl rfl 0 rfl rfl hl.1 rfl rfl (Nat.le_of_ble_eq_true rfl) ⟨Nat.zero_le _, Nat.zero_le _⟩ dX4_fits_4 (fun H locs hf => ?_)
  have hf : Fr G (va_A (wM G ad μ0) s.heap.size) s (wM G ad μ0) H locs := hf
  obtain ⟨q3, h4, hF⟩ := Option.bind_eq_some_iff.mp hF
  refine g_cv0 (o := some (.int q3)) (As := [.int a1, .int q1]) (rest := []) (st1 := [.int q3]) (ci := 4) S hf (c_X4_lacks l G ad μ0 a1 q1 q3 h4) (cwV 2 hts gX4_fits_X4_lacks rfl rfl rfl (by decide +kernel) ⟨Nat.le_of_ble_eq_true rfl, Nat.le_of_ble_eq_true rfl⟩) rfl rfl rfl 0 rfl rfl hl.1 rfl rfl (Nat.le_of_ble_eq_true rfl) ⟨Nat.zero_le _, Nat.zero_le _⟩ dX4_fits_7 (fun H locs hf => ?_)
  have hf : Fr G (va_A (wM G ad μ0) s.heap.size) s (wM G ad μ0) H locs := hf
  refine lv_istore_n (lv' := [(3, .int q3), (0, .ref (ad 0)), (1, .int a1), (2, .int a2)]) hx hb dX4_fits_10 rfl hl (by decide) rfl (fun ls hl => ?_)
  refine lv_iload_n hx hb dX4_fits_11 rfl (lv_at hl 0 rfl) ?_
  refine lv_if_eq (tgt := 21) hx hb dX4_fits_12 (by decide) (fun c5 => ?_) (fun c5 => ?_)
  · replace hF := (if_pos c5).symm.trans hF
    refine lv_iload_n hx hb dX4_fits_21 rfl (lv_at hl 3 rfl) ?_
    refine lv_iconst (v := 3) hx hb dX4_fits_22 (by decide) ?_
    obtain ⟨q6, h7, hF⟩ := Option.bind_eq_some_iff.mp hF
    refine g_cs0 (o := some (.int q6)) (As := [.int a2, .int 3]) (rest := []) (st1 := [.int q6]) S hf (c_X4_birdAt l G  a2 3 q6 h7) (va_cwS 2 hts gX4_fits_X4_birdAt rfl rfl rfl (by decide +kernel) ⟨Nat.le_of_ble_eq_true rfl, Nat.le_of_ble_eq_true rfl⟩) rfl hl.1 rfl rfl (Nat.le_of_ble_eq_true rfl) ⟨Nat.zero_le _, Nat.zero_le _⟩ dX4_fits_23 (fun H locs hf => ?_)
    refine lv_istore (lv' := [(4, .int q6), (3, .int q3), (0, .ref (ad 0)), (1, .int a1), (2, .int a2)]) hx hb dX4_fits_26 hl (by decide) rfl (fun ls hl => ?_)
    refine lv_aload_n hx hb dX4_fits_28 rfl (lv_at hl 2 rfl) ?_
    refine g_get (ci := 4) (C := RX4) (T := TX4) (N := 21) (v := .ref (ad 1)) S hf hinX4 0 rfl rfl 0 (by decide) k9 rfl rfl dX4_fits_29 ?_
    refine lv_iload hx hb dX4_fits_32 (lv_at hl 0 rfl) ?_
    obtain ⟨g8, hF⟩ := gd_some hF
    refine g_ald (v := (μ0 0) q6.toNatClampNeg) S hf 2 rfl g8 rfl dX4_fits_34 ?_
    refine lv_istore (lv' := [(5, .int ((μ0 0) q6.toNatClampNeg)), (4, .int q6), (3, .int q3), (0, .ref (ad 0)), (1, .int a1), (2, .int a2)]) hx hb dX4_fits_35 hl (by decide) rfl (fun ls hl => ?_)
    refine lv_iconst (v := 0) hx hb dX4_fits_37 (by decide) ?_
    refine lv_istore (lv' := [(6, .int 0), (5, .int ((μ0 0) q6.toNatClampNeg)), (4, .int q6), (3, .int q3), (0, .ref (ad 0)), (1, .int a1), (2, .int a2)]) hx hb dX4_fits_38 hl (by decide) rfl (fun ls hl => ?_)
    refine lv_iconst (v := 0) hx hb dX4_fits_40 (by decide) ?_
    refine lv_istore (lv' := [(7, .int 0), (6, .int 0), (5, .int ((μ0 0) q6.toNatClampNeg)), (4, .int q6), (3, .int q3), (0, .ref (ad 0)), (1, .int a1), (2, .int a2)]) hx hb dX4_fits_41 hl (by decide) rfl (fun ls hl => ?_)
    exact hL43 1000 μ0 a1 a2 q6 ((μ0 0) q6.toNatClampNeg) 0 0 _ _ _ hF hf (lv_sub hl [5, 6, 7, 3, 2, 1, 0] rfl)
  · replace hF := (if_neg c5).symm.trans hF
    refine lv_aload_n hx hb dX4_fits_15 rfl (lv_at hl 1 rfl) ?_
    refine lv_iload_n hx hb dX4_fits_16 rfl (lv_at hl 0 rfl) ?_
    obtain ⟨q17, h18, hF⟩ := Option.bind_eq_some_iff.mp hF
    refine g_cv0 (o := some (.int q17.1)) (As := [.int q3]) (rest := []) (st1 := [.int q17.1]) (ci := 4) S hf (c_X4_finding l G ad μ0 q3 q17 h18) (cwV 1 hts gX4_fits_X4_finding rfl rfl rfl (by decide +kernel) ⟨Nat.le_of_ble_eq_true rfl, Nat.le_of_ble_eq_true rfl⟩) rfl rfl rfl 0 rfl rfl hl.1 rfl rfl (Nat.le_of_ble_eq_true rfl) ⟨Nat.zero_le _, Nat.zero_le _⟩ dX4_fits_17 (fun H locs hf => ?_)
    have hf : Fr G (va_A (wM G ad μ0) s.heap.size) s (wM G ad q17.2) H locs := hf
    have hE := Option.some.inj hF
    have hV := congrArg (fun z : Int32 × K2 => z.1) hE
    have hW := congrArg (fun z : Int32 × K2 => wM G ad z.2) hE
    exact g_iret S hr hlocks hf hV hW dX4_fits_20
def f_X4_kinds_B92 (μ : K2) (x4 : Int32) (x5 : Int32) (x6 : Int32) : Option (Int32 × K2) := if ix x4 92 then (some (x6, va_up μ 0 (upd (μ 0) x4.toNatClampNeg x5))) else none
def f_X4_kinds_L43 : Nat → K2 → Int32 → Int32 → Int32 → Int32 → Int32 → Int32 → Option (Int32 × K2)
  | 0, _, _, _, _, _, _, _ => none
  | n + 1, μ, x1, x2, x4, x5, x6, x7 => if 6 < x7 then (f_X4_kinds_B92 μ x4 x5 x6) else (if ix x4 92 then (Option.bind (f_X4_birdAt x2 7) (fun q12 => Option.bind (f_X4_isSo (va_up μ 0 (upd (μ 0) x4.toNatClampNeg x7)) x1 q12) (fun q14 => if q14.1 = 0 then (f_X4_kinds_L43 n q14.2 x1 x2 x4 x5 (x6 ||| 0) (x7 + 1)) else (f_X4_kinds_L43 n q14.2 x1 x2 x4 x5 (x6 ||| (1 <<< (x7 &&& 31))) (x7 + 1))))) else none)
def f_X4_kinds (μ0 : K2) (a1 : Int32) (a2 : Int32) : Option (Int32 × K2) := Option.bind (f_X4_isBird μ0 a2) (fun q1 => Option.bind (f_X4_lacks μ0 a1 q1) (fun q3 => if q3 = 0 then (Option.bind (f_X4_birdAt a2 0) (fun q6 => if ix q6 92 then (f_X4_kinds_L43 1000 μ0 a1 a2 q6 ((μ0 0) q6.toNatClampNeg) 0 0) else none)) else (Option.bind (f_X4_finding μ0 q3) (fun q17 => some (q17.1, q17.2)))))
set_option maxHeartbeats 4000000 in
set_option maxRecDepth 100000 in
theorem c_X4_kinds (l : Launch) (G : GT) (ad : Nat → Nat) (μ0 : K2) (a1 : Int32) (a2 : Int32) (q : Int32 × K2) (hF : f_X4_kinds μ0 a1 a2 = some q) : Ct l G yX4_kinds wsX4_kinds ({ frames := 10, cells := 0, slots := 0, locals := 222 } : Room) ([.ref (ad 0), .int a1, .int a2] : List Value) (wM G ad μ0) (some (.int q.1)) (wM G ad q.2) := by
  have k9 : Cond.fieldLink RX4 9 "PigeonRollsModel" "now" "[I" ∈ wsX4_kinds := by decide +kernel
  have hinX4 : ∀ w ∈ u_ws RX4 TX4 21, w ∈ wsX4_kinds := by decide +kernel
  refine Ct.of cX4_kinds 8 (some .int) (by decide) rfl (Nat.le_of_ble_eq_true rfl) ?_
  intro p e s m below meth c ls S hr hlocks hf hl
  have S : CallFix p m c cX4_kinds 8 s ([.ref (ad 0), .int a1, .int a2] : List Value).toArray wsX4_kinds RX4 := S
  obtain ⟨hx, hb, hml, hown, hts⟩ := id S
  have hl : lv_has ls 8 [(0, .ref (ad 0)), (1, .int a1), (2, .int a2)] := hl
  have hL92 : ∀ (μ : K2) (x4 : Int32) (x5 : Int32) (x6 : Int32)  (H : Heap) (locs : List Loc) (ls : Array Slot), f_X4_kinds_B92 μ x4 x5 x6 = some q → Fr G (va_A (wM G ad μ0) s.heap.size) s (wM G ad μ) H locs → lv_has ls 8 [(0, .ref (ad 0)), (4, .int x4), (5, .int x5), (6, .int x6)] → W p l e ({ frames := 10, cells := 0, slots := 0, locals := 222 } : Room) s m ([.ref (ad 0), .int a1, .int a2] : List Value).toArray below meth c H locs 0 0 (MQ below (CPost G (wM G ad μ0) s.heap.size (some (.int q.1)) (wM G ad q.2)) ([.ref (ad 0), .int a1, .int a2] : List Value).toArray s 0 0 (va_A (wM G ad μ0) s.heap.size)) (F0 m 92 ls []) := by
    intro μ x4 x5 x6 H locs ls hF hf hl
    unfold f_X4_kinds_B92 at hF
    refine lv_aload_n hx hb dX4_kinds_92 rfl (lv_at hl 0 rfl) ?_
    refine g_get (ci := 4) (C := RX4) (T := TX4) (N := 21) (v := .ref (ad 1)) S hf hinX4 0 rfl rfl 0 (by decide) k9 rfl rfl dX4_kinds_93 ?_
    refine lv_iload hx hb dX4_kinds_96 (lv_at hl 1 rfl) ?_
    refine lv_iload hx hb dX4_kinds_98 (lv_at hl 2 rfl) ?_
    obtain ⟨g10, hF⟩ := gd_some hF
    refine g_ast (ww' := wM G ad (va_up μ 0 (upd (μ 0) x4.toNatClampNeg x5))) S hf 2 rfl g10 rfl dX4_kinds_100 (fun H locs hf => ?_)
    refine lv_iload hx hb dX4_kinds_101 (lv_at hl 3 rfl) ?_
    have hE := Option.some.inj hF
    have hV := congrArg (fun z : Int32 × K2 => z.1) hE
    have hW := congrArg (fun z : Int32 × K2 => wM G ad z.2) hE
    exact g_iret S hr hlocks hf hV hW dX4_kinds_103
  have hL43 : ∀ (n : Nat) (μ : K2) (x1 : Int32) (x2 : Int32) (x4 : Int32) (x5 : Int32) (x6 : Int32) (x7 : Int32)  (H : Heap) (locs : List Loc) (ls : Array Slot), f_X4_kinds_L43 n μ x1 x2 x4 x5 x6 x7 = some q → Fr G (va_A (wM G ad μ0) s.heap.size) s (wM G ad μ) H locs → lv_has ls 8 [(0, .ref (ad 0)), (1, .int x1), (2, .int x2), (4, .int x4), (5, .int x5), (6, .int x6), (7, .int x7)] → W p l e ({ frames := 10, cells := 0, slots := 0, locals := 222 } : Room) s m ([.ref (ad 0), .int a1, .int a2] : List Value).toArray below meth c H locs 0 0 (MQ below (CPost G (wM G ad μ0) s.heap.size (some (.int q.1)) (wM G ad q.2)) ([.ref (ad 0), .int a1, .int a2] : List Value).toArray s 0 0 (va_A (wM G ad μ0) s.heap.size)) (F0 m 43 ls []) := by
    intro n
    induction n with
    | zero =>
      intro μ x1 x2 x4 x5 x6 x7 H locs ls hF hf hl
      exact absurd hF (by simp [f_X4_kinds_L43])
    | succ n ih43 =>
      intro μ x1 x2 x4 x5 x6 x7 H locs ls hF hf hl
      rw [f_X4_kinds_L43] at hF
      refine lv_iload hx hb dX4_kinds_43 (lv_at hl 6 rfl) ?_
      refine lv_bipush (v := 6) hx hb dX4_kinds_45 (by decide) ?_
      refine lv_icmp_gt (tgt := 92) hx hb dX4_kinds_47 (by decide) (fun c9 => ?_) (fun c9 => ?_)
      · replace hF := (if_pos c9).symm.trans hF
        exact hL92 μ x4 x5 x6 _ _ _ hF hf (lv_sub hl [0, 3, 4, 5] rfl)
      · replace hF := (if_neg c9).symm.trans hF
        refine lv_aload_n hx hb dX4_kinds_50 rfl (lv_at hl 0 rfl) ?_
        refine g_get (ci := 4) (C := RX4) (T := TX4) (N := 21) (v := .ref (ad 1)) S hf hinX4 0 rfl rfl 0 (by decide) k9 rfl rfl dX4_kinds_51 ?_
        refine lv_iload hx hb dX4_kinds_54 (lv_at hl 3 rfl) ?_
        refine lv_iload hx hb dX4_kinds_56 (lv_at hl 6 rfl) ?_
        obtain ⟨g11, hF⟩ := gd_some hF
        refine g_ast (ww' := wM G ad (va_up μ 0 (upd (μ 0) x4.toNatClampNeg x7))) S hf 2 rfl g11 rfl dX4_kinds_58 (fun H locs hf => ?_)
        refine lv_iload hx hb dX4_kinds_59 (lv_at hl 5 rfl) ?_
        refine lv_aload_n hx hb dX4_kinds_61 rfl (lv_at hl 0 rfl) ?_
        refine lv_iload_n hx hb dX4_kinds_62 rfl (lv_at hl 1 rfl) ?_
        refine lv_iload_n hx hb dX4_kinds_63 rfl (lv_at hl 2 rfl) ?_
        refine lv_bipush (v := 7) hx hb dX4_kinds_64 (by decide) ?_
        obtain ⟨q12, h13, hF⟩ := Option.bind_eq_some_iff.mp hF
        refine g_cs0 (o := some (.int q12)) (As := [.int x2, .int 7]) (rest := [.int x1, .ref (ad 0), .int x6]) (st1 := [.int q12, .int x1, .ref (ad 0), .int x6]) S hf (c_X4_birdAt l G  x2 7 q12 h13) (va_cwS 2 hts gX4_kinds_X4_birdAt rfl rfl rfl (by decide +kernel) ⟨Nat.le_of_ble_eq_true rfl, Nat.le_of_ble_eq_true rfl⟩) rfl hl.1 rfl rfl (Nat.le_of_ble_eq_true rfl) ⟨Nat.zero_le _, Nat.zero_le _⟩ dX4_kinds_66 (fun H locs hf => ?_)
        obtain ⟨q14, h15, hF⟩ := Option.bind_eq_some_iff.mp hF
        refine g_cv0 (o := some (.int q14.1)) (As := [.int x1, .int q12]) (rest := [.int x6]) (st1 := [.int q14.1, .int x6]) (ci := 4) S hf (c_X4_isSo l G ad (va_up μ 0 (upd (μ 0) x4.toNatClampNeg x7)) x1 q12 q14 h15) (cwV 2 hts gX4_kinds_X4_isSo rfl rfl rfl (by decide +kernel) ⟨Nat.le_of_ble_eq_true rfl, Nat.le_of_ble_eq_true rfl⟩) rfl rfl rfl 0 rfl rfl hl.1 rfl rfl (Nat.le_of_ble_eq_true rfl) ⟨Nat.zero_le _, Nat.zero_le _⟩ dX4_kinds_69 (fun H locs hf => ?_)
        have hf : Fr G (va_A (wM G ad μ0) s.heap.size) s (wM G ad q14.2) H locs := hf
        refine lv_if_eq (tgt := 82) hx hb dX4_kinds_72 (by decide) (fun c16 => ?_) (fun c16 => ?_)
        · replace hF := (if_pos c16).symm.trans hF
          refine lv_iconst (v := 0) hx hb dX4_kinds_82 (by decide) ?_
          refine lv_ior hx hb dX4_kinds_83 ?_
          refine lv_istore (lv' := [(6, .int (x6 ||| 0)), (0, .ref (ad 0)), (1, .int x1), (2, .int x2), (4, .int x4), (5, .int x5), (7, .int x7)]) hx hb dX4_kinds_84 hl (by decide) rfl (fun ls hl => ?_)
          refine lv_iinc (v := x7 + 1) (lv' := [(7, .int (x7 + 1)), (6, .int (x6 ||| 0)), (0, .ref (ad 0)), (1, .int x1), (2, .int x2), (4, .int x4), (5, .int x5)]) hx hb dX4_kinds_86 hl (k := 6) rfl rfl (by decide) rfl (fun ls hl => ?_)
          refine lv_goto (tgt := 43) hx hb dX4_kinds_89 (by decide) ?_
          exact ih43 q14.2 x1 x2 x4 x5 (x6 ||| 0) (x7 + 1) _ _ _ hF hf (lv_sub hl [2, 3, 4, 5, 6, 1, 0] rfl)
        · replace hF := (if_neg c16).symm.trans hF
          refine lv_iconst (v := 1) hx hb dX4_kinds_75 (by decide) ?_
          refine lv_iload hx hb dX4_kinds_76 (lv_at hl 6 rfl) ?_
          refine lv_ishl hx hb dX4_kinds_78 ?_
          refine lv_goto (tgt := 83) hx hb dX4_kinds_79 (by decide) ?_
          refine lv_ior hx hb dX4_kinds_83 ?_
          refine lv_istore (lv' := [(6, .int (x6 ||| (1 <<< (x7 &&& 31)))), (0, .ref (ad 0)), (1, .int x1), (2, .int x2), (4, .int x4), (5, .int x5), (7, .int x7)]) hx hb dX4_kinds_84 hl (by decide) rfl (fun ls hl => ?_)
          refine lv_iinc (v := x7 + 1) (lv' := [(7, .int (x7 + 1)), (6, .int (x6 ||| (1 <<< (x7 &&& 31)))), (0, .ref (ad 0)), (1, .int x1), (2, .int x2), (4, .int x4), (5, .int x5)]) hx hb dX4_kinds_86 hl (k := 6) rfl rfl (by decide) rfl (fun ls hl => ?_)
          refine lv_goto (tgt := 43) hx hb dX4_kinds_89 (by decide) ?_
          exact ih43 q14.2 x1 x2 x4 x5 (x6 ||| (1 <<< (x7 &&& 31))) (x7 + 1) _ _ _ hF hf (lv_sub hl [2, 3, 4, 5, 6, 1, 0] rfl)
  unfold f_X4_kinds at hF
  refine lv_aload_n hx hb dX4_kinds_0 rfl (lv_at hl 0 rfl) ?_
  refine lv_iload_n hx hb dX4_kinds_1 rfl (lv_at hl 1 rfl) ?_
  refine lv_aload_n hx hb dX4_kinds_2 rfl (lv_at hl 0 rfl) ?_
  refine lv_iload_n hx hb dX4_kinds_3 rfl (lv_at hl 2 rfl) ?_
  obtain ⟨q1, h2, hF⟩ := Option.bind_eq_some_iff.mp hF
  refine g_cv0 (o := some (.int q1)) (As := [.int a2]) (rest := [.int a1, .ref (ad 0)]) (st1 := [.int q1, .int a1, .ref (ad 0)]) (ci := 4) S hf (c_X4_isBird l G ad μ0 a2 q1 h2) (cwV 1 hts gX4_kinds_X4_isBird rfl rfl rfl (by decide +kernel) ⟨Nat.le_of_ble_eq_true rfl, Nat.le_of_ble_eq_true rfl⟩) rfl rfl rfl 0 rfl rfl hl.1 rfl rfl (Nat.le_of_ble_eq_true rfl) ⟨Nat.zero_le _, Nat.zero_le _⟩ dX4_kinds_4 (fun H locs hf => ?_)
  have hf : Fr G (va_A (wM G ad μ0) s.heap.size) s (wM G ad μ0) H locs := hf
  obtain ⟨q3, h4, hF⟩ := Option.bind_eq_some_iff.mp hF
  refine g_cv0 (o := some (.int q3)) (As := [.int a1, .int q1]) (rest := []) (st1 := [.int q3]) (ci := 4) S hf (c_X4_lacks l G ad μ0 a1 q1 q3 h4) (cwV 2 hts gX4_kinds_X4_lacks rfl rfl rfl (by decide +kernel) ⟨Nat.le_of_ble_eq_true rfl, Nat.le_of_ble_eq_true rfl⟩) rfl rfl rfl 0 rfl rfl hl.1 rfl rfl (Nat.le_of_ble_eq_true rfl) ⟨Nat.zero_le _, Nat.zero_le _⟩ dX4_kinds_7 (fun H locs hf => ?_)
  have hf : Fr G (va_A (wM G ad μ0) s.heap.size) s (wM G ad μ0) H locs := hf
  refine lv_istore_n (lv' := [(3, .int q3), (0, .ref (ad 0)), (1, .int a1), (2, .int a2)]) hx hb dX4_kinds_10 rfl hl (by decide) rfl (fun ls hl => ?_)
  refine lv_iload_n hx hb dX4_kinds_11 rfl (lv_at hl 0 rfl) ?_
  refine lv_if_eq (tgt := 21) hx hb dX4_kinds_12 (by decide) (fun c5 => ?_) (fun c5 => ?_)
  · replace hF := (if_pos c5).symm.trans hF
    refine lv_iload_n hx hb dX4_kinds_21 rfl (lv_at hl 3 rfl) ?_
    refine lv_iconst (v := 0) hx hb dX4_kinds_22 (by decide) ?_
    obtain ⟨q6, h7, hF⟩ := Option.bind_eq_some_iff.mp hF
    refine g_cs0 (o := some (.int q6)) (As := [.int a2, .int 0]) (rest := []) (st1 := [.int q6]) S hf (c_X4_birdAt l G  a2 0 q6 h7) (va_cwS 2 hts gX4_kinds_X4_birdAt rfl rfl rfl (by decide +kernel) ⟨Nat.le_of_ble_eq_true rfl, Nat.le_of_ble_eq_true rfl⟩) rfl hl.1 rfl rfl (Nat.le_of_ble_eq_true rfl) ⟨Nat.zero_le _, Nat.zero_le _⟩ dX4_kinds_23 (fun H locs hf => ?_)
    refine lv_istore (lv' := [(4, .int q6), (3, .int q3), (0, .ref (ad 0)), (1, .int a1), (2, .int a2)]) hx hb dX4_kinds_26 hl (by decide) rfl (fun ls hl => ?_)
    refine lv_aload_n hx hb dX4_kinds_28 rfl (lv_at hl 2 rfl) ?_
    refine g_get (ci := 4) (C := RX4) (T := TX4) (N := 21) (v := .ref (ad 1)) S hf hinX4 0 rfl rfl 0 (by decide) k9 rfl rfl dX4_kinds_29 ?_
    refine lv_iload hx hb dX4_kinds_32 (lv_at hl 0 rfl) ?_
    obtain ⟨g8, hF⟩ := gd_some hF
    refine g_ald (v := (μ0 0) q6.toNatClampNeg) S hf 2 rfl g8 rfl dX4_kinds_34 ?_
    refine lv_istore (lv' := [(5, .int ((μ0 0) q6.toNatClampNeg)), (4, .int q6), (3, .int q3), (0, .ref (ad 0)), (1, .int a1), (2, .int a2)]) hx hb dX4_kinds_35 hl (by decide) rfl (fun ls hl => ?_)
    refine lv_iconst (v := 0) hx hb dX4_kinds_37 (by decide) ?_
    refine lv_istore (lv' := [(6, .int 0), (5, .int ((μ0 0) q6.toNatClampNeg)), (4, .int q6), (3, .int q3), (0, .ref (ad 0)), (1, .int a1), (2, .int a2)]) hx hb dX4_kinds_38 hl (by decide) rfl (fun ls hl => ?_)
    refine lv_iconst (v := 0) hx hb dX4_kinds_40 (by decide) ?_
    refine lv_istore (lv' := [(7, .int 0), (6, .int 0), (5, .int ((μ0 0) q6.toNatClampNeg)), (4, .int q6), (3, .int q3), (0, .ref (ad 0)), (1, .int a1), (2, .int a2)]) hx hb dX4_kinds_41 hl (by decide) rfl (fun ls hl => ?_)
    exact hL43 1000 μ0 a1 a2 q6 ((μ0 0) q6.toNatClampNeg) 0 0 _ _ _ hF hf (lv_sub hl [5, 6, 7, 3, 2, 1, 0] rfl)
  · replace hF := (if_neg c5).symm.trans hF
    refine lv_aload_n hx hb dX4_kinds_15 rfl (lv_at hl 1 rfl) ?_
    refine lv_iload_n hx hb dX4_kinds_16 rfl (lv_at hl 0 rfl) ?_
    obtain ⟨q17, h18, hF⟩ := Option.bind_eq_some_iff.mp hF
    refine g_cv0 (o := some (.int q17.1)) (As := [.int q3]) (rest := []) (st1 := [.int q17.1]) (ci := 4) S hf (c_X4_finding l G ad μ0 q3 q17 h18) (cwV 1 hts gX4_kinds_X4_finding rfl rfl rfl (by decide +kernel) ⟨Nat.le_of_ble_eq_true rfl, Nat.le_of_ble_eq_true rfl⟩) rfl rfl rfl 0 rfl rfl hl.1 rfl rfl (Nat.le_of_ble_eq_true rfl) ⟨Nat.zero_le _, Nat.zero_le _⟩ dX4_kinds_17 (fun H locs hf => ?_)
    have hf : Fr G (va_A (wM G ad μ0) s.heap.size) s (wM G ad q17.2) H locs := hf
    have hE := Option.some.inj hF
    have hV := congrArg (fun z : Int32 × K2 => z.1) hE
    have hW := congrArg (fun z : Int32 × K2 => wM G ad z.2) hE
    exact g_iret S hr hlocks hf hV hW dX4_kinds_20
def f_X4_drawn (μ0 : K2) : Option (Int32 × K2) := some (iushr ((upd (μ0 0) 2 ((((μ0 0) 2) * 1103515245) + 12345)) 2) 8, va_up μ0 0 (upd (μ0 0) 2 ((((μ0 0) 2) * 1103515245) + 12345)))
set_option maxHeartbeats 4000000 in
set_option maxRecDepth 100000 in
theorem c_X4_drawn (l : Launch) (G : GT) (ad : Nat → Nat) (μ0 : K2) (q : Int32 × K2) (hF : f_X4_drawn μ0 = some q) : Ct l G yX4_drawn wsX4_drawn ({ frames := 0, cells := 0, slots := 0, locals := 0 } : Room) ([.ref (ad 0)] : List Value) (wM G ad μ0) (some (.int q.1)) (wM G ad q.2) := by
  have k9 : Cond.fieldLink RX4 9 "PigeonRollsModel" "now" "[I" ∈ wsX4_drawn := by decide +kernel
  have kc214 : Cond.constant RX4 214 (1103515245) ∈ wsX4_drawn := by decide +kernel
  have hinX4 : ∀ w ∈ u_ws RX4 TX4 21, w ∈ wsX4_drawn := by decide +kernel
  refine Ct.of cX4_drawn 1 (some .int) (by decide) rfl (Nat.le_of_ble_eq_true rfl) ?_
  intro p e s m below meth c ls S hr hlocks hf hl
  have S : CallFix p m c cX4_drawn 1 s ([.ref (ad 0)] : List Value).toArray wsX4_drawn RX4 := S
  obtain ⟨hx, hb, hml, hown, hts⟩ := id S
  have hl : lv_has ls 1 [(0, .ref (ad 0))] := hl
  unfold f_X4_drawn at hF
  refine lv_aload_n hx hb dX4_drawn_0 rfl (lv_at hl 0 rfl) ?_
  refine g_get (ci := 4) (C := RX4) (T := TX4) (N := 21) (v := .ref (ad 1)) S hf hinX4 0 rfl rfl 0 (by decide) k9 rfl rfl dX4_drawn_1 ?_
  refine lv_iconst (v := 2) hx hb dX4_drawn_4 (by decide) ?_
  refine lv_aload_n hx hb dX4_drawn_5 rfl (lv_at hl 0 rfl) ?_
  refine g_get (ci := 4) (C := RX4) (T := TX4) (N := 21) (v := .ref (ad 1)) S hf hinX4 0 rfl rfl 0 (by decide) k9 rfl rfl dX4_drawn_6 ?_
  refine lv_iconst (v := 2) hx hb dX4_drawn_9 (by decide) ?_
  refine g_ald (v := (μ0 0) 2) S hf 2 rfl (by decide) rfl dX4_drawn_10 ?_
  refine lv_ldc (v := 1103515245) hx hb hown (hts _ kc214) dX4_drawn_11 ?_
  refine lv_imul hx hb dX4_drawn_13 ?_
  refine lv_sipush (v := 12345) hx hb dX4_drawn_14 (by decide) ?_
  refine lv_iadd hx hb dX4_drawn_17 ?_
  refine g_ast (ww' := wM G ad (va_up μ0 0 (upd (μ0 0) 2 ((((μ0 0) 2) * 1103515245) + 12345)))) S hf 2 rfl (by decide) rfl dX4_drawn_18 (fun H locs hf => ?_)
  refine lv_aload_n hx hb dX4_drawn_19 rfl (lv_at hl 0 rfl) ?_
  refine g_get (ci := 4) (C := RX4) (T := TX4) (N := 21) (v := .ref (ad 1)) S hf hinX4 0 rfl rfl 0 (by decide) k9 rfl rfl dX4_drawn_20 ?_
  refine lv_iconst (v := 2) hx hb dX4_drawn_23 (by decide) ?_
  refine g_ald (f := upd (μ0 0) 2 ((((μ0 0) 2) * 1103515245) + 12345)) (v := (upd (μ0 0) 2 ((((μ0 0) 2) * 1103515245) + 12345)) 2) S hf 2 rfl (by decide) rfl dX4_drawn_24 ?_
  refine lv_bipush (v := 8) hx hb dX4_drawn_25 (by decide) ?_
  refine lv_iushr (v := iushr ((upd (μ0 0) 2 ((((μ0 0) 2) * 1103515245) + 12345)) 2) 8) hx hb dX4_drawn_27 rfl ?_
  have hE := Option.some.inj hF
  have hV := congrArg (fun z : Int32 × K2 => z.1) hE
  have hW := congrArg (fun z : Int32 × K2 => wM G ad z.2) hE
  exact g_iret S hr hlocks hf hV hW dX4_drawn_28
def f_X4_hatchings_B110 (μ : K2) : Option (Int32 × K2) := some ((μ 0) 3, μ)
def f_X4_hatchings_L39 : Nat → K2 → Int32 → Int32 → Option (Int32 × K2)
  | 0, _, _, _ => none
  | n + 1, μ, x1, x2 => if x1 ≤ x2 then (f_X4_hatchings_B110 μ) else (Option.bind (f_X4_drawn μ) (fun q6 => Option.bind (f_X4_placeNow q6.2) (fun q8 => if ix q8 92 then (Option.bind (f_X4_drawn (va_up q6.2 0 (upd (q6.2 0) q8.toNatClampNeg (irem q6.1 100)))) (fun q11 => Option.bind (f_X4_isBird q11.2 (irem q11.1 8)) (fun q13 => if q13 = 0 then (Option.bind (f_X4_day q11.2) (fun q16 => f_X4_hatchings_L39 n q16 x1 (x2 + 1))) else (Option.bind (f_X4_birdAt (irem q11.1 8) 5) (fun q18 => Option.bind (f_X4_birdIs q11.2 (irem q11.1 8) 5) (fun q20 => if ix q18 92 then (Option.bind (f_X4_day (va_up q11.2 0 (upd (q11.2 0) q18.toNatClampNeg (1 - q20)))) (fun q23 => f_X4_hatchings_L39 n q23 x1 (x2 + 1))) else none)))))) else none)))
def f_X4_hatchings (μ0 : K2) (a1 : Int32) : Option (Int32 × K2) := Option.bind (f_X4_within a1 1 20) (fun q1 => if q1 = 0 then (Option.bind (f_X4_finding μ0 (-1000001)) (fun q27 => some (q27.1, q27.2))) else (if (((μ0 0) 0) + a1) ≤ 99999 then (f_X4_hatchings_L39 1000 μ0 a1 0) else (Option.bind (f_X4_finding μ0 (-1000005)) (fun q25 => some (q25.1, q25.2)))))
set_option maxHeartbeats 4000000 in
set_option maxRecDepth 100000 in
theorem c_X4_hatchings (l : Launch) (G : GT) (ad : Nat → Nat) (μ0 : K2) (a1 : Int32) (q : Int32 × K2) (hF : f_X4_hatchings μ0 a1 = some q) : Ct l G yX4_hatchings wsX4_hatchings ({ frames := 8, cells := 0, slots := 0, locals := 175 } : Room) ([.ref (ad 0), .int a1] : List Value) (wM G ad μ0) (some (.int q.1)) (wM G ad q.2) := by
  have k9 : Cond.fieldLink RX4 9 "PigeonRollsModel" "now" "[I" ∈ wsX4_hatchings := by decide +kernel
  have kc88 : Cond.constant RX4 88 (99999) ∈ wsX4_hatchings := by decide +kernel
  have kc109 : Cond.constant RX4 109 (-1000005) ∈ wsX4_hatchings := by decide +kernel
  have kc63 : Cond.constant RX4 63 (-1000001) ∈ wsX4_hatchings := by decide +kernel
  have hinX4 : ∀ w ∈ u_ws RX4 TX4 21, w ∈ wsX4_hatchings := by decide +kernel
  refine Ct.of cX4_hatchings 5 (some .int) (by decide) rfl (Nat.le_of_ble_eq_true rfl) ?_
  intro p e s m below meth c ls S hr hlocks hf hl
  have S : CallFix p m c cX4_hatchings 5 s ([.ref (ad 0), .int a1] : List Value).toArray wsX4_hatchings RX4 := S
  obtain ⟨hx, hb, hml, hown, hts⟩ := id S
  have hl : lv_has ls 5 [(0, .ref (ad 0)), (1, .int a1)] := hl
  have hL110 : ∀ (μ : K2)  (H : Heap) (locs : List Loc) (ls : Array Slot), f_X4_hatchings_B110 μ = some q → Fr G (va_A (wM G ad μ0) s.heap.size) s (wM G ad μ) H locs → lv_has ls 5 [(0, .ref (ad 0))] → W p l e ({ frames := 8, cells := 0, slots := 0, locals := 175 } : Room) s m ([.ref (ad 0), .int a1] : List Value).toArray below meth c H locs 0 0 (MQ below (CPost G (wM G ad μ0) s.heap.size (some (.int q.1)) (wM G ad q.2)) ([.ref (ad 0), .int a1] : List Value).toArray s 0 0 (va_A (wM G ad μ0) s.heap.size)) (F0 m 110 ls []) := by
    intro μ H locs ls hF hf hl
    unfold f_X4_hatchings_B110 at hF
    refine lv_aload_n hx hb dX4_hatchings_110 rfl (lv_at hl 0 rfl) ?_
    refine g_get (ci := 4) (C := RX4) (T := TX4) (N := 21) (v := .ref (ad 1)) S hf hinX4 0 rfl rfl 0 (by decide) k9 rfl rfl dX4_hatchings_111 ?_
    refine lv_iconst (v := 3) hx hb dX4_hatchings_114 (by decide) ?_
    refine g_ald (v := (μ 0) 3) S hf 2 rfl (by decide) rfl dX4_hatchings_115 ?_
    have hE := Option.some.inj hF
    have hV := congrArg (fun z : Int32 × K2 => z.1) hE
    have hW := congrArg (fun z : Int32 × K2 => wM G ad z.2) hE
    exact g_iret S hr hlocks hf hV hW dX4_hatchings_116
  have hL39 : ∀ (n : Nat) (μ : K2) (x1 : Int32) (x2 : Int32)  (H : Heap) (locs : List Loc) (ls : Array Slot), f_X4_hatchings_L39 n μ x1 x2 = some q → Fr G (va_A (wM G ad μ0) s.heap.size) s (wM G ad μ) H locs → lv_has ls 5 [(0, .ref (ad 0)), (1, .int x1), (2, .int x2)] → W p l e ({ frames := 8, cells := 0, slots := 0, locals := 175 } : Room) s m ([.ref (ad 0), .int a1] : List Value).toArray below meth c H locs 0 0 (MQ below (CPost G (wM G ad μ0) s.heap.size (some (.int q.1)) (wM G ad q.2)) ([.ref (ad 0), .int a1] : List Value).toArray s 0 0 (va_A (wM G ad μ0) s.heap.size)) (F0 m 39 ls []) := by
    intro n
    induction n with
    | zero =>
      intro μ x1 x2 H locs ls hF hf hl
      exact absurd hF (by simp [f_X4_hatchings_L39])
    | succ n ih39 =>
      intro μ x1 x2 H locs ls hF hf hl
      rw [f_X4_hatchings_L39] at hF
      refine lv_iload_n hx hb dX4_hatchings_39 rfl (lv_at hl 2 rfl) ?_
      refine lv_iload_n hx hb dX4_hatchings_40 rfl (lv_at hl 1 rfl) ?_
      refine lv_icmp_ge (tgt := 110) hx hb dX4_hatchings_41 (by decide) (fun c5 => ?_) (fun c5 => ?_)
      · replace hF := (if_pos c5).symm.trans hF
        exact hL110 μ _ _ _ hF hf (lv_sub hl [0] rfl)
      · replace hF := (if_neg c5).symm.trans hF
        refine lv_aload_n hx hb dX4_hatchings_44 rfl (lv_at hl 0 rfl) ?_
        obtain ⟨q6, h7, hF⟩ := Option.bind_eq_some_iff.mp hF
        refine g_cv0 (o := some (.int q6.1)) (As := []) (rest := []) (st1 := [.int q6.1]) (ci := 4) S hf (c_X4_drawn l G ad μ q6 h7) (cwV 0 hts gX4_hatchings_X4_drawn rfl rfl rfl (by decide +kernel) ⟨Nat.le_of_ble_eq_true rfl, Nat.le_of_ble_eq_true rfl⟩) rfl rfl rfl 0 rfl rfl hl.1 rfl rfl (Nat.le_of_ble_eq_true rfl) ⟨Nat.zero_le _, Nat.zero_le _⟩ dX4_hatchings_45 (fun H locs hf => ?_)
        have hf : Fr G (va_A (wM G ad μ0) s.heap.size) s (wM G ad q6.2) H locs := hf
        refine lv_bipush (v := 100) hx hb dX4_hatchings_48 (by decide) ?_
        refine lv_irem hx hb dX4_hatchings_50 (by decide) ?_
        refine lv_istore_n (lv' := [(3, .int (irem q6.1 100)), (0, .ref (ad 0)), (1, .int x1), (2, .int x2)]) hx hb dX4_hatchings_51 rfl hl (by decide) rfl (fun ls hl => ?_)
        refine lv_aload_n hx hb dX4_hatchings_52 rfl (lv_at hl 1 rfl) ?_
        refine g_get (ci := 4) (C := RX4) (T := TX4) (N := 21) (v := .ref (ad 1)) S hf hinX4 0 rfl rfl 0 (by decide) k9 rfl rfl dX4_hatchings_53 ?_
        refine lv_aload_n hx hb dX4_hatchings_56 rfl (lv_at hl 1 rfl) ?_
        obtain ⟨q8, h9, hF⟩ := Option.bind_eq_some_iff.mp hF
        refine g_cv0 (o := some (.int q8)) (As := []) (rest := [.ref (ad 1)]) (st1 := [.int q8, .ref (ad 1)]) (ci := 4) S hf (c_X4_placeNow l G ad q6.2 q8 h9) (cwV 0 hts gX4_hatchings_X4_placeNow rfl rfl rfl (by decide +kernel) ⟨Nat.le_of_ble_eq_true rfl, Nat.le_of_ble_eq_true rfl⟩) rfl rfl rfl 0 rfl rfl hl.1 rfl rfl (Nat.le_of_ble_eq_true rfl) ⟨Nat.zero_le _, Nat.zero_le _⟩ dX4_hatchings_57 (fun H locs hf => ?_)
        have hf : Fr G (va_A (wM G ad μ0) s.heap.size) s (wM G ad q6.2) H locs := hf
        refine lv_iload_n hx hb dX4_hatchings_60 rfl (lv_at hl 0 rfl) ?_
        obtain ⟨g10, hF⟩ := gd_some hF
        refine g_ast (ww' := wM G ad (va_up q6.2 0 (upd (q6.2 0) q8.toNatClampNeg (irem q6.1 100)))) S hf 2 rfl g10 rfl dX4_hatchings_61 (fun H locs hf => ?_)
        refine lv_aload_n hx hb dX4_hatchings_62 rfl (lv_at hl 1 rfl) ?_
        obtain ⟨q11, h12, hF⟩ := Option.bind_eq_some_iff.mp hF
        refine g_cv0 (o := some (.int q11.1)) (As := []) (rest := []) (st1 := [.int q11.1]) (ci := 4) S hf (c_X4_drawn l G ad (va_up q6.2 0 (upd (q6.2 0) q8.toNatClampNeg (irem q6.1 100))) q11 h12) (cwV 0 hts gX4_hatchings_X4_drawn rfl rfl rfl (by decide +kernel) ⟨Nat.le_of_ble_eq_true rfl, Nat.le_of_ble_eq_true rfl⟩) rfl rfl rfl 0 rfl rfl hl.1 rfl rfl (Nat.le_of_ble_eq_true rfl) ⟨Nat.zero_le _, Nat.zero_le _⟩ dX4_hatchings_63 (fun H locs hf => ?_)
        have hf : Fr G (va_A (wM G ad μ0) s.heap.size) s (wM G ad q11.2) H locs := hf
        refine lv_bipush (v := 8) hx hb dX4_hatchings_66 (by decide) ?_
        refine lv_irem hx hb dX4_hatchings_68 (by decide) ?_
        refine lv_istore (lv' := [(4, .int (irem q11.1 8)), (3, .int (irem q6.1 100)), (0, .ref (ad 0)), (1, .int x1), (2, .int x2)]) hx hb dX4_hatchings_69 hl (by decide) rfl (fun ls hl => ?_)
        refine lv_aload_n hx hb dX4_hatchings_71 rfl (lv_at hl 2 rfl) ?_
        refine lv_iload hx hb dX4_hatchings_72 (lv_at hl 0 rfl) ?_
        obtain ⟨q13, h14, hF⟩ := Option.bind_eq_some_iff.mp hF
        refine g_cv0 (o := some (.int q13)) (As := [.int (irem q11.1 8)]) (rest := []) (st1 := [.int q13]) (ci := 4) S hf (c_X4_isBird l G ad q11.2 (irem q11.1 8) q13 h14) (cwV 1 hts gX4_hatchings_X4_isBird rfl rfl rfl (by decide +kernel) ⟨Nat.le_of_ble_eq_true rfl, Nat.le_of_ble_eq_true rfl⟩) rfl rfl rfl 0 rfl rfl hl.1 rfl rfl (Nat.le_of_ble_eq_true rfl) ⟨Nat.zero_le _, Nat.zero_le _⟩ dX4_hatchings_74 (fun H locs hf => ?_)
        have hf : Fr G (va_A (wM G ad μ0) s.heap.size) s (wM G ad q11.2) H locs := hf
        refine lv_if_eq (tgt := 100) hx hb dX4_hatchings_77 (by decide) (fun c15 => ?_) (fun c15 => ?_)
        · replace hF := (if_pos c15).symm.trans hF
          refine lv_aload_n hx hb dX4_hatchings_100 rfl (lv_at hl 2 rfl) ?_
          obtain ⟨q16, h17, hF⟩ := Option.bind_eq_some_iff.mp hF
          refine g_cv0 (o := none) (As := []) (rest := []) (st1 := []) (ci := 4) S hf (c_X4_day l G ad q11.2 q16 h17) (cwV 0 hts gX4_hatchings_X4_day rfl rfl rfl (by decide +kernel) ⟨Nat.le_of_ble_eq_true rfl, Nat.le_of_ble_eq_true rfl⟩) rfl rfl rfl 0 rfl rfl hl.1 rfl rfl (Nat.le_of_ble_eq_true rfl) ⟨Nat.zero_le _, Nat.zero_le _⟩ dX4_hatchings_101 (fun H locs hf => ?_)
          have hf : Fr G (va_A (wM G ad μ0) s.heap.size) s (wM G ad q16) H locs := hf
          refine lv_iinc (v := x2 + 1) (lv' := [(2, .int (x2 + 1)), (4, .int (irem q11.1 8)), (3, .int (irem q6.1 100)), (0, .ref (ad 0)), (1, .int x1)]) hx hb dX4_hatchings_104 hl (k := 4) rfl rfl (by decide) rfl (fun ls hl => ?_)
          refine lv_goto (tgt := 39) hx hb dX4_hatchings_107 (by decide) ?_
          exact ih39 q16 x1 (x2 + 1) _ _ _ hF hf (lv_sub hl [3, 4, 0] rfl)
        · replace hF := (if_neg c15).symm.trans hF
          refine lv_aload_n hx hb dX4_hatchings_80 rfl (lv_at hl 2 rfl) ?_
          refine g_get (ci := 4) (C := RX4) (T := TX4) (N := 21) (v := .ref (ad 1)) S hf hinX4 0 rfl rfl 0 (by decide) k9 rfl rfl dX4_hatchings_81 ?_
          refine lv_iload hx hb dX4_hatchings_84 (lv_at hl 0 rfl) ?_
          refine lv_iconst (v := 5) hx hb dX4_hatchings_86 (by decide) ?_
          obtain ⟨q18, h19, hF⟩ := Option.bind_eq_some_iff.mp hF
          refine g_cs0 (o := some (.int q18)) (As := [.int (irem q11.1 8), .int 5]) (rest := [.ref (ad 1)]) (st1 := [.int q18, .ref (ad 1)]) S hf (c_X4_birdAt l G  (irem q11.1 8) 5 q18 h19) (va_cwS 2 hts gX4_hatchings_X4_birdAt rfl rfl rfl (by decide +kernel) ⟨Nat.le_of_ble_eq_true rfl, Nat.le_of_ble_eq_true rfl⟩) rfl hl.1 rfl rfl (Nat.le_of_ble_eq_true rfl) ⟨Nat.zero_le _, Nat.zero_le _⟩ dX4_hatchings_87 (fun H locs hf => ?_)
          refine lv_iconst (v := 1) hx hb dX4_hatchings_90 (by decide) ?_
          refine lv_aload_n hx hb dX4_hatchings_91 rfl (lv_at hl 2 rfl) ?_
          refine lv_iload hx hb dX4_hatchings_92 (lv_at hl 0 rfl) ?_
          refine lv_iconst (v := 5) hx hb dX4_hatchings_94 (by decide) ?_
          obtain ⟨q20, h21, hF⟩ := Option.bind_eq_some_iff.mp hF
          refine g_cv0 (o := some (.int q20)) (As := [.int (irem q11.1 8), .int 5]) (rest := [.int 1, .int q18, .ref (ad 1)]) (st1 := [.int q20, .int 1, .int q18, .ref (ad 1)]) (ci := 4) S hf (c_X4_birdIs l G ad q11.2 (irem q11.1 8) 5 q20 h21) (cwV 2 hts gX4_hatchings_X4_birdIs rfl rfl rfl (by decide +kernel) ⟨Nat.le_of_ble_eq_true rfl, Nat.le_of_ble_eq_true rfl⟩) rfl rfl rfl 0 rfl rfl hl.1 rfl rfl (Nat.le_of_ble_eq_true rfl) ⟨Nat.zero_le _, Nat.zero_le _⟩ dX4_hatchings_95 (fun H locs hf => ?_)
          have hf : Fr G (va_A (wM G ad μ0) s.heap.size) s (wM G ad q11.2) H locs := hf
          refine lv_isub hx hb dX4_hatchings_98 ?_
          obtain ⟨g22, hF⟩ := gd_some hF
          refine g_ast (ww' := wM G ad (va_up q11.2 0 (upd (q11.2 0) q18.toNatClampNeg (1 - q20)))) S hf 2 rfl g22 rfl dX4_hatchings_99 (fun H locs hf => ?_)
          refine lv_aload_n hx hb dX4_hatchings_100 rfl (lv_at hl 2 rfl) ?_
          obtain ⟨q23, h24, hF⟩ := Option.bind_eq_some_iff.mp hF
          refine g_cv0 (o := none) (As := []) (rest := []) (st1 := []) (ci := 4) S hf (c_X4_day l G ad (va_up q11.2 0 (upd (q11.2 0) q18.toNatClampNeg (1 - q20))) q23 h24) (cwV 0 hts gX4_hatchings_X4_day rfl rfl rfl (by decide +kernel) ⟨Nat.le_of_ble_eq_true rfl, Nat.le_of_ble_eq_true rfl⟩) rfl rfl rfl 0 rfl rfl hl.1 rfl rfl (Nat.le_of_ble_eq_true rfl) ⟨Nat.zero_le _, Nat.zero_le _⟩ dX4_hatchings_101 (fun H locs hf => ?_)
          have hf : Fr G (va_A (wM G ad μ0) s.heap.size) s (wM G ad q23) H locs := hf
          refine lv_iinc (v := x2 + 1) (lv' := [(2, .int (x2 + 1)), (4, .int (irem q11.1 8)), (3, .int (irem q6.1 100)), (0, .ref (ad 0)), (1, .int x1)]) hx hb dX4_hatchings_104 hl (k := 4) rfl rfl (by decide) rfl (fun ls hl => ?_)
          refine lv_goto (tgt := 39) hx hb dX4_hatchings_107 (by decide) ?_
          exact ih39 q23 x1 (x2 + 1) _ _ _ hF hf (lv_sub hl [3, 4, 0] rfl)
  unfold f_X4_hatchings at hF
  refine lv_iload_n hx hb dX4_hatchings_0 rfl (lv_at hl 1 rfl) ?_
  refine lv_iconst (v := 1) hx hb dX4_hatchings_1 (by decide) ?_
  refine lv_bipush (v := 20) hx hb dX4_hatchings_2 (by decide) ?_
  obtain ⟨q1, h2, hF⟩ := Option.bind_eq_some_iff.mp hF
  refine g_cs0 (o := some (.int q1)) (As := [.int a1, .int 1, .int 20]) (rest := []) (st1 := [.int q1]) S hf (c_X4_within l G  a1 1 20 q1 h2) (va_cwS 3 hts gX4_hatchings_X4_within rfl rfl rfl (by decide +kernel) ⟨Nat.le_of_ble_eq_true rfl, Nat.le_of_ble_eq_true rfl⟩) rfl hl.1 rfl rfl (Nat.le_of_ble_eq_true rfl) ⟨Nat.zero_le _, Nat.zero_le _⟩ dX4_hatchings_4 (fun H locs hf => ?_)
  refine lv_if_ne (tgt := 17) hx hb dX4_hatchings_7 (by decide) (fun c3 => ?_) (fun c3 => ?_)
  · replace hF := (if_neg c3).symm.trans hF
    refine lv_aload_n hx hb dX4_hatchings_17 rfl (lv_at hl 0 rfl) ?_
    refine g_get (ci := 4) (C := RX4) (T := TX4) (N := 21) (v := .ref (ad 1)) S hf hinX4 0 rfl rfl 0 (by decide) k9 rfl rfl dX4_hatchings_18 ?_
    refine lv_iconst (v := 0) hx hb dX4_hatchings_21 (by decide) ?_
    refine g_ald (v := (μ0 0) 0) S hf 2 rfl (by decide) rfl dX4_hatchings_22 ?_
    refine lv_iload_n hx hb dX4_hatchings_23 rfl (lv_at hl 1 rfl) ?_
    refine lv_iadd hx hb dX4_hatchings_24 ?_
    refine lv_ldc (v := 99999) hx hb hown (hts _ kc88) dX4_hatchings_25 ?_
    refine lv_icmp_le (tgt := 37) hx hb dX4_hatchings_27 (by decide) (fun c4 => ?_) (fun c4 => ?_)
    · replace hF := (if_pos c4).symm.trans hF
      refine lv_iconst (v := 0) hx hb dX4_hatchings_37 (by decide) ?_
      refine lv_istore_n (lv' := [(2, .int 0), (0, .ref (ad 0)), (1, .int a1)]) hx hb dX4_hatchings_38 rfl hl (by decide) rfl (fun ls hl => ?_)
      exact hL39 1000 μ0 a1 0 _ _ _ hF hf (lv_sub hl [1, 2, 0] rfl)
    · replace hF := (if_neg c4).symm.trans hF
      refine lv_aload_n hx hb dX4_hatchings_30 rfl (lv_at hl 0 rfl) ?_
      refine lv_ldc (v := -1000005) hx hb hown (hts _ kc109) dX4_hatchings_31 ?_
      obtain ⟨q25, h26, hF⟩ := Option.bind_eq_some_iff.mp hF
      refine g_cv0 (o := some (.int q25.1)) (As := [.int (-1000005)]) (rest := []) (st1 := [.int q25.1]) (ci := 4) S hf (c_X4_finding l G ad μ0 (-1000005) q25 h26) (cwV 1 hts gX4_hatchings_X4_finding rfl rfl rfl (by decide +kernel) ⟨Nat.le_of_ble_eq_true rfl, Nat.le_of_ble_eq_true rfl⟩) rfl rfl rfl 0 rfl rfl hl.1 rfl rfl (Nat.le_of_ble_eq_true rfl) ⟨Nat.zero_le _, Nat.zero_le _⟩ dX4_hatchings_33 (fun H locs hf => ?_)
      have hf : Fr G (va_A (wM G ad μ0) s.heap.size) s (wM G ad q25.2) H locs := hf
      have hE := Option.some.inj hF
      have hV := congrArg (fun z : Int32 × K2 => z.1) hE
      have hW := congrArg (fun z : Int32 × K2 => wM G ad z.2) hE
      exact g_iret S hr hlocks hf hV hW dX4_hatchings_36
  · replace hF := (if_pos c3).symm.trans hF
    refine lv_aload_n hx hb dX4_hatchings_10 rfl (lv_at hl 0 rfl) ?_
    refine lv_ldc (v := -1000001) hx hb hown (hts _ kc63) dX4_hatchings_11 ?_
    obtain ⟨q27, h28, hF⟩ := Option.bind_eq_some_iff.mp hF
    refine g_cv0 (o := some (.int q27.1)) (As := [.int (-1000001)]) (rest := []) (st1 := [.int q27.1]) (ci := 4) S hf (c_X4_finding l G ad μ0 (-1000001) q27 h28) (cwV 1 hts gX4_hatchings_X4_finding rfl rfl rfl (by decide +kernel) ⟨Nat.le_of_ble_eq_true rfl, Nat.le_of_ble_eq_true rfl⟩) rfl rfl rfl 0 rfl rfl hl.1 rfl rfl (Nat.le_of_ble_eq_true rfl) ⟨Nat.zero_le _, Nat.zero_le _⟩ dX4_hatchings_13 (fun H locs hf => ?_)
    have hf : Fr G (va_A (wM G ad μ0) s.heap.size) s (wM G ad q27.2) H locs := hf
    have hE := Option.some.inj hF
    have hV := congrArg (fun z : Int32 × K2 => z.1) hE
    have hW := congrArg (fun z : Int32 × K2 => wM G ad z.2) hE
    exact g_iret S hr hlocks hf hV hW dX4_hatchings_16
