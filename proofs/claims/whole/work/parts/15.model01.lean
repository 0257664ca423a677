def f_X4_isOfLine_B25 (μ0 : K2) (x2 : Int32) : Option (Int32) := if x2 < 0 then (some (0)) else (some (1))
def f_X4_isOfLine_L2 (μ0 : K2) : Nat → Int32 → Option (Int32)
  | 0, _ => none
  | n + 1, x2 => if x2 < 0 then (f_X4_isOfLine_B25 μ0 x2) else (Option.bind (f_X4_birdIs μ0 x2 4) (fun q3 => if q3 = 0 then (Option.bind (f_X4_birdIs μ0 x2 2) (fun q6 => f_X4_isOfLine_L2 μ0 n q6)) else (f_X4_isOfLine_B25 μ0 x2)))
def f_X4_isOfLine (μ0 : K2) (a1 : Int32) : Option (Int32) := f_X4_isOfLine_L2 μ0 1000 a1
set_option maxHeartbeats 4000000 in
set_option maxRecDepth 100000 in
theorem c_X4_isOfLine (l : Launch) (G : GT) (ad : Nat → Nat) (μ0 : K2) (a1 : Int32) (q : Int32) (hF : f_X4_isOfLine μ0 a1 = some q) : Ct l G yX4_isOfLine wsX4_isOfLine ({ frames := 2, cells := 0, slots := 0, locals := 43 } : Room) ([.ref (ad 0), .int a1] : List Value) (wM G ad μ0) (some (.int q)) (wM G ad μ0) := by
  refine Ct.of cX4_isOfLine 3 (some .boolean) (by decide) rfl (Nat.le_of_ble_eq_true rfl) ?_
  intro p e s m below meth c ls S hr hlocks hf hl
  have S : CallFix p m c cX4_isOfLine 3 s ([.ref (ad 0), .int a1] : List Value).toArray wsX4_isOfLine RX4 := S
  obtain ⟨hx, hb, hml, hown, hts⟩ := id S
  have hl : lv_has ls 3 [(0, .ref (ad 0)), (1, .int a1)] := hl
  have hL25 : ∀ (x2 : Int32)  (H : Heap) (locs : List Loc) (ls : Array Slot), f_X4_isOfLine_B25 μ0 x2 = some q → Fr G (va_A (wM G ad μ0) s.heap.size) s (wM G ad μ0) H locs → lv_has ls 3 [(2, .int x2)] → W p l e ({ frames := 2, cells := 0, slots := 0, locals := 43 } : Room) s m ([.ref (ad 0), .int a1] : List Value).toArray below meth c H locs 0 0 (MQ below (CPost G (wM G ad μ0) s.heap.size (some (.int q)) (wM G ad μ0)) ([.ref (ad 0), .int a1] : List Value).toArray s 0 0 (va_A (wM G ad μ0) s.heap.size)) (F0 m 25 ls []) := by
    intro x2 H locs ls hF hf hl
    unfold f_X4_isOfLine_B25 at hF
    refine lv_iload_n hx hb dX4_isOfLine_25 rfl (lv_at hl 0 rfl) ?_
    refine lv_if_lt (tgt := 33) hx hb dX4_isOfLine_26 (by decide) (fun c2 => ?_) (fun c2 => ?_)
    · replace hF := (if_pos c2).symm.trans hF
      refine lv_iconst (v := 0) hx hb dX4_isOfLine_33 (by decide) ?_
      have hE := Option.some.inj hF
      have hV := congrArg (fun z : Int32 => z) hE
      exact g_zret S hr hlocks hf (by decide) hV rfl dX4_isOfLine_34
    · replace hF := (if_neg c2).symm.trans hF
      refine lv_iconst (v := 1) hx hb dX4_isOfLine_29 (by decide) ?_
      refine lv_goto (tgt := 34) hx hb dX4_isOfLine_30 (by decide) ?_
      have hE := Option.some.inj hF
      have hV := congrArg (fun z : Int32 => z) hE
      exact g_zret S hr hlocks hf (by decide) hV rfl dX4_isOfLine_34
  have hL2 : ∀ (n : Nat) (x2 : Int32)  (H : Heap) (locs : List Loc) (ls : Array Slot), f_X4_isOfLine_L2 μ0 n x2 = some q → Fr G (va_A (wM G ad μ0) s.heap.size) s (wM G ad μ0) H locs → lv_has ls 3 [(0, .ref (ad 0)), (2, .int x2)] → W p l e ({ frames := 2, cells := 0, slots := 0, locals := 43 } : Room) s m ([.ref (ad 0), .int a1] : List Value).toArray below meth c H locs 0 0 (MQ below (CPost G (wM G ad μ0) s.heap.size (some (.int q)) (wM G ad μ0)) ([.ref (ad 0), .int a1] : List Value).toArray s 0 0 (va_A (wM G ad μ0) s.heap.size)) (F0 m 2 ls []) := by
    intro n
    induction n with
    | zero =>
      intro x2 H locs ls hF hf hl
      exact absurd hF (by simp [f_X4_isOfLine_L2])
    | succ n ih2 =>
      intro x2 H locs ls hF hf hl
      rw [f_X4_isOfLine_L2] at hF
      refine lv_iload_n hx hb dX4_isOfLine_2 rfl (lv_at hl 1 rfl) ?_
      refine lv_if_lt (tgt := 25) hx hb dX4_isOfLine_3 (by decide) (fun c1 => ?_) (fun c1 => ?_)
      · replace hF := (if_pos c1).symm.trans hF
        exact hL25 x2 _ _ _ hF hf (lv_sub hl [1] rfl)
      · replace hF := (if_neg c1).symm.trans hF
        refine lv_aload_n hx hb dX4_isOfLine_6 rfl (lv_at hl 0 rfl) ?_
        refine lv_iload_n hx hb dX4_isOfLine_7 rfl (lv_at hl 1 rfl) ?_
        refine lv_iconst (v := 4) hx hb dX4_isOfLine_8 (by decide) ?_
        obtain ⟨q3, h4, hF⟩ := Option.bind_eq_some_iff.mp hF
        refine g_cv0 (o := some (.int q3)) (As := [.int x2, .int 4]) (rest := []) (st1 := [.int q3]) (ci := 4) S hf (c_X4_birdIs l G ad μ0 x2 4 q3 h4) (cwV 2 hts gX4_isOfLine_X4_birdIs rfl rfl rfl (by decide +kernel) ⟨Nat.le_of_ble_eq_true rfl, Nat.le_of_ble_eq_true rfl⟩) rfl rfl rfl 0 rfl rfl hl.1 rfl rfl (Nat.le_of_ble_eq_true rfl) ⟨Nat.zero_le _, Nat.zero_le _⟩ dX4_isOfLine_9 (fun H locs hf => ?_)
        have hf : Fr G (va_A (wM G ad μ0) s.heap.size) s (wM G ad μ0) H locs := hf
        refine lv_if_ne (tgt := 25) hx hb dX4_isOfLine_12 (by decide) (fun c5 => ?_) (fun c5 => ?_)
        · replace hF := (if_neg c5).symm.trans hF
          exact hL25 x2 _ _ _ hF hf (lv_sub hl [1] rfl)
        · replace hF := (if_pos c5).symm.trans hF
          refine lv_aload_n hx hb dX4_isOfLine_15 rfl (lv_at hl 0 rfl) ?_
          refine lv_iload_n hx hb dX4_isOfLine_16 rfl (lv_at hl 1 rfl) ?_
          refine lv_iconst (v := 2) hx hb dX4_isOfLine_17 (by decide) ?_
          obtain ⟨q6, h7, hF⟩ := Option.bind_eq_some_iff.mp hF
          refine g_cv0 (o := some (.int q6)) (As := [.int x2, .int 2]) (rest := []) (st1 := [.int q6]) (ci := 4) S hf (c_X4_birdIs l G ad μ0 x2 2 q6 h7) (cwV 2 hts gX4_isOfLine_X4_birdIs rfl rfl rfl (by decide +kernel) ⟨Nat.le_of_ble_eq_true rfl, Nat.le_of_ble_eq_true rfl⟩) rfl rfl rfl 0 rfl rfl hl.1 rfl rfl (Nat.le_of_ble_eq_true rfl) ⟨Nat.zero_le _, Nat.zero_le _⟩ dX4_isOfLine_18 (fun H locs hf => ?_)
          have hf : Fr G (va_A (wM G ad μ0) s.heap.size) s (wM G ad μ0) H locs := hf
          refine lv_istore_n (lv' := [(2, .int q6), (0, .ref (ad 0))]) hx hb dX4_isOfLine_21 rfl hl (by decide) rfl (fun ls hl => ?_)
          refine lv_goto (tgt := 2) hx hb dX4_isOfLine_22 (by decide) ?_
          exact ih2 q6 _ _ _ hF hf (lv_sub hl [1, 0] rfl)
  unfold f_X4_isOfLine at hF
  refine lv_iload_n hx hb dX4_isOfLine_0 rfl (lv_at hl 1 rfl) ?_
  refine lv_istore_n (lv' := [(2, .int a1), (0, .ref (ad 0)), (1, .int a1)]) hx hb dX4_isOfLine_1 rfl hl (by decide) rfl (fun ls hl => ?_)
  exact hL2 1000 a1 _ _ _ hF hf (lv_sub hl [1, 0] rfl)
def f_X4_doesDraw (μ0 : K2) (a1 : Int32) : Option (Int32) := Option.bind (f_X4_birdIs μ0 a1 6) (fun q1 => if q1 = 0 then (Option.bind (f_X4_birdIs μ0 a1 5) (fun q4 => if q4 = 1 then (some (1)) else (Option.bind (f_X4_isDead μ0 a1) (fun q7 => if q7 = 0 then (Option.bind (f_X4_isOfLine μ0 a1) (fun q10 => if q10 = 0 then (some (0)) else (some (1)))) else (some (0)))))) else (some (0)))
set_option maxHeartbeats 4000000 in
set_option maxRecDepth 100000 in
theorem c_X4_doesDraw (l : Launch) (G : GT) (ad : Nat → Nat) (μ0 : K2) (a1 : Int32) (q : Int32) (hF : f_X4_doesDraw μ0 a1 = some q) : Ct l G yX4_doesDraw wsX4_doesDraw ({ frames := 4, cells := 0, slots := 0, locals := 85 } : Room) ([.ref (ad 0), .int a1] : List Value) (wM G ad μ0) (some (.int q)) (wM G ad μ0) := by
  refine Ct.of cX4_doesDraw 2 (some .boolean) (by decide) rfl (Nat.le_of_ble_eq_true rfl) ?_
  intro p e s m below meth c ls S hr hlocks hf hl
  have S : CallFix p m c cX4_doesDraw 2 s ([.ref (ad 0), .int a1] : List Value).toArray wsX4_doesDraw RX4 := S
  obtain ⟨hx, hb, hml, hown, hts⟩ := id S
  have hl : lv_has ls 2 [(0, .ref (ad 0)), (1, .int a1)] := hl
  unfold f_X4_doesDraw at hF
  refine lv_aload_n hx hb dX4_doesDraw_0 rfl (lv_at hl 0 rfl) ?_
  refine lv_iload_n hx hb dX4_doesDraw_1 rfl (lv_at hl 1 rfl) ?_
  refine lv_bipush (v := 6) hx hb dX4_doesDraw_2 (by decide) ?_
  obtain ⟨q1, h2, hF⟩ := Option.bind_eq_some_iff.mp hF
  refine g_cv0 (o := some (.int q1)) (As := [.int a1, .int 6]) (rest := []) (st1 := [.int q1]) (ci := 4) S hf (c_X4_birdIs l G ad μ0 a1 6 q1 h2) (cwV 2 hts gX4_doesDraw_X4_birdIs rfl rfl rfl (by decide +kernel) ⟨Nat.le_of_ble_eq_true rfl, Nat.le_of_ble_eq_true rfl⟩) rfl rfl rfl 0 rfl rfl hl.1 rfl rfl (Nat.le_of_ble_eq_true rfl) ⟨Nat.zero_le _, Nat.zero_le _⟩ dX4_doesDraw_4 (fun H locs hf => ?_)
  have hf : Fr G (va_A (wM G ad μ0) s.heap.size) s (wM G ad μ0) H locs := hf
  refine lv_if_ne (tgt := 40) hx hb dX4_doesDraw_7 (by decide) (fun c3 => ?_) (fun c3 => ?_)
  · replace hF := (if_neg c3).symm.trans hF
    refine lv_iconst (v := 0) hx hb dX4_doesDraw_40 (by decide) ?_
    have hE := Option.some.inj hF
    have hV := congrArg (fun z : Int32 => z) hE
    exact g_zret S hr hlocks hf (by decide) hV rfl dX4_doesDraw_41
  · replace hF := (if_pos c3).symm.trans hF
    refine lv_aload_n hx hb dX4_doesDraw_10 rfl (lv_at hl 0 rfl) ?_
    refine lv_iload_n hx hb dX4_doesDraw_11 rfl (lv_at hl 1 rfl) ?_
    refine lv_iconst (v := 5) hx hb dX4_doesDraw_12 (by decide) ?_
    obtain ⟨q4, h5, hF⟩ := Option.bind_eq_some_iff.mp hF
    refine g_cv0 (o := some (.int q4)) (As := [.int a1, .int 5]) (rest := []) (st1 := [.int q4]) (ci := 4) S hf (c_X4_birdIs l G ad μ0 a1 5 q4 h5) (cwV 2 hts gX4_doesDraw_X4_birdIs rfl rfl rfl (by decide +kernel) ⟨Nat.le_of_ble_eq_true rfl, Nat.le_of_ble_eq_true rfl⟩) rfl rfl rfl 0 rfl rfl hl.1 rfl rfl (Nat.le_of_ble_eq_true rfl) ⟨Nat.zero_le _, Nat.zero_le _⟩ dX4_doesDraw_13 (fun H locs hf => ?_)
    have hf : Fr G (va_A (wM G ad μ0) s.heap.size) s (wM G ad μ0) H locs := hf
    refine lv_iconst (v := 1) hx hb dX4_doesDraw_16 (by decide) ?_
    refine lv_icmp_eq (tgt := 36) hx hb dX4_doesDraw_17 (by decide) (fun c6 => ?_) (fun c6 => ?_)
    · replace hF := (if_pos c6).symm.trans hF
      refine lv_iconst (v := 1) hx hb dX4_doesDraw_36 (by decide) ?_
      refine lv_goto (tgt := 41) hx hb dX4_doesDraw_37 (by decide) ?_
      have hE := Option.some.inj hF
      have hV := congrArg (fun z : Int32 => z) hE
      exact g_zret S hr hlocks hf (by decide) hV rfl dX4_doesDraw_41
    · replace hF := (if_neg c6).symm.trans hF
      refine lv_aload_n hx hb dX4_doesDraw_20 rfl (lv_at hl 0 rfl) ?_
      refine lv_iload_n hx hb dX4_doesDraw_21 rfl (lv_at hl 1 rfl) ?_
      obtain ⟨q7, h8, hF⟩ := Option.bind_eq_some_iff.mp hF
      refine g_cv0 (o := some (.int q7)) (As := [.int a1]) (rest := []) (st1 := [.int q7]) (ci := 4) S hf (c_X4_isDead l G ad μ0 a1 q7 h8) (cwV 1 hts gX4_doesDraw_X4_isDead rfl rfl rfl (by decide +kernel) ⟨Nat.le_of_ble_eq_true rfl, Nat.le_of_ble_eq_true rfl⟩) rfl rfl rfl 0 rfl rfl hl.1 rfl rfl (Nat.le_of_ble_eq_true rfl) ⟨Nat.zero_le _, Nat.zero_le _⟩ dX4_doesDraw_22 (fun H locs hf => ?_)
      have hf : Fr G (va_A (wM G ad μ0) s.heap.size) s (wM G ad μ0) H locs := hf
      refine lv_if_ne (tgt := 40) hx hb dX4_doesDraw_25 (by decide) (fun c9 => ?_) (fun c9 => ?_)
      · replace hF := (if_neg c9).symm.trans hF
        refine lv_iconst (v := 0) hx hb dX4_doesDraw_40 (by decide) ?_
        have hE := Option.some.inj hF
        have hV := congrArg (fun z : Int32 => z) hE
        exact g_zret S hr hlocks hf (by decide) hV rfl dX4_doesDraw_41
      · replace hF := (if_pos c9).symm.trans hF
        refine lv_aload_n hx hb dX4_doesDraw_28 rfl (lv_at hl 0 rfl) ?_
        refine lv_iload_n hx hb dX4_doesDraw_29 rfl (lv_at hl 1 rfl) ?_
        obtain ⟨q10, h11, hF⟩ := Option.bind_eq_some_iff.mp hF
        refine g_cv0 (o := some (.int q10)) (As := [.int a1]) (rest := []) (st1 := [.int q10]) (ci := 4) S hf (c_X4_isOfLine l G ad μ0 a1 q10 h11) (cwV 1 hts gX4_doesDraw_X4_isOfLine rfl rfl rfl (by decide +kernel) ⟨Nat.le_of_ble_eq_true rfl, Nat.le_of_ble_eq_true rfl⟩) rfl rfl rfl 0 rfl rfl hl.1 rfl rfl (Nat.le_of_ble_eq_true rfl) ⟨Nat.zero_le _, Nat.zero_le _⟩ dX4_doesDraw_30 (fun H locs hf => ?_)
        have hf : Fr G (va_A (wM G ad μ0) s.heap.size) s (wM G ad μ0) H locs := hf
        refine lv_if_eq (tgt := 40) hx hb dX4_doesDraw_33 (by decide) (fun c12 => ?_) (fun c12 => ?_)
        · replace hF := (if_pos c12).symm.trans hF
          refine lv_iconst (v := 0) hx hb dX4_doesDraw_40 (by decide) ?_
          have hE := Option.some.inj hF
          have hV := congrArg (fun z : Int32 => z) hE
          exact g_zret S hr hlocks hf (by decide) hV rfl dX4_doesDraw_41
        · replace hF := (if_neg c12).symm.trans hF
          refine lv_iconst (v := 1) hx hb dX4_doesDraw_36 (by decide) ?_
          refine lv_goto (tgt := 41) hx hb dX4_doesDraw_37 (by decide) ?_
          have hE := Option.some.inj hF
          have hV := congrArg (fun z : Int32 => z) hE
          exact g_zret S hr hlocks hf (by decide) hV rfl dX4_doesDraw_41
def f_X4_inLoft_L4 (μ0 : K2) : Nat → Int32 → Int32 → Int32 → Option (Int32)
  | 0, _, _, _ => none
  | n + 1, x1, x2, x3 => if ((μ0 0) 1) ≤ x3 then (some (x2)) else (Option.bind (f_X4_birdIs μ0 x3 1) (fun q2 => if q2 = x1 then (f_X4_inLoft_L4 μ0 n x1 (x2 ||| (1 <<< (x3 &&& 31))) (x3 + 1)) else (f_X4_inLoft_L4 μ0 n x1 (x2 ||| 0) (x3 + 1))))
def f_X4_inLoft (μ0 : K2) (a1 : Int32) : Option (Int32) := f_X4_inLoft_L4 μ0 1000 a1 0 0
set_option maxHeartbeats 4000000 in
set_option maxRecDepth 100000 in
theorem c_X4_inLoft (l : Launch) (G : GT) (ad : Nat → Nat) (μ0 : K2) (a1 : Int32) (q : Int32) (hF : f_X4_inLoft μ0 a1 = some q) : Ct l G yX4_inLoft wsX4_inLoft ({ frames := 2, cells := 0, slots := 0, locals := 43 } : Room) ([.ref (ad 0), .int a1] : List Value) (wM G ad μ0) (some (.int q)) (wM G ad μ0) := by
  have k9 : Cond.fieldLink RX4 9 "PigeonRollsModel" "now" "[I" ∈ wsX4_inLoft := by decide +kernel
  have hinX4 : ∀ w ∈ u_ws RX4 TX4 21, w ∈ wsX4_inLoft := by decide +kernel
  refine Ct.of cX4_inLoft 4 (some .int) (by decide) rfl (Nat.le_of_ble_eq_true rfl) ?_
  intro p e s m below meth c ls S hr hlocks hf hl
  have S : CallFix p m c cX4_inLoft 4 s ([.ref (ad 0), .int a1] : List Value).toArray wsX4_inLoft RX4 := S
  obtain ⟨hx, hb, hml, hown, hts⟩ := id S
  have hl : lv_has ls 4 [(0, .ref (ad 0)), (1, .int a1)] := hl
  have hL4 : ∀ (n : Nat) (x1 : Int32) (x2 : Int32) (x3 : Int32)  (H : Heap) (locs : List Loc) (ls : Array Slot), f_X4_inLoft_L4 μ0 n x1 x2 x3 = some q → Fr G (va_A (wM G ad μ0) s.heap.size) s (wM G ad μ0) H locs → lv_has ls 4 [(0, .ref (ad 0)), (1, .int x1), (2, .int x2), (3, .int x3)] → W p l e ({ frames := 2, cells := 0, slots := 0, locals := 43 } : Room) s m ([.ref (ad 0), .int a1] : List Value).toArray below meth c H locs 0 0 (MQ below (CPost G (wM G ad μ0) s.heap.size (some (.int q)) (wM G ad μ0)) ([.ref (ad 0), .int a1] : List Value).toArray s 0 0 (va_A (wM G ad μ0) s.heap.size)) (F0 m 4 ls []) := by
    intro n
    induction n with
    | zero =>
      intro x1 x2 x3 H locs ls hF hf hl
      exact absurd hF (by simp [f_X4_inLoft_L4])
    | succ n ih4 =>
      intro x1 x2 x3 H locs ls hF hf hl
      rw [f_X4_inLoft_L4] at hF
      refine lv_iload_n hx hb dX4_inLoft_4 rfl (lv_at hl 3 rfl) ?_
      refine lv_aload_n hx hb dX4_inLoft_5 rfl (lv_at hl 0 rfl) ?_
      refine g_get (ci := 4) (C := RX4) (T := TX4) (N := 21) (v := .ref (ad 1)) S hf hinX4 0 rfl rfl 0 (by decide) k9 rfl rfl dX4_inLoft_6 ?_
      refine lv_iconst (v := 1) hx hb dX4_inLoft_9 (by decide) ?_
      refine g_ald (v := (μ0 0) 1) S hf 2 rfl (by decide) rfl dX4_inLoft_10 ?_
      refine lv_icmp_ge (tgt := 40) hx hb dX4_inLoft_11 (by decide) (fun c1 => ?_) (fun c1 => ?_)
      · replace hF := (if_pos c1).symm.trans hF
        refine lv_iload_n hx hb dX4_inLoft_40 rfl (lv_at hl 2 rfl) ?_
        have hE := Option.some.inj hF
        have hV := congrArg (fun z : Int32 => z) hE
        exact g_iret S hr hlocks hf hV rfl dX4_inLoft_41
      · replace hF := (if_neg c1).symm.trans hF
        refine lv_iload_n hx hb dX4_inLoft_14 rfl (lv_at hl 2 rfl) ?_
        refine lv_aload_n hx hb dX4_inLoft_15 rfl (lv_at hl 0 rfl) ?_
        refine lv_iload_n hx hb dX4_inLoft_16 rfl (lv_at hl 3 rfl) ?_
        refine lv_iconst (v := 1) hx hb dX4_inLoft_17 (by decide) ?_
        obtain ⟨q2, h3, hF⟩ := Option.bind_eq_some_iff.mp hF
        refine g_cv0 (o := some (.int q2)) (As := [.int x3, .int 1]) (rest := [.int x2]) (st1 := [.int q2, .int x2]) (ci := 4) S hf (c_X4_birdIs l G ad μ0 x3 1 q2 h3) (cwV 2 hts gX4_inLoft_X4_birdIs rfl rfl rfl (by decide +kernel) ⟨Nat.le_of_ble_eq_true rfl, Nat.le_of_ble_eq_true rfl⟩) rfl rfl rfl 0 rfl rfl hl.1 rfl rfl (Nat.le_of_ble_eq_true rfl) ⟨Nat.zero_le _, Nat.zero_le _⟩ dX4_inLoft_18 (fun H locs hf => ?_)
        have hf : Fr G (va_A (wM G ad μ0) s.heap.size) s (wM G ad μ0) H locs := hf
        refine lv_iload_n hx hb dX4_inLoft_21 rfl (lv_at hl 1 rfl) ?_
        refine lv_icmp_ne (tgt := 31) hx hb dX4_inLoft_22 (by decide) (fun c4 => ?_) (fun c4 => ?_)
        · replace hF := (if_neg c4).symm.trans hF
          refine lv_iconst (v := 0) hx hb dX4_inLoft_31 (by decide) ?_
          refine lv_ior hx hb dX4_inLoft_32 ?_
          refine lv_istore_n (lv' := [(2, .int (x2 ||| 0)), (0, .ref (ad 0)), (1, .int x1), (3, .int x3)]) hx hb dX4_inLoft_33 rfl hl (by decide) rfl (fun ls hl => ?_)
          refine lv_iinc (v := x3 + 1) (lv' := [(3, .int (x3 + 1)), (2, .int (x2 ||| 0)), (0, .ref (ad 0)), (1, .int x1)]) hx hb dX4_inLoft_34 hl (k := 3) rfl rfl (by decide) rfl (fun ls hl => ?_)
          refine lv_goto (tgt := 4) hx hb dX4_inLoft_37 (by decide) ?_
          exact ih4 x1 (x2 ||| 0) (x3 + 1) _ _ _ hF hf (lv_sub hl [2, 3, 1, 0] rfl)
        · replace hF := (if_pos c4).symm.trans hF
          refine lv_iconst (v := 1) hx hb dX4_inLoft_25 (by decide) ?_
          refine lv_iload_n hx hb dX4_inLoft_26 rfl (lv_at hl 3 rfl) ?_
          refine lv_ishl hx hb dX4_inLoft_27 ?_
          refine lv_goto (tgt := 32) hx hb dX4_inLoft_28 (by decide) ?_
          refine lv_ior hx hb dX4_inLoft_32 ?_
          refine lv_istore_n (lv' := [(2, .int (x2 ||| (1 <<< (x3 &&& 31)))), (0, .ref (ad 0)), (1, .int x1), (3, .int x3)]) hx hb dX4_inLoft_33 rfl hl (by decide) rfl (fun ls hl => ?_)
          refine lv_iinc (v := x3 + 1) (lv' := [(3, .int (x3 + 1)), (2, .int (x2 ||| (1 <<< (x3 &&& 31)))), (0, .ref (ad 0)), (1, .int x1)]) hx hb dX4_inLoft_34 hl (k := 3) rfl rfl (by decide) rfl (fun ls hl => ?_)
          refine lv_goto (tgt := 4) hx hb dX4_inLoft_37 (by decide) ?_
          exact ih4 x1 (x2 ||| (1 <<< (x3 &&& 31))) (x3 + 1) _ _ _ hF hf (lv_sub hl [2, 3, 1, 0] rfl)
  unfold f_X4_inLoft at hF
  refine lv_iconst (v := 0) hx hb dX4_inLoft_0 (by decide) ?_
  refine lv_istore_n (lv' := [(2, .int 0), (0, .ref (ad 0)), (1, .int a1)]) hx hb dX4_inLoft_1 rfl hl (by decide) rfl (fun ls hl => ?_)
  refine lv_iconst (v := 0) hx hb dX4_inLoft_2 (by decide) ?_
  refine lv_istore_n (lv' := [(3, .int 0), (2, .int 0), (0, .ref (ad 0)), (1, .int a1)]) hx hb dX4_inLoft_3 rfl hl (by decide) rfl (fun ls hl => ?_)
  exact hL4 1000 a1 0 0 _ _ _ hF hf (lv_sub hl [2, 3, 1, 0] rfl)
def f_X4_chicks_L4 (μ0 : K2) : Nat → Int32 → Int32 → Int32 → Option (Int32)
  | 0, _, _, _ => none
  | n + 1, x1, x2, x3 => if ((μ0 0) 1) ≤ x3 then (some (x2)) else (Option.bind (f_X4_birdIs μ0 x3 2) (fun q2 => if q2 = x1 then (Option.bind (f_X4_isDead μ0 x3) (fun q5 => if q5 = 0 then (f_X4_chicks_L4 μ0 n x1 (x2 + 1) (x3 + 1)) else (f_X4_chicks_L4 μ0 n x1 (x2 + 0) (x3 + 1)))) else (f_X4_chicks_L4 μ0 n x1 (x2 + 0) (x3 + 1))))
def f_X4_chicks (μ0 : K2) (a1 : Int32) : Option (Int32) := f_X4_chicks_L4 μ0 1000 a1 0 0
set_option maxHeartbeats 4000000 in
set_option maxRecDepth 100000 in
theorem c_X4_chicks (l : Launch) (G : GT) (ad : Nat → Nat) (μ0 : K2) (a1 : Int32) (q : Int32) (hF : f_X4_chicks μ0 a1 = some q) : Ct l G yX4_chicks wsX4_chicks ({ frames := 4, cells := 0, slots := 0, locals := 85 } : Room) ([.ref (ad 0), .int a1] : List Value) (wM G ad μ0) (some (.int q)) (wM G ad μ0) := by
  have k9 : Cond.fieldLink RX4 9 "PigeonRollsModel" "now" "[I" ∈ wsX4_chicks := by decide +kernel
  have hinX4 : ∀ w ∈ u_ws RX4 TX4 21, w ∈ wsX4_chicks := by decide +kernel
  refine Ct.of cX4_chicks 4 (some .int) (by decide) rfl (Nat.le_of_ble_eq_true rfl) ?_
  intro p e s m below meth c ls S hr hlocks hf hl
  have S : CallFix p m c cX4_chicks 4 s ([.ref (ad 0), .int a1] : List Value).toArray wsX4_chicks RX4 := S
  obtain ⟨hx, hb, hml, hown, hts⟩ := id S
  have hl : lv_has ls 4 [(0, .ref (ad 0)), (1, .int a1)] := hl
  have hL4 : ∀ (n : Nat) (x1 : Int32) (x2 : Int32) (x3 : Int32)  (H : Heap) (locs : List Loc) (ls : Array Slot), f_X4_chicks_L4 μ0 n x1 x2 x3 = some q → Fr G (va_A (wM G ad μ0) s.heap.size) s (wM G ad μ0) H locs → lv_has ls 4 [(0, .ref (ad 0)), (1, .int x1), (2, .int x2), (3, .int x3)] → W p l e ({ frames := 4, cells := 0, slots := 0, locals := 85 } : Room) s m ([.ref (ad 0), .int a1] : List Value).toArray below meth c H locs 0 0 (MQ below (CPost G (wM G ad μ0) s.heap.size (some (.int q)) (wM G ad μ0)) ([.ref (ad 0), .int a1] : List Value).toArray s 0 0 (va_A (wM G ad μ0) s.heap.size)) (F0 m 4 ls []) := by
    intro n
    induction n with
    | zero =>
      intro x1 x2 x3 H locs ls hF hf hl
      exact absurd hF (by simp [f_X4_chicks_L4])
    | succ n ih4 =>
      intro x1 x2 x3 H locs ls hF hf hl
      rw [f_X4_chicks_L4] at hF
      refine lv_iload_n hx hb dX4_chicks_4 rfl (lv_at hl 3 rfl) ?_
      refine lv_aload_n hx hb dX4_chicks_5 rfl (lv_at hl 0 rfl) ?_
      refine g_get (ci := 4) (C := RX4) (T := TX4) (N := 21) (v := .ref (ad 1)) S hf hinX4 0 rfl rfl 0 (by decide) k9 rfl rfl dX4_chicks_6 ?_
      refine lv_iconst (v := 1) hx hb dX4_chicks_9 (by decide) ?_
      refine g_ald (v := (μ0 0) 1) S hf 2 rfl (by decide) rfl dX4_chicks_10 ?_
      refine lv_icmp_ge (tgt := 46) hx hb dX4_chicks_11 (by decide) (fun c1 => ?_) (fun c1 => ?_)
      · replace hF := (if_pos c1).symm.trans hF
        refine lv_iload_n hx hb dX4_chicks_46 rfl (lv_at hl 2 rfl) ?_
        have hE := Option.some.inj hF
        have hV := congrArg (fun z : Int32 => z) hE
        exact g_iret S hr hlocks hf hV rfl dX4_chicks_47
      · replace hF := (if_neg c1).symm.trans hF
        refine lv_iload_n hx hb dX4_chicks_14 rfl (lv_at hl 2 rfl) ?_
        refine lv_aload_n hx hb dX4_chicks_15 rfl (lv_at hl 0 rfl) ?_
        refine lv_iload_n hx hb dX4_chicks_16 rfl (lv_at hl 3 rfl) ?_
        refine lv_iconst (v := 2) hx hb dX4_chicks_17 (by decide) ?_
        obtain ⟨q2, h3, hF⟩ := Option.bind_eq_some_iff.mp hF
        refine g_cv0 (o := some (.int q2)) (As := [.int x3, .int 2]) (rest := [.int x2]) (st1 := [.int q2, .int x2]) (ci := 4) S hf (c_X4_birdIs l G ad μ0 x3 2 q2 h3) (cwV 2 hts gX4_chicks_X4_birdIs rfl rfl rfl (by decide +kernel) ⟨Nat.le_of_ble_eq_true rfl, Nat.le_of_ble_eq_true rfl⟩) rfl rfl rfl 0 rfl rfl hl.1 rfl rfl (Nat.le_of_ble_eq_true rfl) ⟨Nat.zero_le _, Nat.zero_le _⟩ dX4_chicks_18 (fun H locs hf => ?_)
        have hf : Fr G (va_A (wM G ad μ0) s.heap.size) s (wM G ad μ0) H locs := hf
        refine lv_iload_n hx hb dX4_chicks_21 rfl (lv_at hl 1 rfl) ?_
        refine lv_icmp_ne (tgt := 37) hx hb dX4_chicks_22 (by decide) (fun c4 => ?_) (fun c4 => ?_)
        · replace hF := (if_neg c4).symm.trans hF
          refine lv_iconst (v := 0) hx hb dX4_chicks_37 (by decide) ?_
          refine lv_iadd hx hb dX4_chicks_38 ?_
          refine lv_istore_n (lv' := [(2, .int (x2 + 0)), (0, .ref (ad 0)), (1, .int x1), (3, .int x3)]) hx hb dX4_chicks_39 rfl hl (by decide) rfl (fun ls hl => ?_)
          refine lv_iinc (v := x3 + 1) (lv' := [(3, .int (x3 + 1)), (2, .int (x2 + 0)), (0, .ref (ad 0)), (1, .int x1)]) hx hb dX4_chicks_40 hl (k := 3) rfl rfl (by decide) rfl (fun ls hl => ?_)
          refine lv_goto (tgt := 4) hx hb dX4_chicks_43 (by decide) ?_
          exact ih4 x1 (x2 + 0) (x3 + 1) _ _ _ hF hf (lv_sub hl [2, 3, 1, 0] rfl)
        · replace hF := (if_pos c4).symm.trans hF
          refine lv_aload_n hx hb dX4_chicks_25 rfl (lv_at hl 0 rfl) ?_
          refine lv_iload_n hx hb dX4_chicks_26 rfl (lv_at hl 3 rfl) ?_
          obtain ⟨q5, h6, hF⟩ := Option.bind_eq_some_iff.mp hF
          refine g_cv0 (o := some (.int q5)) (As := [.int x3]) (rest := [.int x2]) (st1 := [.int q5, .int x2]) (ci := 4) S hf (c_X4_isDead l G ad μ0 x3 q5 h6) (cwV 1 hts gX4_chicks_X4_isDead rfl rfl rfl (by decide +kernel) ⟨Nat.le_of_ble_eq_true rfl, Nat.le_of_ble_eq_true rfl⟩) rfl rfl rfl 0 rfl rfl hl.1 rfl rfl (Nat.le_of_ble_eq_true rfl) ⟨Nat.zero_le _, Nat.zero_le _⟩ dX4_chicks_27 (fun H locs hf => ?_)
          have hf : Fr G (va_A (wM G ad μ0) s.heap.size) s (wM G ad μ0) H locs := hf
          refine lv_if_ne (tgt := 37) hx hb dX4_chicks_30 (by decide) (fun c7 => ?_) (fun c7 => ?_)
          · replace hF := (if_neg c7).symm.trans hF
            refine lv_iconst (v := 0) hx hb dX4_chicks_37 (by decide) ?_
            refine lv_iadd hx hb dX4_chicks_38 ?_
            refine lv_istore_n (lv' := [(2, .int (x2 + 0)), (0, .ref (ad 0)), (1, .int x1), (3, .int x3)]) hx hb dX4_chicks_39 rfl hl (by decide) rfl (fun ls hl => ?_)
            refine lv_iinc (v := x3 + 1) (lv' := [(3, .int (x3 + 1)), (2, .int (x2 + 0)), (0, .ref (ad 0)), (1, .int x1)]) hx hb dX4_chicks_40 hl (k := 3) rfl rfl (by decide) rfl (fun ls hl => ?_)
            refine lv_goto (tgt := 4) hx hb dX4_chicks_43 (by decide) ?_
            exact ih4 x1 (x2 + 0) (x3 + 1) _ _ _ hF hf (lv_sub hl [2, 3, 1, 0] rfl)
          · replace hF := (if_pos c7).symm.trans hF
            refine lv_iconst (v := 1) hx hb dX4_chicks_33 (by decide) ?_
            refine lv_goto (tgt := 38) hx hb dX4_chicks_34 (by decide) ?_
            refine lv_iadd hx hb dX4_chicks_38 ?_
            refine lv_istore_n (lv' := [(2, .int (x2 + 1)), (0, .ref (ad 0)), (1, .int x1), (3, .int x3)]) hx hb dX4_chicks_39 rfl hl (by decide) rfl (fun ls hl => ?_)
            refine lv_iinc (v := x3 + 1) (lv' := [(3, .int (x3 + 1)), (2, .int (x2 + 1)), (0, .ref (ad 0)), (1, .int x1)]) hx hb dX4_chicks_40 hl (k := 3) rfl rfl (by decide) rfl (fun ls hl => ?_)
            refine lv_goto (tgt := 4) hx hb dX4_chicks_43 (by decide) ?_
            exact ih4 x1 (x2 + 1) (x3 + 1) _ _ _ hF hf (lv_sub hl [2, 3, 1, 0] rfl)
  unfold f_X4_chicks at hF
  refine lv_iconst (v := 0) hx hb dX4_chicks_0 (by decide) ?_
  refine lv_istore_n (lv' := [(2, .int 0), (0, .ref (ad 0)), (1, .int a1)]) hx hb dX4_chicks_1 rfl hl (by decide) rfl (fun ls hl => ?_)
  refine lv_iconst (v := 0) hx hb dX4_chicks_2 (by decide) ?_
  refine lv_istore_n (lv' := [(3, .int 0), (2, .int 0), (0, .ref (ad 0)), (1, .int a1)]) hx hb dX4_chicks_3 rfl hl (by decide) rfl (fun ls hl => ?_)
  exact hL4 1000 a1 0 0 _ _ _ hF hf (lv_sub hl [2, 3, 1, 0] rfl)
def f_X4_rate (μ0 : K2) (a1 : Int32) : Option (Int32) := Option.bind (f_X4_birdIs μ0 a1 1) (fun q1 => Option.bind (f_X4_inLoft μ0 q1) (fun q3 => Option.bind (f_X4_bits q3) (fun q5 => Option.bind (f_X4_birdIs μ0 a1 0) (fun q7 => if q7 = 1 then (some (8)) else (if q7 = 2 then (some (10 + q5)) else (if q7 = 3 then (some (2 * (10 + q5))) else (if q7 = 4 then (some (imax 5 ((2 * (10 + q5)) - (((μ0 0) 3) / 10)))) else (if q7 = 5 then (some (3)) else (if q7 = 6 then (Option.bind (f_X4_chicks μ0 a1) (fun q15 => some (8 + (4 * q15)))) else (some (10)))))))))))
set_option maxHeartbeats 4000000 in
set_option maxRecDepth 100000 in
theorem c_X4_rate (l : Launch) (G : GT) (ad : Nat → Nat) (μ0 : K2) (a1 : Int32) (q : Int32) (hF : f_X4_rate μ0 a1 = some q) : Ct l G yX4_rate wsX4_rate ({ frames := 5, cells := 0, slots := 0, locals := 108 } : Room) ([.ref (ad 0), .int a1] : List Value) (wM G ad μ0) (some (.int q)) (wM G ad μ0) := by
  have k9 : Cond.fieldLink RX4 9 "PigeonRollsModel" "now" "[I" ∈ wsX4_rate := by decide +kernel
  have k128 : Cond.methodLink RX4 128 Lib.Math.max.name ∈ wsX4_rate := by decide +kernel
  have ksmax : Cond.static Lib.Math.max.name ∈ wsX4_rate := by decide +kernel
  have kiM : Cond.initialized "java/lang/Math" ∈ wsX4_rate := by decide +kernel
  have komax : Cond.code Lib.Math.max.name Lib.Math.max.code 2 (some .int) ∈ wsX4_rate := by decide +kernel
  have hinX4 : ∀ w ∈ u_ws RX4 TX4 21, w ∈ wsX4_rate := by decide +kernel
  refine Ct.of cX4_rate 3 (some .int) (by decide) rfl (Nat.le_of_ble_eq_true rfl) ?_
  intro p e s m below meth c ls S hr hlocks hf hl
  have S : CallFix p m c cX4_rate 3 s ([.ref (ad 0), .int a1] : List Value).toArray wsX4_rate RX4 := S
  obtain ⟨hx, hb, hml, hown, hts⟩ := id S
  have hl : lv_has ls 3 [(0, .ref (ad 0)), (1, .int a1)] := hl
  unfold f_X4_rate at hF
  refine lv_bipush (v := 10) hx hb dX4_rate_0 (by decide) ?_
  refine lv_aload_n hx hb dX4_rate_2 rfl (lv_at hl 0 rfl) ?_
  refine lv_aload_n hx hb dX4_rate_3 rfl (lv_at hl 0 rfl) ?_
  refine lv_iload_n hx hb dX4_rate_4 rfl (lv_at hl 1 rfl) ?_
  refine lv_iconst (v := 1) hx hb dX4_rate_5 (by decide) ?_
  obtain ⟨q1, h2, hF⟩ := Option.bind_eq_some_iff.mp hF
  refine g_cv0 (o := some (.int q1)) (As := [.int a1, .int 1]) (rest := [.ref (ad 0), .int 10]) (st1 := [.int q1, .ref (ad 0), .int 10]) (ci := 4) S hf (c_X4_birdIs l G ad μ0 a1 1 q1 h2) (cwV 2 hts gX4_rate_X4_birdIs rfl rfl rfl (by decide +kernel) ⟨Nat.le_of_ble_eq_true rfl, Nat.le_of_ble_eq_true rfl⟩) rfl rfl rfl 0 rfl rfl hl.1 rfl rfl (Nat.le_of_ble_eq_true rfl) ⟨Nat.zero_le _, Nat.zero_le _⟩ dX4_rate_6 (fun H locs hf => ?_)
  have hf : Fr G (va_A (wM G ad μ0) s.heap.size) s (wM G ad μ0) H locs := hf
  obtain ⟨q3, h4, hF⟩ := Option.bind_eq_some_iff.mp hF
  refine g_cv0 (o := some (.int q3)) (As := [.int q1]) (rest := [.int 10]) (st1 := [.int q3, .int 10]) (ci := 4) S hf (c_X4_inLoft l G ad μ0 q1 q3 h4) (cwV 1 hts gX4_rate_X4_inLoft rfl rfl rfl (by decide +kernel) ⟨Nat.le_of_ble_eq_true rfl, Nat.le_of_ble_eq_true rfl⟩) rfl rfl rfl 0 rfl rfl hl.1 rfl rfl (Nat.le_of_ble_eq_true rfl) ⟨Nat.zero_le _, Nat.zero_le _⟩ dX4_rate_9 (fun H locs hf => ?_)
  have hf : Fr G (va_A (wM G ad μ0) s.heap.size) s (wM G ad μ0) H locs := hf
  obtain ⟨q5, h6, hF⟩ := Option.bind_eq_some_iff.mp hF
  refine g_cs0 (o := some (.int q5)) (As := [.int q3]) (rest := [.int 10]) (st1 := [.int q5, .int 10]) S hf (c_X4_bits l G  q3 q5 h6) (va_cwS 1 hts gX4_rate_X4_bits rfl rfl rfl (by decide +kernel) ⟨Nat.le_of_ble_eq_true rfl, Nat.le_of_ble_eq_true rfl⟩) rfl hl.1 rfl rfl (Nat.le_of_ble_eq_true rfl) ⟨Nat.zero_le _, Nat.zero_le _⟩ dX4_rate_12 (fun H locs hf => ?_)
  refine lv_iadd hx hb dX4_rate_15 ?_
  refine lv_istore_n (lv' := [(2, .int (10 + q5)), (0, .ref (ad 0)), (1, .int a1)]) hx hb dX4_rate_16 rfl hl (by decide) rfl (fun ls hl => ?_)
  refine lv_aload_n hx hb dX4_rate_17 rfl (lv_at hl 1 rfl) ?_
  refine lv_iload_n hx hb dX4_rate_18 rfl (lv_at hl 2 rfl) ?_
  refine lv_iconst (v := 0) hx hb dX4_rate_19 (by decide) ?_
  obtain ⟨q7, h8, hF⟩ := Option.bind_eq_some_iff.mp hF
  refine g_cv0 (o := some (.int q7)) (As := [.int a1, .int 0]) (rest := []) (st1 := [.int q7]) (ci := 4) S hf (c_X4_birdIs l G ad μ0 a1 0 q7 h8) (cwV 2 hts gX4_rate_X4_birdIs rfl rfl rfl (by decide +kernel) ⟨Nat.le_of_ble_eq_true rfl, Nat.le_of_ble_eq_true rfl⟩) rfl rfl rfl 0 rfl rfl hl.1 rfl rfl (Nat.le_of_ble_eq_true rfl) ⟨Nat.zero_le _, Nat.zero_le _⟩ dX4_rate_20 (fun H locs hf => ?_)
  have hf : Fr G (va_A (wM G ad μ0) s.heap.size) s (wM G ad μ0) H locs := hf
  by_cases c9 : q7 = 1
  · replace hF := (if_pos c9).symm.trans hF
    refine lv_tableIn (tgt := 60) hx hb dX4_rate_23 (by rw [c9]; decide) (by rw [c9]; decide) (by rw [c9]; rfl) (by decide) ?_
    refine lv_bipush (v := 8) hx hb dX4_rate_60 (by decide) ?_
    have hE := Option.some.inj hF
    have hV := congrArg (fun z : Int32 => z) hE
    exact g_iret S hr hlocks hf hV rfl dX4_rate_62
  replace hF := (if_neg c9).symm.trans hF
  by_cases c10 : q7 = 2
  · replace hF := (if_pos c10).symm.trans hF
    refine lv_tableIn (tgt := 74) hx hb dX4_rate_23 (by rw [c10]; decide) (by rw [c10]; decide) (by rw [c10]; rfl) (by decide) ?_
    refine lv_iload_n hx hb dX4_rate_74 rfl (lv_at hl 0 rfl) ?_
    have hE := Option.some.inj hF
    have hV := congrArg (fun z : Int32 => z) hE
    exact g_iret S hr hlocks hf hV rfl dX4_rate_75
  replace hF := (if_neg c10).symm.trans hF
  by_cases c11 : q7 = 3
  · replace hF := (if_pos c11).symm.trans hF
    refine lv_tableIn (tgt := 76) hx hb dX4_rate_23 (by rw [c11]; decide) (by rw [c11]; decide) (by rw [c11]; rfl) (by decide) ?_
    refine lv_iconst (v := 2) hx hb dX4_rate_76 (by decide) ?_
    refine lv_iload_n hx hb dX4_rate_77 rfl (lv_at hl 0 rfl) ?_
    refine lv_imul hx hb dX4_rate_78 ?_
    have hE := Option.some.inj hF
    have hV := congrArg (fun z : Int32 => z) hE
    exact g_iret S hr hlocks hf hV rfl dX4_rate_79
  replace hF := (if_neg c11).symm.trans hF
  by_cases c12 : q7 = 4
  · replace hF := (if_pos c12).symm.trans hF
    refine lv_tableIn (tgt := 80) hx hb dX4_rate_23 (by rw [c12]; decide) (by rw [c12]; decide) (by rw [c12]; rfl) (by decide) ?_
    refine lv_iconst (v := 5) hx hb dX4_rate_80 (by decide) ?_
    refine lv_iconst (v := 2) hx hb dX4_rate_81 (by decide) ?_
    refine lv_iload_n hx hb dX4_rate_82 rfl (lv_at hl 0 rfl) ?_
    refine lv_imul hx hb dX4_rate_83 ?_
    refine lv_aload_n hx hb dX4_rate_84 rfl (lv_at hl 1 rfl) ?_
    refine g_get (ci := 4) (C := RX4) (T := TX4) (N := 21) (v := .ref (ad 1)) S hf hinX4 0 rfl rfl 0 (by decide) k9 rfl rfl dX4_rate_85 ?_
    refine lv_iconst (v := 3) hx hb dX4_rate_88 (by decide) ?_
    refine g_ald (v := (μ0 0) 3) S hf 2 rfl (by decide) rfl dX4_rate_89 ?_
    refine lv_bipush (v := 10) hx hb dX4_rate_90 (by decide) ?_
    refine lv_idiv hx hb dX4_rate_92 (by decide) ?_
    refine lv_isub hx hb dX4_rate_93 ?_
    refine va_mmax hx hb (hml.trans hl.1.symm) hown (hts _ k128) (hts _ ksmax) (hts _ kiM) (hts _ komax) (Nat.le_of_ble_eq_true rfl) (Nat.le_of_ble_eq_true rfl) (Nat.zero_le _) (Nat.zero_le _) dX4_rate_94 ?_
    have hE := Option.some.inj hF
    have hV := congrArg (fun z : Int32 => z) hE
    exact g_iret S hr hlocks hf hV rfl dX4_rate_97
  replace hF := (if_neg c12).symm.trans hF
  by_cases c13 : q7 = 5
  · replace hF := (if_pos c13).symm.trans hF
    refine lv_tableIn (tgt := 98) hx hb dX4_rate_23 (by rw [c13]; decide) (by rw [c13]; decide) (by rw [c13]; rfl) (by decide) ?_
    refine lv_iconst (v := 3) hx hb dX4_rate_98 (by decide) ?_
    have hE := Option.some.inj hF
    have hV := congrArg (fun z : Int32 => z) hE
    exact g_iret S hr hlocks hf hV rfl dX4_rate_99
  replace hF := (if_neg c13).symm.trans hF
  by_cases c14 : q7 = 6
  · replace hF := (if_pos c14).symm.trans hF
    refine lv_tableIn (tgt := 63) hx hb dX4_rate_23 (by rw [c14]; decide) (by rw [c14]; decide) (by rw [c14]; rfl) (by decide) ?_
    refine lv_bipush (v := 8) hx hb dX4_rate_63 (by decide) ?_
    refine lv_iconst (v := 4) hx hb dX4_rate_65 (by decide) ?_
    refine lv_aload_n hx hb dX4_rate_66 rfl (lv_at hl 1 rfl) ?_
    refine lv_iload_n hx hb dX4_rate_67 rfl (lv_at hl 2 rfl) ?_
    obtain ⟨q15, h16, hF⟩ := Option.bind_eq_some_iff.mp hF
    refine g_cv0 (o := some (.int q15)) (As := [.int a1]) (rest := [.int 4, .int 8]) (st1 := [.int q15, .int 4, .int 8]) (ci := 4) S hf (c_X4_chicks l G ad μ0 a1 q15 h16) (cwV 1 hts gX4_rate_X4_chicks rfl rfl rfl (by decide +kernel) ⟨Nat.le_of_ble_eq_true rfl, Nat.le_of_ble_eq_true rfl⟩) rfl rfl rfl 0 rfl rfl hl.1 rfl rfl (Nat.le_of_ble_eq_true rfl) ⟨Nat.zero_le _, Nat.zero_le _⟩ dX4_rate_68 (fun H locs hf => ?_)
    have hf : Fr G (va_A (wM G ad μ0) s.heap.size) s (wM G ad μ0) H locs := hf
    refine lv_imul hx hb dX4_rate_71 ?_
    refine lv_iadd hx hb dX4_rate_72 ?_
    have hE := Option.some.inj hF
    have hV := congrArg (fun z : Int32 => z) hE
    exact g_iret S hr hlocks hf hV rfl dX4_rate_73
  replace hF := (if_neg c14).symm.trans hF
  refine lv_tableOut (tgt := 100) hx hb dX4_rate_23 (by have t0 := lv_neT (a := 1) c9 (by decide); have t1 := lv_neT (a := 2) c10 (by decide); have t2 := lv_neT (a := 3) c11 (by decide); have t3 := lv_neT (a := 4) c12 (by decide); have t4 := lv_neT (a := 5) c13 (by decide); have t5 := lv_neT (a := 6) c14 (by decide); omega) (by decide) ?_
  refine lv_bipush (v := 10) hx hb dX4_rate_100 (by decide) ?_
  have hE := Option.some.inj hF
  have hV := congrArg (fun z : Int32 => z) hE
  exact g_iret S hr hlocks hf hV rfl dX4_rate_102
def f_X4_eats (μ0 : K2) (a1 : Int32) : Option (Int32) := Option.bind (f_X4_birdIs μ0 a1 0) (fun q1 => if q1 = 3 then (some (1)) else (if q1 = 4 then (some (3)) else (if q1 = 5 then (some (irem ((μ0 0) 0) 2)) else (some (0)))))
set_option maxHeartbeats 4000000 in
set_option maxRecDepth 100000 in
theorem c_X4_eats (l : Launch) (G : GT) (ad : Nat → Nat) (μ0 : K2) (a1 : Int32) (q : Int32) (hF : f_X4_eats μ0 a1 = some q) : Ct l G yX4_eats wsX4_eats ({ frames := 2, cells := 0, slots := 0, locals := 43 } : Room) ([.ref (ad 0), .int a1] : List Value) (wM G ad μ0) (some (.int q)) (wM G ad μ0) := by
  have k9 : Cond.fieldLink RX4 9 "PigeonRollsModel" "now" "[I" ∈ wsX4_eats := by decide +kernel
  have hinX4 : ∀ w ∈ u_ws RX4 TX4 21, w ∈ wsX4_eats := by decide +kernel
  refine Ct.of cX4_eats 2 (some .int) (by decide) rfl (Nat.le_of_ble_eq_true rfl) ?_
  intro p e s m below meth c ls S hr hlocks hf hl
  have S : CallFix p m c cX4_eats 2 s ([.ref (ad 0), .int a1] : List Value).toArray wsX4_eats RX4 := S
  obtain ⟨hx, hb, hml, hown, hts⟩ := id S
  have hl : lv_has ls 2 [(0, .ref (ad 0)), (1, .int a1)] := hl
  unfold f_X4_eats at hF
  refine lv_aload_n hx hb dX4_eats_0 rfl (lv_at hl 0 rfl) ?_
  refine lv_iload_n hx hb dX4_eats_1 rfl (lv_at hl 1 rfl) ?_
  refine lv_iconst (v := 0) hx hb dX4_eats_2 (by decide) ?_
  obtain ⟨q1, h2, hF⟩ := Option.bind_eq_some_iff.mp hF
  refine g_cv0 (o := some (.int q1)) (As := [.int a1, .int 0]) (rest := []) (st1 := [.int q1]) (ci := 4) S hf (c_X4_birdIs l G ad μ0 a1 0 q1 h2) (cwV 2 hts gX4_eats_X4_birdIs rfl rfl rfl (by decide +kernel) ⟨Nat.le_of_ble_eq_true rfl, Nat.le_of_ble_eq_true rfl⟩) rfl rfl rfl 0 rfl rfl hl.1 rfl rfl (Nat.le_of_ble_eq_true rfl) ⟨Nat.zero_le _, Nat.zero_le _⟩ dX4_eats_3 (fun H locs hf => ?_)
  have hf : Fr G (va_A (wM G ad μ0) s.heap.size) s (wM G ad μ0) H locs := hf
  by_cases c3 : q1 = 3
  · replace hF := (if_pos c3).symm.trans hF
    refine lv_tableIn (tgt := 32) hx hb dX4_eats_6 (by rw [c3]; decide) (by rw [c3]; decide) (by rw [c3]; rfl) (by decide) ?_
    refine lv_iconst (v := 1) hx hb dX4_eats_32 (by decide) ?_
    have hE := Option.some.inj hF
    have hV := congrArg (fun z : Int32 => z) hE
    exact g_iret S hr hlocks hf hV rfl dX4_eats_33
  replace hF := (if_neg c3).symm.trans hF
  by_cases c4 : q1 = 4
  · replace hF := (if_pos c4).symm.trans hF
    refine lv_tableIn (tgt := 34) hx hb dX4_eats_6 (by rw [c4]; decide) (by rw [c4]; decide) (by rw [c4]; rfl) (by decide) ?_
    refine lv_iconst (v := 3) hx hb dX4_eats_34 (by decide) ?_
    have hE := Option.some.inj hF
    have hV := congrArg (fun z : Int32 => z) hE
    exact g_iret S hr hlocks hf hV rfl dX4_eats_35
  replace hF := (if_neg c4).symm.trans hF
  by_cases c5 : q1 = 5
  · replace hF := (if_pos c5).symm.trans hF
    refine lv_tableIn (tgt := 36) hx hb dX4_eats_6 (by rw [c5]; decide) (by rw [c5]; decide) (by rw [c5]; rfl) (by decide) ?_
    refine lv_aload_n hx hb dX4_eats_36 rfl (lv_at hl 0 rfl) ?_
    refine g_get (ci := 4) (C := RX4) (T := TX4) (N := 21) (v := .ref (ad 1)) S hf hinX4 0 rfl rfl 0 (by decide) k9 rfl rfl dX4_eats_37 ?_
    refine lv_iconst (v := 0) hx hb dX4_eats_40 (by decide) ?_
    refine g_ald (v := (μ0 0) 0) S hf 2 rfl (by decide) rfl dX4_eats_41 ?_
    refine lv_iconst (v := 2) hx hb dX4_eats_42 (by decide) ?_
    refine lv_irem hx hb dX4_eats_43 (by decide) ?_
    have hE := Option.some.inj hF
    have hV := congrArg (fun z : Int32 => z) hE
    exact g_iret S hr hlocks hf hV rfl dX4_eats_44
  replace hF := (if_neg c5).symm.trans hF
  refine lv_tableOut (tgt := 45) hx hb dX4_eats_6 (by have t0 := lv_neT (a := 3) c3 (by decide); have t1 := lv_neT (a := 4) c4 (by decide); have t2 := lv_neT (a := 5) c5 (by decide); omega) (by decide) ?_
  refine lv_iconst (v := 0) hx hb dX4_eats_45 (by decide) ?_
  have hE := Option.some.inj hF
  have hV := congrArg (fun z : Int32 => z) hE
  exact g_iret S hr hlocks hf hV rfl dX4_eats_46
def f_X4_told (μ0 : K2) (a1 : Int32) (a2 : Int32) : Option (Int32) := if a2 = 9 then (Option.bind (f_X4_lives μ0 a1) (fun q2 => some (q2))) else (if a2 = 10 then (Option.bind (f_X4_rate μ0 a1) (fun q5 => some (q5))) else (if a2 = 11 then (Option.bind (f_X4_eats μ0 a1) (fun q8 => some (q8))) else (if a2 = 12 then (Option.bind (f_X4_isOfLine μ0 a1) (fun q11 => if q11 = 0 then (some (0)) else (some (1)))) else (if a2 = 13 then (Option.bind (f_X4_doesDraw μ0 a1) (fun q15 => if q15 = 0 then (some (0)) else (some (1)))) else (Option.bind (f_X4_birdIs μ0 a1 a2) (fun q18 => some (q18)))))))
set_option maxHeartbeats 4000000 in
set_option maxRecDepth 100000 in
theorem c_X4_told (l : Launch) (G : GT) (ad : Nat → Nat) (μ0 : K2) (a1 : Int32) (a2 : Int32) (q : Int32) (hF : f_X4_told μ0 a1 a2 = some q) : Ct l G yX4_told wsX4_told ({ frames := 6, cells := 0, slots := 0, locals := 130 } : Room) ([.ref (ad 0), .int a1, .int a2] : List Value) (wM G ad μ0) (some (.int q)) (wM G ad μ0) := by
  refine Ct.of cX4_told 3 (some .int) (by decide) rfl (Nat.le_of_ble_eq_true rfl) ?_
  intro p e s m below meth c ls S hr hlocks hf hl
  have S : CallFix p m c cX4_told 3 s ([.ref (ad 0), .int a1, .int a2] : List Value).toArray wsX4_told RX4 := S
  obtain ⟨hx, hb, hml, hown, hts⟩ := id S
  have hl : lv_has ls 3 [(0, .ref (ad 0)), (1, .int a1), (2, .int a2)] := hl
  unfold f_X4_told at hF
  refine lv_iload_n hx hb dX4_told_0 rfl (lv_at hl 2 rfl) ?_
  by_cases c1 : a2 = 9
  · replace hF := (if_pos c1).symm.trans hF
    refine lv_tableIn (tgt := 36) hx hb dX4_told_1 (by rw [c1]; decide) (by rw [c1]; decide) (by rw [c1]; rfl) (by decide) ?_
    refine lv_aload_n hx hb dX4_told_36 rfl (lv_at hl 0 rfl) ?_
    refine lv_iload_n hx hb dX4_told_37 rfl (lv_at hl 1 rfl) ?_
    obtain ⟨q2, h3, hF⟩ := Option.bind_eq_some_iff.mp hF
    refine g_cv0 (o := some (.int q2)) (As := [.int a1]) (rest := []) (st1 := [.int q2]) (ci := 4) S hf (c_X4_lives l G ad μ0 a1 q2 h3) (cwV 1 hts gX4_told_X4_lives rfl rfl rfl (by decide +kernel) ⟨Nat.le_of_ble_eq_true rfl, Nat.le_of_ble_eq_true rfl⟩) rfl rfl rfl 0 rfl rfl hl.1 rfl rfl (Nat.le_of_ble_eq_true rfl) ⟨Nat.zero_le _, Nat.zero_le _⟩ dX4_told_38 (fun H locs hf => ?_)
    have hf : Fr G (va_A (wM G ad μ0) s.heap.size) s (wM G ad μ0) H locs := hf
    have hE := Option.some.inj hF
    have hV := congrArg (fun z : Int32 => z) hE
    exact g_iret S hr hlocks hf hV rfl dX4_told_41
  replace hF := (if_neg c1).symm.trans hF
  by_cases c4 : a2 = 10
  · replace hF := (if_pos c4).symm.trans hF
    refine lv_tableIn (tgt := 42) hx hb dX4_told_1 (by rw [c4]; decide) (by rw [c4]; decide) (by rw [c4]; rfl) (by decide) ?_
    refine lv_aload_n hx hb dX4_told_42 rfl (lv_at hl 0 rfl) ?_
    refine lv_iload_n hx hb dX4_told_43 rfl (lv_at hl 1 rfl) ?_
    obtain ⟨q5, h6, hF⟩ := Option.bind_eq_some_iff.mp hF
    refine g_cv0 (o := some (.int q5)) (As := [.int a1]) (rest := []) (st1 := [.int q5]) (ci := 4) S hf (c_X4_rate l G ad μ0 a1 q5 h6) (cwV 1 hts gX4_told_X4_rate rfl rfl rfl (by decide +kernel) ⟨Nat.le_of_ble_eq_true rfl, Nat.le_of_ble_eq_true rfl⟩) rfl rfl rfl 0 rfl rfl hl.1 rfl rfl (Nat.le_of_ble_eq_true rfl) ⟨Nat.zero_le _, Nat.zero_le _⟩ dX4_told_44 (fun H locs hf => ?_)
    have hf : Fr G (va_A (wM G ad μ0) s.heap.size) s (wM G ad μ0) H locs := hf
    have hE := Option.some.inj hF
    have hV := congrArg (fun z : Int32 => z) hE
    exact g_iret S hr hlocks hf hV rfl dX4_told_47
  replace hF := (if_neg c4).symm.trans hF
  by_cases c7 : a2 = 11
  · replace hF := (if_pos c7).symm.trans hF
    refine lv_tableIn (tgt := 48) hx hb dX4_told_1 (by rw [c7]; decide) (by rw [c7]; decide) (by rw [c7]; rfl) (by decide) ?_
    refine lv_aload_n hx hb dX4_told_48 rfl (lv_at hl 0 rfl) ?_
    refine lv_iload_n hx hb dX4_told_49 rfl (lv_at hl 1 rfl) ?_
    obtain ⟨q8, h9, hF⟩ := Option.bind_eq_some_iff.mp hF
    refine g_cv0 (o := some (.int q8)) (As := [.int a1]) (rest := []) (st1 := [.int q8]) (ci := 4) S hf (c_X4_eats l G ad μ0 a1 q8 h9) (cwV 1 hts gX4_told_X4_eats rfl rfl rfl (by decide +kernel) ⟨Nat.le_of_ble_eq_true rfl, Nat.le_of_ble_eq_true rfl⟩) rfl rfl rfl 0 rfl rfl hl.1 rfl rfl (Nat.le_of_ble_eq_true rfl) ⟨Nat.zero_le _, Nat.zero_le _⟩ dX4_told_50 (fun H locs hf => ?_)
    have hf : Fr G (va_A (wM G ad μ0) s.heap.size) s (wM G ad μ0) H locs := hf
    have hE := Option.some.inj hF
    have hV := congrArg (fun z : Int32 => z) hE
    exact g_iret S hr hlocks hf hV rfl dX4_told_53
  replace hF := (if_neg c7).symm.trans hF
  by_cases c10 : a2 = 12
  · replace hF := (if_pos c10).symm.trans hF
    refine lv_tableIn (tgt := 54) hx hb dX4_told_1 (by rw [c10]; decide) (by rw [c10]; decide) (by rw [c10]; rfl) (by decide) ?_
    refine lv_aload_n hx hb dX4_told_54 rfl (lv_at hl 0 rfl) ?_
    refine lv_iload_n hx hb dX4_told_55 rfl (lv_at hl 1 rfl) ?_
    obtain ⟨q11, h12, hF⟩ := Option.bind_eq_some_iff.mp hF
    refine g_cv0 (o := some (.int q11)) (As := [.int a1]) (rest := []) (st1 := [.int q11]) (ci := 4) S hf (c_X4_isOfLine l G ad μ0 a1 q11 h12) (cwV 1 hts gX4_told_X4_isOfLine rfl rfl rfl (by decide +kernel) ⟨Nat.le_of_ble_eq_true rfl, Nat.le_of_ble_eq_true rfl⟩) rfl rfl rfl 0 rfl rfl hl.1 rfl rfl (Nat.le_of_ble_eq_true rfl) ⟨Nat.zero_le _, Nat.zero_le _⟩ dX4_told_56 (fun H locs hf => ?_)
    have hf : Fr G (va_A (wM G ad μ0) s.heap.size) s (wM G ad μ0) H locs := hf
    refine lv_if_eq (tgt := 66) hx hb dX4_told_59 (by decide) (fun c13 => ?_) (fun c13 => ?_)
    · replace hF := (if_pos c13).symm.trans hF
      refine lv_iconst (v := 0) hx hb dX4_told_66 (by decide) ?_
      have hE := Option.some.inj hF
      have hV := congrArg (fun z : Int32 => z) hE
      exact g_iret S hr hlocks hf hV rfl dX4_told_67
    · replace hF := (if_neg c13).symm.trans hF
      refine lv_iconst (v := 1) hx hb dX4_told_62 (by decide) ?_
      refine lv_goto (tgt := 67) hx hb dX4_told_63 (by decide) ?_
      have hE := Option.some.inj hF
      have hV := congrArg (fun z : Int32 => z) hE
      exact g_iret S hr hlocks hf hV rfl dX4_told_67
  replace hF := (if_neg c10).symm.trans hF
  by_cases c14 : a2 = 13
  · replace hF := (if_pos c14).symm.trans hF
    refine lv_tableIn (tgt := 68) hx hb dX4_told_1 (by rw [c14]; decide) (by rw [c14]; decide) (by rw [c14]; rfl) (by decide) ?_
    refine lv_aload_n hx hb dX4_told_68 rfl (lv_at hl 0 rfl) ?_
    refine lv_iload_n hx hb dX4_told_69 rfl (lv_at hl 1 rfl) ?_
    obtain ⟨q15, h16, hF⟩ := Option.bind_eq_some_iff.mp hF
    refine g_cv0 (o := some (.int q15)) (As := [.int a1]) (rest := []) (st1 := [.int q15]) (ci := 4) S hf (c_X4_doesDraw l G ad μ0 a1 q15 h16) (cwV 1 hts gX4_told_X4_doesDraw rfl rfl rfl (by decide +kernel) ⟨Nat.le_of_ble_eq_true rfl, Nat.le_of_ble_eq_true rfl⟩) rfl rfl rfl 0 rfl rfl hl.1 rfl rfl (Nat.le_of_ble_eq_true rfl) ⟨Nat.zero_le _, Nat.zero_le _⟩ dX4_told_70 (fun H locs hf => ?_)
    have hf : Fr G (va_A (wM G ad μ0) s.heap.size) s (wM G ad μ0) H locs := hf
    refine lv_if_eq (tgt := 80) hx hb dX4_told_73 (by decide) (fun c17 => ?_) (fun c17 => ?_)
    · replace hF := (if_pos c17).symm.trans hF
      refine lv_iconst (v := 0) hx hb dX4_told_80 (by decide) ?_
      have hE := Option.some.inj hF
      have hV := congrArg (fun z : Int32 => z) hE
      exact g_iret S hr hlocks hf hV rfl dX4_told_81
    · replace hF := (if_neg c17).symm.trans hF
      refine lv_iconst (v := 1) hx hb dX4_told_76 (by decide) ?_
      refine lv_goto (tgt := 81) hx hb dX4_told_77 (by decide) ?_
      have hE := Option.some.inj hF
      have hV := congrArg (fun z : Int32 => z) hE
      exact g_iret S hr hlocks hf hV rfl dX4_told_81
  replace hF := (if_neg c14).symm.trans hF
  refine lv_tableOut (tgt := 82) hx hb dX4_told_1 (by have t0 := lv_neT (a := 9) c1 (by decide); have t1 := lv_neT (a := 10) c4 (by decide); have t2 := lv_neT (a := 11) c7 (by decide); have t3 := lv_neT (a := 12) c10 (by decide); have t4 := lv_neT (a := 13) c14 (by decide); omega) (by decide) ?_
  refine lv_aload_n hx hb dX4_told_82 rfl (lv_at hl 0 rfl) ?_
  refine lv_iload_n hx hb dX4_told_83 rfl (lv_at hl 1 rfl) ?_
  refine lv_iload_n hx hb dX4_told_84 rfl (lv_at hl 2 rfl) ?_
  obtain ⟨q18, h19, hF⟩ := Option.bind_eq_some_iff.mp hF
  refine g_cv0 (o := some (.int q18)) (As := [.int a1, .int a2]) (rest := []) (st1 := [.int q18]) (ci := 4) S hf (c_X4_birdIs l G ad μ0 a1 a2 q18 h19) (cwV 2 hts gX4_told_X4_birdIs rfl rfl rfl (by decide +kernel) ⟨Nat.le_of_ble_eq_true rfl, Nat.le_of_ble_eq_true rfl⟩) rfl rfl rfl 0 rfl rfl hl.1 rfl rfl (Nat.le_of_ble_eq_true rfl) ⟨Nat.zero_le _, Nat.zero_le _⟩ dX4_told_85 (fun H locs hf => ?_)
  have hf : Fr G (va_A (wM G ad μ0) s.heap.size) s (wM G ad μ0) H locs := hf
  have hE := Option.some.inj hF
  have hV := congrArg (fun z : Int32 => z) hE
  exact g_iret S hr hlocks hf hV rfl dX4_told_88
def f_X4_of (μ0 : K2) (a1 : Int32) (a2 : Int32) : Option (Int32 × K2) := Option.bind (f_X4_isBird μ0 a1) (fun q1 => if q1 = 0 then (Option.bind (f_X4_finding μ0 (-1000001)) (fun q4 => some (q4.1, q4.2))) else (Option.bind (f_X4_within a2 0 13) (fun q6 => if q6 = 0 then (Option.bind (f_X4_finding μ0 (-1000001)) (fun q9 => some (q9.1, q9.2))) else (Option.bind (f_X4_told μ0 a1 a2) (fun q11 => some (q11, μ0))))))
set_option maxHeartbeats 4000000 in
set_option maxRecDepth 100000 in
theorem c_X4_of (l : Launch) (G : GT) (ad : Nat → Nat) (μ0 : K2) (a1 : Int32) (a2 : Int32) (q : Int32 × K2) (hF : f_X4_of μ0 a1 a2 = some q) : Ct l G yX4_of wsX4_of ({ frames := 7, cells := 0, slots := 0, locals := 152 } : Room) ([.ref (ad 0), .int a1, .int a2] : List Value) (wM G ad μ0) (some (.int q.1)) (wM G ad q.2) := by
  have kc63 : Cond.constant RX4 63 (-1000001) ∈ wsX4_of := by decide +kernel
  refine Ct.of cX4_of 3 (some .int) (by decide) rfl (Nat.le_of_ble_eq_true rfl) ?_
  intro p e s m below meth c ls S hr hlocks hf hl
  have S : CallFix p m c cX4_of 3 s ([.ref (ad 0), .int a1, .int a2] : List Value).toArray wsX4_of RX4 := S
  obtain ⟨hx, hb, hml, hown, hts⟩ := id S
  have hl : lv_has ls 3 [(0, .ref (ad 0)), (1, .int a1), (2, .int a2)] := hl
  unfold f_X4_of at hF
  refine lv_aload_n hx hb dX4_of_0 rfl (lv_at hl 0 rfl) ?_
  refine lv_iload_n hx hb dX4_of_1 rfl (lv_at hl 1 rfl) ?_
  obtain ⟨q1, h2, hF⟩ := Option.bind_eq_some_iff.mp hF
  refine g_cv0 (o := some (.int q1)) (As := [.int a1]) (rest := []) (st1 := [.int q1]) (ci := 4) S hf (c_X4_isBird l G ad μ0 a1 q1 h2) (cwV 1 hts gX4_of_X4_isBird rfl rfl rfl (by decide +kernel) ⟨Nat.le_of_ble_eq_true rfl, Nat.le_of_ble_eq_true rfl⟩) rfl rfl rfl 0 rfl rfl hl.1 rfl rfl (Nat.le_of_ble_eq_true rfl) ⟨Nat.zero_le _, Nat.zero_le _⟩ dX4_of_2 (fun H locs hf => ?_)
  have hf : Fr G (va_A (wM G ad μ0) s.heap.size) s (wM G ad μ0) H locs := hf
  refine lv_if_eq (tgt := 27) hx hb dX4_of_5 (by decide) (fun c3 => ?_) (fun c3 => ?_)
  · replace hF := (if_pos c3).symm.trans hF
    refine lv_aload_n hx hb dX4_of_27 rfl (lv_at hl 0 rfl) ?_
    refine lv_ldc (v := -1000001) hx hb hown (hts _ kc63) dX4_of_28 ?_
    obtain ⟨q4, h5, hF⟩ := Option.bind_eq_some_iff.mp hF
    refine g_cv0 (o := some (.int q4.1)) (As := [.int (-1000001)]) (rest := []) (st1 := [.int q4.1]) (ci := 4) S hf (c_X4_finding l G ad μ0 (-1000001) q4 h5) (cwV 1 hts gX4_of_X4_finding rfl rfl rfl (by decide +kernel) ⟨Nat.le_of_ble_eq_true rfl, Nat.le_of_ble_eq_true rfl⟩) rfl rfl rfl 0 rfl rfl hl.1 rfl rfl (Nat.le_of_ble_eq_true rfl) ⟨Nat.zero_le _, Nat.zero_le _⟩ dX4_of_30 (fun H locs hf => ?_)
    have hf : Fr G (va_A (wM G ad μ0) s.heap.size) s (wM G ad q4.2) H locs := hf
    have hE := Option.some.inj hF
    have hV := congrArg (fun z : Int32 × K2 => z.1) hE
    have hW := congrArg (fun z : Int32 × K2 => wM G ad z.2) hE
    exact g_iret S hr hlocks hf hV hW dX4_of_33
  · replace hF := (if_neg c3).symm.trans hF
    refine lv_iload_n hx hb dX4_of_8 rfl (lv_at hl 2 rfl) ?_
    refine lv_iconst (v := 0) hx hb dX4_of_9 (by decide) ?_
    refine lv_bipush (v := 13) hx hb dX4_of_10 (by decide) ?_
    obtain ⟨q6, h7, hF⟩ := Option.bind_eq_some_iff.mp hF
    refine g_cs0 (o := some (.int q6)) (As := [.int a2, .int 0, .int 13]) (rest := []) (st1 := [.int q6]) S hf (c_X4_within l G  a2 0 13 q6 h7) (va_cwS 3 hts gX4_of_X4_within rfl rfl rfl (by decide +kernel) ⟨Nat.le_of_ble_eq_true rfl, Nat.le_of_ble_eq_true rfl⟩) rfl hl.1 rfl rfl (Nat.le_of_ble_eq_true rfl) ⟨Nat.zero_le _, Nat.zero_le _⟩ dX4_of_12 (fun H locs hf => ?_)
    refine lv_if_eq (tgt := 27) hx hb dX4_of_15 (by decide) (fun c8 => ?_) (fun c8 => ?_)
    · replace hF := (if_pos c8).symm.trans hF
      refine lv_aload_n hx hb dX4_of_27 rfl (lv_at hl 0 rfl) ?_
      refine lv_ldc (v := -1000001) hx hb hown (hts _ kc63) dX4_of_28 ?_
      obtain ⟨q9, h10, hF⟩ := Option.bind_eq_some_iff.mp hF
      refine g_cv0 (o := some (.int q9.1)) (As := [.int (-1000001)]) (rest := []) (st1 := [.int q9.1]) (ci := 4) S hf (c_X4_finding l G ad μ0 (-1000001) q9 h10) (cwV 1 hts gX4_of_X4_finding rfl rfl rfl (by decide +kernel) ⟨Nat.le_of_ble_eq_true rfl, Nat.le_of_ble_eq_true rfl⟩) rfl rfl rfl 0 rfl rfl hl.1 rfl rfl (Nat.le_of_ble_eq_true rfl) ⟨Nat.zero_le _, Nat.zero_le _⟩ dX4_of_30 (fun H locs hf => ?_)
      have hf : Fr G (va_A (wM G ad μ0) s.heap.size) s (wM G ad q9.2) H locs := hf
      have hE := Option.some.inj hF
      have hV := congrArg (fun z : Int32 × K2 => z.1) hE
      have hW := congrArg (fun z : Int32 × K2 => wM G ad z.2) hE
      exact g_iret S hr hlocks hf hV hW dX4_of_33
    · replace hF := (if_neg c8).symm.trans hF
      refine lv_aload_n hx hb dX4_of_18 rfl (lv_at hl 0 rfl) ?_
      refine lv_iload_n hx hb dX4_of_19 rfl (lv_at hl 1 rfl) ?_
      refine lv_iload_n hx hb dX4_of_20 rfl (lv_at hl 2 rfl) ?_
      obtain ⟨q11, h12, hF⟩ := Option.bind_eq_some_iff.mp hF
      refine g_cv0 (o := some (.int q11)) (As := [.int a1, .int a2]) (rest := []) (st1 := [.int q11]) (ci := 4) S hf (c_X4_told l G ad μ0 a1 a2 q11 h12) (cwV 2 hts gX4_of_X4_told rfl rfl rfl (by decide +kernel) ⟨Nat.le_of_ble_eq_true rfl, Nat.le_of_ble_eq_true rfl⟩) rfl rfl rfl 0 rfl rfl hl.1 rfl rfl (Nat.le_of_ble_eq_true rfl) ⟨Nat.zero_le _, Nat.zero_le _⟩ dX4_of_21 (fun H locs hf => ?_)
      have hf : Fr G (va_A (wM G ad μ0) s.heap.size) s (wM G ad μ0) H locs := hf
      refine lv_goto (tgt := 33) hx hb dX4_of_24 (by decide) ?_
      have hE := Option.some.inj hF
      have hV := congrArg (fun z : Int32 × K2 => z.1) hE
      have hW := congrArg (fun z : Int32 × K2 => wM G ad z.2) hE
      exact g_iret S hr hlocks hf hV hW dX4_of_33
def f_X4_isField (a0 : Int32) (a1 : Int32) (a2 : Int32) : Option (Int32) := if a1 = 0 then (Option.bind (f_X4_isKind a2) (fun q2 => if q2 = 0 ∨ q2 = 1 then some (q2) else none)) else (if a1 = 1 then (Option.bind (f_X4_isLoft a2) (fun q6 => if q6 = 0 ∨ q6 = 1 then some (q6) else none)) else (if a1 = 2 then (Option.bind (f_X4_within a2 (-1) (a0 - 1)) (fun q10 => if q10 = 0 ∨ q10 = 1 then some (q10) else none)) else (if a1 = 3 then (Option.bind (f_X4_within a2 0 9999) (fun q14 => if q14 = 0 ∨ q14 = 1 then some (q14) else none)) else (if a1 = 4 then (Option.bind (f_X4_within a2 0 1) (fun q18 => if q18 = 0 ∨ q18 = 1 then some (q18) else none)) else (if a1 = 5 then (Option.bind (f_X4_within a2 0 1) (fun q22 => if q22 = 0 ∨ q22 = 1 then some (q22) else none)) else (if a1 = 6 then (Option.bind (f_X4_within a2 0 1) (fun q26 => if q26 = 0 ∨ q26 = 1 then some (q26) else none)) else (if a1 = 7 then (Option.bind (f_X4_within a2 0 9999) (fun q30 => if q30 = 0 ∨ q30 = 1 then some (q30) else none)) else (if a1 = 8 then (Option.bind (f_X4_within a2 0 9999) (fun q34 => if q34 = 0 ∨ q34 = 1 then some (q34) else none)) else (some (0))))))))))
set_option maxHeartbeats 4000000 in
set_option maxRecDepth 100000 in
theorem c_X4_isField (l : Launch) (G : GT)  (a0 : Int32) (a1 : Int32) (a2 : Int32) (q : Int32) (hF : f_X4_isField a0 a1 a2 = some q) : Ct l G yX4_isField wsX4_isField ({ frames := 2, cells := 0, slots := 0, locals := 42 } : Room) ([.int a0, .int a1, .int a2] : List Value) (([] : va_W)) (some (.int q)) (([] : va_W)) := by
  refine Ct.of cX4_isField 3 (some .boolean) (by decide) rfl (Nat.le_of_ble_eq_true rfl) ?_
  intro p e s m below meth c ls S hr hlocks hf hl
  have S : CallFix p m c cX4_isField 3 s ([.int a0, .int a1, .int a2] : List Value).toArray wsX4_isField RX4 := S
  obtain ⟨hx, hb, hml, hown, hts⟩ := id S
  have hl : lv_has ls 3 [(0, .int a0), (1, .int a1), (2, .int a2)] := hl
  unfold f_X4_isField at hF
  refine lv_iload_n hx hb dX4_isField_0 rfl (lv_at hl 1 rfl) ?_
  by_cases c1 : a1 = 0
  · replace hF := (if_pos c1).symm.trans hF
    refine lv_tableIn (tgt := 52) hx hb dX4_isField_1 (by rw [c1]; decide) (by rw [c1]; decide) (by rw [c1]; rfl) (by decide) ?_
    refine lv_iload_n hx hb dX4_isField_52 rfl (lv_at hl 2 rfl) ?_
    obtain ⟨q2, h3, hF⟩ := Option.bind_eq_some_iff.mp hF
    refine g_cs0 (o := some (.int q2)) (As := [.int a2]) (rest := []) (st1 := [.int q2]) S hf (c_X4_isKind l G  a2 q2 h3) (va_cwS 1 hts gX4_isField_X4_isKind rfl rfl rfl (by decide +kernel) ⟨Nat.le_of_ble_eq_true rfl, Nat.le_of_ble_eq_true rfl⟩) rfl hl.1 rfl rfl (Nat.le_of_ble_eq_true rfl) ⟨Nat.zero_le _, Nat.zero_le _⟩ dX4_isField_53 (fun H locs hf => ?_)
    obtain ⟨g4, hF⟩ := gd_some hF
    have hE := Option.some.inj hF
    have hV := congrArg (fun z : Int32 => z) hE
    exact g_zret S hr hlocks hf (nz g4) hV rfl dX4_isField_56
  replace hF := (if_neg c1).symm.trans hF
  by_cases c5 : a1 = 1
  · replace hF := (if_pos c5).symm.trans hF
    refine lv_tableIn (tgt := 57) hx hb dX4_isField_1 (by rw [c5]; decide) (by rw [c5]; decide) (by rw [c5]; rfl) (by decide) ?_
    refine lv_iload_n hx hb dX4_isField_57 rfl (lv_at hl 2 rfl) ?_
    obtain ⟨q6, h7, hF⟩ := Option.bind_eq_some_iff.mp hF
    refine g_cs0 (o := some (.int q6)) (As := [.int a2]) (rest := []) (st1 := [.int q6]) S hf (c_X4_isLoft l G  a2 q6 h7) (va_cwS 1 hts gX4_isField_X4_isLoft rfl rfl rfl (by decide +kernel) ⟨Nat.le_of_ble_eq_true rfl, Nat.le_of_ble_eq_true rfl⟩) rfl hl.1 rfl rfl (Nat.le_of_ble_eq_true rfl) ⟨Nat.zero_le _, Nat.zero_le _⟩ dX4_isField_58 (fun H locs hf => ?_)
    obtain ⟨g8, hF⟩ := gd_some hF
    have hE := Option.some.inj hF
    have hV := congrArg (fun z : Int32 => z) hE
    exact g_zret S hr hlocks hf (nz g8) hV rfl dX4_isField_61
  replace hF := (if_neg c5).symm.trans hF
  by_cases c9 : a1 = 2
  · replace hF := (if_pos c9).symm.trans hF
    refine lv_tableIn (tgt := 62) hx hb dX4_isField_1 (by rw [c9]; decide) (by rw [c9]; decide) (by rw [c9]; rfl) (by decide) ?_
    refine lv_iload_n hx hb dX4_isField_62 rfl (lv_at hl 2 rfl) ?_
    refine lv_iconst (v := -1) hx hb dX4_isField_63 (by decide) ?_
    refine lv_iload_n hx hb dX4_isField_64 rfl (lv_at hl 0 rfl) ?_
    refine lv_iconst (v := 1) hx hb dX4_isField_65 (by decide) ?_
    refine lv_isub hx hb dX4_isField_66 ?_
    obtain ⟨q10, h11, hF⟩ := Option.bind_eq_some_iff.mp hF
    refine g_cs0 (o := some (.int q10)) (As := [.int a2, .int (-1), .int (a0 - 1)]) (rest := []) (st1 := [.int q10]) S hf (c_X4_within l G  a2 (-1) (a0 - 1) q10 h11) (va_cwS 3 hts gX4_isField_X4_within rfl rfl rfl (by decide +kernel) ⟨Nat.le_of_ble_eq_true rfl, Nat.le_of_ble_eq_true rfl⟩) rfl hl.1 rfl rfl (Nat.le_of_ble_eq_true rfl) ⟨Nat.zero_le _, Nat.zero_le _⟩ dX4_isField_67 (fun H locs hf => ?_)
    obtain ⟨g12, hF⟩ := gd_some hF
    have hE := Option.some.inj hF
    have hV := congrArg (fun z : Int32 => z) hE
    exact g_zret S hr hlocks hf (nz g12) hV rfl dX4_isField_70
  replace hF := (if_neg c9).symm.trans hF
  by_cases c13 : a1 = 3
  · replace hF := (if_pos c13).symm.trans hF
    refine lv_tableIn (tgt := 71) hx hb dX4_isField_1 (by rw [c13]; decide) (by rw [c13]; decide) (by rw [c13]; rfl) (by decide) ?_
    refine lv_iload_n hx hb dX4_isField_71 rfl (lv_at hl 2 rfl) ?_
    refine lv_iconst (v := 0) hx hb dX4_isField_72 (by decide) ?_
    refine lv_sipush (v := 9999) hx hb dX4_isField_73 (by decide) ?_
    obtain ⟨q14, h15, hF⟩ := Option.bind_eq_some_iff.mp hF
    refine g_cs0 (o := some (.int q14)) (As := [.int a2, .int 0, .int 9999]) (rest := []) (st1 := [.int q14]) S hf (c_X4_within l G  a2 0 9999 q14 h15) (va_cwS 3 hts gX4_isField_X4_within rfl rfl rfl (by decide +kernel) ⟨Nat.le_of_ble_eq_true rfl, Nat.le_of_ble_eq_true rfl⟩) rfl hl.1 rfl rfl (Nat.le_of_ble_eq_true rfl) ⟨Nat.zero_le _, Nat.zero_le _⟩ dX4_isField_76 (fun H locs hf => ?_)
    obtain ⟨g16, hF⟩ := gd_some hF
    have hE := Option.some.inj hF
    have hV := congrArg (fun z : Int32 => z) hE
    exact g_zret S hr hlocks hf (nz g16) hV rfl dX4_isField_79
  replace hF := (if_neg c13).symm.trans hF
  by_cases c17 : a1 = 4
  · replace hF := (if_pos c17).symm.trans hF
    refine lv_tableIn (tgt := 80) hx hb dX4_isField_1 (by rw [c17]; decide) (by rw [c17]; decide) (by rw [c17]; rfl) (by decide) ?_
    refine lv_iload_n hx hb dX4_isField_80 rfl (lv_at hl 2 rfl) ?_
    refine lv_iconst (v := 0) hx hb dX4_isField_81 (by decide) ?_
    refine lv_iconst (v := 1) hx hb dX4_isField_82 (by decide) ?_
    obtain ⟨q18, h19, hF⟩ := Option.bind_eq_some_iff.mp hF
    refine g_cs0 (o := some (.int q18)) (As := [.int a2, .int 0, .int 1]) (rest := []) (st1 := [.int q18]) S hf (c_X4_within l G  a2 0 1 q18 h19) (va_cwS 3 hts gX4_isField_X4_within rfl rfl rfl (by decide +kernel) ⟨Nat.le_of_ble_eq_true rfl, Nat.le_of_ble_eq_true rfl⟩) rfl hl.1 rfl rfl (Nat.le_of_ble_eq_true rfl) ⟨Nat.zero_le _, Nat.zero_le _⟩ dX4_isField_83 (fun H locs hf => ?_)
    obtain ⟨g20, hF⟩ := gd_some hF
    have hE := Option.some.inj hF
    have hV := congrArg (fun z : Int32 => z) hE
    exact g_zret S hr hlocks hf (nz g20) hV rfl dX4_isField_86
  replace hF := (if_neg c17).symm.trans hF
  by_cases c21 : a1 = 5
  · replace hF := (if_pos c21).symm.trans hF
    refine lv_tableIn (tgt := 80) hx hb dX4_isField_1 (by rw [c21]; decide) (by rw [c21]; decide) (by rw [c21]; rfl) (by decide) ?_
    refine lv_iload_n hx hb dX4_isField_80 rfl (lv_at hl 2 rfl) ?_
    refine lv_iconst (v := 0) hx hb dX4_isField_81 (by decide) ?_
    refine lv_iconst (v := 1) hx hb dX4_isField_82 (by decide) ?_
    obtain ⟨q22, h23, hF⟩ := Option.bind_eq_some_iff.mp hF
    refine g_cs0 (o := some (.int q22)) (As := [.int a2, .int 0, .int 1]) (rest := []) (st1 := [.int q22]) S hf (c_X4_within l G  a2 0 1 q22 h23) (va_cwS 3 hts gX4_isField_X4_within rfl rfl rfl (by decide +kernel) ⟨Nat.le_of_ble_eq_true rfl, Nat.le_of_ble_eq_true rfl⟩) rfl hl.1 rfl rfl (Nat.le_of_ble_eq_true rfl) ⟨Nat.zero_le _, Nat.zero_le _⟩ dX4_isField_83 (fun H locs hf => ?_)
    obtain ⟨g24, hF⟩ := gd_some hF
    have hE := Option.some.inj hF
    have hV := congrArg (fun z : Int32 => z) hE
    exact g_zret S hr hlocks hf (nz g24) hV rfl dX4_isField_86
  replace hF := (if_neg c21).symm.trans hF
  by_cases c25 : a1 = 6
  · replace hF := (if_pos c25).symm.trans hF
    refine lv_tableIn (tgt := 80) hx hb dX4_isField_1 (by rw [c25]; decide) (by rw [c25]; decide) (by rw [c25]; rfl) (by decide) ?_
    refine lv_iload_n hx hb dX4_isField_80 rfl (lv_at hl 2 rfl) ?_
    refine lv_iconst (v := 0) hx hb dX4_isField_81 (by decide) ?_
    refine lv_iconst (v := 1) hx hb dX4_isField_82 (by decide) ?_
    obtain ⟨q26, h27, hF⟩ := Option.bind_eq_some_iff.mp hF
    refine g_cs0 (o := some (.int q26)) (As := [.int a2, .int 0, .int 1]) (rest := []) (st1 := [.int q26]) S hf (c_X4_within l G  a2 0 1 q26 h27) (va_cwS 3 hts gX4_isField_X4_within rfl rfl rfl (by decide +kernel) ⟨Nat.le_of_ble_eq_true rfl, Nat.le_of_ble_eq_true rfl⟩) rfl hl.1 rfl rfl (Nat.le_of_ble_eq_true rfl) ⟨Nat.zero_le _, Nat.zero_le _⟩ dX4_isField_83 (fun H locs hf => ?_)
    obtain ⟨g28, hF⟩ := gd_some hF
    have hE := Option.some.inj hF
    have hV := congrArg (fun z : Int32 => z) hE
    exact g_zret S hr hlocks hf (nz g28) hV rfl dX4_isField_86
  replace hF := (if_neg c25).symm.trans hF
  by_cases c29 : a1 = 7
  · replace hF := (if_pos c29).symm.trans hF
    refine lv_tableIn (tgt := 71) hx hb dX4_isField_1 (by rw [c29]; decide) (by rw [c29]; decide) (by rw [c29]; rfl) (by decide) ?_
    refine lv_iload_n hx hb dX4_isField_71 rfl (lv_at hl 2 rfl) ?_
    refine lv_iconst (v := 0) hx hb dX4_isField_72 (by decide) ?_
    refine lv_sipush (v := 9999) hx hb dX4_isField_73 (by decide) ?_
    obtain ⟨q30, h31, hF⟩ := Option.bind_eq_some_iff.mp hF
    refine g_cs0 (o := some (.int q30)) (As := [.int a2, .int 0, .int 9999]) (rest := []) (st1 := [.int q30]) S hf (c_X4_within l G  a2 0 9999 q30 h31) (va_cwS 3 hts gX4_isField_X4_within rfl rfl rfl (by decide +kernel) ⟨Nat.le_of_ble_eq_true rfl, Nat.le_of_ble_eq_true rfl⟩) rfl hl.1 rfl rfl (Nat.le_of_ble_eq_true rfl) ⟨Nat.zero_le _, Nat.zero_le _⟩ dX4_isField_76 (fun H locs hf => ?_)
    obtain ⟨g32, hF⟩ := gd_some hF
    have hE := Option.some.inj hF
    have hV := congrArg (fun z : Int32 => z) hE
    exact g_zret S hr hlocks hf (nz g32) hV rfl dX4_isField_79
  replace hF := (if_neg c29).symm.trans hF
  by_cases c33 : a1 = 8
  · replace hF := (if_pos c33).symm.trans hF
    refine lv_tableIn (tgt := 71) hx hb dX4_isField_1 (by rw [c33]; decide) (by rw [c33]; decide) (by rw [c33]; rfl) (by decide) ?_
    refine lv_iload_n hx hb dX4_isField_71 rfl (lv_at hl 2 rfl) ?_
    refine lv_iconst (v := 0) hx hb dX4_isField_72 (by decide) ?_
    refine lv_sipush (v := 9999) hx hb dX4_isField_73 (by decide) ?_
    obtain ⟨q34, h35, hF⟩ := Option.bind_eq_some_iff.mp hF
    refine g_cs0 (o := some (.int q34)) (As := [.int a2, .int 0, .int 9999]) (rest := []) (st1 := [.int q34]) S hf (c_X4_within l G  a2 0 9999 q34 h35) (va_cwS 3 hts gX4_isField_X4_within rfl rfl rfl (by decide +kernel) ⟨Nat.le_of_ble_eq_true rfl, Nat.le_of_ble_eq_true rfl⟩) rfl hl.1 rfl rfl (Nat.le_of_ble_eq_true rfl) ⟨Nat.zero_le _, Nat.zero_le _⟩ dX4_isField_76 (fun H locs hf => ?_)
    obtain ⟨g36, hF⟩ := gd_some hF
    have hE := Option.some.inj hF
    have hV := congrArg (fun z : Int32 => z) hE
    exact g_zret S hr hlocks hf (nz g36) hV rfl dX4_isField_79
  replace hF := (if_neg c33).symm.trans hF
  refine lv_tableOut (tgt := 87) hx hb dX4_isField_1 (by have t0 := lv_neT (a := 0) c1 (by decide); have t1 := lv_neT (a := 1) c5 (by decide); have t2 := lv_neT (a := 2) c9 (by decide); have t3 := lv_neT (a := 3) c13 (by decide); have t4 := lv_neT (a := 4) c17 (by decide); have t5 := lv_neT (a := 5) c21 (by decide); have t6 := lv_neT (a := 6) c25 (by decide); have t7 := lv_neT (a := 7) c29 (by decide); have t8 := lv_neT (a := 8) c33 (by decide); omega) (by decide) ?_
  refine lv_iconst (v := 0) hx hb dX4_isField_87 (by decide) ?_
  have hE := Option.some.inj hF
  have hV := congrArg (fun z : Int32 => z) hE
  exact g_zret S hr hlocks hf (by decide) hV rfl dX4_isField_88
def f_X4_change (μ0 : K2) (a1 : Int32) (a2 : Int32) (a3 : Int32) : Option (Int32 × K2) := Option.bind (f_X4_isBird μ0 a1) (fun q1 => if q1 = 0 then (Option.bind (f_X4_finding μ0 (-1000001)) (fun q4 => some (q4.1, q4.2))) else (Option.bind (f_X4_isField a1 a2 a3) (fun q6 => if q6 = 0 then (Option.bind (f_X4_finding μ0 (-1000001)) (fun q9 => some (q9.1, q9.2))) else (Option.bind (f_X4_birdAt a1 a2) (fun q11 => Option.bind (f_X4_become μ0 q11 a3) (fun q13 => some (q13.1, q13.2)))))))
set_option maxHeartbeats 4000000 in
set_option maxRecDepth 100000 in
theorem c_X4_change (l : Launch) (G : GT) (ad : Nat → Nat) (μ0 : K2) (a1 : Int32) (a2 : Int32) (a3 : Int32) (q : Int32 × K2) (hF : f_X4_change μ0 a1 a2 a3 = some q) : Ct l G yX4_change wsX4_change ({ frames := 3, cells := 0, slots := 0, locals := 64 } : Room) ([.ref (ad 0), .int a1, .int a2, .int a3] : List Value) (wM G ad μ0) (some (.int q.1)) (wM G ad q.2) := by
  have kc63 : Cond.constant RX4 63 (-1000001) ∈ wsX4_change := by decide +kernel
  refine Ct.of cX4_change 4 (some .int) (by decide) rfl (Nat.le_of_ble_eq_true rfl) ?_
  intro p e s m below meth c ls S hr hlocks hf hl
  have S : CallFix p m c cX4_change 4 s ([.ref (ad 0), .int a1, .int a2, .int a3] : List Value).toArray wsX4_change RX4 := S
  obtain ⟨hx, hb, hml, hown, hts⟩ := id S
  have hl : lv_has ls 4 [(0, .ref (ad 0)), (1, .int a1), (2, .int a2), (3, .int a3)] := hl
  unfold f_X4_change at hF
  refine lv_aload_n hx hb dX4_change_0 rfl (lv_at hl 0 rfl) ?_
  refine lv_iload_n hx hb dX4_change_1 rfl (lv_at hl 1 rfl) ?_
  obtain ⟨q1, h2, hF⟩ := Option.bind_eq_some_iff.mp hF
  refine g_cv0 (o := some (.int q1)) (As := [.int a1]) (rest := []) (st1 := [.int q1]) (ci := 4) S hf (c_X4_isBird l G ad μ0 a1 q1 h2) (cwV 1 hts gX4_change_X4_isBird rfl rfl rfl (by decide +kernel) ⟨Nat.le_of_ble_eq_true rfl, Nat.le_of_ble_eq_true rfl⟩) rfl rfl rfl 0 rfl rfl hl.1 rfl rfl (Nat.le_of_ble_eq_true rfl) ⟨Nat.zero_le _, Nat.zero_le _⟩ dX4_change_2 (fun H locs hf => ?_)
  have hf : Fr G (va_A (wM G ad μ0) s.heap.size) s (wM G ad μ0) H locs := hf
  refine lv_if_eq (tgt := 30) hx hb dX4_change_5 (by decide) (fun c3 => ?_) (fun c3 => ?_)
  · replace hF := (if_pos c3).symm.trans hF
    refine lv_aload_n hx hb dX4_change_30 rfl (lv_at hl 0 rfl) ?_
    refine lv_ldc (v := -1000001) hx hb hown (hts _ kc63) dX4_change_31 ?_
    obtain ⟨q4, h5, hF⟩ := Option.bind_eq_some_iff.mp hF
    refine g_cv0 (o := some (.int q4.1)) (As := [.int (-1000001)]) (rest := []) (st1 := [.int q4.1]) (ci := 4) S hf (c_X4_finding l G ad μ0 (-1000001) q4 h5) (cwV 1 hts gX4_change_X4_finding rfl rfl rfl (by decide +kernel) ⟨Nat.le_of_ble_eq_true rfl, Nat.le_of_ble_eq_true rfl⟩) rfl rfl rfl 0 rfl rfl hl.1 rfl rfl (Nat.le_of_ble_eq_true rfl) ⟨Nat.zero_le _, Nat.zero_le _⟩ dX4_change_33 (fun H locs hf => ?_)
    have hf : Fr G (va_A (wM G ad μ0) s.heap.size) s (wM G ad q4.2) H locs := hf
    have hE := Option.some.inj hF
    have hV := congrArg (fun z : Int32 × K2 => z.1) hE
    have hW := congrArg (fun z : Int32 × K2 => wM G ad z.2) hE
    exact g_iret S hr hlocks hf hV hW dX4_change_36
  · replace hF := (if_neg c3).symm.trans hF
    refine lv_iload_n hx hb dX4_change_8 rfl (lv_at hl 1 rfl) ?_
    refine lv_iload_n hx hb dX4_change_9 rfl (lv_at hl 2 rfl) ?_
    refine lv_iload_n hx hb dX4_change_10 rfl (lv_at hl 3 rfl) ?_
    obtain ⟨q6, h7, hF⟩ := Option.bind_eq_some_iff.mp hF
    refine g_cs0 (o := some (.int q6)) (As := [.int a1, .int a2, .int a3]) (rest := []) (st1 := [.int q6]) S hf (c_X4_isField l G  a1 a2 a3 q6 h7) (va_cwS 3 hts gX4_change_X4_isField rfl rfl rfl (by decide +kernel) ⟨Nat.le_of_ble_eq_true rfl, Nat.le_of_ble_eq_true rfl⟩) rfl hl.1 rfl rfl (Nat.le_of_ble_eq_true rfl) ⟨Nat.zero_le _, Nat.zero_le _⟩ dX4_change_11 (fun H locs hf => ?_)
    refine lv_if_eq (tgt := 30) hx hb dX4_change_14 (by decide) (fun c8 => ?_) (fun c8 => ?_)
    · replace hF := (if_pos c8).symm.trans hF
      refine lv_aload_n hx hb dX4_change_30 rfl (lv_at hl 0 rfl) ?_
      refine lv_ldc (v := -1000001) hx hb hown (hts _ kc63) dX4_change_31 ?_
      obtain ⟨q9, h10, hF⟩ := Option.bind_eq_some_iff.mp hF
      refine g_cv0 (o := some (.int q9.1)) (As := [.int (-1000001)]) (rest := []) (st1 := [.int q9.1]) (ci := 4) S hf (c_X4_finding l G ad μ0 (-1000001) q9 h10) (cwV 1 hts gX4_change_X4_finding rfl rfl rfl (by decide +kernel) ⟨Nat.le_of_ble_eq_true rfl, Nat.le_of_ble_eq_true rfl⟩) rfl rfl rfl 0 rfl rfl hl.1 rfl rfl (Nat.le_of_ble_eq_true rfl) ⟨Nat.zero_le _, Nat.zero_le _⟩ dX4_change_33 (fun H locs hf => ?_)
      have hf : Fr G (va_A (wM G ad μ0) s.heap.size) s (wM G ad q9.2) H locs := hf
      have hE := Option.some.inj hF
      have hV := congrArg (fun z : Int32 × K2 => z.1) hE
      have hW := congrArg (fun z : Int32 × K2 => wM G ad z.2) hE
      exact g_iret S hr hlocks hf hV hW dX4_change_36
    · replace hF := (if_neg c8).symm.trans hF
      refine lv_aload_n hx hb dX4_change_17 rfl (lv_at hl 0 rfl) ?_
      refine lv_iload_n hx hb dX4_change_18 rfl (lv_at hl 1 rfl) ?_
      refine lv_iload_n hx hb dX4_change_19 rfl (lv_at hl 2 rfl) ?_
      obtain ⟨q11, h12, hF⟩ := Option.bind_eq_some_iff.mp hF
      refine g_cs0 (o := some (.int q11)) (As := [.int a1, .int a2]) (rest := [.ref (ad 0)]) (st1 := [.int q11, .ref (ad 0)]) S hf (c_X4_birdAt l G  a1 a2 q11 h12) (va_cwS 2 hts gX4_change_X4_birdAt rfl rfl rfl (by decide +kernel) ⟨Nat.le_of_ble_eq_true rfl, Nat.le_of_ble_eq_true rfl⟩) rfl hl.1 rfl rfl (Nat.le_of_ble_eq_true rfl) ⟨Nat.zero_le _, Nat.zero_le _⟩ dX4_change_20 (fun H locs hf => ?_)
      refine lv_iload_n hx hb dX4_change_23 rfl (lv_at hl 3 rfl) ?_
      obtain ⟨q13, h14, hF⟩ := Option.bind_eq_some_iff.mp hF
      refine g_cv0 (o := some (.int q13.1)) (As := [.int q11, .int a3]) (rest := []) (st1 := [.int q13.1]) (ci := 4) S hf (c_X4_become l G ad μ0 q11 a3 q13 h14) (cwV 2 hts gX4_change_X4_become rfl rfl rfl (by decide +kernel) ⟨Nat.le_of_ble_eq_true rfl, Nat.le_of_ble_eq_true rfl⟩) rfl rfl rfl 0 rfl rfl hl.1 rfl rfl (Nat.le_of_ble_eq_true rfl) ⟨Nat.zero_le _, Nat.zero_le _⟩ dX4_change_24 (fun H locs hf => ?_)
      have hf : Fr G (va_A (wM G ad μ0) s.heap.size) s (wM G ad q13.2) H locs := hf
      refine lv_goto (tgt := 36) hx hb dX4_change_27 (by decide) ?_
      have hE := Option.some.inj hF
      have hV := congrArg (fun z : Int32 × K2 => z.1) hE
      have hW := congrArg (fun z : Int32 × K2 => wM G ad z.2) hE
      exact g_iret S hr hlocks hf hV hW dX4_change_36
def f_X4_loft (μ0 : K2) (a1 : Int32) : Option (Int32 × K2) := Option.bind (f_X4_isLoft a1) (fun q1 => if q1 = 0 then (Option.bind (f_X4_finding μ0 (-1000001)) (fun q4 => some (q4.1, q4.2))) else (Option.bind (f_X4_inLoft μ0 a1) (fun q6 => some (q6, μ0))))
set_option maxHeartbeats 4000000 in
set_option maxRecDepth 100000 in
theorem c_X4_loft (l : Launch) (G : GT) (ad : Nat → Nat) (μ0 : K2) (a1 : Int32) (q : Int32 × K2) (hF : f_X4_loft μ0 a1 = some q) : Ct l G yX4_loft wsX4_loft ({ frames := 3, cells := 0, slots := 0, locals := 66 } : Room) ([.ref (ad 0), .int a1] : List Value) (wM G ad μ0) (some (.int q.1)) (wM G ad q.2) := by
  have kc63 : Cond.constant RX4 63 (-1000001) ∈ wsX4_loft := by decide +kernel
  refine Ct.of cX4_loft 2 (some .int) (by decide) rfl (Nat.le_of_ble_eq_true rfl) ?_
  intro p e s m below meth c ls S hr hlocks hf hl
  have S : CallFix p m c cX4_loft 2 s ([.ref (ad 0), .int a1] : List Value).toArray wsX4_loft RX4 := S
  obtain ⟨hx, hb, hml, hown, hts⟩ := id S
  have hl : lv_has ls 2 [(0, .ref (ad 0)), (1, .int a1)] := hl
  unfold f_X4_loft at hF
  refine lv_iload_n hx hb dX4_loft_0 rfl (lv_at hl 1 rfl) ?_
  obtain ⟨q1, h2, hF⟩ := Option.bind_eq_some_iff.mp hF
  refine g_cs0 (o := some (.int q1)) (As := [.int a1]) (rest := []) (st1 := [.int q1]) S hf (c_X4_isLoft l G  a1 q1 h2) (va_cwS 1 hts gX4_loft_X4_isLoft rfl rfl rfl (by decide +kernel) ⟨Nat.le_of_ble_eq_true rfl, Nat.le_of_ble_eq_true rfl⟩) rfl hl.1 rfl rfl (Nat.le_of_ble_eq_true rfl) ⟨Nat.zero_le _, Nat.zero_le _⟩ dX4_loft_1 (fun H locs hf => ?_)
  refine lv_if_eq (tgt := 15) hx hb dX4_loft_4 (by decide) (fun c3 => ?_) (fun c3 => ?_)
  · replace hF := (if_pos c3).symm.trans hF
    refine lv_aload_n hx hb dX4_loft_15 rfl (lv_at hl 0 rfl) ?_
    refine lv_ldc (v := -1000001) hx hb hown (hts _ kc63) dX4_loft_16 ?_
    obtain ⟨q4, h5, hF⟩ := Option.bind_eq_some_iff.mp hF
    refine g_cv0 (o := some (.int q4.1)) (As := [.int (-1000001)]) (rest := []) (st1 := [.int q4.1]) (ci := 4) S hf (c_X4_finding l G ad μ0 (-1000001) q4 h5) (cwV 1 hts gX4_loft_X4_finding rfl rfl rfl (by decide +kernel) ⟨Nat.le_of_ble_eq_true rfl, Nat.le_of_ble_eq_true rfl⟩) rfl rfl rfl 0 rfl rfl hl.1 rfl rfl (Nat.le_of_ble_eq_true rfl) ⟨Nat.zero_le _, Nat.zero_le _⟩ dX4_loft_18 (fun H locs hf => ?_)
    have hf : Fr G (va_A (wM G ad μ0) s.heap.size) s (wM G ad q4.2) H locs := hf
    have hE := Option.some.inj hF
    have hV := congrArg (fun z : Int32 × K2 => z.1) hE
    have hW := congrArg (fun z : Int32 × K2 => wM G ad z.2) hE
    exact g_iret S hr hlocks hf hV hW dX4_loft_21
  · replace hF := (if_neg c3).symm.trans hF
    refine lv_aload_n hx hb dX4_loft_7 rfl (lv_at hl 0 rfl) ?_
    refine lv_iload_n hx hb dX4_loft_8 rfl (lv_at hl 1 rfl) ?_
    obtain ⟨q6, h7, hF⟩ := Option.bind_eq_some_iff.mp hF
    refine g_cv0 (o := some (.int q6)) (As := [.int a1]) (rest := []) (st1 := [.int q6]) (ci := 4) S hf (c_X4_inLoft l G ad μ0 a1 q6 h7) (cwV 1 hts gX4_loft_X4_inLoft rfl rfl rfl (by decide +kernel) ⟨Nat.le_of_ble_eq_true rfl, Nat.le_of_ble_eq_true rfl⟩) rfl rfl rfl 0 rfl rfl hl.1 rfl rfl (Nat.le_of_ble_eq_true rfl) ⟨Nat.zero_le _, Nat.zero_le _⟩ dX4_loft_9 (fun H locs hf => ?_)
    have hf : Fr G (va_A (wM G ad μ0) s.heap.size) s (wM G ad μ0) H locs := hf
    refine lv_goto (tgt := 21) hx hb dX4_loft_12 (by decide) ?_
    have hE := Option.some.inj hF
    have hV := congrArg (fun z : Int32 × K2 => z.1) hE
    have hW := congrArg (fun z : Int32 × K2 => wM G ad z.2) hE
    exact g_iret S hr hlocks hf hV hW dX4_loft_21
def f_X4_issue_L23 : Nat → K2 → Int32 → Int32 → Option (Int32 × K2)
  | 0, _, _, _ => none
  | n + 1, μ, x2, x3 => if ((μ 0) 1) ≤ x3 then (some (x2, μ)) else (Option.bind (f_X4_birdIs μ x3 2) (fun q5 => if q5 < 0 then (f_X4_issue_L23 n μ (x2 ||| 0) (x3 + 1)) else (if ((x2 >>> (q5 &&& 31)) &&& 1) = 1 then (f_X4_issue_L23 n μ (x2 ||| (1 <<< (x3 &&& 31))) (x3 + 1)) else (f_X4_issue_L23 n μ (x2 ||| 0) (x3 + 1)))))
def f_X4_issue (μ0 : K2) (a1 : Int32) : Option (Int32 × K2) := Option.bind (f_X4_isBird μ0 a1) (fun q1 => if q1 = 0 then (Option.bind (f_X4_finding μ0 (-1000001)) (fun q9 => some (q9.1, q9.2))) else (f_X4_issue_L23 1000 μ0 (1 <<< (a1 &&& 31)) (a1 + 1)))
set_option maxHeartbeats 4000000 in
set_option maxRecDepth 100000 in
theorem c_X4_issue (l : Launch) (G : GT) (ad : Nat → Nat) (μ0 : K2) (a1 : Int32) (q : Int32 × K2) (hF : f_X4_issue μ0 a1 = some q) : Ct l G yX4_issue wsX4_issue ({ frames := 2, cells := 0, slots := 0, locals := 43 } : Room) ([.ref (ad 0), .int a1] : List Value) (wM G ad μ0) (some (.int q.1)) (wM G ad q.2) := by
  have k9 : Cond.fieldLink RX4 9 "PigeonRollsModel" "now" "[I" ∈ wsX4_issue := by decide +kernel
  have kc63 : Cond.constant RX4 63 (-1000001) ∈ wsX4_issue := by decide +kernel
  have hinX4 : ∀ w ∈ u_ws RX4 TX4 21, w ∈ wsX4_issue := by decide +kernel
  refine Ct.of cX4_issue 5 (some .int) (by decide) rfl (Nat.le_of_ble_eq_true rfl) ?_
  intro p e s m below meth c ls S hr hlocks hf hl
  have S : CallFix p m c cX4_issue 5 s ([.ref (ad 0), .int a1] : List Value).toArray wsX4_issue RX4 := S
  obtain ⟨hx, hb, hml, hown, hts⟩ := id S
  have hl : lv_has ls 5 [(0, .ref (ad 0)), (1, .int a1)] := hl
  have hL23 : ∀ (n : Nat) (μ : K2) (x2 : Int32) (x3 : Int32)  (H : Heap) (locs : List Loc) (ls : Array Slot), f_X4_issue_L23 n μ x2 x3 = some q → Fr G (va_A (wM G ad μ0) s.heap.size) s (wM G ad μ) H locs → lv_has ls 5 [(0, .ref (ad 0)), (2, .int x2), (3, .int x3)] → W p l e ({ frames := 2, cells := 0, slots := 0, locals := 43 } : Room) s m ([.ref (ad 0), .int a1] : List Value).toArray below meth c H locs 0 0 (MQ below (CPost G (wM G ad μ0) s.heap.size (some (.int q.1)) (wM G ad q.2)) ([.ref (ad 0), .int a1] : List Value).toArray s 0 0 (va_A (wM G ad μ0) s.heap.size)) (F0 m 23 ls []) := by
    intro n
    induction n with
    | zero =>
      intro μ x2 x3 H locs ls hF hf hl
      exact absurd hF (by simp [f_X4_issue_L23])
    | succ n ih23 =>
      intro μ x2 x3 H locs ls hF hf hl
      rw [f_X4_issue_L23] at hF
      refine lv_iload_n hx hb dX4_issue_23 rfl (lv_at hl 2 rfl) ?_
      refine lv_aload_n hx hb dX4_issue_24 rfl (lv_at hl 0 rfl) ?_
      refine g_get (ci := 4) (C := RX4) (T := TX4) (N := 21) (v := .ref (ad 1)) S hf hinX4 0 rfl rfl 0 (by decide) k9 rfl rfl dX4_issue_25 ?_
      refine lv_iconst (v := 1) hx hb dX4_issue_28 (by decide) ?_
      refine g_ald (v := (μ 0) 1) S hf 2 rfl (by decide) rfl dX4_issue_29 ?_
      refine lv_icmp_ge (tgt := 72) hx hb dX4_issue_30 (by decide) (fun c4 => ?_) (fun c4 => ?_)
      · replace hF := (if_pos c4).symm.trans hF
        refine lv_iload_n hx hb dX4_issue_72 rfl (lv_at hl 1 rfl) ?_
        have hE := Option.some.inj hF
        have hV := congrArg (fun z : Int32 × K2 => z.1) hE
        have hW := congrArg (fun z : Int32 × K2 => wM G ad z.2) hE
        exact g_iret S hr hlocks hf hV hW dX4_issue_73
      · replace hF := (if_neg c4).symm.trans hF
        refine lv_aload_n hx hb dX4_issue_33 rfl (lv_at hl 0 rfl) ?_
        refine lv_iload_n hx hb dX4_issue_34 rfl (lv_at hl 2 rfl) ?_
        refine lv_iconst (v := 2) hx hb dX4_issue_35 (by decide) ?_
        obtain ⟨q5, h6, hF⟩ := Option.bind_eq_some_iff.mp hF
        refine g_cv0 (o := some (.int q5)) (As := [.int x3, .int 2]) (rest := []) (st1 := [.int q5]) (ci := 4) S hf (c_X4_birdIs l G ad μ x3 2 q5 h6) (cwV 2 hts gX4_issue_X4_birdIs rfl rfl rfl (by decide +kernel) ⟨Nat.le_of_ble_eq_true rfl, Nat.le_of_ble_eq_true rfl⟩) rfl rfl rfl 0 rfl rfl hl.1 rfl rfl (Nat.le_of_ble_eq_true rfl) ⟨Nat.zero_le _, Nat.zero_le _⟩ dX4_issue_36 (fun H locs hf => ?_)
        have hf : Fr G (va_A (wM G ad μ0) s.heap.size) s (wM G ad μ) H locs := hf
        refine lv_istore (lv' := [(4, .int q5), (0, .ref (ad 0)), (2, .int x2), (3, .int x3)]) hx hb dX4_issue_39 hl (by decide) rfl (fun ls hl => ?_)
        refine lv_iload_n hx hb dX4_issue_41 rfl (lv_at hl 2 rfl) ?_
        refine lv_iload hx hb dX4_issue_42 (lv_at hl 0 rfl) ?_
        refine lv_if_lt (tgt := 63) hx hb dX4_issue_44 (by decide) (fun c7 => ?_) (fun c7 => ?_)
        · replace hF := (if_pos c7).symm.trans hF
          refine lv_iconst (v := 0) hx hb dX4_issue_63 (by decide) ?_
          refine lv_ior hx hb dX4_issue_64 ?_
          refine lv_istore_n (lv' := [(2, .int (x2 ||| 0)), (4, .int q5), (0, .ref (ad 0)), (3, .int x3)]) hx hb dX4_issue_65 rfl hl (by decide) rfl (fun ls hl => ?_)
          refine lv_iinc (v := x3 + 1) (lv' := [(3, .int (x3 + 1)), (2, .int (x2 ||| 0)), (4, .int q5), (0, .ref (ad 0))]) hx hb dX4_issue_66 hl (k := 3) rfl rfl (by decide) rfl (fun ls hl => ?_)
          refine lv_goto (tgt := 23) hx hb dX4_issue_69 (by decide) ?_
          exact ih23 μ (x2 ||| 0) (x3 + 1) _ _ _ hF hf (lv_sub hl [3, 1, 0] rfl)
        · replace hF := (if_neg c7).symm.trans hF
          refine lv_iload_n hx hb dX4_issue_47 rfl (lv_at hl 2 rfl) ?_
          refine lv_iload hx hb dX4_issue_48 (lv_at hl 0 rfl) ?_
          refine lv_ishr hx hb dX4_issue_50 ?_
          refine lv_iconst (v := 1) hx hb dX4_issue_51 (by decide) ?_
          refine lv_iand hx hb dX4_issue_52 ?_
          refine lv_iconst (v := 1) hx hb dX4_issue_53 (by decide) ?_
          refine lv_icmp_ne (tgt := 63) hx hb dX4_issue_54 (by decide) (fun c8 => ?_) (fun c8 => ?_)
          · replace hF := (if_neg c8).symm.trans hF
            refine lv_iconst (v := 0) hx hb dX4_issue_63 (by decide) ?_
            refine lv_ior hx hb dX4_issue_64 ?_
            refine lv_istore_n (lv' := [(2, .int (x2 ||| 0)), (4, .int q5), (0, .ref (ad 0)), (3, .int x3)]) hx hb dX4_issue_65 rfl hl (by decide) rfl (fun ls hl => ?_)
            refine lv_iinc (v := x3 + 1) (lv' := [(3, .int (x3 + 1)), (2, .int (x2 ||| 0)), (4, .int q5), (0, .ref (ad 0))]) hx hb dX4_issue_66 hl (k := 3) rfl rfl (by decide) rfl (fun ls hl => ?_)
            refine lv_goto (tgt := 23) hx hb dX4_issue_69 (by decide) ?_
            exact ih23 μ (x2 ||| 0) (x3 + 1) _ _ _ hF hf (lv_sub hl [3, 1, 0] rfl)
          · replace hF := (if_pos c8).symm.trans hF
            refine lv_iconst (v := 1) hx hb dX4_issue_57 (by decide) ?_
            refine lv_iload_n hx hb dX4_issue_58 rfl (lv_at hl 3 rfl) ?_
            refine lv_ishl hx hb dX4_issue_59 ?_
            refine lv_goto (tgt := 64) hx hb dX4_issue_60 (by decide) ?_
            refine lv_ior hx hb dX4_issue_64 ?_
            refine lv_istore_n (lv' := [(2, .int (x2 ||| (1 <<< (x3 &&& 31)))), (4, .int q5), (0, .ref (ad 0)), (3, .int x3)]) hx hb dX4_issue_65 rfl hl (by decide) rfl (fun ls hl => ?_)
            refine lv_iinc (v := x3 + 1) (lv' := [(3, .int (x3 + 1)), (2, .int (x2 ||| (1 <<< (x3 &&& 31)))), (4, .int q5), (0, .ref (ad 0))]) hx hb dX4_issue_66 hl (k := 3) rfl rfl (by decide) rfl (fun ls hl => ?_)
            refine lv_goto (tgt := 23) hx hb dX4_issue_69 (by decide) ?_
            exact ih23 μ (x2 ||| (1 <<< (x3 &&& 31))) (x3 + 1) _ _ _ hF hf (lv_sub hl [3, 1, 0] rfl)
  unfold f_X4_issue at hF
  refine lv_aload_n hx hb dX4_issue_0 rfl (lv_at hl 0 rfl) ?_
  refine lv_iload_n hx hb dX4_issue_1 rfl (lv_at hl 1 rfl) ?_
  obtain ⟨q1, h2, hF⟩ := Option.bind_eq_some_iff.mp hF
  refine g_cv0 (o := some (.int q1)) (As := [.int a1]) (rest := []) (st1 := [.int q1]) (ci := 4) S hf (c_X4_isBird l G ad μ0 a1 q1 h2) (cwV 1 hts gX4_issue_X4_isBird rfl rfl rfl (by decide +kernel) ⟨Nat.le_of_ble_eq_true rfl, Nat.le_of_ble_eq_true rfl⟩) rfl rfl rfl 0 rfl rfl hl.1 rfl rfl (Nat.le_of_ble_eq_true rfl) ⟨Nat.zero_le _, Nat.zero_le _⟩ dX4_issue_2 (fun H locs hf => ?_)
  have hf : Fr G (va_A (wM G ad μ0) s.heap.size) s (wM G ad μ0) H locs := hf
  refine lv_if_ne (tgt := 15) hx hb dX4_issue_5 (by decide) (fun c3 => ?_) (fun c3 => ?_)
  · replace hF := (if_neg c3).symm.trans hF
    refine lv_iconst (v := 1) hx hb dX4_issue_15 (by decide) ?_
    refine lv_iload_n hx hb dX4_issue_16 rfl (lv_at hl 1 rfl) ?_
    refine lv_ishl hx hb dX4_issue_17 ?_
    refine lv_istore_n (lv' := [(2, .int (1 <<< (a1 &&& 31))), (0, .ref (ad 0)), (1, .int a1)]) hx hb dX4_issue_18 rfl hl (by decide) rfl (fun ls hl => ?_)
    refine lv_iload_n hx hb dX4_issue_19 rfl (lv_at hl 2 rfl) ?_
    refine lv_iconst (v := 1) hx hb dX4_issue_20 (by decide) ?_
    refine lv_iadd hx hb dX4_issue_21 ?_
    refine lv_istore_n (lv' := [(3, .int (a1 + 1)), (2, .int (1 <<< (a1 &&& 31))), (0, .ref (ad 0)), (1, .int a1)]) hx hb dX4_issue_22 rfl hl (by decide) rfl (fun ls hl => ?_)
    exact hL23 1000 μ0 (1 <<< (a1 &&& 31)) (a1 + 1) _ _ _ hF hf (lv_sub hl [2, 1, 0] rfl)
  · replace hF := (if_pos c3).symm.trans hF
    refine lv_aload_n hx hb dX4_issue_8 rfl (lv_at hl 0 rfl) ?_
    refine lv_ldc (v := -1000001) hx hb hown (hts _ kc63) dX4_issue_9 ?_
    obtain ⟨q9, h10, hF⟩ := Option.bind_eq_some_iff.mp hF
    refine g_cv0 (o := some (.int q9.1)) (As := [.int (-1000001)]) (rest := []) (st1 := [.int q9.1]) (ci := 4) S hf (c_X4_finding l G ad μ0 (-1000001) q9 h10) (cwV 1 hts gX4_issue_X4_finding rfl rfl rfl (by decide +kernel) ⟨Nat.le_of_ble_eq_true rfl, Nat.le_of_ble_eq_true rfl⟩) rfl rfl rfl 0 rfl rfl hl.1 rfl rfl (Nat.le_of_ble_eq_true rfl) ⟨Nat.zero_le _, Nat.zero_le _⟩ dX4_issue_11 (fun H locs hf => ?_)
    have hf : Fr G (va_A (wM G ad μ0) s.heap.size) s (wM G ad q9.2) H locs := hf
    have hE := Option.some.inj hF
    have hV := congrArg (fun z : Int32 × K2 => z.1) hE
    have hW := congrArg (fun z : Int32 × K2 => wM G ad z.2) hE
    exact g_iret S hr hlocks hf hV hW dX4_issue_14
def f_X4_more (μ0 : K2) (a1 : Int32) (a2 : Int32) (a3 : Int32) : Option (K2) := if ix a1 92 then (some (va_up μ0 0 (upd (μ0 0) a1.toNatClampNeg (imin a3 (((μ0 0) a1.toNatClampNeg) + a2))))) else none
set_option maxHeartbeats 4000000 in
set_option maxRecDepth 100000 in
theorem c_X4_more (l : Launch) (G : GT) (ad : Nat → Nat) (μ0 : K2) (a1 : Int32) (a2 : Int32) (a3 : Int32) (q : K2) (hF : f_X4_more μ0 a1 a2 a3 = some q) : Ct l G yX4_more wsX4_more ({ frames := 1, cells := 0, slots := 0, locals := 21 } : Room) ([.ref (ad 0), .int a1, .int a2, .int a3] : List Value) (wM G ad μ0) (none) (wM G ad q) := by
  have k9 : Cond.fieldLink RX4 9 "PigeonRollsModel" "now" "[I" ∈ wsX4_more := by decide +kernel
  have k148 : Cond.methodLink RX4 148 Lib.Math.min.name ∈ wsX4_more := by decide +kernel
  have ksmin : Cond.static Lib.Math.min.name ∈ wsX4_more := by decide +kernel
  have kiM : Cond.initialized "java/lang/Math" ∈ wsX4_more := by decide +kernel
  have komin : Cond.code Lib.Math.min.name Lib.Math.min.code 2 (some .int) ∈ wsX4_more := by decide +kernel
  have hinX4 : ∀ w ∈ u_ws RX4 TX4 21, w ∈ wsX4_more := by decide +kernel
  refine Ct.of cX4_more 4 none (by decide) rfl (Nat.le_of_ble_eq_true rfl) ?_
  intro p e s m below meth c ls S hr hlocks hf hl
  have S : CallFix p m c cX4_more 4 s ([.ref (ad 0), .int a1, .int a2, .int a3] : List Value).toArray wsX4_more RX4 := S
  obtain ⟨hx, hb, hml, hown, hts⟩ := id S
  have hl : lv_has ls 4 [(0, .ref (ad 0)), (1, .int a1), (2, .int a2), (3, .int a3)] := hl
  unfold f_X4_more at hF
  refine lv_aload_n hx hb dX4_more_0 rfl (lv_at hl 0 rfl) ?_
  refine g_get (ci := 4) (C := RX4) (T := TX4) (N := 21) (v := .ref (ad 1)) S hf hinX4 0 rfl rfl 0 (by decide) k9 rfl rfl dX4_more_1 ?_
  refine lv_iload_n hx hb dX4_more_4 rfl (lv_at hl 1 rfl) ?_
  refine lv_iload_n hx hb dX4_more_5 rfl (lv_at hl 3 rfl) ?_
  refine lv_aload_n hx hb dX4_more_6 rfl (lv_at hl 0 rfl) ?_
  refine g_get (ci := 4) (C := RX4) (T := TX4) (N := 21) (v := .ref (ad 1)) S hf hinX4 0 rfl rfl 0 (by decide) k9 rfl rfl dX4_more_7 ?_
  refine lv_iload_n hx hb dX4_more_10 rfl (lv_at hl 1 rfl) ?_
  obtain ⟨g1, hF⟩ := gd_some hF
  refine g_ald (v := (μ0 0) a1.toNatClampNeg) S hf 2 rfl g1 rfl dX4_more_11 ?_
  refine lv_iload_n hx hb dX4_more_12 rfl (lv_at hl 2 rfl) ?_
  refine lv_iadd hx hb dX4_more_13 ?_
  refine va_mmin hx hb (hml.trans hl.1.symm) hown (hts _ k148) (hts _ ksmin) (hts _ kiM) (hts _ komin) (Nat.le_of_ble_eq_true rfl) (Nat.le_of_ble_eq_true rfl) (Nat.zero_le _) (Nat.zero_le _) dX4_more_14 ?_
  refine g_ast (ww' := wM G ad (va_up μ0 0 (upd (μ0 0) a1.toNatClampNeg (imin a3 (((μ0 0) a1.toNatClampNeg) + a2))))) S hf 2 rfl g1 rfl dX4_more_17 (fun H locs hf => ?_)
  have hE := Option.some.inj hF
  have hW := congrArg (fun z : K2 => wM G ad z) hE
  exact g_vret S hr hlocks hf hW dX4_more_18
