def f_X4_hold (μ0 : K2) (a1 : Int32) (a2 : Int32) : Option (Int32 × K2) := Option.bind (f_X4_isSpot a1) (fun q1 => if q1 = 0 then (Option.bind (f_X4_finding μ0 (-1000001)) (fun q4 => some (q4.1, q4.2))) else (if a2 = (-1) then (if ix (10 + a1) 92 then (some (1, va_up μ0 0 (upd (μ0 0) ((10 + a1).toNatClampNeg) a2))) else none) else (Option.bind (f_X4_isBird μ0 a2) (fun q8 => if q8 = 0 then (Option.bind (f_X4_finding μ0 (-1000001)) (fun q12 => some (q12.1, q12.2))) else (if ix (10 + a1) 92 then (some (1, va_up μ0 0 (upd (μ0 0) ((10 + a1).toNatClampNeg) a2))) else none)))))
set_option maxHeartbeats 4000000 in
set_option maxRecDepth 100000 in
theorem c_X4_hold (l : Launch) (G : GT) (ad : Nat → Nat) (μ0 : K2) (a1 : Int32) (a2 : Int32) (q : Int32 × K2) (hF : f_X4_hold μ0 a1 a2 = some q) : Ct l G yX4_hold wsX4_hold ({ frames := 2, cells := 0, slots := 0, locals := 43 } : Room) ([.ref (ad 0), .int a1, .int a2] : List Value) (wM G ad μ0) (some (.int q.1)) (wM G ad q.2) := by
  have kc63 : Cond.constant RX4 63 (-1000001) ∈ wsX4_hold := by decide +kernel
  have k9 : Cond.fieldLink RX4 9 "PigeonRollsModel" "now" "[I" ∈ wsX4_hold := by decide +kernel
  have hinX4 : ∀ w ∈ u_ws RX4 TX4 21, w ∈ wsX4_hold := by decide +kernel
  refine Ct.of cX4_hold 3 (some .int) (by decide) rfl (Nat.le_of_ble_eq_true rfl) ?_
  intro p e s m below meth c ls S hr hlocks hf hl
  have S : CallFix p m c cX4_hold 3 s ([.ref (ad 0), .int a1, .int a2] : List Value).toArray wsX4_hold RX4 := S
  obtain ⟨hx, hb, hml, hown, hts⟩ := id S
  have hl : lv_has ls 3 [(0, .ref (ad 0)), (1, .int a1), (2, .int a2)] := hl
  unfold f_X4_hold at hF
  refine lv_iload_n hx hb dX4_hold_0 rfl (lv_at hl 1 rfl) ?_
  obtain ⟨q1, h2, hF⟩ := Option.bind_eq_some_iff.mp hF
  refine g_cs0 (o := some (.int q1)) (As := [.int a1]) (rest := []) (st1 := [.int q1]) S hf (c_X4_isSpot l G  a1 q1 h2) (va_cwS 1 hts gX4_hold_X4_isSpot rfl rfl rfl (by decide +kernel) ⟨Nat.le_of_ble_eq_true rfl, Nat.le_of_ble_eq_true rfl⟩) rfl hl.1 rfl rfl (Nat.le_of_ble_eq_true rfl) ⟨Nat.zero_le _, Nat.zero_le _⟩ dX4_hold_1 (fun H locs hf => ?_)
  refine lv_if_eq (tgt := 20) hx hb dX4_hold_4 (by decide) (fun c3 => ?_) (fun c3 => ?_)
  · replace hF := (if_pos c3).symm.trans hF
    refine lv_aload_n hx hb dX4_hold_20 rfl (lv_at hl 0 rfl) ?_
    refine lv_ldc (v := -1000001) hx hb hown (hts _ kc63) dX4_hold_21 ?_
    obtain ⟨q4, h5, hF⟩ := Option.bind_eq_some_iff.mp hF
    refine g_cv0 (o := some (.int q4.1)) (As := [.int (-1000001)]) (rest := []) (st1 := [.int q4.1]) (ci := 4) S hf (c_X4_finding l G ad μ0 (-1000001) q4 h5) (cwV 1 hts gX4_hold_X4_finding rfl rfl rfl (by decide +kernel) ⟨Nat.le_of_ble_eq_true rfl, Nat.le_of_ble_eq_true rfl⟩) rfl rfl rfl 0 rfl rfl hl.1 rfl rfl (Nat.le_of_ble_eq_true rfl) ⟨Nat.zero_le _, Nat.zero_le _⟩ dX4_hold_23 (fun H locs hf => ?_)
    have hf : Fr G (va_A (wM G ad μ0) s.heap.size) s (wM G ad q4.2) H locs := hf
    have hE := Option.some.inj hF
    have hV := congrArg (fun z : Int32 × K2 => z.1) hE
    have hW := congrArg (fun z : Int32 × K2 => wM G ad z.2) hE
    exact g_iret S hr hlocks hf hV hW dX4_hold_26
  · replace hF := (if_neg c3).symm.trans hF
    refine lv_iload_n hx hb dX4_hold_7 rfl (lv_at hl 2 rfl) ?_
    refine lv_iconst (v := -1) hx hb dX4_hold_8 (by decide) ?_
    refine lv_icmp_eq (tgt := 27) hx hb dX4_hold_9 (by decide) (fun c6 => ?_) (fun c6 => ?_)
    · replace hF := (if_pos c6).symm.trans hF
      refine lv_aload_n hx hb dX4_hold_27 rfl (lv_at hl 0 rfl) ?_
      refine g_get (ci := 4) (C := RX4) (T := TX4) (N := 21) (v := .ref (ad 1)) S hf hinX4 0 rfl rfl 0 (by decide) k9 rfl rfl dX4_hold_28 ?_
      refine lv_bipush (v := 10) hx hb dX4_hold_31 (by decide) ?_
      refine lv_iload_n hx hb dX4_hold_33 rfl (lv_at hl 1 rfl) ?_
      refine lv_iadd hx hb dX4_hold_34 ?_
      refine lv_iload_n hx hb dX4_hold_35 rfl (lv_at hl 2 rfl) ?_
      obtain ⟨g7, hF⟩ := gd_some hF
      refine g_ast (ww' := wM G ad (va_up μ0 0 (upd (μ0 0) ((10 + a1).toNatClampNeg) a2))) S hf 2 rfl g7 rfl dX4_hold_36 (fun H locs hf => ?_)
      refine lv_iconst (v := 1) hx hb dX4_hold_37 (by decide) ?_
      have hE := Option.some.inj hF
      have hV := congrArg (fun z : Int32 × K2 => z.1) hE
      have hW := congrArg (fun z : Int32 × K2 => wM G ad z.2) hE
      exact g_iret S hr hlocks hf hV hW dX4_hold_38
    · replace hF := (if_neg c6).symm.trans hF
      refine lv_aload_n hx hb dX4_hold_12 rfl (lv_at hl 0 rfl) ?_
      refine lv_iload_n hx hb dX4_hold_13 rfl (lv_at hl 2 rfl) ?_
      obtain ⟨q8, h9, hF⟩ := Option.bind_eq_some_iff.mp hF
      refine g_cv0 (o := some (.int q8)) (As := [.int a2]) (rest := []) (st1 := [.int q8]) (ci := 4) S hf (c_X4_isBird l G ad μ0 a2 q8 h9) (cwV 1 hts gX4_hold_X4_isBird rfl rfl rfl (by decide +kernel) ⟨Nat.le_of_ble_eq_true rfl, Nat.le_of_ble_eq_true rfl⟩) rfl rfl rfl 0 rfl rfl hl.1 rfl rfl (Nat.le_of_ble_eq_true rfl) ⟨Nat.zero_le _, Nat.zero_le _⟩ dX4_hold_14 (fun H locs hf => ?_)
      have hf : Fr G (va_A (wM G ad μ0) s.heap.size) s (wM G ad μ0) H locs := hf
      refine lv_if_ne (tgt := 27) hx hb dX4_hold_17 (by decide) (fun c10 => ?_) (fun c10 => ?_)
      · replace hF := (if_neg c10).symm.trans hF
        refine lv_aload_n hx hb dX4_hold_27 rfl (lv_at hl 0 rfl) ?_
        refine g_get (ci := 4) (C := RX4) (T := TX4) (N := 21) (v := .ref (ad 1)) S hf hinX4 0 rfl rfl 0 (by decide) k9 rfl rfl dX4_hold_28 ?_
        refine lv_bipush (v := 10) hx hb dX4_hold_31 (by decide) ?_
        refine lv_iload_n hx hb dX4_hold_33 rfl (lv_at hl 1 rfl) ?_
        refine lv_iadd hx hb dX4_hold_34 ?_
        refine lv_iload_n hx hb dX4_hold_35 rfl (lv_at hl 2 rfl) ?_
        obtain ⟨g11, hF⟩ := gd_some hF
        refine g_ast (ww' := wM G ad (va_up μ0 0 (upd (μ0 0) ((10 + a1).toNatClampNeg) a2))) S hf 2 rfl g11 rfl dX4_hold_36 (fun H locs hf => ?_)
        refine lv_iconst (v := 1) hx hb dX4_hold_37 (by decide) ?_
        have hE := Option.some.inj hF
        have hV := congrArg (fun z : Int32 × K2 => z.1) hE
        have hW := congrArg (fun z : Int32 × K2 => wM G ad z.2) hE
        exact g_iret S hr hlocks hf hV hW dX4_hold_38
      · replace hF := (if_pos c10).symm.trans hF
        refine lv_aload_n hx hb dX4_hold_20 rfl (lv_at hl 0 rfl) ?_
        refine lv_ldc (v := -1000001) hx hb hown (hts _ kc63) dX4_hold_21 ?_
        obtain ⟨q12, h13, hF⟩ := Option.bind_eq_some_iff.mp hF
        refine g_cv0 (o := some (.int q12.1)) (As := [.int (-1000001)]) (rest := []) (st1 := [.int q12.1]) (ci := 4) S hf (c_X4_finding l G ad μ0 (-1000001) q12 h13) (cwV 1 hts gX4_hold_X4_finding rfl rfl rfl (by decide +kernel) ⟨Nat.le_of_ble_eq_true rfl, Nat.le_of_ble_eq_true rfl⟩) rfl rfl rfl 0 rfl rfl hl.1 rfl rfl (Nat.le_of_ble_eq_true rfl) ⟨Nat.zero_le _, Nat.zero_le _⟩ dX4_hold_23 (fun H locs hf => ?_)
        have hf : Fr G (va_A (wM G ad μ0) s.heap.size) s (wM G ad q12.2) H locs := hf
        have hE := Option.some.inj hF
        have hV := congrArg (fun z : Int32 × K2 => z.1) hE
        have hW := congrArg (fun z : Int32 × K2 => wM G ad z.2) hE
        exact g_iret S hr hlocks hf hV hW dX4_hold_26
def f_X4_above (a0 : Int32) : Option (Int32) := if a0 = 0 then (some ((-1))) else (if a0 = 3 then (some (2)) else (if a0 = 4 then (some (3)) else (if a0 = 6 then (some (1)) else (some (0)))))
set_option maxHeartbeats 4000000 in
set_option maxRecDepth 100000 in
theorem c_X4_above (l : Launch) (G : GT)  (a0 : Int32) (q : Int32) (hF : f_X4_above a0 = some q) : Ct l G yX4_above wsX4_above ({ frames := 0, cells := 0, slots := 0, locals := 0 } : Room) ([.int a0] : List Value) (([] : va_W)) (some (.int q)) (([] : va_W)) := by
  refine Ct.of cX4_above 1 (some .int) (by decide) rfl (Nat.le_of_ble_eq_true rfl) ?_
  intro p e s m below meth c ls S hr hlocks hf hl
  have S : CallFix p m c cX4_above 1 s ([.int a0] : List Value).toArray wsX4_above RX4 := S
  obtain ⟨hx, hb, hml, hown, hts⟩ := id S
  have hl : lv_has ls 1 [(0, .int a0)] := hl
  unfold f_X4_above at hF
  refine lv_iload_n hx hb dX4_above_0 rfl (lv_at hl 0 rfl) ?_
  refine lv_if_ne (tgt := 8) hx hb dX4_above_1 (by decide) (fun c1 => ?_) (fun c1 => ?_)
  · replace hF := (if_neg c1).symm.trans hF
    refine lv_iload_n hx hb dX4_above_8 rfl (lv_at hl 0 rfl) ?_
    refine lv_iconst (v := 3) hx hb dX4_above_9 (by decide) ?_
    refine lv_icmp_ne (tgt := 17) hx hb dX4_above_10 (by decide) (fun c2 => ?_) (fun c2 => ?_)
    · replace hF := (if_neg c2).symm.trans hF
      refine lv_iload_n hx hb dX4_above_17 rfl (lv_at hl 0 rfl) ?_
      refine lv_iconst (v := 4) hx hb dX4_above_18 (by decide) ?_
      refine lv_icmp_ne (tgt := 26) hx hb dX4_above_19 (by decide) (fun c3 => ?_) (fun c3 => ?_)
      · replace hF := (if_neg c3).symm.trans hF
        refine lv_iload_n hx hb dX4_above_26 rfl (lv_at hl 0 rfl) ?_
        refine lv_bipush (v := 6) hx hb dX4_above_27 (by decide) ?_
        refine lv_icmp_ne (tgt := 36) hx hb dX4_above_29 (by decide) (fun c4 => ?_) (fun c4 => ?_)
        · replace hF := (if_neg c4).symm.trans hF
          refine lv_iconst (v := 0) hx hb dX4_above_36 (by decide) ?_
          have hE := Option.some.inj hF
          have hV := congrArg (fun z : Int32 => z) hE
          exact g_iret S hr hlocks hf hV rfl dX4_above_37
        · replace hF := (if_pos c4).symm.trans hF
          refine lv_iconst (v := 1) hx hb dX4_above_32 (by decide) ?_
          refine lv_goto (tgt := 37) hx hb dX4_above_33 (by decide) ?_
          have hE := Option.some.inj hF
          have hV := congrArg (fun z : Int32 => z) hE
          exact g_iret S hr hlocks hf hV rfl dX4_above_37
      · replace hF := (if_pos c3).symm.trans hF
        refine lv_iconst (v := 3) hx hb dX4_above_22 (by decide) ?_
        refine lv_goto (tgt := 37) hx hb dX4_above_23 (by decide) ?_
        have hE := Option.some.inj hF
        have hV := congrArg (fun z : Int32 => z) hE
        exact g_iret S hr hlocks hf hV rfl dX4_above_37
    · replace hF := (if_pos c2).symm.trans hF
      refine lv_iconst (v := 2) hx hb dX4_above_13 (by decide) ?_
      refine lv_goto (tgt := 37) hx hb dX4_above_14 (by decide) ?_
      have hE := Option.some.inj hF
      have hV := congrArg (fun z : Int32 => z) hE
      exact g_iret S hr hlocks hf hV rfl dX4_above_37
  · replace hF := (if_pos c1).symm.trans hF
    refine lv_iconst (v := -1) hx hb dX4_above_4 (by decide) ?_
    refine lv_goto (tgt := 37) hx hb dX4_above_5 (by decide) ?_
    have hE := Option.some.inj hF
    have hV := congrArg (fun z : Int32 => z) hE
    exact g_iret S hr hlocks hf hV rfl dX4_above_37
def f_X4_isUnder_B19 (x2 : Int32) : Option (Int32) := if x2 < 0 then (some (0)) else (some (1))
def f_X4_isUnder_L2 : Nat → Int32 → Int32 → Option (Int32)
  | 0, _, _ => none
  | n + 1, x1, x2 => if x2 < 0 then (f_X4_isUnder_B19 x2) else (if x2 = x1 then (f_X4_isUnder_B19 x2) else (Option.bind (f_X4_above x2) (fun q4 => f_X4_isUnder_L2 n x1 q4)))
def f_X4_isUnder (a0 : Int32) (a1 : Int32) : Option (Int32) := f_X4_isUnder_L2 1000 a1 a0
set_option maxHeartbeats 4000000 in
set_option maxRecDepth 100000 in
theorem c_X4_isUnder (l : Launch) (G : GT)  (a0 : Int32) (a1 : Int32) (q : Int32) (hF : f_X4_isUnder a0 a1 = some q) : Ct l G yX4_isUnder wsX4_isUnder ({ frames := 1, cells := 0, slots := 0, locals := 20 } : Room) ([.int a0, .int a1] : List Value) (([] : va_W)) (some (.int q)) (([] : va_W)) := by
  refine Ct.of cX4_isUnder 3 (some .boolean) (by decide) rfl (Nat.le_of_ble_eq_true rfl) ?_
  intro p e s m below meth c ls S hr hlocks hf hl
  have S : CallFix p m c cX4_isUnder 3 s ([.int a0, .int a1] : List Value).toArray wsX4_isUnder RX4 := S
  obtain ⟨hx, hb, hml, hown, hts⟩ := id S
  have hl : lv_has ls 3 [(0, .int a0), (1, .int a1)] := hl
  have hL19 : ∀ (x2 : Int32)  (H : Heap) (locs : List Loc) (ls : Array Slot), f_X4_isUnder_B19 x2 = some q → Fr G (va_A (([] : va_W)) s.heap.size) s (([] : va_W)) H locs → lv_has ls 3 [(2, .int x2)] → W p l e ({ frames := 1, cells := 0, slots := 0, locals := 20 } : Room) s m ([.int a0, .int a1] : List Value).toArray below meth c H locs 0 0 (MQ below (CPost G (([] : va_W)) s.heap.size (some (.int q)) (([] : va_W))) ([.int a0, .int a1] : List Value).toArray s 0 0 (va_A (([] : va_W)) s.heap.size)) (F0 m 19 ls []) := by
    intro x2 H locs ls hF hf hl
    unfold f_X4_isUnder_B19 at hF
    refine lv_iload_n hx hb dX4_isUnder_19 rfl (lv_at hl 0 rfl) ?_
    refine lv_if_lt (tgt := 27) hx hb dX4_isUnder_20 (by decide) (fun c2 => ?_) (fun c2 => ?_)
    · replace hF := (if_pos c2).symm.trans hF
      refine lv_iconst (v := 0) hx hb dX4_isUnder_27 (by decide) ?_
      have hE := Option.some.inj hF
      have hV := congrArg (fun z : Int32 => z) hE
      exact g_zret S hr hlocks hf (by decide) hV rfl dX4_isUnder_28
    · replace hF := (if_neg c2).symm.trans hF
      refine lv_iconst (v := 1) hx hb dX4_isUnder_23 (by decide) ?_
      refine lv_goto (tgt := 28) hx hb dX4_isUnder_24 (by decide) ?_
      have hE := Option.some.inj hF
      have hV := congrArg (fun z : Int32 => z) hE
      exact g_zret S hr hlocks hf (by decide) hV rfl dX4_isUnder_28
  have hL2 : ∀ (n : Nat) (x1 : Int32) (x2 : Int32)  (H : Heap) (locs : List Loc) (ls : Array Slot), f_X4_isUnder_L2 n x1 x2 = some q → Fr G (va_A (([] : va_W)) s.heap.size) s (([] : va_W)) H locs → lv_has ls 3 [(1, .int x1), (2, .int x2)] → W p l e ({ frames := 1, cells := 0, slots := 0, locals := 20 } : Room) s m ([.int a0, .int a1] : List Value).toArray below meth c H locs 0 0 (MQ below (CPost G (([] : va_W)) s.heap.size (some (.int q)) (([] : va_W))) ([.int a0, .int a1] : List Value).toArray s 0 0 (va_A (([] : va_W)) s.heap.size)) (F0 m 2 ls []) := by
    intro n
    induction n with
    | zero =>
      intro x1 x2 H locs ls hF hf hl
      exact absurd hF (by simp [f_X4_isUnder_L2])
    | succ n ih2 =>
      intro x1 x2 H locs ls hF hf hl
      rw [f_X4_isUnder_L2] at hF
      refine lv_iload_n hx hb dX4_isUnder_2 rfl (lv_at hl 1 rfl) ?_
      refine lv_if_lt (tgt := 19) hx hb dX4_isUnder_3 (by decide) (fun c1 => ?_) (fun c1 => ?_)
      · replace hF := (if_pos c1).symm.trans hF
        exact hL19 x2 _ _ _ hF hf (lv_sub hl [1] rfl)
      · replace hF := (if_neg c1).symm.trans hF
        refine lv_iload_n hx hb dX4_isUnder_6 rfl (lv_at hl 1 rfl) ?_
        refine lv_iload_n hx hb dX4_isUnder_7 rfl (lv_at hl 0 rfl) ?_
        refine lv_icmp_eq (tgt := 19) hx hb dX4_isUnder_8 (by decide) (fun c3 => ?_) (fun c3 => ?_)
        · replace hF := (if_pos c3).symm.trans hF
          exact hL19 x2 _ _ _ hF hf (lv_sub hl [1] rfl)
        · replace hF := (if_neg c3).symm.trans hF
          refine lv_iload_n hx hb dX4_isUnder_11 rfl (lv_at hl 1 rfl) ?_
          obtain ⟨q4, h5, hF⟩ := Option.bind_eq_some_iff.mp hF
          refine g_cs0 (o := some (.int q4)) (As := [.int x2]) (rest := []) (st1 := [.int q4]) S hf (c_X4_above l G  x2 q4 h5) (va_cwS 1 hts gX4_isUnder_X4_above rfl rfl rfl (by decide +kernel) ⟨Nat.le_of_ble_eq_true rfl, Nat.le_of_ble_eq_true rfl⟩) rfl hl.1 rfl rfl (Nat.le_of_ble_eq_true rfl) ⟨Nat.zero_le _, Nat.zero_le _⟩ dX4_isUnder_12 (fun H locs hf => ?_)
          refine lv_istore_n (lv' := [(2, .int q4), (1, .int x1)]) hx hb dX4_isUnder_15 rfl hl (by decide) rfl (fun ls hl => ?_)
          refine lv_goto (tgt := 2) hx hb dX4_isUnder_16 (by decide) ?_
          exact ih2 x1 q4 _ _ _ hF hf (lv_sub hl [1, 0] rfl)
  unfold f_X4_isUnder at hF
  refine lv_iload_n hx hb dX4_isUnder_0 rfl (lv_at hl 0 rfl) ?_
  refine lv_istore_n (lv' := [(2, .int a0), (0, .int a0), (1, .int a1)]) hx hb dX4_isUnder_1 rfl hl (by decide) rfl (fun ls hl => ?_)
  exact hL2 1000 a1 a0 _ _ _ hF hf (lv_sub hl [2, 0] rfl)
def f_X4_as (μ0 : K2) (a1 : Int32) (a2 : Int32) : Option (Int32 × K2) := Option.bind (f_X4_isSpot a1) (fun q1 => if q1 = 0 then (Option.bind (f_X4_finding μ0 (-1000001)) (fun q4 => some (q4.1, q4.2))) else (Option.bind (f_X4_isKind a2) (fun q6 => if q6 = 0 then (Option.bind (f_X4_finding μ0 (-1000001)) (fun q20 => some (q20.1, q20.2))) else (if ix (10 + a1) 92 then (if 0 ≤ ((μ0 0) (10 + a1).toNatClampNeg) then (Option.bind (f_X4_birdIs μ0 ((μ0 0) (10 + a1).toNatClampNeg) 0) (fun q11 => Option.bind (f_X4_isUnder q11 a2) (fun q13 => if q13 = 0 then (Option.bind (f_X4_finding μ0 (-1000003)) (fun q16 => some (q16.1, q16.2))) else (some ((μ0 0) (10 + a1).toNatClampNeg, μ0))))) else (Option.bind (f_X4_finding μ0 (-1000006)) (fun q18 => some (q18.1, q18.2)))) else none))))
set_option maxHeartbeats 4000000 in
set_option maxRecDepth 100000 in
theorem c_X4_as (l : Launch) (G : GT) (ad : Nat → Nat) (μ0 : K2) (a1 : Int32) (a2 : Int32) (q : Int32 × K2) (hF : f_X4_as μ0 a1 a2 = some q) : Ct l G yX4_as wsX4_as ({ frames := 2, cells := 0, slots := 0, locals := 43 } : Room) ([.ref (ad 0), .int a1, .int a2] : List Value) (wM G ad μ0) (some (.int q.1)) (wM G ad q.2) := by
  have kc63 : Cond.constant RX4 63 (-1000001) ∈ wsX4_as := by decide +kernel
  have k9 : Cond.fieldLink RX4 9 "PigeonRollsModel" "now" "[I" ∈ wsX4_as := by decide +kernel
  have kc306 : Cond.constant RX4 306 (-1000003) ∈ wsX4_as := by decide +kernel
  have kc206 : Cond.constant RX4 206 (-1000006) ∈ wsX4_as := by decide +kernel
  have hinX4 : ∀ w ∈ u_ws RX4 TX4 21, w ∈ wsX4_as := by decide +kernel
  refine Ct.of cX4_as 4 (some .int) (by decide) rfl (Nat.le_of_ble_eq_true rfl) ?_
  intro p e s m below meth c ls S hr hlocks hf hl
  have S : CallFix p m c cX4_as 4 s ([.ref (ad 0), .int a1, .int a2] : List Value).toArray wsX4_as RX4 := S
  obtain ⟨hx, hb, hml, hown, hts⟩ := id S
  have hl : lv_has ls 4 [(0, .ref (ad 0)), (1, .int a1), (2, .int a2)] := hl
  unfold f_X4_as at hF
  refine lv_iload_n hx hb dX4_as_0 rfl (lv_at hl 1 rfl) ?_
  obtain ⟨q1, h2, hF⟩ := Option.bind_eq_some_iff.mp hF
  refine g_cs0 (o := some (.int q1)) (As := [.int a1]) (rest := []) (st1 := [.int q1]) S hf (c_X4_isSpot l G  a1 q1 h2) (va_cwS 1 hts gX4_as_X4_isSpot rfl rfl rfl (by decide +kernel) ⟨Nat.le_of_ble_eq_true rfl, Nat.le_of_ble_eq_true rfl⟩) rfl hl.1 rfl rfl (Nat.le_of_ble_eq_true rfl) ⟨Nat.zero_le _, Nat.zero_le _⟩ dX4_as_1 (fun H locs hf => ?_)
  refine lv_if_eq (tgt := 14) hx hb dX4_as_4 (by decide) (fun c3 => ?_) (fun c3 => ?_)
  · replace hF := (if_pos c3).symm.trans hF
    refine lv_aload_n hx hb dX4_as_14 rfl (lv_at hl 0 rfl) ?_
    refine lv_ldc (v := -1000001) hx hb hown (hts _ kc63) dX4_as_15 ?_
    obtain ⟨q4, h5, hF⟩ := Option.bind_eq_some_iff.mp hF
    refine g_cv0 (o := some (.int q4.1)) (As := [.int (-1000001)]) (rest := []) (st1 := [.int q4.1]) (ci := 4) S hf (c_X4_finding l G ad μ0 (-1000001) q4 h5) (cwV 1 hts gX4_as_X4_finding rfl rfl rfl (by decide +kernel) ⟨Nat.le_of_ble_eq_true rfl, Nat.le_of_ble_eq_true rfl⟩) rfl rfl rfl 0 rfl rfl hl.1 rfl rfl (Nat.le_of_ble_eq_true rfl) ⟨Nat.zero_le _, Nat.zero_le _⟩ dX4_as_17 (fun H locs hf => ?_)
    have hf : Fr G (va_A (wM G ad μ0) s.heap.size) s (wM G ad q4.2) H locs := hf
    have hE := Option.some.inj hF
    have hV := congrArg (fun z : Int32 × K2 => z.1) hE
    have hW := congrArg (fun z : Int32 × K2 => wM G ad z.2) hE
    exact g_iret S hr hlocks hf hV hW dX4_as_20
  · replace hF := (if_neg c3).symm.trans hF
    refine lv_iload_n hx hb dX4_as_7 rfl (lv_at hl 2 rfl) ?_
    obtain ⟨q6, h7, hF⟩ := Option.bind_eq_some_iff.mp hF
    refine g_cs0 (o := some (.int q6)) (As := [.int a2]) (rest := []) (st1 := [.int q6]) S hf (c_X4_isKind l G  a2 q6 h7) (va_cwS 1 hts gX4_as_X4_isKind rfl rfl rfl (by decide +kernel) ⟨Nat.le_of_ble_eq_true rfl, Nat.le_of_ble_eq_true rfl⟩) rfl hl.1 rfl rfl (Nat.le_of_ble_eq_true rfl) ⟨Nat.zero_le _, Nat.zero_le _⟩ dX4_as_8 (fun H locs hf => ?_)
    refine lv_if_ne (tgt := 21) hx hb dX4_as_11 (by decide) (fun c8 => ?_) (fun c8 => ?_)
    · replace hF := (if_neg c8).symm.trans hF
      refine lv_aload_n hx hb dX4_as_21 rfl (lv_at hl 0 rfl) ?_
      refine g_get (ci := 4) (C := RX4) (T := TX4) (N := 21) (v := .ref (ad 1)) S hf hinX4 0 rfl rfl 0 (by decide) k9 rfl rfl dX4_as_22 ?_
      refine lv_bipush (v := 10) hx hb dX4_as_25 (by decide) ?_
      refine lv_iload_n hx hb dX4_as_27 rfl (lv_at hl 1 rfl) ?_
      refine lv_iadd hx hb dX4_as_28 ?_
      obtain ⟨g9, hF⟩ := gd_some hF
      refine g_ald (v := (μ0 0) (10 + a1).toNatClampNeg) S hf 2 rfl g9 rfl dX4_as_29 ?_
      refine lv_istore_n (lv' := [(3, .int ((μ0 0) (10 + a1).toNatClampNeg)), (0, .ref (ad 0)), (1, .int a1), (2, .int a2)]) hx hb dX4_as_30 rfl hl (by decide) rfl (fun ls hl => ?_)
      refine lv_iload_n hx hb dX4_as_31 rfl (lv_at hl 0 rfl) ?_
      refine lv_if_ge (tgt := 42) hx hb dX4_as_32 (by decide) (fun c10 => ?_) (fun c10 => ?_)
      · replace hF := (if_pos c10).symm.trans hF
        refine lv_aload_n hx hb dX4_as_42 rfl (lv_at hl 1 rfl) ?_
        refine lv_iload_n hx hb dX4_as_43 rfl (lv_at hl 0 rfl) ?_
        refine lv_iconst (v := 0) hx hb dX4_as_44 (by decide) ?_
        obtain ⟨q11, h12, hF⟩ := Option.bind_eq_some_iff.mp hF
        refine g_cv0 (o := some (.int q11)) (As := [.int ((μ0 0) (10 + a1).toNatClampNeg), .int 0]) (rest := []) (st1 := [.int q11]) (ci := 4) S hf (c_X4_birdIs l G ad μ0 ((μ0 0) (10 + a1).toNatClampNeg) 0 q11 h12) (cwV 2 hts gX4_as_X4_birdIs rfl rfl rfl (by decide +kernel) ⟨Nat.le_of_ble_eq_true rfl, Nat.le_of_ble_eq_true rfl⟩) rfl rfl rfl 0 rfl rfl hl.1 rfl rfl (Nat.le_of_ble_eq_true rfl) ⟨Nat.zero_le _, Nat.zero_le _⟩ dX4_as_45 (fun H locs hf => ?_)
        have hf : Fr G (va_A (wM G ad μ0) s.heap.size) s (wM G ad μ0) H locs := hf
        refine lv_iload_n hx hb dX4_as_48 rfl (lv_at hl 3 rfl) ?_
        obtain ⟨q13, h14, hF⟩ := Option.bind_eq_some_iff.mp hF
        refine g_cs0 (o := some (.int q13)) (As := [.int q11, .int a2]) (rest := []) (st1 := [.int q13]) S hf (c_X4_isUnder l G  q11 a2 q13 h14) (va_cwS 2 hts gX4_as_X4_isUnder rfl rfl rfl (by decide +kernel) ⟨Nat.le_of_ble_eq_true rfl, Nat.le_of_ble_eq_true rfl⟩) rfl hl.1 rfl rfl (Nat.le_of_ble_eq_true rfl) ⟨Nat.zero_le _, Nat.zero_le _⟩ dX4_as_49 (fun H locs hf => ?_)
        refine lv_if_eq (tgt := 59) hx hb dX4_as_52 (by decide) (fun c15 => ?_) (fun c15 => ?_)
        · replace hF := (if_pos c15).symm.trans hF
          refine lv_aload_n hx hb dX4_as_59 rfl (lv_at hl 1 rfl) ?_
          refine lv_ldcw (v := -1000003) hx hb hown (hts _ kc306) dX4_as_60 ?_
          obtain ⟨q16, h17, hF⟩ := Option.bind_eq_some_iff.mp hF
          refine g_cv0 (o := some (.int q16.1)) (As := [.int (-1000003)]) (rest := []) (st1 := [.int q16.1]) (ci := 4) S hf (c_X4_finding l G ad μ0 (-1000003) q16 h17) (cwV 1 hts gX4_as_X4_finding rfl rfl rfl (by decide +kernel) ⟨Nat.le_of_ble_eq_true rfl, Nat.le_of_ble_eq_true rfl⟩) rfl rfl rfl 0 rfl rfl hl.1 rfl rfl (Nat.le_of_ble_eq_true rfl) ⟨Nat.zero_le _, Nat.zero_le _⟩ dX4_as_63 (fun H locs hf => ?_)
          have hf : Fr G (va_A (wM G ad μ0) s.heap.size) s (wM G ad q16.2) H locs := hf
          have hE := Option.some.inj hF
          have hV := congrArg (fun z : Int32 × K2 => z.1) hE
          have hW := congrArg (fun z : Int32 × K2 => wM G ad z.2) hE
          exact g_iret S hr hlocks hf hV hW dX4_as_66
        · replace hF := (if_neg c15).symm.trans hF
          refine lv_iload_n hx hb dX4_as_55 rfl (lv_at hl 0 rfl) ?_
          refine lv_goto (tgt := 66) hx hb dX4_as_56 (by decide) ?_
          have hE := Option.some.inj hF
          have hV := congrArg (fun z : Int32 × K2 => z.1) hE
          have hW := congrArg (fun z : Int32 × K2 => wM G ad z.2) hE
          exact g_iret S hr hlocks hf hV hW dX4_as_66
      · replace hF := (if_neg c10).symm.trans hF
        refine lv_aload_n hx hb dX4_as_35 rfl (lv_at hl 1 rfl) ?_
        refine lv_ldc (v := -1000006) hx hb hown (hts _ kc206) dX4_as_36 ?_
        obtain ⟨q18, h19, hF⟩ := Option.bind_eq_some_iff.mp hF
        refine g_cv0 (o := some (.int q18.1)) (As := [.int (-1000006)]) (rest := []) (st1 := [.int q18.1]) (ci := 4) S hf (c_X4_finding l G ad μ0 (-1000006) q18 h19) (cwV 1 hts gX4_as_X4_finding rfl rfl rfl (by decide +kernel) ⟨Nat.le_of_ble_eq_true rfl, Nat.le_of_ble_eq_true rfl⟩) rfl rfl rfl 0 rfl rfl hl.1 rfl rfl (Nat.le_of_ble_eq_true rfl) ⟨Nat.zero_le _, Nat.zero_le _⟩ dX4_as_38 (fun H locs hf => ?_)
        have hf : Fr G (va_A (wM G ad μ0) s.heap.size) s (wM G ad q18.2) H locs := hf
        have hE := Option.some.inj hF
        have hV := congrArg (fun z : Int32 × K2 => z.1) hE
        have hW := congrArg (fun z : Int32 × K2 => wM G ad z.2) hE
        exact g_iret S hr hlocks hf hV hW dX4_as_41
    · replace hF := (if_pos c8).symm.trans hF
      refine lv_aload_n hx hb dX4_as_14 rfl (lv_at hl 0 rfl) ?_
      refine lv_ldc (v := -1000001) hx hb hown (hts _ kc63) dX4_as_15 ?_
      obtain ⟨q20, h21, hF⟩ := Option.bind_eq_some_iff.mp hF
      refine g_cv0 (o := some (.int q20.1)) (As := [.int (-1000001)]) (rest := []) (st1 := [.int q20.1]) (ci := 4) S hf (c_X4_finding l G ad μ0 (-1000001) q20 h21) (cwV 1 hts gX4_as_X4_finding rfl rfl rfl (by decide +kernel) ⟨Nat.le_of_ble_eq_true rfl, Nat.le_of_ble_eq_true rfl⟩) rfl rfl rfl 0 rfl rfl hl.1 rfl rfl (Nat.le_of_ble_eq_true rfl) ⟨Nat.zero_le _, Nat.zero_le _⟩ dX4_as_17 (fun H locs hf => ?_)
      have hf : Fr G (va_A (wM G ad μ0) s.heap.size) s (wM G ad q20.2) H locs := hf
      have hE := Option.some.inj hF
      have hV := congrArg (fun z : Int32 × K2 => z.1) hE
      have hW := congrArg (fun z : Int32 × K2 => wM G ad z.2) hE
      exact g_iret S hr hlocks hf hV hW dX4_as_20
def f_X4_cutTo (a0 : Int32) (a1 : Int32) : Option (Int32) := if a1 = 8 then (some (a0.toInt8.toInt32)) else (if a1 = 16 then (some (a0.toInt16.toInt32)) else (some (a0)))
set_option maxHeartbeats 4000000 in
set_option maxRecDepth 100000 in
theorem c_X4_cutTo (l : Launch) (G : GT)  (a0 : Int32) (a1 : Int32) (q : Int32) (hF : f_X4_cutTo a0 a1 = some q) : Ct l G yX4_cutTo wsX4_cutTo ({ frames := 0, cells := 0, slots := 0, locals := 0 } : Room) ([.int a0, .int a1] : List Value) (([] : va_W)) (some (.int q)) (([] : va_W)) := by
  refine Ct.of cX4_cutTo 2 (some .int) (by decide) rfl (Nat.le_of_ble_eq_true rfl) ?_
  intro p e s m below meth c ls S hr hlocks hf hl
  have S : CallFix p m c cX4_cutTo 2 s ([.int a0, .int a1] : List Value).toArray wsX4_cutTo RX4 := S
  obtain ⟨hx, hb, hml, hown, hts⟩ := id S
  have hl : lv_has ls 2 [(0, .int a0), (1, .int a1)] := hl
  unfold f_X4_cutTo at hF
  refine lv_iload_n hx hb dX4_cutTo_0 rfl (lv_at hl 1 rfl) ?_
  refine lv_bipush (v := 8) hx hb dX4_cutTo_1 (by decide) ?_
  refine lv_icmp_ne (tgt := 11) hx hb dX4_cutTo_3 (by decide) (fun c1 => ?_) (fun c1 => ?_)
  · replace hF := (if_neg c1).symm.trans hF
    refine lv_iload_n hx hb dX4_cutTo_11 rfl (lv_at hl 1 rfl) ?_
    refine lv_bipush (v := 16) hx hb dX4_cutTo_12 (by decide) ?_
    refine lv_icmp_ne (tgt := 22) hx hb dX4_cutTo_14 (by decide) (fun c2 => ?_) (fun c2 => ?_)
    · replace hF := (if_neg c2).symm.trans hF
      refine lv_iload_n hx hb dX4_cutTo_22 rfl (lv_at hl 0 rfl) ?_
      have hE := Option.some.inj hF
      have hV := congrArg (fun z : Int32 => z) hE
      exact g_iret S hr hlocks hf hV rfl dX4_cutTo_23
    · replace hF := (if_pos c2).symm.trans hF
      refine lv_iload_n hx hb dX4_cutTo_17 rfl (lv_at hl 0 rfl) ?_
      refine lv_i2s (v := a0.toInt16.toInt32) hx hb dX4_cutTo_18 rfl ?_
      refine lv_goto (tgt := 23) hx hb dX4_cutTo_19 (by decide) ?_
      have hE := Option.some.inj hF
      have hV := congrArg (fun z : Int32 => z) hE
      exact g_iret S hr hlocks hf hV rfl dX4_cutTo_23
  · replace hF := (if_pos c1).symm.trans hF
    refine lv_iload_n hx hb dX4_cutTo_6 rfl (lv_at hl 0 rfl) ?_
    refine lv_i2b (v := a0.toInt8.toInt32) hx hb dX4_cutTo_7 rfl ?_
    refine lv_goto (tgt := 23) hx hb dX4_cutTo_8 (by decide) ?_
    have hE := Option.some.inj hF
    have hV := congrArg (fun z : Int32 => z) hE
    exact g_iret S hr hlocks hf hV rfl dX4_cutTo_23
def f_X4_sheet_B112 (μ : K2) (x1 : Int32) : Option (Int32 × K2) := if ix x1 4 then (some ((μ 8) x1.toNatClampNeg, μ)) else none
def f_X4_sheet_L86 : Nat → K2 → Int32 → Int32 → Option (Int32 × K2)
  | 0, _, _, _ => none
  | n + 1, μ, x1, x4 => if 40 ≤ x4 then (f_X4_sheet_B112 μ x1) else (if ix ((40 * x1) + x4) 160 then (f_X4_sheet_L86 n (va_up μ 9 (upd (μ 9) (((40 * x1) + x4).toNatClampNeg) 0)) x1 (x4 + 1)) else none)
def f_X4_sheet (μ0 : K2) (a1 : Int32) (a2 : Int32) (a3 : Int32) : Option (Int32 × K2) := Option.bind (f_X4_isSheet a1) (fun q1 => if q1 = 0 then (Option.bind (f_X4_finding μ0 (-1000001)) (fun q4 => some (q4.1, q4.2))) else (if a2 = 0 then (if 0 ≤ a3 then (if a3 ≤ 40 then (if ix a1 4 then (if a2 = 0 then (f_X4_sheet_L86 1000 (va_up (va_up μ0 7 (upd (μ0 7) a1.toNatClampNeg a2)) 8 (upd (μ0 8) a1.toNatClampNeg 0)) a1 0) else (f_X4_sheet_L86 1000 (va_up (va_up μ0 7 (upd (μ0 7) a1.toNatClampNeg a2)) 8 (upd (μ0 8) a1.toNatClampNeg a3)) a1 0)) else none) else (Option.bind (f_X4_finding μ0 (-1000001)) (fun q14 => some (q14.1, q14.2)))) else (Option.bind (f_X4_finding μ0 (-1000007)) (fun q16 => some (q16.1, q16.2)))) else (if a2 = 8 then (if 0 ≤ a3 then (if a3 ≤ 40 then (if ix a1 4 then (if a2 = 0 then (f_X4_sheet_L86 1000 (va_up (va_up μ0 7 (upd (μ0 7) a1.toNatClampNeg a2)) 8 (upd (μ0 8) a1.toNatClampNeg 0)) a1 0) else (f_X4_sheet_L86 1000 (va_up (va_up μ0 7 (upd (μ0 7) a1.toNatClampNeg a2)) 8 (upd (μ0 8) a1.toNatClampNeg a3)) a1 0)) else none) else (Option.bind (f_X4_finding μ0 (-1000001)) (fun q23 => some (q23.1, q23.2)))) else (Option.bind (f_X4_finding μ0 (-1000007)) (fun q25 => some (q25.1, q25.2)))) else (if a2 = 16 then (if 0 ≤ a3 then (if a3 ≤ 40 then (if ix a1 4 then (if a2 = 0 then (f_X4_sheet_L86 1000 (va_up (va_up μ0 7 (upd (μ0 7) a1.toNatClampNeg a2)) 8 (upd (μ0 8) a1.toNatClampNeg 0)) a1 0) else (f_X4_sheet_L86 1000 (va_up (va_up μ0 7 (upd (μ0 7) a1.toNatClampNeg a2)) 8 (upd (μ0 8) a1.toNatClampNeg a3)) a1 0)) else none) else (Option.bind (f_X4_finding μ0 (-1000001)) (fun q32 => some (q32.1, q32.2)))) else (Option.bind (f_X4_finding μ0 (-1000007)) (fun q34 => some (q34.1, q34.2)))) else (if a2 = 32 then (if 0 ≤ a3 then (if a3 ≤ 40 then (if ix a1 4 then (if a2 = 0 then (f_X4_sheet_L86 1000 (va_up (va_up μ0 7 (upd (μ0 7) a1.toNatClampNeg a2)) 8 (upd (μ0 8) a1.toNatClampNeg 0)) a1 0) else (f_X4_sheet_L86 1000 (va_up (va_up μ0 7 (upd (μ0 7) a1.toNatClampNeg a2)) 8 (upd (μ0 8) a1.toNatClampNeg a3)) a1 0)) else none) else (Option.bind (f_X4_finding μ0 (-1000001)) (fun q41 => some (q41.1, q41.2)))) else (Option.bind (f_X4_finding μ0 (-1000007)) (fun q43 => some (q43.1, q43.2)))) else (Option.bind (f_X4_finding μ0 (-1000001)) (fun q45 => some (q45.1, q45.2))))))))
set_option maxHeartbeats 4000000 in
set_option maxRecDepth 100000 in
theorem c_X4_sheet (l : Launch) (G : GT) (ad : Nat → Nat) (μ0 : K2) (a1 : Int32) (a2 : Int32) (a3 : Int32) (q : Int32 × K2) (hF : f_X4_sheet μ0 a1 a2 a3 = some q) : Ct l G yX4_sheet wsX4_sheet ({ frames := 2, cells := 0, slots := 0, locals := 42 } : Room) ([.ref (ad 0), .int a1, .int a2, .int a3] : List Value) (wM G ad μ0) (some (.int q.1)) (wM G ad q.2) := by
  have kc63 : Cond.constant RX4 63 (-1000001) ∈ wsX4_sheet := by decide +kernel
  have k51 : Cond.fieldLink RX4 51 "PigeonRollsModel" "widths" "[I" ∈ wsX4_sheet := by decide +kernel
  have k54 : Cond.fieldLink RX4 54 "PigeonRollsModel" "sizes" "[I" ∈ wsX4_sheet := by decide +kernel
  have k57 : Cond.fieldLink RX4 57 "PigeonRollsModel" "numbers" "[I" ∈ wsX4_sheet := by decide +kernel
  have kc307 : Cond.constant RX4 307 (-1000007) ∈ wsX4_sheet := by decide +kernel
  have hinX4 : ∀ w ∈ u_ws RX4 TX4 21, w ∈ wsX4_sheet := by decide +kernel
  refine Ct.of cX4_sheet 5 (some .int) (by decide) rfl (Nat.le_of_ble_eq_true rfl) ?_
  intro p e s m below meth c ls S hr hlocks hf hl
  have S : CallFix p m c cX4_sheet 5 s ([.ref (ad 0), .int a1, .int a2, .int a3] : List Value).toArray wsX4_sheet RX4 := S
  obtain ⟨hx, hb, hml, hown, hts⟩ := id S
  have hl : lv_has ls 5 [(0, .ref (ad 0)), (1, .int a1), (2, .int a2), (3, .int a3)] := hl
  have hL112 : ∀ (μ : K2) (x1 : Int32)  (H : Heap) (locs : List Loc) (ls : Array Slot), f_X4_sheet_B112 μ x1 = some q → Fr G (va_A (wM G ad μ0) s.heap.size) s (wM G ad μ) H locs → lv_has ls 5 [(0, .ref (ad 0)), (1, .int x1)] → W p l e ({ frames := 2, cells := 0, slots := 0, locals := 42 } : Room) s m ([.ref (ad 0), .int a1, .int a2, .int a3] : List Value).toArray below meth c H locs 0 0 (MQ below (CPost G (wM G ad μ0) s.heap.size (some (.int q.1)) (wM G ad q.2)) ([.ref (ad 0), .int a1, .int a2, .int a3] : List Value).toArray s 0 0 (va_A (wM G ad μ0) s.heap.size)) (F0 m 112 ls []) := by
    intro μ x1 H locs ls hF hf hl
    unfold f_X4_sheet_B112 at hF
    refine lv_aload_n hx hb dX4_sheet_112 rfl (lv_at hl 0 rfl) ?_
    refine g_get (ci := 4) (C := RX4) (T := TX4) (N := 21) (v := .ref (ad 9)) S hf hinX4 0 rfl rfl 18 (by decide) k54 rfl rfl dX4_sheet_113 ?_
    refine lv_iload_n hx hb dX4_sheet_116 rfl (lv_at hl 1 rfl) ?_
    obtain ⟨g12, hF⟩ := gd_some hF
    refine g_ald (v := (μ 8) x1.toNatClampNeg) S hf 9 rfl g12 rfl dX4_sheet_117 ?_
    have hE := Option.some.inj hF
    have hV := congrArg (fun z : Int32 × K2 => z.1) hE
    have hW := congrArg (fun z : Int32 × K2 => wM G ad z.2) hE
    exact g_iret S hr hlocks hf hV hW dX4_sheet_118
  have hL86 : ∀ (n : Nat) (μ : K2) (x1 : Int32) (x4 : Int32)  (H : Heap) (locs : List Loc) (ls : Array Slot), f_X4_sheet_L86 n μ x1 x4 = some q → Fr G (va_A (wM G ad μ0) s.heap.size) s (wM G ad μ) H locs → lv_has ls 5 [(0, .ref (ad 0)), (1, .int x1), (4, .int x4)] → W p l e ({ frames := 2, cells := 0, slots := 0, locals := 42 } : Room) s m ([.ref (ad 0), .int a1, .int a2, .int a3] : List Value).toArray below meth c H locs 0 0 (MQ below (CPost G (wM G ad μ0) s.heap.size (some (.int q.1)) (wM G ad q.2)) ([.ref (ad 0), .int a1, .int a2, .int a3] : List Value).toArray s 0 0 (va_A (wM G ad μ0) s.heap.size)) (F0 m 86 ls []) := by
    intro n
    induction n with
    | zero =>
      intro μ x1 x4 H locs ls hF hf hl
      exact absurd hF (by simp [f_X4_sheet_L86])
    | succ n ih86 =>
      intro μ x1 x4 H locs ls hF hf hl
      rw [f_X4_sheet_L86] at hF
      refine lv_iload hx hb dX4_sheet_86 (lv_at hl 2 rfl) ?_
      refine lv_bipush (v := 40) hx hb dX4_sheet_88 (by decide) ?_
      refine lv_icmp_ge (tgt := 112) hx hb dX4_sheet_90 (by decide) (fun c11 => ?_) (fun c11 => ?_)
      · replace hF := (if_pos c11).symm.trans hF
        exact hL112 μ x1 _ _ _ hF hf (lv_sub hl [0, 1] rfl)
      · replace hF := (if_neg c11).symm.trans hF
        refine lv_aload_n hx hb dX4_sheet_93 rfl (lv_at hl 0 rfl) ?_
        refine g_get (ci := 4) (C := RX4) (T := TX4) (N := 21) (v := .ref (ad 10)) S hf hinX4 0 rfl rfl 19 (by decide) k57 rfl rfl dX4_sheet_94 ?_
        refine lv_bipush (v := 40) hx hb dX4_sheet_97 (by decide) ?_
        refine lv_iload_n hx hb dX4_sheet_99 rfl (lv_at hl 1 rfl) ?_
        refine lv_imul hx hb dX4_sheet_100 ?_
        refine lv_iload hx hb dX4_sheet_101 (lv_at hl 2 rfl) ?_
        refine lv_iadd hx hb dX4_sheet_103 ?_
        refine lv_iconst (v := 0) hx hb dX4_sheet_104 (by decide) ?_
        obtain ⟨g13, hF⟩ := gd_some hF
        refine g_ast (ww' := wM G ad (va_up μ 9 (upd (μ 9) (((40 * x1) + x4).toNatClampNeg) 0))) S hf 10 rfl g13 rfl dX4_sheet_105 (fun H locs hf => ?_)
        refine lv_iinc (v := x4 + 1) (lv' := [(4, .int (x4 + 1)), (0, .ref (ad 0)), (1, .int x1)]) hx hb dX4_sheet_106 hl (k := 2) rfl rfl (by decide) rfl (fun ls hl => ?_)
        refine lv_goto (tgt := 86) hx hb dX4_sheet_109 (by decide) ?_
        exact ih86 (va_up μ 9 (upd (μ 9) (((40 * x1) + x4).toNatClampNeg) 0)) x1 (x4 + 1) _ _ _ hF hf (lv_sub hl [1, 2, 0] rfl)
  unfold f_X4_sheet at hF
  refine lv_iload_n hx hb dX4_sheet_0 rfl (lv_at hl 1 rfl) ?_
  obtain ⟨q1, h2, hF⟩ := Option.bind_eq_some_iff.mp hF
  refine g_cs0 (o := some (.int q1)) (As := [.int a1]) (rest := []) (st1 := [.int q1]) S hf (c_X4_isSheet l G  a1 q1 h2) (va_cwS 1 hts gX4_sheet_X4_isSheet rfl rfl rfl (by decide +kernel) ⟨Nat.le_of_ble_eq_true rfl, Nat.le_of_ble_eq_true rfl⟩) rfl hl.1 rfl rfl (Nat.le_of_ble_eq_true rfl) ⟨Nat.zero_le _, Nat.zero_le _⟩ dX4_sheet_1 (fun H locs hf => ?_)
  refine lv_if_eq (tgt := 29) hx hb dX4_sheet_4 (by decide) (fun c3 => ?_) (fun c3 => ?_)
  · replace hF := (if_pos c3).symm.trans hF
    refine lv_aload_n hx hb dX4_sheet_29 rfl (lv_at hl 0 rfl) ?_
    refine lv_ldc (v := -1000001) hx hb hown (hts _ kc63) dX4_sheet_30 ?_
    obtain ⟨q4, h5, hF⟩ := Option.bind_eq_some_iff.mp hF
    refine g_cv0 (o := some (.int q4.1)) (As := [.int (-1000001)]) (rest := []) (st1 := [.int q4.1]) (ci := 4) S hf (c_X4_finding l G ad μ0 (-1000001) q4 h5) (cwV 1 hts gX4_sheet_X4_finding rfl rfl rfl (by decide +kernel) ⟨Nat.le_of_ble_eq_true rfl, Nat.le_of_ble_eq_true rfl⟩) rfl rfl rfl 0 rfl rfl hl.1 rfl rfl (Nat.le_of_ble_eq_true rfl) ⟨Nat.zero_le _, Nat.zero_le _⟩ dX4_sheet_32 (fun H locs hf => ?_)
    have hf : Fr G (va_A (wM G ad μ0) s.heap.size) s (wM G ad q4.2) H locs := hf
    have hE := Option.some.inj hF
    have hV := congrArg (fun z : Int32 × K2 => z.1) hE
    have hW := congrArg (fun z : Int32 × K2 => wM G ad z.2) hE
    exact g_iret S hr hlocks hf hV hW dX4_sheet_35
  · replace hF := (if_neg c3).symm.trans hF
    refine lv_iload_n hx hb dX4_sheet_7 rfl (lv_at hl 2 rfl) ?_
    refine lv_if_eq (tgt := 36) hx hb dX4_sheet_8 (by decide) (fun c6 => ?_) (fun c6 => ?_)
    · replace hF := (if_pos c6).symm.trans hF
      refine lv_iload_n hx hb dX4_sheet_36 rfl (lv_at hl 3 rfl) ?_
      refine lv_if_ge (tgt := 48) hx hb dX4_sheet_37 (by decide) (fun c7 => ?_) (fun c7 => ?_)
      · replace hF := (if_pos c7).symm.trans hF
        refine lv_iload_n hx hb dX4_sheet_48 rfl (lv_at hl 3 rfl) ?_
        refine lv_bipush (v := 40) hx hb dX4_sheet_49 (by decide) ?_
        refine lv_icmp_le (tgt := 61) hx hb dX4_sheet_51 (by decide) (fun c8 => ?_) (fun c8 => ?_)
        · replace hF := (if_pos c8).symm.trans hF
          refine lv_aload_n hx hb dX4_sheet_61 rfl (lv_at hl 0 rfl) ?_
          refine g_get (ci := 4) (C := RX4) (T := TX4) (N := 21) (v := .ref (ad 8)) S hf hinX4 0 rfl rfl 17 (by decide) k51 rfl rfl dX4_sheet_62 ?_
          refine lv_iload_n hx hb dX4_sheet_65 rfl (lv_at hl 1 rfl) ?_
          refine lv_iload_n hx hb dX4_sheet_66 rfl (lv_at hl 2 rfl) ?_
          obtain ⟨g9, hF⟩ := gd_some hF
          refine g_ast (ww' := wM G ad (va_up μ0 7 (upd (μ0 7) a1.toNatClampNeg a2))) S hf 8 rfl g9 rfl dX4_sheet_67 (fun H locs hf => ?_)
          refine lv_aload_n hx hb dX4_sheet_68 rfl (lv_at hl 0 rfl) ?_
          refine g_get (ci := 4) (C := RX4) (T := TX4) (N := 21) (v := .ref (ad 9)) S hf hinX4 0 rfl rfl 18 (by decide) k54 rfl rfl dX4_sheet_69 ?_
          refine lv_iload_n hx hb dX4_sheet_72 rfl (lv_at hl 1 rfl) ?_
          refine lv_iload_n hx hb dX4_sheet_73 rfl (lv_at hl 2 rfl) ?_
          refine lv_if_ne (tgt := 81) hx hb dX4_sheet_74 (by decide) (fun c10 => ?_) (fun c10 => ?_)
          · replace hF := (if_neg c10).symm.trans hF
            refine lv_iload_n hx hb dX4_sheet_81 rfl (lv_at hl 3 rfl) ?_
            refine g_ast (ww' := wM G ad (va_up (va_up μ0 7 (upd (μ0 7) a1.toNatClampNeg a2)) 8 (upd (μ0 8) a1.toNatClampNeg a3))) S hf 9 rfl g9 rfl dX4_sheet_82 (fun H locs hf => ?_)
            refine lv_iconst (v := 0) hx hb dX4_sheet_83 (by decide) ?_
            refine lv_istore (lv' := [(4, .int 0), (0, .ref (ad 0)), (1, .int a1), (2, .int a2), (3, .int a3)]) hx hb dX4_sheet_84 hl (by decide) rfl (fun ls hl => ?_)
            exact hL86 1000 (va_up (va_up μ0 7 (upd (μ0 7) a1.toNatClampNeg a2)) 8 (upd (μ0 8) a1.toNatClampNeg a3)) a1 0 _ _ _ hF hf (lv_sub hl [1, 2, 0] rfl)
          · replace hF := (if_pos c10).symm.trans hF
            refine lv_iconst (v := 0) hx hb dX4_sheet_77 (by decide) ?_
            refine lv_goto (tgt := 82) hx hb dX4_sheet_78 (by decide) ?_
            refine g_ast (ww' := wM G ad (va_up (va_up μ0 7 (upd (μ0 7) a1.toNatClampNeg a2)) 8 (upd (μ0 8) a1.toNatClampNeg 0))) S hf 9 rfl g9 rfl dX4_sheet_82 (fun H locs hf => ?_)
            refine lv_iconst (v := 0) hx hb dX4_sheet_83 (by decide) ?_
            refine lv_istore (lv' := [(4, .int 0), (0, .ref (ad 0)), (1, .int a1), (2, .int a2), (3, .int a3)]) hx hb dX4_sheet_84 hl (by decide) rfl (fun ls hl => ?_)
            exact hL86 1000 (va_up (va_up μ0 7 (upd (μ0 7) a1.toNatClampNeg a2)) 8 (upd (μ0 8) a1.toNatClampNeg 0)) a1 0 _ _ _ hF hf (lv_sub hl [1, 2, 0] rfl)
        · replace hF := (if_neg c8).symm.trans hF
          refine lv_aload_n hx hb dX4_sheet_54 rfl (lv_at hl 0 rfl) ?_
          refine lv_ldc (v := -1000001) hx hb hown (hts _ kc63) dX4_sheet_55 ?_
          obtain ⟨q14, h15, hF⟩ := Option.bind_eq_some_iff.mp hF
          refine g_cv0 (o := some (.int q14.1)) (As := [.int (-1000001)]) (rest := []) (st1 := [.int q14.1]) (ci := 4) S hf (c_X4_finding l G ad μ0 (-1000001) q14 h15) (cwV 1 hts gX4_sheet_X4_finding rfl rfl rfl (by decide +kernel) ⟨Nat.le_of_ble_eq_true rfl, Nat.le_of_ble_eq_true rfl⟩) rfl rfl rfl 0 rfl rfl hl.1 rfl rfl (Nat.le_of_ble_eq_true rfl) ⟨Nat.zero_le _, Nat.zero_le _⟩ dX4_sheet_57 (fun H locs hf => ?_)
          have hf : Fr G (va_A (wM G ad μ0) s.heap.size) s (wM G ad q14.2) H locs := hf
          have hE := Option.some.inj hF
          have hV := congrArg (fun z : Int32 × K2 => z.1) hE
          have hW := congrArg (fun z : Int32 × K2 => wM G ad z.2) hE
          exact g_iret S hr hlocks hf hV hW dX4_sheet_60
      · replace hF := (if_neg c7).symm.trans hF
        refine lv_aload_n hx hb dX4_sheet_40 rfl (lv_at hl 0 rfl) ?_
        refine lv_ldcw (v := -1000007) hx hb hown (hts _ kc307) dX4_sheet_41 ?_
        obtain ⟨q16, h17, hF⟩ := Option.bind_eq_some_iff.mp hF
        refine g_cv0 (o := some (.int q16.1)) (As := [.int (-1000007)]) (rest := []) (st1 := [.int q16.1]) (ci := 4) S hf (c_X4_finding l G ad μ0 (-1000007) q16 h17) (cwV 1 hts gX4_sheet_X4_finding rfl rfl rfl (by decide +kernel) ⟨Nat.le_of_ble_eq_true rfl, Nat.le_of_ble_eq_true rfl⟩) rfl rfl rfl 0 rfl rfl hl.1 rfl rfl (Nat.le_of_ble_eq_true rfl) ⟨Nat.zero_le _, Nat.zero_le _⟩ dX4_sheet_44 (fun H locs hf => ?_)
        have hf : Fr G (va_A (wM G ad μ0) s.heap.size) s (wM G ad q16.2) H locs := hf
        have hE := Option.some.inj hF
        have hV := congrArg (fun z : Int32 × K2 => z.1) hE
        have hW := congrArg (fun z : Int32 × K2 => wM G ad z.2) hE
        exact g_iret S hr hlocks hf hV hW dX4_sheet_47
    · replace hF := (if_neg c6).symm.trans hF
      refine lv_iload_n hx hb dX4_sheet_11 rfl (lv_at hl 2 rfl) ?_
      refine lv_bipush (v := 8) hx hb dX4_sheet_12 (by decide) ?_
      refine lv_icmp_eq (tgt := 36) hx hb dX4_sheet_14 (by decide) (fun c18 => ?_) (fun c18 => ?_)
      · replace hF := (if_pos c18).symm.trans hF
        refine lv_iload_n hx hb dX4_sheet_36 rfl (lv_at hl 3 rfl) ?_
        refine lv_if_ge (tgt := 48) hx hb dX4_sheet_37 (by decide) (fun c19 => ?_) (fun c19 => ?_)
        · replace hF := (if_pos c19).symm.trans hF
          refine lv_iload_n hx hb dX4_sheet_48 rfl (lv_at hl 3 rfl) ?_
          refine lv_bipush (v := 40) hx hb dX4_sheet_49 (by decide) ?_
          refine lv_icmp_le (tgt := 61) hx hb dX4_sheet_51 (by decide) (fun c20 => ?_) (fun c20 => ?_)
          · replace hF := (if_pos c20).symm.trans hF
            refine lv_aload_n hx hb dX4_sheet_61 rfl (lv_at hl 0 rfl) ?_
            refine g_get (ci := 4) (C := RX4) (T := TX4) (N := 21) (v := .ref (ad 8)) S hf hinX4 0 rfl rfl 17 (by decide) k51 rfl rfl dX4_sheet_62 ?_
            refine lv_iload_n hx hb dX4_sheet_65 rfl (lv_at hl 1 rfl) ?_
            refine lv_iload_n hx hb dX4_sheet_66 rfl (lv_at hl 2 rfl) ?_
            obtain ⟨g21, hF⟩ := gd_some hF
            refine g_ast (ww' := wM G ad (va_up μ0 7 (upd (μ0 7) a1.toNatClampNeg a2))) S hf 8 rfl g21 rfl dX4_sheet_67 (fun H locs hf => ?_)
            refine lv_aload_n hx hb dX4_sheet_68 rfl (lv_at hl 0 rfl) ?_
            refine g_get (ci := 4) (C := RX4) (T := TX4) (N := 21) (v := .ref (ad 9)) S hf hinX4 0 rfl rfl 18 (by decide) k54 rfl rfl dX4_sheet_69 ?_
            refine lv_iload_n hx hb dX4_sheet_72 rfl (lv_at hl 1 rfl) ?_
            refine lv_iload_n hx hb dX4_sheet_73 rfl (lv_at hl 2 rfl) ?_
            refine lv_if_ne (tgt := 81) hx hb dX4_sheet_74 (by decide) (fun c22 => ?_) (fun c22 => ?_)
            · replace hF := (if_neg c22).symm.trans hF
              refine lv_iload_n hx hb dX4_sheet_81 rfl (lv_at hl 3 rfl) ?_
              refine g_ast (ww' := wM G ad (va_up (va_up μ0 7 (upd (μ0 7) a1.toNatClampNeg a2)) 8 (upd (μ0 8) a1.toNatClampNeg a3))) S hf 9 rfl g21 rfl dX4_sheet_82 (fun H locs hf => ?_)
              refine lv_iconst (v := 0) hx hb dX4_sheet_83 (by decide) ?_
              refine lv_istore (lv' := [(4, .int 0), (0, .ref (ad 0)), (1, .int a1), (2, .int a2), (3, .int a3)]) hx hb dX4_sheet_84 hl (by decide) rfl (fun ls hl => ?_)
              exact hL86 1000 (va_up (va_up μ0 7 (upd (μ0 7) a1.toNatClampNeg a2)) 8 (upd (μ0 8) a1.toNatClampNeg a3)) a1 0 _ _ _ hF hf (lv_sub hl [1, 2, 0] rfl)
            · replace hF := (if_pos c22).symm.trans hF
              refine lv_iconst (v := 0) hx hb dX4_sheet_77 (by decide) ?_
              refine lv_goto (tgt := 82) hx hb dX4_sheet_78 (by decide) ?_
              refine g_ast (ww' := wM G ad (va_up (va_up μ0 7 (upd (μ0 7) a1.toNatClampNeg a2)) 8 (upd (μ0 8) a1.toNatClampNeg 0))) S hf 9 rfl g21 rfl dX4_sheet_82 (fun H locs hf => ?_)
              refine lv_iconst (v := 0) hx hb dX4_sheet_83 (by decide) ?_
              refine lv_istore (lv' := [(4, .int 0), (0, .ref (ad 0)), (1, .int a1), (2, .int a2), (3, .int a3)]) hx hb dX4_sheet_84 hl (by decide) rfl (fun ls hl => ?_)
              exact hL86 1000 (va_up (va_up μ0 7 (upd (μ0 7) a1.toNatClampNeg a2)) 8 (upd (μ0 8) a1.toNatClampNeg 0)) a1 0 _ _ _ hF hf (lv_sub hl [1, 2, 0] rfl)
          · replace hF := (if_neg c20).symm.trans hF
            refine lv_aload_n hx hb dX4_sheet_54 rfl (lv_at hl 0 rfl) ?_
            refine lv_ldc (v := -1000001) hx hb hown (hts _ kc63) dX4_sheet_55 ?_
            obtain ⟨q23, h24, hF⟩ := Option.bind_eq_some_iff.mp hF
            refine g_cv0 (o := some (.int q23.1)) (As := [.int (-1000001)]) (rest := []) (st1 := [.int q23.1]) (ci := 4) S hf (c_X4_finding l G ad μ0 (-1000001) q23 h24) (cwV 1 hts gX4_sheet_X4_finding rfl rfl rfl (by decide +kernel) ⟨Nat.le_of_ble_eq_true rfl, Nat.le_of_ble_eq_true rfl⟩) rfl rfl rfl 0 rfl rfl hl.1 rfl rfl (Nat.le_of_ble_eq_true rfl) ⟨Nat.zero_le _, Nat.zero_le _⟩ dX4_sheet_57 (fun H locs hf => ?_)
            have hf : Fr G (va_A (wM G ad μ0) s.heap.size) s (wM G ad q23.2) H locs := hf
            have hE := Option.some.inj hF
            have hV := congrArg (fun z : Int32 × K2 => z.1) hE
            have hW := congrArg (fun z : Int32 × K2 => wM G ad z.2) hE
            exact g_iret S hr hlocks hf hV hW dX4_sheet_60
        · replace hF := (if_neg c19).symm.trans hF
          refine lv_aload_n hx hb dX4_sheet_40 rfl (lv_at hl 0 rfl) ?_
          refine lv_ldcw (v := -1000007) hx hb hown (hts _ kc307) dX4_sheet_41 ?_
          obtain ⟨q25, h26, hF⟩ := Option.bind_eq_some_iff.mp hF
          refine g_cv0 (o := some (.int q25.1)) (As := [.int (-1000007)]) (rest := []) (st1 := [.int q25.1]) (ci := 4) S hf (c_X4_finding l G ad μ0 (-1000007) q25 h26) (cwV 1 hts gX4_sheet_X4_finding rfl rfl rfl (by decide +kernel) ⟨Nat.le_of_ble_eq_true rfl, Nat.le_of_ble_eq_true rfl⟩) rfl rfl rfl 0 rfl rfl hl.1 rfl rfl (Nat.le_of_ble_eq_true rfl) ⟨Nat.zero_le _, Nat.zero_le _⟩ dX4_sheet_44 (fun H locs hf => ?_)
          have hf : Fr G (va_A (wM G ad μ0) s.heap.size) s (wM G ad q25.2) H locs := hf
          have hE := Option.some.inj hF
          have hV := congrArg (fun z : Int32 × K2 => z.1) hE
          have hW := congrArg (fun z : Int32 × K2 => wM G ad z.2) hE
          exact g_iret S hr hlocks hf hV hW dX4_sheet_47
      · replace hF := (if_neg c18).symm.trans hF
        refine lv_iload_n hx hb dX4_sheet_17 rfl (lv_at hl 2 rfl) ?_
        refine lv_bipush (v := 16) hx hb dX4_sheet_18 (by decide) ?_
        refine lv_icmp_eq (tgt := 36) hx hb dX4_sheet_20 (by decide) (fun c27 => ?_) (fun c27 => ?_)
        · replace hF := (if_pos c27).symm.trans hF
          refine lv_iload_n hx hb dX4_sheet_36 rfl (lv_at hl 3 rfl) ?_
          refine lv_if_ge (tgt := 48) hx hb dX4_sheet_37 (by decide) (fun c28 => ?_) (fun c28 => ?_)
          · replace hF := (if_pos c28).symm.trans hF
            refine lv_iload_n hx hb dX4_sheet_48 rfl (lv_at hl 3 rfl) ?_
            refine lv_bipush (v := 40) hx hb dX4_sheet_49 (by decide) ?_
            refine lv_icmp_le (tgt := 61) hx hb dX4_sheet_51 (by decide) (fun c29 => ?_) (fun c29 => ?_)
            · replace hF := (if_pos c29).symm.trans hF
              refine lv_aload_n hx hb dX4_sheet_61 rfl (lv_at hl 0 rfl) ?_
              refine g_get (ci := 4) (C := RX4) (T := TX4) (N := 21) (v := .ref (ad 8)) S hf hinX4 0 rfl rfl 17 (by decide) k51 rfl rfl dX4_sheet_62 ?_
              refine lv_iload_n hx hb dX4_sheet_65 rfl (lv_at hl 1 rfl) ?_
              refine lv_iload_n hx hb dX4_sheet_66 rfl (lv_at hl 2 rfl) ?_
              obtain ⟨g30, hF⟩ := gd_some hF
              refine g_ast (ww' := wM G ad (va_up μ0 7 (upd (μ0 7) a1.toNatClampNeg a2))) S hf 8 rfl g30 rfl dX4_sheet_67 (fun H locs hf => ?_)
              refine lv_aload_n hx hb dX4_sheet_68 rfl (lv_at hl 0 rfl) ?_
              refine g_get (ci := 4) (C := RX4) (T := TX4) (N := 21) (v := .ref (ad 9)) S hf hinX4 0 rfl rfl 18 (by decide) k54 rfl rfl dX4_sheet_69 ?_
              refine lv_iload_n hx hb dX4_sheet_72 rfl (lv_at hl 1 rfl) ?_
              refine lv_iload_n hx hb dX4_sheet_73 rfl (lv_at hl 2 rfl) ?_
              refine lv_if_ne (tgt := 81) hx hb dX4_sheet_74 (by decide) (fun c31 => ?_) (fun c31 => ?_)
              · replace hF := (if_neg c31).symm.trans hF
                refine lv_iload_n hx hb dX4_sheet_81 rfl (lv_at hl 3 rfl) ?_
                refine g_ast (ww' := wM G ad (va_up (va_up μ0 7 (upd (μ0 7) a1.toNatClampNeg a2)) 8 (upd (μ0 8) a1.toNatClampNeg a3))) S hf 9 rfl g30 rfl dX4_sheet_82 (fun H locs hf => ?_)
                refine lv_iconst (v := 0) hx hb dX4_sheet_83 (by decide) ?_
                refine lv_istore (lv' := [(4, .int 0), (0, .ref (ad 0)), (1, .int a1), (2, .int a2), (3, .int a3)]) hx hb dX4_sheet_84 hl (by decide) rfl (fun ls hl => ?_)
                exact hL86 1000 (va_up (va_up μ0 7 (upd (μ0 7) a1.toNatClampNeg a2)) 8 (upd (μ0 8) a1.toNatClampNeg a3)) a1 0 _ _ _ hF hf (lv_sub hl [1, 2, 0] rfl)
              · replace hF := (if_pos c31).symm.trans hF
                refine lv_iconst (v := 0) hx hb dX4_sheet_77 (by decide) ?_
                refine lv_goto (tgt := 82) hx hb dX4_sheet_78 (by decide) ?_
                refine g_ast (ww' := wM G ad (va_up (va_up μ0 7 (upd (μ0 7) a1.toNatClampNeg a2)) 8 (upd (μ0 8) a1.toNatClampNeg 0))) S hf 9 rfl g30 rfl dX4_sheet_82 (fun H locs hf => ?_)
                refine lv_iconst (v := 0) hx hb dX4_sheet_83 (by decide) ?_
                refine lv_istore (lv' := [(4, .int 0), (0, .ref (ad 0)), (1, .int a1), (2, .int a2), (3, .int a3)]) hx hb dX4_sheet_84 hl (by decide) rfl (fun ls hl => ?_)
                exact hL86 1000 (va_up (va_up μ0 7 (upd (μ0 7) a1.toNatClampNeg a2)) 8 (upd (μ0 8) a1.toNatClampNeg 0)) a1 0 _ _ _ hF hf (lv_sub hl [1, 2, 0] rfl)
            · replace hF := (if_neg c29).symm.trans hF
              refine lv_aload_n hx hb dX4_sheet_54 rfl (lv_at hl 0 rfl) ?_
              refine lv_ldc (v := -1000001) hx hb hown (hts _ kc63) dX4_sheet_55 ?_
              obtain ⟨q32, h33, hF⟩ := Option.bind_eq_some_iff.mp hF
              refine g_cv0 (o := some (.int q32.1)) (As := [.int (-1000001)]) (rest := []) (st1 := [.int q32.1]) (ci := 4) S hf (c_X4_finding l G ad μ0 (-1000001) q32 h33) (cwV 1 hts gX4_sheet_X4_finding rfl rfl rfl (by decide +kernel) ⟨Nat.le_of_ble_eq_true rfl, Nat.le_of_ble_eq_true rfl⟩) rfl rfl rfl 0 rfl rfl hl.1 rfl rfl (Nat.le_of_ble_eq_true rfl) ⟨Nat.zero_le _, Nat.zero_le _⟩ dX4_sheet_57 (fun H locs hf => ?_)
              have hf : Fr G (va_A (wM G ad μ0) s.heap.size) s (wM G ad q32.2) H locs := hf
              have hE := Option.some.inj hF
              have hV := congrArg (fun z : Int32 × K2 => z.1) hE
              have hW := congrArg (fun z : Int32 × K2 => wM G ad z.2) hE
              exact g_iret S hr hlocks hf hV hW dX4_sheet_60
          · replace hF := (if_neg c28).symm.trans hF
            refine lv_aload_n hx hb dX4_sheet_40 rfl (lv_at hl 0 rfl) ?_
            refine lv_ldcw (v := -1000007) hx hb hown (hts _ kc307) dX4_sheet_41 ?_
            obtain ⟨q34, h35, hF⟩ := Option.bind_eq_some_iff.mp hF
            refine g_cv0 (o := some (.int q34.1)) (As := [.int (-1000007)]) (rest := []) (st1 := [.int q34.1]) (ci := 4) S hf (c_X4_finding l G ad μ0 (-1000007) q34 h35) (cwV 1 hts gX4_sheet_X4_finding rfl rfl rfl (by decide +kernel) ⟨Nat.le_of_ble_eq_true rfl, Nat.le_of_ble_eq_true rfl⟩) rfl rfl rfl 0 rfl rfl hl.1 rfl rfl (Nat.le_of_ble_eq_true rfl) ⟨Nat.zero_le _, Nat.zero_le _⟩ dX4_sheet_44 (fun H locs hf => ?_)
            have hf : Fr G (va_A (wM G ad μ0) s.heap.size) s (wM G ad q34.2) H locs := hf
            have hE := Option.some.inj hF
            have hV := congrArg (fun z : Int32 × K2 => z.1) hE
            have hW := congrArg (fun z : Int32 × K2 => wM G ad z.2) hE
            exact g_iret S hr hlocks hf hV hW dX4_sheet_47
        · replace hF := (if_neg c27).symm.trans hF
          refine lv_iload_n hx hb dX4_sheet_23 rfl (lv_at hl 2 rfl) ?_
          refine lv_bipush (v := 32) hx hb dX4_sheet_24 (by decide) ?_
          refine lv_icmp_eq (tgt := 36) hx hb dX4_sheet_26 (by decide) (fun c36 => ?_) (fun c36 => ?_)
          · replace hF := (if_pos c36).symm.trans hF
            refine lv_iload_n hx hb dX4_sheet_36 rfl (lv_at hl 3 rfl) ?_
            refine lv_if_ge (tgt := 48) hx hb dX4_sheet_37 (by decide) (fun c37 => ?_) (fun c37 => ?_)
            · replace hF := (if_pos c37).symm.trans hF
              refine lv_iload_n hx hb dX4_sheet_48 rfl (lv_at hl 3 rfl) ?_
              refine lv_bipush (v := 40) hx hb dX4_sheet_49 (by decide) ?_
              refine lv_icmp_le (tgt := 61) hx hb dX4_sheet_51 (by decide) (fun c38 => ?_) (fun c38 => ?_)
              · replace hF := (if_pos c38).symm.trans hF
                refine lv_aload_n hx hb dX4_sheet_61 rfl (lv_at hl 0 rfl) ?_
                refine g_get (ci := 4) (C := RX4) (T := TX4) (N := 21) (v := .ref (ad 8)) S hf hinX4 0 rfl rfl 17 (by decide) k51 rfl rfl dX4_sheet_62 ?_
                refine lv_iload_n hx hb dX4_sheet_65 rfl (lv_at hl 1 rfl) ?_
                refine lv_iload_n hx hb dX4_sheet_66 rfl (lv_at hl 2 rfl) ?_
                obtain ⟨g39, hF⟩ := gd_some hF
                refine g_ast (ww' := wM G ad (va_up μ0 7 (upd (μ0 7) a1.toNatClampNeg a2))) S hf 8 rfl g39 rfl dX4_sheet_67 (fun H locs hf => ?_)
                refine lv_aload_n hx hb dX4_sheet_68 rfl (lv_at hl 0 rfl) ?_
                refine g_get (ci := 4) (C := RX4) (T := TX4) (N := 21) (v := .ref (ad 9)) S hf hinX4 0 rfl rfl 18 (by decide) k54 rfl rfl dX4_sheet_69 ?_
                refine lv_iload_n hx hb dX4_sheet_72 rfl (lv_at hl 1 rfl) ?_
                refine lv_iload_n hx hb dX4_sheet_73 rfl (lv_at hl 2 rfl) ?_
                refine lv_if_ne (tgt := 81) hx hb dX4_sheet_74 (by decide) (fun c40 => ?_) (fun c40 => ?_)
                · replace hF := (if_neg c40).symm.trans hF
                  refine lv_iload_n hx hb dX4_sheet_81 rfl (lv_at hl 3 rfl) ?_
                  refine g_ast (ww' := wM G ad (va_up (va_up μ0 7 (upd (μ0 7) a1.toNatClampNeg a2)) 8 (upd (μ0 8) a1.toNatClampNeg a3))) S hf 9 rfl g39 rfl dX4_sheet_82 (fun H locs hf => ?_)
                  refine lv_iconst (v := 0) hx hb dX4_sheet_83 (by decide) ?_
                  refine lv_istore (lv' := [(4, .int 0), (0, .ref (ad 0)), (1, .int a1), (2, .int a2), (3, .int a3)]) hx hb dX4_sheet_84 hl (by decide) rfl (fun ls hl => ?_)
                  exact hL86 1000 (va_up (va_up μ0 7 (upd (μ0 7) a1.toNatClampNeg a2)) 8 (upd (μ0 8) a1.toNatClampNeg a3)) a1 0 _ _ _ hF hf (lv_sub hl [1, 2, 0] rfl)
                · replace hF := (if_pos c40).symm.trans hF
                  refine lv_iconst (v := 0) hx hb dX4_sheet_77 (by decide) ?_
                  refine lv_goto (tgt := 82) hx hb dX4_sheet_78 (by decide) ?_
                  refine g_ast (ww' := wM G ad (va_up (va_up μ0 7 (upd (μ0 7) a1.toNatClampNeg a2)) 8 (upd (μ0 8) a1.toNatClampNeg 0))) S hf 9 rfl g39 rfl dX4_sheet_82 (fun H locs hf => ?_)
                  refine lv_iconst (v := 0) hx hb dX4_sheet_83 (by decide) ?_
                  refine lv_istore (lv' := [(4, .int 0), (0, .ref (ad 0)), (1, .int a1), (2, .int a2), (3, .int a3)]) hx hb dX4_sheet_84 hl (by decide) rfl (fun ls hl => ?_)
                  exact hL86 1000 (va_up (va_up μ0 7 (upd (μ0 7) a1.toNatClampNeg a2)) 8 (upd (μ0 8) a1.toNatClampNeg 0)) a1 0 _ _ _ hF hf (lv_sub hl [1, 2, 0] rfl)
              · replace hF := (if_neg c38).symm.trans hF
                refine lv_aload_n hx hb dX4_sheet_54 rfl (lv_at hl 0 rfl) ?_
                refine lv_ldc (v := -1000001) hx hb hown (hts _ kc63) dX4_sheet_55 ?_
                obtain ⟨q41, h42, hF⟩ := Option.bind_eq_some_iff.mp hF
                refine g_cv0 (o := some (.int q41.1)) (As := [.int (-1000001)]) (rest := []) (st1 := [.int q41.1]) (ci := 4) S hf (c_X4_finding l G ad μ0 (-1000001) q41 h42) (cwV 1 hts gX4_sheet_X4_finding rfl rfl rfl (by decide +kernel) ⟨Nat.le_of_ble_eq_true rfl, Nat.le_of_ble_eq_true rfl⟩) rfl rfl rfl 0 rfl rfl hl.1 rfl rfl (Nat.le_of_ble_eq_true rfl) ⟨Nat.zero_le _, Nat.zero_le _⟩ dX4_sheet_57 (fun H locs hf => ?_)
                have hf : Fr G (va_A (wM G ad μ0) s.heap.size) s (wM G ad q41.2) H locs := hf
                have hE := Option.some.inj hF
                have hV := congrArg (fun z : Int32 × K2 => z.1) hE
                have hW := congrArg (fun z : Int32 × K2 => wM G ad z.2) hE
                exact g_iret S hr hlocks hf hV hW dX4_sheet_60
            · replace hF := (if_neg c37).symm.trans hF
              refine lv_aload_n hx hb dX4_sheet_40 rfl (lv_at hl 0 rfl) ?_
              refine lv_ldcw (v := -1000007) hx hb hown (hts _ kc307) dX4_sheet_41 ?_
              obtain ⟨q43, h44, hF⟩ := Option.bind_eq_some_iff.mp hF
              refine g_cv0 (o := some (.int q43.1)) (As := [.int (-1000007)]) (rest := []) (st1 := [.int q43.1]) (ci := 4) S hf (c_X4_finding l G ad μ0 (-1000007) q43 h44) (cwV 1 hts gX4_sheet_X4_finding rfl rfl rfl (by decide +kernel) ⟨Nat.le_of_ble_eq_true rfl, Nat.le_of_ble_eq_true rfl⟩) rfl rfl rfl 0 rfl rfl hl.1 rfl rfl (Nat.le_of_ble_eq_true rfl) ⟨Nat.zero_le _, Nat.zero_le _⟩ dX4_sheet_44 (fun H locs hf => ?_)
              have hf : Fr G (va_A (wM G ad μ0) s.heap.size) s (wM G ad q43.2) H locs := hf
              have hE := Option.some.inj hF
              have hV := congrArg (fun z : Int32 × K2 => z.1) hE
              have hW := congrArg (fun z : Int32 × K2 => wM G ad z.2) hE
              exact g_iret S hr hlocks hf hV hW dX4_sheet_47
          · replace hF := (if_neg c36).symm.trans hF
            refine lv_aload_n hx hb dX4_sheet_29 rfl (lv_at hl 0 rfl) ?_
            refine lv_ldc (v := -1000001) hx hb hown (hts _ kc63) dX4_sheet_30 ?_
            obtain ⟨q45, h46, hF⟩ := Option.bind_eq_some_iff.mp hF
            refine g_cv0 (o := some (.int q45.1)) (As := [.int (-1000001)]) (rest := []) (st1 := [.int q45.1]) (ci := 4) S hf (c_X4_finding l G ad μ0 (-1000001) q45 h46) (cwV 1 hts gX4_sheet_X4_finding rfl rfl rfl (by decide +kernel) ⟨Nat.le_of_ble_eq_true rfl, Nat.le_of_ble_eq_true rfl⟩) rfl rfl rfl 0 rfl rfl hl.1 rfl rfl (Nat.le_of_ble_eq_true rfl) ⟨Nat.zero_le _, Nat.zero_le _⟩ dX4_sheet_32 (fun H locs hf => ?_)
            have hf : Fr G (va_A (wM G ad μ0) s.heap.size) s (wM G ad q45.2) H locs := hf
            have hE := Option.some.inj hF
            have hV := congrArg (fun z : Int32 × K2 => z.1) hE
            have hW := congrArg (fun z : Int32 × K2 => wM G ad z.2) hE
            exact g_iret S hr hlocks hf hV hW dX4_sheet_35
def f_X4_write (μ0 : K2) (a1 : Int32) (a2 : Int32) (a3 : Int32) : Option (Int32 × K2) := Option.bind (f_X4_isSheet a1) (fun q1 => if q1 = 0 then (Option.bind (f_X4_finding μ0 (-1000001)) (fun q16 => some (q16.1, q16.2))) else (if ix a1 4 then (if ((μ0 7) a1.toNatClampNeg) = 0 then (Option.bind (f_X4_finding μ0 (-1000006)) (fun q14 => some (q14.1, q14.2))) else (Option.bind (f_X4_within a2 0 (((μ0 8) a1.toNatClampNeg) - 1)) (fun q6 => if q6 = 0 then (Option.bind (f_X4_finding μ0 (-1000001)) (fun q12 => some (q12.1, q12.2))) else (Option.bind (f_X4_cutTo a3 ((μ0 7) a1.toNatClampNeg)) (fun q9 => if ix ((40 * a1) + a2) 160 then (some (1, va_up μ0 9 (upd (μ0 9) (((40 * a1) + a2).toNatClampNeg) q9))) else none))))) else none))
set_option maxHeartbeats 4000000 in
set_option maxRecDepth 100000 in
theorem c_X4_write (l : Launch) (G : GT) (ad : Nat → Nat) (μ0 : K2) (a1 : Int32) (a2 : Int32) (a3 : Int32) (q : Int32 × K2) (hF : f_X4_write μ0 a1 a2 a3 = some q) : Ct l G yX4_write wsX4_write ({ frames := 2, cells := 0, slots := 0, locals := 42 } : Room) ([.ref (ad 0), .int a1, .int a2, .int a3] : List Value) (wM G ad μ0) (some (.int q.1)) (wM G ad q.2) := by
  have k51 : Cond.fieldLink RX4 51 "PigeonRollsModel" "widths" "[I" ∈ wsX4_write := by decide +kernel
  have k54 : Cond.fieldLink RX4 54 "PigeonRollsModel" "sizes" "[I" ∈ wsX4_write := by decide +kernel
  have k57 : Cond.fieldLink RX4 57 "PigeonRollsModel" "numbers" "[I" ∈ wsX4_write := by decide +kernel
  have kc63 : Cond.constant RX4 63 (-1000001) ∈ wsX4_write := by decide +kernel
  have kc206 : Cond.constant RX4 206 (-1000006) ∈ wsX4_write := by decide +kernel
  have hinX4 : ∀ w ∈ u_ws RX4 TX4 21, w ∈ wsX4_write := by decide +kernel
  refine Ct.of cX4_write 4 (some .int) (by decide) rfl (Nat.le_of_ble_eq_true rfl) ?_
  intro p e s m below meth c ls S hr hlocks hf hl
  have S : CallFix p m c cX4_write 4 s ([.ref (ad 0), .int a1, .int a2, .int a3] : List Value).toArray wsX4_write RX4 := S
  obtain ⟨hx, hb, hml, hown, hts⟩ := id S
  have hl : lv_has ls 4 [(0, .ref (ad 0)), (1, .int a1), (2, .int a2), (3, .int a3)] := hl
  unfold f_X4_write at hF
  refine lv_iload_n hx hb dX4_write_0 rfl (lv_at hl 1 rfl) ?_
  obtain ⟨q1, h2, hF⟩ := Option.bind_eq_some_iff.mp hF
  refine g_cs0 (o := some (.int q1)) (As := [.int a1]) (rest := []) (st1 := [.int q1]) S hf (c_X4_isSheet l G  a1 q1 h2) (va_cwS 1 hts gX4_write_X4_isSheet rfl rfl rfl (by decide +kernel) ⟨Nat.le_of_ble_eq_true rfl, Nat.le_of_ble_eq_true rfl⟩) rfl hl.1 rfl rfl (Nat.le_of_ble_eq_true rfl) ⟨Nat.zero_le _, Nat.zero_le _⟩ dX4_write_1 (fun H locs hf => ?_)
  refine lv_if_ne (tgt := 14) hx hb dX4_write_4 (by decide) (fun c3 => ?_) (fun c3 => ?_)
  · replace hF := (if_neg c3).symm.trans hF
    refine lv_aload_n hx hb dX4_write_14 rfl (lv_at hl 0 rfl) ?_
    refine g_get (ci := 4) (C := RX4) (T := TX4) (N := 21) (v := .ref (ad 8)) S hf hinX4 0 rfl rfl 17 (by decide) k51 rfl rfl dX4_write_15 ?_
    refine lv_iload_n hx hb dX4_write_18 rfl (lv_at hl 1 rfl) ?_
    obtain ⟨g4, hF⟩ := gd_some hF
    refine g_ald (v := (μ0 7) a1.toNatClampNeg) S hf 8 rfl g4 rfl dX4_write_19 ?_
    refine lv_if_ne (tgt := 30) hx hb dX4_write_20 (by decide) (fun c5 => ?_) (fun c5 => ?_)
    · replace hF := (if_neg c5).symm.trans hF
      refine lv_iload_n hx hb dX4_write_30 rfl (lv_at hl 2 rfl) ?_
      refine lv_iconst (v := 0) hx hb dX4_write_31 (by decide) ?_
      refine lv_aload_n hx hb dX4_write_32 rfl (lv_at hl 0 rfl) ?_
      refine g_get (ci := 4) (C := RX4) (T := TX4) (N := 21) (v := .ref (ad 9)) S hf hinX4 0 rfl rfl 18 (by decide) k54 rfl rfl dX4_write_33 ?_
      refine lv_iload_n hx hb dX4_write_36 rfl (lv_at hl 1 rfl) ?_
      refine g_ald (v := (μ0 8) a1.toNatClampNeg) S hf 9 rfl g4 rfl dX4_write_37 ?_
      refine lv_iconst (v := 1) hx hb dX4_write_38 (by decide) ?_
      refine lv_isub hx hb dX4_write_39 ?_
      obtain ⟨q6, h7, hF⟩ := Option.bind_eq_some_iff.mp hF
      refine g_cs0 (o := some (.int q6)) (As := [.int a2, .int 0, .int (((μ0 8) a1.toNatClampNeg) - 1)]) (rest := []) (st1 := [.int q6]) S hf (c_X4_within l G  a2 0 (((μ0 8) a1.toNatClampNeg) - 1) q6 h7) (va_cwS 3 hts gX4_write_X4_within rfl rfl rfl (by decide +kernel) ⟨Nat.le_of_ble_eq_true rfl, Nat.le_of_ble_eq_true rfl⟩) rfl hl.1 rfl rfl (Nat.le_of_ble_eq_true rfl) ⟨Nat.zero_le _, Nat.zero_le _⟩ dX4_write_40 (fun H locs hf => ?_)
      refine lv_if_ne (tgt := 53) hx hb dX4_write_43 (by decide) (fun c8 => ?_) (fun c8 => ?_)
      · replace hF := (if_neg c8).symm.trans hF
        refine lv_aload_n hx hb dX4_write_53 rfl (lv_at hl 0 rfl) ?_
        refine g_get (ci := 4) (C := RX4) (T := TX4) (N := 21) (v := .ref (ad 10)) S hf hinX4 0 rfl rfl 19 (by decide) k57 rfl rfl dX4_write_54 ?_
        refine lv_bipush (v := 40) hx hb dX4_write_57 (by decide) ?_
        refine lv_iload_n hx hb dX4_write_59 rfl (lv_at hl 1 rfl) ?_
        refine lv_imul hx hb dX4_write_60 ?_
        refine lv_iload_n hx hb dX4_write_61 rfl (lv_at hl 2 rfl) ?_
        refine lv_iadd hx hb dX4_write_62 ?_
        refine lv_iload_n hx hb dX4_write_63 rfl (lv_at hl 3 rfl) ?_
        refine lv_aload_n hx hb dX4_write_64 rfl (lv_at hl 0 rfl) ?_
        refine g_get (ci := 4) (C := RX4) (T := TX4) (N := 21) (v := .ref (ad 8)) S hf hinX4 0 rfl rfl 17 (by decide) k51 rfl rfl dX4_write_65 ?_
        refine lv_iload_n hx hb dX4_write_68 rfl (lv_at hl 1 rfl) ?_
        refine g_ald (v := (μ0 7) a1.toNatClampNeg) S hf 8 rfl g4 rfl dX4_write_69 ?_
        obtain ⟨q9, h10, hF⟩ := Option.bind_eq_some_iff.mp hF
        refine g_cs0 (o := some (.int q9)) (As := [.int a3, .int ((μ0 7) a1.toNatClampNeg)]) (rest := [.int ((40 * a1) + a2), .ref (ad 10)]) (st1 := [.int q9, .int ((40 * a1) + a2), .ref (ad 10)]) S hf (c_X4_cutTo l G  a3 ((μ0 7) a1.toNatClampNeg) q9 h10) (va_cwS 2 hts gX4_write_X4_cutTo rfl rfl rfl (by decide +kernel) ⟨Nat.le_of_ble_eq_true rfl, Nat.le_of_ble_eq_true rfl⟩) rfl hl.1 rfl rfl (Nat.le_of_ble_eq_true rfl) ⟨Nat.zero_le _, Nat.zero_le _⟩ dX4_write_70 (fun H locs hf => ?_)
        obtain ⟨g11, hF⟩ := gd_some hF
        refine g_ast (ww' := wM G ad (va_up μ0 9 (upd (μ0 9) (((40 * a1) + a2).toNatClampNeg) q9))) S hf 10 rfl g11 rfl dX4_write_73 (fun H locs hf => ?_)
        refine lv_iconst (v := 1) hx hb dX4_write_74 (by decide) ?_
        have hE := Option.some.inj hF
        have hV := congrArg (fun z : Int32 × K2 => z.1) hE
        have hW := congrArg (fun z : Int32 × K2 => wM G ad z.2) hE
        exact g_iret S hr hlocks hf hV hW dX4_write_75
      · replace hF := (if_pos c8).symm.trans hF
        refine lv_aload_n hx hb dX4_write_46 rfl (lv_at hl 0 rfl) ?_
        refine lv_ldc (v := -1000001) hx hb hown (hts _ kc63) dX4_write_47 ?_
        obtain ⟨q12, h13, hF⟩ := Option.bind_eq_some_iff.mp hF
        refine g_cv0 (o := some (.int q12.1)) (As := [.int (-1000001)]) (rest := []) (st1 := [.int q12.1]) (ci := 4) S hf (c_X4_finding l G ad μ0 (-1000001) q12 h13) (cwV 1 hts gX4_write_X4_finding rfl rfl rfl (by decide +kernel) ⟨Nat.le_of_ble_eq_true rfl, Nat.le_of_ble_eq_true rfl⟩) rfl rfl rfl 0 rfl rfl hl.1 rfl rfl (Nat.le_of_ble_eq_true rfl) ⟨Nat.zero_le _, Nat.zero_le _⟩ dX4_write_49 (fun H locs hf => ?_)
        have hf : Fr G (va_A (wM G ad μ0) s.heap.size) s (wM G ad q12.2) H locs := hf
        have hE := Option.some.inj hF
        have hV := congrArg (fun z : Int32 × K2 => z.1) hE
        have hW := congrArg (fun z : Int32 × K2 => wM G ad z.2) hE
        exact g_iret S hr hlocks hf hV hW dX4_write_52
    · replace hF := (if_pos c5).symm.trans hF
      refine lv_aload_n hx hb dX4_write_23 rfl (lv_at hl 0 rfl) ?_
      refine lv_ldc (v := -1000006) hx hb hown (hts _ kc206) dX4_write_24 ?_
      obtain ⟨q14, h15, hF⟩ := Option.bind_eq_some_iff.mp hF
      refine g_cv0 (o := some (.int q14.1)) (As := [.int (-1000006)]) (rest := []) (st1 := [.int q14.1]) (ci := 4) S hf (c_X4_finding l G ad μ0 (-1000006) q14 h15) (cwV 1 hts gX4_write_X4_finding rfl rfl rfl (by decide +kernel) ⟨Nat.le_of_ble_eq_true rfl, Nat.le_of_ble_eq_true rfl⟩) rfl rfl rfl 0 rfl rfl hl.1 rfl rfl (Nat.le_of_ble_eq_true rfl) ⟨Nat.zero_le _, Nat.zero_le _⟩ dX4_write_26 (fun H locs hf => ?_)
      have hf : Fr G (va_A (wM G ad μ0) s.heap.size) s (wM G ad q14.2) H locs := hf
      have hE := Option.some.inj hF
      have hV := congrArg (fun z : Int32 × K2 => z.1) hE
      have hW := congrArg (fun z : Int32 × K2 => wM G ad z.2) hE
      exact g_iret S hr hlocks hf hV hW dX4_write_29
  · replace hF := (if_pos c3).symm.trans hF
    refine lv_aload_n hx hb dX4_write_7 rfl (lv_at hl 0 rfl) ?_
    refine lv_ldc (v := -1000001) hx hb hown (hts _ kc63) dX4_write_8 ?_
    obtain ⟨q16, h17, hF⟩ := Option.bind_eq_some_iff.mp hF
    refine g_cv0 (o := some (.int q16.1)) (As := [.int (-1000001)]) (rest := []) (st1 := [.int q16.1]) (ci := 4) S hf (c_X4_finding l G ad μ0 (-1000001) q16 h17) (cwV 1 hts gX4_write_X4_finding rfl rfl rfl (by decide +kernel) ⟨Nat.le_of_ble_eq_true rfl, Nat.le_of_ble_eq_true rfl⟩) rfl rfl rfl 0 rfl rfl hl.1 rfl rfl (Nat.le_of_ble_eq_true rfl) ⟨Nat.zero_le _, Nat.zero_le _⟩ dX4_write_10 (fun H locs hf => ?_)
    have hf : Fr G (va_A (wM G ad μ0) s.heap.size) s (wM G ad q16.2) H locs := hf
    have hE := Option.some.inj hF
    have hV := congrArg (fun z : Int32 × K2 => z.1) hE
    have hW := congrArg (fun z : Int32 × K2 => wM G ad z.2) hE
    exact g_iret S hr hlocks hf hV hW dX4_write_13
