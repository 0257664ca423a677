def f_X3_finding (X0 : K3) (a1 : Int32) : Option (Int32 × K3) := if ix a1 7 then (some ((-1000001) - a1, va_up X0 8 (va_up (X0 8) 0 (upd ((X0 8) 0) a1.toNatClampNeg ((((X0 8) 0) a1.toNatClampNeg) + 1))))) else none
set_option maxHeartbeats 4000000 in
set_option maxRecDepth 100000 in
theorem c_X3_finding (l : Launch) (G : GT) (ad : Nat → Nat → Nat) (X0 : K3) (a1 : Int32) (q : Int32 × K3) (hF : f_X3_finding X0 a1 = some q) : Ct l G yX3_finding wsX3_finding ({ frames := 0, cells := 0, slots := 0, locals := 0 } : Room) ([.ref (ad 8 0), .int a1] : List Value) (wX G ad X0) (some (.int q.1)) (wX G ad q.2) := by
  have k35 : Cond.fieldLink RX3 35 "PigeonRolls" "found" "[I" ∈ wsX3_finding := by decide +kernel
  have kc233 : Cond.constant RX3 233 (-1000001) ∈ wsX3_finding := by decide +kernel
  have hinX3 : ∀ w ∈ u_ws RX3 TX3 7, w ∈ wsX3_finding := by decide +kernel
  refine Ct.of cX3_finding 2 (some .int) (by decide) rfl (Nat.le_of_ble_eq_true rfl) ?_
  intro p e s m below meth c ls S hr hlocks hf hl
  have S : CallFix p m c cX3_finding 2 s ([.ref (ad 8 0), .int a1] : List Value).toArray wsX3_finding RX3 := S
  obtain ⟨hx, hb, hml, hown, hts⟩ := id S
  have hl : lv_has ls 2 [(0, .ref (ad 8 0)), (1, .int a1)] := hl
  unfold f_X3_finding at hF
  refine lv_aload_n hx hb dX3_finding_0 rfl (lv_at hl 0 rfl) ?_
  refine g_get (ci := 3) (C := RX3) (T := TX3) (N := 7) (v := .ref (ad 8 2)) S hf hinX3 0 rfl rfl 5 (by decide) k35 rfl rfl dX3_finding_1 ?_
  refine lv_iload_n hx hb dX3_finding_4 rfl (lv_at hl 1 rfl) ?_
  refine lv_dup2_11 hx hb dX3_finding_5 rfl rfl ?_
  obtain ⟨g1, hF⟩ := gd_some hF
  refine g_ald (v := ((X0 8) 0) a1.toNatClampNeg) S hf 2 rfl g1 rfl dX3_finding_6 ?_
  refine lv_iconst (v := 1) hx hb dX3_finding_7 (by decide) ?_
  refine lv_iadd hx hb dX3_finding_8 ?_
  refine g_ast (ww' := wX G ad (va_up X0 8 (va_up (X0 8) 0 (upd ((X0 8) 0) a1.toNatClampNeg ((((X0 8) 0) a1.toNatClampNeg) + 1))))) S hf 2 rfl g1 rfl dX3_finding_9 (fun H locs hf => ?_)
  refine lv_ldc (v := -1000001) hx hb hown (hts _ kc233) dX3_finding_10 ?_
  refine lv_iload_n hx hb dX3_finding_12 rfl (lv_at hl 1 rfl) ?_
  refine lv_isub hx hb dX3_finding_13 ?_
  have hE := Option.some.inj hF
  have hV := congrArg (fun z : Int32 × K3 => z.1) hE
  have hW := congrArg (fun z : Int32 × K3 => wX G ad z.2) hE
  exact g_iret S hr hlocks hf hV hW dX3_finding_14
def f_X3_harvest (X0 : K3) (a1 : Int32) (a2 : Int32) : Option (Int32 × K3) := Option.bind (f_X3_within a1 0 5) (fun q1 => if q1 = 0 then (Option.bind (f_X3_finding X0 0) (fun q4 => some (q4.1, q4.2))) else (Option.bind (f_X3_within a2 0 99) (fun q6 => if q6 = 0 then (Option.bind (f_X3_finding X0 0) (fun q10 => some (q10.1, q10.2))) else (if ix a1 6 then (some (((X0 0) 9) a1.toNatClampNeg, va_up X0 0 (va_up (X0 0) 9 (upd ((X0 0) 9) a1.toNatClampNeg a2)))) else none))))
set_option maxHeartbeats 4000000 in
set_option maxRecDepth 100000 in
theorem c_X3_harvest (l : Launch) (G : GT) (ad : Nat → Nat → Nat) (X0 : K3) (a1 : Int32) (a2 : Int32) (q : Int32 × K3) (hF : f_X3_harvest X0 a1 a2 = some q) : Ct l G yX3_harvest wsX3_harvest ({ frames := 1, cells := 0, slots := 0, locals := 22 } : Room) ([.ref (ad 8 0), .int a1, .int a2] : List Value) (wX G ad X0) (some (.int q.1)) (wX G ad q.2) := by
  have k10 : Cond.fieldLink RX3 10 "PigeonRolls" "realm" "LPigeonRolls$Kingdom;" ∈ wsX3_harvest := by decide +kernel
  have k52 : Cond.fieldLink RX3 52 "PigeonRolls$Kingdom" "list" "[I" ∈ wsX3_harvest := by decide +kernel
  have hinX0 : ∀ w ∈ u_ws RX0 TX0 16, w ∈ wsX3_harvest := by decide +kernel
  have hinX3 : ∀ w ∈ u_ws RX3 TX3 7, w ∈ wsX3_harvest := by decide +kernel
  refine Ct.of cX3_harvest 4 (some .int) (by decide) rfl (Nat.le_of_ble_eq_true rfl) ?_
  intro p e s m below meth c ls S hr hlocks hf hl
  have S : CallFix p m c cX3_harvest 4 s ([.ref (ad 8 0), .int a1, .int a2] : List Value).toArray wsX3_harvest RX3 := S
  obtain ⟨hx, hb, hml, hown, hts⟩ := id S
  have hl : lv_has ls 4 [(0, .ref (ad 8 0)), (1, .int a1), (2, .int a2)] := hl
  unfold f_X3_harvest at hF
  refine lv_iload_n hx hb dX3_harvest_0 rfl (lv_at hl 1 rfl) ?_
  refine lv_iconst (v := 0) hx hb dX3_harvest_1 (by decide) ?_
  refine lv_iconst (v := 5) hx hb dX3_harvest_2 (by decide) ?_
  obtain ⟨q1, h2, hF⟩ := Option.bind_eq_some_iff.mp hF
  refine g_cs0 (o := some (.int q1)) (As := [.int a1, .int 0, .int 5]) (rest := []) (st1 := [.int q1]) S hf (c_X3_within l G  a1 0 5 q1 h2) (va_cwS 3 hts gX3_harvest_X3_within rfl rfl rfl (by decide +kernel) ⟨Nat.le_of_ble_eq_true rfl, Nat.le_of_ble_eq_true rfl⟩) rfl hl.1 rfl rfl (Nat.le_of_ble_eq_true rfl) ⟨Nat.zero_le _, Nat.zero_le _⟩ dX3_harvest_3 (fun H locs hf => ?_)
  refine lv_if_eq (tgt := 19) hx hb dX3_harvest_6 (by decide) (fun c3 => ?_) (fun c3 => ?_)
  · replace hF := (if_pos c3).symm.trans hF
    refine lv_aload_n hx hb dX3_harvest_19 rfl (lv_at hl 0 rfl) ?_
    refine lv_iconst (v := 0) hx hb dX3_harvest_20 (by decide) ?_
    obtain ⟨q4, h5, hF⟩ := Option.bind_eq_some_iff.mp hF
    refine g_cv0 (o := some (.int q4.1)) (As := [.int 0]) (rest := []) (st1 := [.int q4.1]) (ci := 3) S hf (c_X3_finding l G ad X0 0 q4 h5) (cwV 1 hts gX3_harvest_X3_finding rfl rfl rfl (by decide +kernel) ⟨Nat.le_of_ble_eq_true rfl, Nat.le_of_ble_eq_true rfl⟩) rfl rfl rfl 0 rfl rfl hl.1 rfl rfl (Nat.le_of_ble_eq_true rfl) ⟨Nat.zero_le _, Nat.zero_le _⟩ dX3_harvest_21 (fun H locs hf => ?_)
    have hf : Fr G (va_A (wX G ad X0) s.heap.size) s (wX G ad q4.2) H locs := hf
    have hE := Option.some.inj hF
    have hV := congrArg (fun z : Int32 × K3 => z.1) hE
    have hW := congrArg (fun z : Int32 × K3 => wX G ad z.2) hE
    exact g_iret S hr hlocks hf hV hW dX3_harvest_24
  · replace hF := (if_neg c3).symm.trans hF
    refine lv_iload_n hx hb dX3_harvest_9 rfl (lv_at hl 2 rfl) ?_
    refine lv_iconst (v := 0) hx hb dX3_harvest_10 (by decide) ?_
    refine lv_bipush (v := 99) hx hb dX3_harvest_11 (by decide) ?_
    obtain ⟨q6, h7, hF⟩ := Option.bind_eq_some_iff.mp hF
    refine g_cs0 (o := some (.int q6)) (As := [.int a2, .int 0, .int 99]) (rest := []) (st1 := [.int q6]) S hf (c_X3_within l G  a2 0 99 q6 h7) (va_cwS 3 hts gX3_harvest_X3_within rfl rfl rfl (by decide +kernel) ⟨Nat.le_of_ble_eq_true rfl, Nat.le_of_ble_eq_true rfl⟩) rfl hl.1 rfl rfl (Nat.le_of_ble_eq_true rfl) ⟨Nat.zero_le _, Nat.zero_le _⟩ dX3_harvest_13 (fun H locs hf => ?_)
    refine lv_if_ne (tgt := 25) hx hb dX3_harvest_16 (by decide) (fun c8 => ?_) (fun c8 => ?_)
    · replace hF := (if_neg c8).symm.trans hF
      refine lv_aload_n hx hb dX3_harvest_25 rfl (lv_at hl 0 rfl) ?_
      refine g_get (ci := 3) (C := RX3) (T := TX3) (N := 7) (v := .ref (ad 0 0)) S hf hinX3 0 rfl rfl 0 (by decide) k10 rfl rfl dX3_harvest_26 ?_
      refine g_get (ci := 0) (C := RX0) (T := TX0) (N := 16) (v := .ref (ad 0 1)) S hf hinX0 16 rfl rfl 4 (by decide) k52 rfl rfl dX3_harvest_29 ?_
      refine lv_iload_n hx hb dX3_harvest_32 rfl (lv_at hl 1 rfl) ?_
      obtain ⟨g9, hF⟩ := gd_some hF
      refine g_ald (v := ((X0 0) 9) a1.toNatClampNeg) S hf 17 rfl g9 rfl dX3_harvest_33 ?_
      refine lv_istore_n (lv' := [(3, .int (((X0 0) 9) a1.toNatClampNeg)), (0, .ref (ad 8 0)), (1, .int a1), (2, .int a2)]) hx hb dX3_harvest_34 rfl hl (by decide) rfl (fun ls hl => ?_)
      refine lv_aload_n hx hb dX3_harvest_35 rfl (lv_at hl 1 rfl) ?_
      refine g_get (ci := 3) (C := RX3) (T := TX3) (N := 7) (v := .ref (ad 0 0)) S hf hinX3 0 rfl rfl 0 (by decide) k10 rfl rfl dX3_harvest_36 ?_
      refine g_get (ci := 0) (C := RX0) (T := TX0) (N := 16) (v := .ref (ad 0 1)) S hf hinX0 16 rfl rfl 4 (by decide) k52 rfl rfl dX3_harvest_39 ?_
      refine lv_iload_n hx hb dX3_harvest_42 rfl (lv_at hl 2 rfl) ?_
      refine lv_iload_n hx hb dX3_harvest_43 rfl (lv_at hl 3 rfl) ?_
      refine g_ast (ww' := wX G ad (va_up X0 0 (va_up (X0 0) 9 (upd ((X0 0) 9) a1.toNatClampNeg a2)))) S hf 17 rfl g9 rfl dX3_harvest_44 (fun H locs hf => ?_)
      refine lv_iload_n hx hb dX3_harvest_45 rfl (lv_at hl 0 rfl) ?_
      have hE := Option.some.inj hF
      have hV := congrArg (fun z : Int32 × K3 => z.1) hE
      have hW := congrArg (fun z : Int32 × K3 => wX G ad z.2) hE
      exact g_iret S hr hlocks hf hV hW dX3_harvest_46
    · replace hF := (if_pos c8).symm.trans hF
      refine lv_aload_n hx hb dX3_harvest_19 rfl (lv_at hl 0 rfl) ?_
      refine lv_iconst (v := 0) hx hb dX3_harvest_20 (by decide) ?_
      obtain ⟨q10, h11, hF⟩ := Option.bind_eq_some_iff.mp hF
      refine g_cv0 (o := some (.int q10.1)) (As := [.int 0]) (rest := []) (st1 := [.int q10.1]) (ci := 3) S hf (c_X3_finding l G ad X0 0 q10 h11) (cwV 1 hts gX3_harvest_X3_finding rfl rfl rfl (by decide +kernel) ⟨Nat.le_of_ble_eq_true rfl, Nat.le_of_ble_eq_true rfl⟩) rfl rfl rfl 0 rfl rfl hl.1 rfl rfl (Nat.le_of_ble_eq_true rfl) ⟨Nat.zero_le _, Nat.zero_le _⟩ dX3_harvest_21 (fun H locs hf => ?_)
      have hf : Fr G (va_A (wX G ad X0) s.heap.size) s (wX G ad q10.2) H locs := hf
      have hE := Option.some.inj hF
      have hV := congrArg (fun z : Int32 × K3 => z.1) hE
      have hW := congrArg (fun z : Int32 × K3 => wX G ad z.2) hE
      exact g_iret S hr hlocks hf hV hW dX3_harvest_24
def f_X3_listed (X0 : K3) (a1 : Int32) : Option (Int32 × K3) := Option.bind (f_X3_within a1 0 5) (fun q1 => if q1 = 0 then (Option.bind (f_X3_finding X0 0) (fun q5 => some (q5.1, q5.2))) else (if ix a1 6 then (some (((X0 0) 9) a1.toNatClampNeg, X0)) else none))
set_option maxHeartbeats 4000000 in
set_option maxRecDepth 100000 in
theorem c_X3_listed (l : Launch) (G : GT) (ad : Nat → Nat → Nat) (X0 : K3) (a1 : Int32) (q : Int32 × K3) (hF : f_X3_listed X0 a1 = some q) : Ct l G yX3_listed wsX3_listed ({ frames := 1, cells := 0, slots := 0, locals := 22 } : Room) ([.ref (ad 8 0), .int a1] : List Value) (wX G ad X0) (some (.int q.1)) (wX G ad q.2) := by
  have k10 : Cond.fieldLink RX3 10 "PigeonRolls" "realm" "LPigeonRolls$Kingdom;" ∈ wsX3_listed := by decide +kernel
  have k52 : Cond.fieldLink RX3 52 "PigeonRolls$Kingdom" "list" "[I" ∈ wsX3_listed := by decide +kernel
  have hinX0 : ∀ w ∈ u_ws RX0 TX0 16, w ∈ wsX3_listed := by decide +kernel
  have hinX3 : ∀ w ∈ u_ws RX3 TX3 7, w ∈ wsX3_listed := by decide +kernel
  refine Ct.of cX3_listed 2 (some .int) (by decide) rfl (Nat.le_of_ble_eq_true rfl) ?_
  intro p e s m below meth c ls S hr hlocks hf hl
  have S : CallFix p m c cX3_listed 2 s ([.ref (ad 8 0), .int a1] : List Value).toArray wsX3_listed RX3 := S
  obtain ⟨hx, hb, hml, hown, hts⟩ := id S
  have hl : lv_has ls 2 [(0, .ref (ad 8 0)), (1, .int a1)] := hl
  unfold f_X3_listed at hF
  refine lv_iload_n hx hb dX3_listed_0 rfl (lv_at hl 1 rfl) ?_
  refine lv_iconst (v := 0) hx hb dX3_listed_1 (by decide) ?_
  refine lv_iconst (v := 5) hx hb dX3_listed_2 (by decide) ?_
  obtain ⟨q1, h2, hF⟩ := Option.bind_eq_some_iff.mp hF
  refine g_cs0 (o := some (.int q1)) (As := [.int a1, .int 0, .int 5]) (rest := []) (st1 := [.int q1]) S hf (c_X3_within l G  a1 0 5 q1 h2) (va_cwS 3 hts gX3_listed_X3_within rfl rfl rfl (by decide +kernel) ⟨Nat.le_of_ble_eq_true rfl, Nat.le_of_ble_eq_true rfl⟩) rfl hl.1 rfl rfl (Nat.le_of_ble_eq_true rfl) ⟨Nat.zero_le _, Nat.zero_le _⟩ dX3_listed_3 (fun H locs hf => ?_)
  refine lv_if_ne (tgt := 15) hx hb dX3_listed_6 (by decide) (fun c3 => ?_) (fun c3 => ?_)
  · replace hF := (if_neg c3).symm.trans hF
    refine lv_aload_n hx hb dX3_listed_15 rfl (lv_at hl 0 rfl) ?_
    refine g_get (ci := 3) (C := RX3) (T := TX3) (N := 7) (v := .ref (ad 0 0)) S hf hinX3 0 rfl rfl 0 (by decide) k10 rfl rfl dX3_listed_16 ?_
    refine g_get (ci := 0) (C := RX0) (T := TX0) (N := 16) (v := .ref (ad 0 1)) S hf hinX0 16 rfl rfl 4 (by decide) k52 rfl rfl dX3_listed_19 ?_
    refine lv_iload_n hx hb dX3_listed_22 rfl (lv_at hl 1 rfl) ?_
    obtain ⟨g4, hF⟩ := gd_some hF
    refine g_ald (v := ((X0 0) 9) a1.toNatClampNeg) S hf 17 rfl g4 rfl dX3_listed_23 ?_
    have hE := Option.some.inj hF
    have hV := congrArg (fun z : Int32 × K3 => z.1) hE
    have hW := congrArg (fun z : Int32 × K3 => wX G ad z.2) hE
    exact g_iret S hr hlocks hf hV hW dX3_listed_24
  · replace hF := (if_pos c3).symm.trans hF
    refine lv_aload_n hx hb dX3_listed_9 rfl (lv_at hl 0 rfl) ?_
    refine lv_iconst (v := 0) hx hb dX3_listed_10 (by decide) ?_
    obtain ⟨q5, h6, hF⟩ := Option.bind_eq_some_iff.mp hF
    refine g_cv0 (o := some (.int q5.1)) (As := [.int 0]) (rest := []) (st1 := [.int q5.1]) (ci := 3) S hf (c_X3_finding l G ad X0 0 q5 h6) (cwV 1 hts gX3_listed_X3_finding rfl rfl rfl (by decide +kernel) ⟨Nat.le_of_ble_eq_true rfl, Nat.le_of_ble_eq_true rfl⟩) rfl rfl rfl 0 rfl rfl hl.1 rfl rfl (Nat.le_of_ble_eq_true rfl) ⟨Nat.zero_le _, Nat.zero_le _⟩ dX3_listed_11 (fun H locs hf => ?_)
    have hf : Fr G (va_A (wX G ad X0) s.heap.size) s (wX G ad q5.2) H locs := hf
    have hE := Option.some.inj hF
    have hV := congrArg (fun z : Int32 × K3 => z.1) hE
    have hW := congrArg (fun z : Int32 × K3 => wX G ad z.2) hE
    exact g_iret S hr hlocks hf hV hW dX3_listed_14
def f_X3_corn (X0 : K3) (a1 : Int32) : Option (Int32 × K3) := Option.bind (f_X3_within a1 0 99999) (fun q1 => if q1 = 0 then (Option.bind (f_X3_finding X0 0) (fun q4 => some (q4.1, q4.2))) else (some ((X0 0) 11 1, va_up X0 0 (va_up (X0 0) 11 (upd ((X0 0) 11) 1 a1)))))
set_option maxHeartbeats 4000000 in
set_option maxRecDepth 100000 in
theorem c_X3_corn (l : Launch) (G : GT) (ad : Nat → Nat → Nat) (X0 : K3) (a1 : Int32) (q : Int32 × K3) (hF : f_X3_corn X0 a1 = some q) : Ct l G yX3_corn wsX3_corn ({ frames := 1, cells := 0, slots := 0, locals := 22 } : Room) ([.ref (ad 8 0), .int a1] : List Value) (wX G ad X0) (some (.int q.1)) (wX G ad q.2) := by
  have kc55 : Cond.constant RX3 55 (99999) ∈ wsX3_corn := by decide +kernel
  have k10 : Cond.fieldLink RX3 10 "PigeonRolls" "realm" "LPigeonRolls$Kingdom;" ∈ wsX3_corn := by decide +kernel
  have k56 : Cond.fieldLink RX3 56 "PigeonRolls$Kingdom" "treasury" "I" ∈ wsX3_corn := by decide +kernel
  have hinX0 : ∀ w ∈ u_ws RX0 TX0 16, w ∈ wsX3_corn := by decide +kernel
  have hinX3 : ∀ w ∈ u_ws RX3 TX3 7, w ∈ wsX3_corn := by decide +kernel
  refine Ct.of cX3_corn 3 (some .int) (by decide) rfl (Nat.le_of_ble_eq_true rfl) ?_
  intro p e s m below meth c ls S hr hlocks hf hl
  have S : CallFix p m c cX3_corn 3 s ([.ref (ad 8 0), .int a1] : List Value).toArray wsX3_corn RX3 := S
  obtain ⟨hx, hb, hml, hown, hts⟩ := id S
  have hl : lv_has ls 3 [(0, .ref (ad 8 0)), (1, .int a1)] := hl
  unfold f_X3_corn at hF
  refine lv_iload_n hx hb dX3_corn_0 rfl (lv_at hl 1 rfl) ?_
  refine lv_iconst (v := 0) hx hb dX3_corn_1 (by decide) ?_
  refine lv_ldc (v := 99999) hx hb hown (hts _ kc55) dX3_corn_2 ?_
  obtain ⟨q1, h2, hF⟩ := Option.bind_eq_some_iff.mp hF
  refine g_cs0 (o := some (.int q1)) (As := [.int a1, .int 0, .int 99999]) (rest := []) (st1 := [.int q1]) S hf (c_X3_within l G  a1 0 99999 q1 h2) (va_cwS 3 hts gX3_corn_X3_within rfl rfl rfl (by decide +kernel) ⟨Nat.le_of_ble_eq_true rfl, Nat.le_of_ble_eq_true rfl⟩) rfl hl.1 rfl rfl (Nat.le_of_ble_eq_true rfl) ⟨Nat.zero_le _, Nat.zero_le _⟩ dX3_corn_4 (fun H locs hf => ?_)
  refine lv_if_ne (tgt := 16) hx hb dX3_corn_7 (by decide) (fun c3 => ?_) (fun c3 => ?_)
  · replace hF := (if_neg c3).symm.trans hF
    refine lv_aload_n hx hb dX3_corn_16 rfl (lv_at hl 0 rfl) ?_
    refine g_get (ci := 3) (C := RX3) (T := TX3) (N := 7) (v := .ref (ad 0 0)) S hf hinX3 0 rfl rfl 0 (by decide) k10 rfl rfl dX3_corn_17 ?_
    refine g_get (ci := 0) (C := RX0) (T := TX0) (N := 16) (v := .int ((X0 0) 11 1)) S hf hinX0 16 rfl rfl 1 (by decide) k56 rfl rfl dX3_corn_20 ?_
    refine lv_istore_n (lv' := [(2, .int ((X0 0) 11 1)), (0, .ref (ad 8 0)), (1, .int a1)]) hx hb dX3_corn_23 rfl hl (by decide) rfl (fun ls hl => ?_)
    refine lv_aload_n hx hb dX3_corn_24 rfl (lv_at hl 1 rfl) ?_
    refine g_get (ci := 3) (C := RX3) (T := TX3) (N := 7) (v := .ref (ad 0 0)) S hf hinX3 0 rfl rfl 0 (by decide) k10 rfl rfl dX3_corn_25 ?_
    refine lv_iload_n hx hb dX3_corn_28 rfl (lv_at hl 2 rfl) ?_
    refine g_put (ci := 0) (C := RX0) (T := TX0) (N := 16) (ww' := wX G ad (va_up X0 0 (va_up (X0 0) 11 (upd ((X0 0) 11) 1 a1)))) S hf hinX0 tyX0 tyX0_ok nmX0 16 rfl rfl 1 (by decide) k56 rfl rfl rfl rfl (Nat.le_of_ble_eq_true rfl) rfl dX3_corn_29 (fun H locs hf => ?_)
    refine lv_iload_n hx hb dX3_corn_32 rfl (lv_at hl 0 rfl) ?_
    have hE := Option.some.inj hF
    have hV := congrArg (fun z : Int32 × K3 => z.1) hE
    have hW := congrArg (fun z : Int32 × K3 => wX G ad z.2) hE
    exact g_iret S hr hlocks hf hV hW dX3_corn_33
  · replace hF := (if_pos c3).symm.trans hF
    refine lv_aload_n hx hb dX3_corn_10 rfl (lv_at hl 0 rfl) ?_
    refine lv_iconst (v := 0) hx hb dX3_corn_11 (by decide) ?_
    obtain ⟨q4, h5, hF⟩ := Option.bind_eq_some_iff.mp hF
    refine g_cv0 (o := some (.int q4.1)) (As := [.int 0]) (rest := []) (st1 := [.int q4.1]) (ci := 3) S hf (c_X3_finding l G ad X0 0 q4 h5) (cwV 1 hts gX3_corn_X3_finding rfl rfl rfl (by decide +kernel) ⟨Nat.le_of_ble_eq_true rfl, Nat.le_of_ble_eq_true rfl⟩) rfl rfl rfl 0 rfl rfl hl.1 rfl rfl (Nat.le_of_ble_eq_true rfl) ⟨Nat.zero_le _, Nat.zero_le _⟩ dX3_corn_12 (fun H locs hf => ?_)
    have hf : Fr G (va_A (wX G ad X0) s.heap.size) s (wX G ad q4.2) H locs := hf
    have hE := Option.some.inj hF
    have hV := congrArg (fun z : Int32 × K3 => z.1) hE
    have hW := congrArg (fun z : Int32 × K3 => wX G ad z.2) hE
    exact g_iret S hr hlocks hf hV hW dX3_corn_15
def f_X3_bird (X0 : K3) (a1 : Int32) (a2 : Int32) : Option (Int32 × K3) := Option.bind (f_X3_within a1 0 6) (fun q1 => if q1 = 0 then (Option.bind (f_X3_finding X0 0) (fun q4 => some (q4.1, q4.2))) else (Option.bind (f_X3_within a2 0 5) (fun q6 => if q6 = 0 then (Option.bind (f_X3_finding X0 0) (fun q16 => some (q16.1, q16.2))) else (Option.bind (f_X0_isFull (X0 0)) (fun q9 => if q9 = 0 then (Option.bind (f_X0_add (X0 0) a1 a2 (-1)) (fun q12 => some (q12.1, va_up X0 0 q12.2))) else (Option.bind (f_X3_finding X0 1) (fun q14 => some (q14.1, q14.2))))))))
set_option maxHeartbeats 4000000 in
set_option maxRecDepth 100000 in
theorem c_X3_bird (l : Launch) (G : GT) (ad : Nat → Nat → Nat) (X0 : K3) (a1 : Int32) (a2 : Int32) (q : Int32 × K3) (hF : f_X3_bird X0 a1 a2 = some q) : Ct l G yX3_bird wsX3_bird ({ frames := 1, cells := 0, slots := 0, locals := 25 } : Room) ([.ref (ad 8 0), .int a1, .int a2] : List Value) (wX G ad X0) (some (.int q.1)) (wX G ad q.2) := by
  have k10 : Cond.fieldLink RX3 10 "PigeonRolls" "realm" "LPigeonRolls$Kingdom;" ∈ wsX3_bird := by decide +kernel
  have hinX3 : ∀ w ∈ u_ws RX3 TX3 7, w ∈ wsX3_bird := by decide +kernel
  refine Ct.of cX3_bird 3 (some .int) (by decide) rfl (Nat.le_of_ble_eq_true rfl) ?_
  intro p e s m below meth c ls S hr hlocks hf hl
  have S : CallFix p m c cX3_bird 3 s ([.ref (ad 8 0), .int a1, .int a2] : List Value).toArray wsX3_bird RX3 := S
  obtain ⟨hx, hb, hml, hown, hts⟩ := id S
  have hl : lv_has ls 3 [(0, .ref (ad 8 0)), (1, .int a1), (2, .int a2)] := hl
  unfold f_X3_bird at hF
  refine lv_iload_n hx hb dX3_bird_0 rfl (lv_at hl 1 rfl) ?_
  refine lv_iconst (v := 0) hx hb dX3_bird_1 (by decide) ?_
  refine lv_bipush (v := 6) hx hb dX3_bird_2 (by decide) ?_
  obtain ⟨q1, h2, hF⟩ := Option.bind_eq_some_iff.mp hF
  refine g_cs0 (o := some (.int q1)) (As := [.int a1, .int 0, .int 6]) (rest := []) (st1 := [.int q1]) S hf (c_X3_within l G  a1 0 6 q1 h2) (va_cwS 3 hts gX3_bird_X3_within rfl rfl rfl (by decide +kernel) ⟨Nat.le_of_ble_eq_true rfl, Nat.le_of_ble_eq_true rfl⟩) rfl hl.1 rfl rfl (Nat.le_of_ble_eq_true rfl) ⟨Nat.zero_le _, Nat.zero_le _⟩ dX3_bird_4 (fun H locs hf => ?_)
  refine lv_if_eq (tgt := 19) hx hb dX3_bird_7 (by decide) (fun c3 => ?_) (fun c3 => ?_)
  · replace hF := (if_pos c3).symm.trans hF
    refine lv_aload_n hx hb dX3_bird_19 rfl (lv_at hl 0 rfl) ?_
    refine lv_iconst (v := 0) hx hb dX3_bird_20 (by decide) ?_
    obtain ⟨q4, h5, hF⟩ := Option.bind_eq_some_iff.mp hF
    refine g_cv0 (o := some (.int q4.1)) (As := [.int 0]) (rest := []) (st1 := [.int q4.1]) (ci := 3) S hf (c_X3_finding l G ad X0 0 q4 h5) (cwV 1 hts gX3_bird_X3_finding rfl rfl rfl (by decide +kernel) ⟨Nat.le_of_ble_eq_true rfl, Nat.le_of_ble_eq_true rfl⟩) rfl rfl rfl 0 rfl rfl hl.1 rfl rfl (Nat.le_of_ble_eq_true rfl) ⟨Nat.zero_le _, Nat.zero_le _⟩ dX3_bird_21 (fun H locs hf => ?_)
    have hf : Fr G (va_A (wX G ad X0) s.heap.size) s (wX G ad q4.2) H locs := hf
    have hE := Option.some.inj hF
    have hV := congrArg (fun z : Int32 × K3 => z.1) hE
    have hW := congrArg (fun z : Int32 × K3 => wX G ad z.2) hE
    exact g_iret S hr hlocks hf hV hW dX3_bird_24
  · replace hF := (if_neg c3).symm.trans hF
    refine lv_iload_n hx hb dX3_bird_10 rfl (lv_at hl 2 rfl) ?_
    refine lv_iconst (v := 0) hx hb dX3_bird_11 (by decide) ?_
    refine lv_iconst (v := 5) hx hb dX3_bird_12 (by decide) ?_
    obtain ⟨q6, h7, hF⟩ := Option.bind_eq_some_iff.mp hF
    refine g_cs0 (o := some (.int q6)) (As := [.int a2, .int 0, .int 5]) (rest := []) (st1 := [.int q6]) S hf (c_X3_within l G  a2 0 5 q6 h7) (va_cwS 3 hts gX3_bird_X3_within rfl rfl rfl (by decide +kernel) ⟨Nat.le_of_ble_eq_true rfl, Nat.le_of_ble_eq_true rfl⟩) rfl hl.1 rfl rfl (Nat.le_of_ble_eq_true rfl) ⟨Nat.zero_le _, Nat.zero_le _⟩ dX3_bird_13 (fun H locs hf => ?_)
    refine lv_if_ne (tgt := 25) hx hb dX3_bird_16 (by decide) (fun c8 => ?_) (fun c8 => ?_)
    · replace hF := (if_neg c8).symm.trans hF
      refine lv_aload_n hx hb dX3_bird_25 rfl (lv_at hl 0 rfl) ?_
      refine g_get (ci := 3) (C := RX3) (T := TX3) (N := 7) (v := .ref (ad 0 0)) S hf hinX3 0 rfl rfl 0 (by decide) k10 rfl rfl dX3_bird_26 ?_
      obtain ⟨q9, h10, hF⟩ := Option.bind_eq_some_iff.mp hF
      refine g_cv (o := some (.int q9)) (As := []) (rest := []) (st1 := [.int q9]) (ci := 0) (a := List.take 16 (wX G ad X0)) (b := List.drop 29 (wX G ad X0)) S hf (c_X0_isFull l G (ad 0) (X0 0) q9 h10) (cwV 0 hts gX3_bird_X0_isFull rfl rfl rfl (by decide +kernel) ⟨Nat.le_of_ble_eq_true rfl, Nat.le_of_ble_eq_true rfl⟩) rfl rfl rfl rfl 0 rfl rfl hl.1 rfl rfl (Nat.le_of_ble_eq_true rfl) ⟨Nat.zero_le _, Nat.zero_le _⟩ dX3_bird_29 (fun H locs hf => ?_)
      have hf : Fr G (va_A (wX G ad X0) s.heap.size) s (wX G ad X0) H locs := hf
      refine lv_if_eq (tgt := 41) hx hb dX3_bird_32 (by decide) (fun c11 => ?_) (fun c11 => ?_)
      · replace hF := (if_pos c11).symm.trans hF
        refine lv_aload_n hx hb dX3_bird_41 rfl (lv_at hl 0 rfl) ?_
        refine g_get (ci := 3) (C := RX3) (T := TX3) (N := 7) (v := .ref (ad 0 0)) S hf hinX3 0 rfl rfl 0 (by decide) k10 rfl rfl dX3_bird_42 ?_
        refine lv_iload_n hx hb dX3_bird_45 rfl (lv_at hl 1 rfl) ?_
        refine lv_iload_n hx hb dX3_bird_46 rfl (lv_at hl 2 rfl) ?_
        refine lv_iconst (v := -1) hx hb dX3_bird_47 (by decide) ?_
        obtain ⟨q12, h13, hF⟩ := Option.bind_eq_some_iff.mp hF
        refine g_cv (o := some (.int q12.1)) (As := [.int a1, .int a2, .int (-1)]) (rest := []) (st1 := [.int q12.1]) (ci := 0) (a := List.take 16 (wX G ad X0)) (b := List.drop 29 (wX G ad X0)) S hf (c_X0_add l G (ad 0) (X0 0) a1 a2 (-1) q12 h13) (cwV 3 hts gX3_bird_X0_add rfl rfl rfl (by decide +kernel) ⟨Nat.le_of_ble_eq_true rfl, Nat.le_of_ble_eq_true rfl⟩) rfl rfl rfl rfl 0 rfl rfl hl.1 rfl rfl (Nat.le_of_ble_eq_true rfl) ⟨Nat.zero_le _, Nat.zero_le _⟩ dX3_bird_48 (fun H locs hf => ?_)
        have hf : Fr G (va_A (wX G ad X0) s.heap.size) s (wX G ad (va_up X0 0 q12.2)) H locs := hf
        have hE := Option.some.inj hF
        have hV := congrArg (fun z : Int32 × K3 => z.1) hE
        have hW := congrArg (fun z : Int32 × K3 => wX G ad z.2) hE
        exact g_iret S hr hlocks hf hV hW dX3_bird_51
      · replace hF := (if_neg c11).symm.trans hF
        refine lv_aload_n hx hb dX3_bird_35 rfl (lv_at hl 0 rfl) ?_
        refine lv_iconst (v := 1) hx hb dX3_bird_36 (by decide) ?_
        obtain ⟨q14, h15, hF⟩ := Option.bind_eq_some_iff.mp hF
        refine g_cv0 (o := some (.int q14.1)) (As := [.int 1]) (rest := []) (st1 := [.int q14.1]) (ci := 3) S hf (c_X3_finding l G ad X0 1 q14 h15) (cwV 1 hts gX3_bird_X3_finding rfl rfl rfl (by decide +kernel) ⟨Nat.le_of_ble_eq_true rfl, Nat.le_of_ble_eq_true rfl⟩) rfl rfl rfl 0 rfl rfl hl.1 rfl rfl (Nat.le_of_ble_eq_true rfl) ⟨Nat.zero_le _, Nat.zero_le _⟩ dX3_bird_37 (fun H locs hf => ?_)
        have hf : Fr G (va_A (wX G ad X0) s.heap.size) s (wX G ad q14.2) H locs := hf
        have hE := Option.some.inj hF
        have hV := congrArg (fun z : Int32 × K3 => z.1) hE
        have hW := congrArg (fun z : Int32 × K3 => wX G ad z.2) hE
        exact g_iret S hr hlocks hf hV hW dX3_bird_40
    · replace hF := (if_pos c8).symm.trans hF
      refine lv_aload_n hx hb dX3_bird_19 rfl (lv_at hl 0 rfl) ?_
      refine lv_iconst (v := 0) hx hb dX3_bird_20 (by decide) ?_
      obtain ⟨q16, h17, hF⟩ := Option.bind_eq_some_iff.mp hF
      refine g_cv0 (o := some (.int q16.1)) (As := [.int 0]) (rest := []) (st1 := [.int q16.1]) (ci := 3) S hf (c_X3_finding l G ad X0 0 q16 h17) (cwV 1 hts gX3_bird_X3_finding rfl rfl rfl (by decide +kernel) ⟨Nat.le_of_ble_eq_true rfl, Nat.le_of_ble_eq_true rfl⟩) rfl rfl rfl 0 rfl rfl hl.1 rfl rfl (Nat.le_of_ble_eq_true rfl) ⟨Nat.zero_le _, Nat.zero_le _⟩ dX3_bird_21 (fun H locs hf => ?_)
      have hf : Fr G (va_A (wX G ad X0) s.heap.size) s (wX G ad q16.2) H locs := hf
      have hE := Option.some.inj hF
      have hV := congrArg (fun z : Int32 × K3 => z.1) hE
      have hW := congrArg (fun z : Int32 × K3 => wX G ad z.2) hE
      exact g_iret S hr hlocks hf hV hW dX3_bird_24
def f_X3_hatch (X0 : K3) (a1 : Int32) (a2 : Int32) : Option (Int32 × K3) := Option.bind (f_X0_has (X0 0) a1) (fun q1 => if q1 = 0 then (Option.bind (f_X3_finding X0 0) (fun q4 => some (q4.1, q4.2))) else (Option.bind (f_X3_within a2 0 6) (fun q6 => if q6 = 0 then (Option.bind (f_X3_finding X0 0) (fun q22 => some (q22.1, q22.2))) else (Option.bind (f_X0_isFull (X0 0)) (fun q9 => if q9 = 0 then (Option.bind (f_X0_isDead (X0 0) a1) (fun q12 => if q12 = 0 then (if ix a1 8 then (Option.bind (f_X0_add (X0 0) a2 (((X0 0) 1) a1.toNatClampNeg) a1) (fun q16 => some (q16.1, va_up X0 0 q16.2))) else none) else (Option.bind (f_X3_finding X0 4) (fun q18 => some (q18.1, q18.2))))) else (Option.bind (f_X3_finding X0 1) (fun q20 => some (q20.1, q20.2))))))))
set_option maxHeartbeats 4000000 in
set_option maxRecDepth 100000 in
theorem c_X3_hatch (l : Launch) (G : GT) (ad : Nat → Nat → Nat) (X0 : K3) (a1 : Int32) (a2 : Int32) (q : Int32 × K3) (hF : f_X3_hatch X0 a1 a2 = some q) : Ct l G yX3_hatch wsX3_hatch ({ frames := 1, cells := 0, slots := 0, locals := 25 } : Room) ([.ref (ad 8 0), .int a1, .int a2] : List Value) (wX G ad X0) (some (.int q.1)) (wX G ad q.2) := by
  have k10 : Cond.fieldLink RX3 10 "PigeonRolls" "realm" "LPigeonRolls$Kingdom;" ∈ wsX3_hatch := by decide +kernel
  have k75 : Cond.fieldLink RX3 75 "PigeonRolls$Kingdom" "loft" "[I" ∈ wsX3_hatch := by decide +kernel
  have hinX0 : ∀ w ∈ u_ws RX0 TX0 16, w ∈ wsX3_hatch := by decide +kernel
  have hinX3 : ∀ w ∈ u_ws RX3 TX3 7, w ∈ wsX3_hatch := by decide +kernel
  refine Ct.of cX3_hatch 3 (some .int) (by decide) rfl (Nat.le_of_ble_eq_true rfl) ?_
  intro p e s m below meth c ls S hr hlocks hf hl
  have S : CallFix p m c cX3_hatch 3 s ([.ref (ad 8 0), .int a1, .int a2] : List Value).toArray wsX3_hatch RX3 := S
  obtain ⟨hx, hb, hml, hown, hts⟩ := id S
  have hl : lv_has ls 3 [(0, .ref (ad 8 0)), (1, .int a1), (2, .int a2)] := hl
  unfold f_X3_hatch at hF
  refine lv_aload_n hx hb dX3_hatch_0 rfl (lv_at hl 0 rfl) ?_
  refine g_get (ci := 3) (C := RX3) (T := TX3) (N := 7) (v := .ref (ad 0 0)) S hf hinX3 0 rfl rfl 0 (by decide) k10 rfl rfl dX3_hatch_1 ?_
  refine lv_iload_n hx hb dX3_hatch_4 rfl (lv_at hl 1 rfl) ?_
  obtain ⟨q1, h2, hF⟩ := Option.bind_eq_some_iff.mp hF
  refine g_cv (o := some (.int q1)) (As := [.int a1]) (rest := []) (st1 := [.int q1]) (ci := 0) (a := List.take 16 (wX G ad X0)) (b := List.drop 29 (wX G ad X0)) S hf (c_X0_has l G (ad 0) (X0 0) a1 q1 h2) (cwV 1 hts gX3_hatch_X0_has rfl rfl rfl (by decide +kernel) ⟨Nat.le_of_ble_eq_true rfl, Nat.le_of_ble_eq_true rfl⟩) rfl rfl rfl rfl 0 rfl rfl hl.1 rfl rfl (Nat.le_of_ble_eq_true rfl) ⟨Nat.zero_le _, Nat.zero_le _⟩ dX3_hatch_5 (fun H locs hf => ?_)
  have hf : Fr G (va_A (wX G ad X0) s.heap.size) s (wX G ad X0) H locs := hf
  refine lv_if_eq (tgt := 21) hx hb dX3_hatch_8 (by decide) (fun c3 => ?_) (fun c3 => ?_)
  · replace hF := (if_pos c3).symm.trans hF
    refine lv_aload_n hx hb dX3_hatch_21 rfl (lv_at hl 0 rfl) ?_
    refine lv_iconst (v := 0) hx hb dX3_hatch_22 (by decide) ?_
    obtain ⟨q4, h5, hF⟩ := Option.bind_eq_some_iff.mp hF
    refine g_cv0 (o := some (.int q4.1)) (As := [.int 0]) (rest := []) (st1 := [.int q4.1]) (ci := 3) S hf (c_X3_finding l G ad X0 0 q4 h5) (cwV 1 hts gX3_hatch_X3_finding rfl rfl rfl (by decide +kernel) ⟨Nat.le_of_ble_eq_true rfl, Nat.le_of_ble_eq_true rfl⟩) rfl rfl rfl 0 rfl rfl hl.1 rfl rfl (Nat.le_of_ble_eq_true rfl) ⟨Nat.zero_le _, Nat.zero_le _⟩ dX3_hatch_23 (fun H locs hf => ?_)
    have hf : Fr G (va_A (wX G ad X0) s.heap.size) s (wX G ad q4.2) H locs := hf
    have hE := Option.some.inj hF
    have hV := congrArg (fun z : Int32 × K3 => z.1) hE
    have hW := congrArg (fun z : Int32 × K3 => wX G ad z.2) hE
    exact g_iret S hr hlocks hf hV hW dX3_hatch_26
  · replace hF := (if_neg c3).symm.trans hF
    refine lv_iload_n hx hb dX3_hatch_11 rfl (lv_at hl 2 rfl) ?_
    refine lv_iconst (v := 0) hx hb dX3_hatch_12 (by decide) ?_
    refine lv_bipush (v := 6) hx hb dX3_hatch_13 (by decide) ?_
    obtain ⟨q6, h7, hF⟩ := Option.bind_eq_some_iff.mp hF
    refine g_cs0 (o := some (.int q6)) (As := [.int a2, .int 0, .int 6]) (rest := []) (st1 := [.int q6]) S hf (c_X3_within l G  a2 0 6 q6 h7) (va_cwS 3 hts gX3_hatch_X3_within rfl rfl rfl (by decide +kernel) ⟨Nat.le_of_ble_eq_true rfl, Nat.le_of_ble_eq_true rfl⟩) rfl hl.1 rfl rfl (Nat.le_of_ble_eq_true rfl) ⟨Nat.zero_le _, Nat.zero_le _⟩ dX3_hatch_15 (fun H locs hf => ?_)
    refine lv_if_ne (tgt := 27) hx hb dX3_hatch_18 (by decide) (fun c8 => ?_) (fun c8 => ?_)
    · replace hF := (if_neg c8).symm.trans hF
      refine lv_aload_n hx hb dX3_hatch_27 rfl (lv_at hl 0 rfl) ?_
      refine g_get (ci := 3) (C := RX3) (T := TX3) (N := 7) (v := .ref (ad 0 0)) S hf hinX3 0 rfl rfl 0 (by decide) k10 rfl rfl dX3_hatch_28 ?_
      obtain ⟨q9, h10, hF⟩ := Option.bind_eq_some_iff.mp hF
      refine g_cv (o := some (.int q9)) (As := []) (rest := []) (st1 := [.int q9]) (ci := 0) (a := List.take 16 (wX G ad X0)) (b := List.drop 29 (wX G ad X0)) S hf (c_X0_isFull l G (ad 0) (X0 0) q9 h10) (cwV 0 hts gX3_hatch_X0_isFull rfl rfl rfl (by decide +kernel) ⟨Nat.le_of_ble_eq_true rfl, Nat.le_of_ble_eq_true rfl⟩) rfl rfl rfl rfl 0 rfl rfl hl.1 rfl rfl (Nat.le_of_ble_eq_true rfl) ⟨Nat.zero_le _, Nat.zero_le _⟩ dX3_hatch_31 (fun H locs hf => ?_)
      have hf : Fr G (va_A (wX G ad X0) s.heap.size) s (wX G ad X0) H locs := hf
      refine lv_if_eq (tgt := 43) hx hb dX3_hatch_34 (by decide) (fun c11 => ?_) (fun c11 => ?_)
      · replace hF := (if_pos c11).symm.trans hF
        refine lv_aload_n hx hb dX3_hatch_43 rfl (lv_at hl 0 rfl) ?_
        refine g_get (ci := 3) (C := RX3) (T := TX3) (N := 7) (v := .ref (ad 0 0)) S hf hinX3 0 rfl rfl 0 (by decide) k10 rfl rfl dX3_hatch_44 ?_
        refine lv_iload_n hx hb dX3_hatch_47 rfl (lv_at hl 1 rfl) ?_
        obtain ⟨q12, h13, hF⟩ := Option.bind_eq_some_iff.mp hF
        refine g_cv (o := some (.int q12)) (As := [.int a1]) (rest := []) (st1 := [.int q12]) (ci := 0) (a := List.take 16 (wX G ad X0)) (b := List.drop 29 (wX G ad X0)) S hf (c_X0_isDead l G (ad 0) (X0 0) a1 q12 h13) (cwV 1 hts gX3_hatch_X0_isDead rfl rfl rfl (by decide +kernel) ⟨Nat.le_of_ble_eq_true rfl, Nat.le_of_ble_eq_true rfl⟩) rfl rfl rfl rfl 0 rfl rfl hl.1 rfl rfl (Nat.le_of_ble_eq_true rfl) ⟨Nat.zero_le _, Nat.zero_le _⟩ dX3_hatch_48 (fun H locs hf => ?_)
        have hf : Fr G (va_A (wX G ad X0) s.heap.size) s (wX G ad X0) H locs := hf
        refine lv_if_eq (tgt := 60) hx hb dX3_hatch_51 (by decide) (fun c14 => ?_) (fun c14 => ?_)
        · replace hF := (if_pos c14).symm.trans hF
          refine lv_aload_n hx hb dX3_hatch_60 rfl (lv_at hl 0 rfl) ?_
          refine g_get (ci := 3) (C := RX3) (T := TX3) (N := 7) (v := .ref (ad 0 0)) S hf hinX3 0 rfl rfl 0 (by decide) k10 rfl rfl dX3_hatch_61 ?_
          refine lv_iload_n hx hb dX3_hatch_64 rfl (lv_at hl 2 rfl) ?_
          refine lv_aload_n hx hb dX3_hatch_65 rfl (lv_at hl 0 rfl) ?_
          refine g_get (ci := 3) (C := RX3) (T := TX3) (N := 7) (v := .ref (ad 0 0)) S hf hinX3 0 rfl rfl 0 (by decide) k10 rfl rfl dX3_hatch_66 ?_
          refine g_get (ci := 0) (C := RX0) (T := TX0) (N := 16) (v := .ref (ad 0 5)) S hf hinX0 16 rfl rfl 8 (by decide) k75 rfl rfl dX3_hatch_69 ?_
          refine lv_iload_n hx hb dX3_hatch_72 rfl (lv_at hl 1 rfl) ?_
          obtain ⟨g15, hF⟩ := gd_some hF
          refine g_ald (v := ((X0 0) 1) a1.toNatClampNeg) S hf 21 rfl g15 rfl dX3_hatch_73 ?_
          refine lv_iload_n hx hb dX3_hatch_74 rfl (lv_at hl 1 rfl) ?_
          obtain ⟨q16, h17, hF⟩ := Option.bind_eq_some_iff.mp hF
          refine g_cv (o := some (.int q16.1)) (As := [.int a2, .int (((X0 0) 1) a1.toNatClampNeg), .int a1]) (rest := []) (st1 := [.int q16.1]) (ci := 0) (a := List.take 16 (wX G ad X0)) (b := List.drop 29 (wX G ad X0)) S hf (c_X0_add l G (ad 0) (X0 0) a2 (((X0 0) 1) a1.toNatClampNeg) a1 q16 h17) (cwV 3 hts gX3_hatch_X0_add rfl rfl rfl (by decide +kernel) ⟨Nat.le_of_ble_eq_true rfl, Nat.le_of_ble_eq_true rfl⟩) rfl rfl rfl rfl 0 rfl rfl hl.1 rfl rfl (Nat.le_of_ble_eq_true rfl) ⟨Nat.zero_le _, Nat.zero_le _⟩ dX3_hatch_75 (fun H locs hf => ?_)
          have hf : Fr G (va_A (wX G ad X0) s.heap.size) s (wX G ad (va_up X0 0 q16.2)) H locs := hf
          have hE := Option.some.inj hF
          have hV := congrArg (fun z : Int32 × K3 => z.1) hE
          have hW := congrArg (fun z : Int32 × K3 => wX G ad z.2) hE
          exact g_iret S hr hlocks hf hV hW dX3_hatch_78
        · replace hF := (if_neg c14).symm.trans hF
          refine lv_aload_n hx hb dX3_hatch_54 rfl (lv_at hl 0 rfl) ?_
          refine lv_iconst (v := 4) hx hb dX3_hatch_55 (by decide) ?_
          obtain ⟨q18, h19, hF⟩ := Option.bind_eq_some_iff.mp hF
          refine g_cv0 (o := some (.int q18.1)) (As := [.int 4]) (rest := []) (st1 := [.int q18.1]) (ci := 3) S hf (c_X3_finding l G ad X0 4 q18 h19) (cwV 1 hts gX3_hatch_X3_finding rfl rfl rfl (by decide +kernel) ⟨Nat.le_of_ble_eq_true rfl, Nat.le_of_ble_eq_true rfl⟩) rfl rfl rfl 0 rfl rfl hl.1 rfl rfl (Nat.le_of_ble_eq_true rfl) ⟨Nat.zero_le _, Nat.zero_le _⟩ dX3_hatch_56 (fun H locs hf => ?_)
          have hf : Fr G (va_A (wX G ad X0) s.heap.size) s (wX G ad q18.2) H locs := hf
          have hE := Option.some.inj hF
          have hV := congrArg (fun z : Int32 × K3 => z.1) hE
          have hW := congrArg (fun z : Int32 × K3 => wX G ad z.2) hE
          exact g_iret S hr hlocks hf hV hW dX3_hatch_59
      · replace hF := (if_neg c11).symm.trans hF
        refine lv_aload_n hx hb dX3_hatch_37 rfl (lv_at hl 0 rfl) ?_
        refine lv_iconst (v := 1) hx hb dX3_hatch_38 (by decide) ?_
        obtain ⟨q20, h21, hF⟩ := Option.bind_eq_some_iff.mp hF
        refine g_cv0 (o := some (.int q20.1)) (As := [.int 1]) (rest := []) (st1 := [.int q20.1]) (ci := 3) S hf (c_X3_finding l G ad X0 1 q20 h21) (cwV 1 hts gX3_hatch_X3_finding rfl rfl rfl (by decide +kernel) ⟨Nat.le_of_ble_eq_true rfl, Nat.le_of_ble_eq_true rfl⟩) rfl rfl rfl 0 rfl rfl hl.1 rfl rfl (Nat.le_of_ble_eq_true rfl) ⟨Nat.zero_le _, Nat.zero_le _⟩ dX3_hatch_39 (fun H locs hf => ?_)
        have hf : Fr G (va_A (wX G ad X0) s.heap.size) s (wX G ad q20.2) H locs := hf
        have hE := Option.some.inj hF
        have hV := congrArg (fun z : Int32 × K3 => z.1) hE
        have hW := congrArg (fun z : Int32 × K3 => wX G ad z.2) hE
        exact g_iret S hr hlocks hf hV hW dX3_hatch_42
    · replace hF := (if_pos c8).symm.trans hF
      refine lv_aload_n hx hb dX3_hatch_21 rfl (lv_at hl 0 rfl) ?_
      refine lv_iconst (v := 0) hx hb dX3_hatch_22 (by decide) ?_
      obtain ⟨q22, h23, hF⟩ := Option.bind_eq_some_iff.mp hF
      refine g_cv0 (o := some (.int q22.1)) (As := [.int 0]) (rest := []) (st1 := [.int q22.1]) (ci := 3) S hf (c_X3_finding l G ad X0 0 q22 h23) (cwV 1 hts gX3_hatch_X3_finding rfl rfl rfl (by decide +kernel) ⟨Nat.le_of_ble_eq_true rfl, Nat.le_of_ble_eq_true rfl⟩) rfl rfl rfl 0 rfl rfl hl.1 rfl rfl (Nat.le_of_ble_eq_true rfl) ⟨Nat.zero_le _, Nat.zero_le _⟩ dX3_hatch_23 (fun H locs hf => ?_)
      have hf : Fr G (va_A (wX G ad X0) s.heap.size) s (wX G ad q22.2) H locs := hf
      have hE := Option.some.inj hF
      have hV := congrArg (fun z : Int32 × K3 => z.1) hE
      have hW := congrArg (fun z : Int32 × K3 => wX G ad z.2) hE
      exact g_iret S hr hlocks hf hV hW dX3_hatch_26
def f_X3_of (X0 : K3) (a1 : Int32) (a2 : Int32) : Option (Int32 × K3) := Option.bind (f_X0_has (X0 0) a1) (fun q1 => if q1 = 0 then (Option.bind (f_X3_finding X0 0) (fun q4 => some (q4.1, q4.2))) else (Option.bind (f_X3_within a2 0 13) (fun q6 => if q6 = 0 then (Option.bind (f_X3_finding X0 0) (fun q11 => some (q11.1, q11.2))) else (Option.bind (f_X0_tell (X0 0) a1 a2) (fun q9 => some (q9, X0))))))
set_option maxHeartbeats 4000000 in
set_option maxRecDepth 100000 in
theorem c_X3_of (l : Launch) (G : GT) (ad : Nat → Nat → Nat) (X0 : K3) (a1 : Int32) (a2 : Int32) (q : Int32 × K3) (hF : f_X3_of X0 a1 a2 = some q) : Ct l G yX3_of wsX3_of ({ frames := 4, cells := 0, slots := 0, locals := 87 } : Room) ([.ref (ad 8 0), .int a1, .int a2] : List Value) (wX G ad X0) (some (.int q.1)) (wX G ad q.2) := by
  have k10 : Cond.fieldLink RX3 10 "PigeonRolls" "realm" "LPigeonRolls$Kingdom;" ∈ wsX3_of := by decide +kernel
  have hinX3 : ∀ w ∈ u_ws RX3 TX3 7, w ∈ wsX3_of := by decide +kernel
  refine Ct.of cX3_of 3 (some .int) (by decide) rfl (Nat.le_of_ble_eq_true rfl) ?_
  intro p e s m below meth c ls S hr hlocks hf hl
  have S : CallFix p m c cX3_of 3 s ([.ref (ad 8 0), .int a1, .int a2] : List Value).toArray wsX3_of RX3 := S
  obtain ⟨hx, hb, hml, hown, hts⟩ := id S
  have hl : lv_has ls 3 [(0, .ref (ad 8 0)), (1, .int a1), (2, .int a2)] := hl
  unfold f_X3_of at hF
  refine lv_aload_n hx hb dX3_of_0 rfl (lv_at hl 0 rfl) ?_
  refine g_get (ci := 3) (C := RX3) (T := TX3) (N := 7) (v := .ref (ad 0 0)) S hf hinX3 0 rfl rfl 0 (by decide) k10 rfl rfl dX3_of_1 ?_
  refine lv_iload_n hx hb dX3_of_4 rfl (lv_at hl 1 rfl) ?_
  obtain ⟨q1, h2, hF⟩ := Option.bind_eq_some_iff.mp hF
  refine g_cv (o := some (.int q1)) (As := [.int a1]) (rest := []) (st1 := [.int q1]) (ci := 0) (a := List.take 16 (wX G ad X0)) (b := List.drop 29 (wX G ad X0)) S hf (c_X0_has l G (ad 0) (X0 0) a1 q1 h2) (cwV 1 hts gX3_of_X0_has rfl rfl rfl (by decide +kernel) ⟨Nat.le_of_ble_eq_true rfl, Nat.le_of_ble_eq_true rfl⟩) rfl rfl rfl rfl 0 rfl rfl hl.1 rfl rfl (Nat.le_of_ble_eq_true rfl) ⟨Nat.zero_le _, Nat.zero_le _⟩ dX3_of_5 (fun H locs hf => ?_)
  have hf : Fr G (va_A (wX G ad X0) s.heap.size) s (wX G ad X0) H locs := hf
  refine lv_if_eq (tgt := 21) hx hb dX3_of_8 (by decide) (fun c3 => ?_) (fun c3 => ?_)
  · replace hF := (if_pos c3).symm.trans hF
    refine lv_aload_n hx hb dX3_of_21 rfl (lv_at hl 0 rfl) ?_
    refine lv_iconst (v := 0) hx hb dX3_of_22 (by decide) ?_
    obtain ⟨q4, h5, hF⟩ := Option.bind_eq_some_iff.mp hF
    refine g_cv0 (o := some (.int q4.1)) (As := [.int 0]) (rest := []) (st1 := [.int q4.1]) (ci := 3) S hf (c_X3_finding l G ad X0 0 q4 h5) (cwV 1 hts gX3_of_X3_finding rfl rfl rfl (by decide +kernel) ⟨Nat.le_of_ble_eq_true rfl, Nat.le_of_ble_eq_true rfl⟩) rfl rfl rfl 0 rfl rfl hl.1 rfl rfl (Nat.le_of_ble_eq_true rfl) ⟨Nat.zero_le _, Nat.zero_le _⟩ dX3_of_23 (fun H locs hf => ?_)
    have hf : Fr G (va_A (wX G ad X0) s.heap.size) s (wX G ad q4.2) H locs := hf
    have hE := Option.some.inj hF
    have hV := congrArg (fun z : Int32 × K3 => z.1) hE
    have hW := congrArg (fun z : Int32 × K3 => wX G ad z.2) hE
    exact g_iret S hr hlocks hf hV hW dX3_of_26
  · replace hF := (if_neg c3).symm.trans hF
    refine lv_iload_n hx hb dX3_of_11 rfl (lv_at hl 2 rfl) ?_
    refine lv_iconst (v := 0) hx hb dX3_of_12 (by decide) ?_
    refine lv_bipush (v := 13) hx hb dX3_of_13 (by decide) ?_
    obtain ⟨q6, h7, hF⟩ := Option.bind_eq_some_iff.mp hF
    refine g_cs0 (o := some (.int q6)) (As := [.int a2, .int 0, .int 13]) (rest := []) (st1 := [.int q6]) S hf (c_X3_within l G  a2 0 13 q6 h7) (va_cwS 3 hts gX3_of_X3_within rfl rfl rfl (by decide +kernel) ⟨Nat.le_of_ble_eq_true rfl, Nat.le_of_ble_eq_true rfl⟩) rfl hl.1 rfl rfl (Nat.le_of_ble_eq_true rfl) ⟨Nat.zero_le _, Nat.zero_le _⟩ dX3_of_15 (fun H locs hf => ?_)
    refine lv_if_ne (tgt := 27) hx hb dX3_of_18 (by decide) (fun c8 => ?_) (fun c8 => ?_)
    · replace hF := (if_neg c8).symm.trans hF
      refine lv_aload_n hx hb dX3_of_27 rfl (lv_at hl 0 rfl) ?_
      refine g_get (ci := 3) (C := RX3) (T := TX3) (N := 7) (v := .ref (ad 0 0)) S hf hinX3 0 rfl rfl 0 (by decide) k10 rfl rfl dX3_of_28 ?_
      refine lv_iload_n hx hb dX3_of_31 rfl (lv_at hl 1 rfl) ?_
      refine lv_iload_n hx hb dX3_of_32 rfl (lv_at hl 2 rfl) ?_
      obtain ⟨q9, h10, hF⟩ := Option.bind_eq_some_iff.mp hF
      refine g_cv (o := some (.int q9)) (As := [.int a1, .int a2]) (rest := []) (st1 := [.int q9]) (ci := 0) (a := List.take 16 (wX G ad X0)) (b := List.drop 29 (wX G ad X0)) S hf (c_X0_tell l G (ad 0) (X0 0) a1 a2 q9 h10) (cwV 2 hts gX3_of_X0_tell rfl rfl rfl (by decide +kernel) ⟨Nat.le_of_ble_eq_true rfl, Nat.le_of_ble_eq_true rfl⟩) rfl rfl rfl rfl 0 rfl rfl hl.1 rfl rfl (Nat.le_of_ble_eq_true rfl) ⟨Nat.zero_le _, Nat.zero_le _⟩ dX3_of_33 (fun H locs hf => ?_)
      have hf : Fr G (va_A (wX G ad X0) s.heap.size) s (wX G ad X0) H locs := hf
      have hE := Option.some.inj hF
      have hV := congrArg (fun z : Int32 × K3 => z.1) hE
      have hW := congrArg (fun z : Int32 × K3 => wX G ad z.2) hE
      exact g_iret S hr hlocks hf hV hW dX3_of_36
    · replace hF := (if_pos c8).symm.trans hF
      refine lv_aload_n hx hb dX3_of_21 rfl (lv_at hl 0 rfl) ?_
      refine lv_iconst (v := 0) hx hb dX3_of_22 (by decide) ?_
      obtain ⟨q11, h12, hF⟩ := Option.bind_eq_some_iff.mp hF
      refine g_cv0 (o := some (.int q11.1)) (As := [.int 0]) (rest := []) (st1 := [.int q11.1]) (ci := 3) S hf (c_X3_finding l G ad X0 0 q11 h12) (cwV 1 hts gX3_of_X3_finding rfl rfl rfl (by decide +kernel) ⟨Nat.le_of_ble_eq_true rfl, Nat.le_of_ble_eq_true rfl⟩) rfl rfl rfl 0 rfl rfl hl.1 rfl rfl (Nat.le_of_ble_eq_true rfl) ⟨Nat.zero_le _, Nat.zero_le _⟩ dX3_of_23 (fun H locs hf => ?_)
      have hf : Fr G (va_A (wX G ad X0) s.heap.size) s (wX G ad q11.2) H locs := hf
      have hE := Option.some.inj hF
      have hV := congrArg (fun z : Int32 × K3 => z.1) hE
      have hW := congrArg (fun z : Int32 × K3 => wX G ad z.2) hE
      exact g_iret S hr hlocks hf hV hW dX3_of_26
def f_X3_change (X0 : K3) (a1 : Int32) (a2 : Int32) (a3 : Int32) : Option (Int32 × K3) := Option.bind (f_X0_has (X0 0) a1) (fun q1 => if q1 = 0 then (Option.bind (f_X3_finding X0 0) (fun q4 => some (q4.1, q4.2))) else (Option.bind (f_X3_within a2 0 8) (fun q6 => if q6 = 0 then (Option.bind (f_X3_finding X0 0) (fun q9 => some (q9.1, q9.2))) else (Option.bind (f_X0_allows a1 a2 a3) (fun q11 => if q11 = 0 then (Option.bind (f_X3_finding X0 0) (fun q16 => some (q16.1, q16.2))) else (if ix a2 9 then (if ix a1 8 then (some ((X0 0) a2.toNatClampNeg a1.toNatClampNeg, va_up X0 0 (va_up (X0 0) a2.toNatClampNeg (upd ((X0 0) a2.toNatClampNeg) a1.toNatClampNeg a3)))) else none) else none))))))
set_option maxHeartbeats 4000000 in
set_option maxRecDepth 100000 in
theorem c_X3_change (l : Launch) (G : GT) (ad : Nat → Nat → Nat) (X0 : K3) (a1 : Int32) (a2 : Int32) (a3 : Int32) (q : Int32 × K3) (hF : f_X3_change X0 a1 a2 a3 = some q) : Ct l G yX3_change wsX3_change ({ frames := 2, cells := 0, slots := 0, locals := 44 } : Room) ([.ref (ad 8 0), .int a1, .int a2, .int a3] : List Value) (wX G ad X0) (some (.int q.1)) (wX G ad q.2) := by
  have k10 : Cond.fieldLink RX3 10 "PigeonRolls" "realm" "LPigeonRolls$Kingdom;" ∈ wsX3_change := by decide +kernel
  have k85 : Cond.fieldLink RX3 85 "PigeonRolls$Kingdom" "traits" "[[I" ∈ wsX3_change := by decide +kernel
  have hinX0 : ∀ w ∈ u_ws RX0 TX0 16, w ∈ wsX3_change := by decide +kernel
  have hinX3 : ∀ w ∈ u_ws RX3 TX3 7, w ∈ wsX3_change := by decide +kernel
  refine Ct.of cX3_change 5 (some .int) (by decide) rfl (Nat.le_of_ble_eq_true rfl) ?_
  intro p e s m below meth c ls S hr hlocks hf hl
  have S : CallFix p m c cX3_change 5 s ([.ref (ad 8 0), .int a1, .int a2, .int a3] : List Value).toArray wsX3_change RX3 := S
  obtain ⟨hx, hb, hml, hown, hts⟩ := id S
  have hl : lv_has ls 5 [(0, .ref (ad 8 0)), (1, .int a1), (2, .int a2), (3, .int a3)] := hl
  unfold f_X3_change at hF
  refine lv_aload_n hx hb dX3_change_0 rfl (lv_at hl 0 rfl) ?_
  refine g_get (ci := 3) (C := RX3) (T := TX3) (N := 7) (v := .ref (ad 0 0)) S hf hinX3 0 rfl rfl 0 (by decide) k10 rfl rfl dX3_change_1 ?_
  refine lv_iload_n hx hb dX3_change_4 rfl (lv_at hl 1 rfl) ?_
  obtain ⟨q1, h2, hF⟩ := Option.bind_eq_some_iff.mp hF
  refine g_cv (o := some (.int q1)) (As := [.int a1]) (rest := []) (st1 := [.int q1]) (ci := 0) (a := List.take 16 (wX G ad X0)) (b := List.drop 29 (wX G ad X0)) S hf (c_X0_has l G (ad 0) (X0 0) a1 q1 h2) (cwV 1 hts gX3_change_X0_has rfl rfl rfl (by decide +kernel) ⟨Nat.le_of_ble_eq_true rfl, Nat.le_of_ble_eq_true rfl⟩) rfl rfl rfl rfl 0 rfl rfl hl.1 rfl rfl (Nat.le_of_ble_eq_true rfl) ⟨Nat.zero_le _, Nat.zero_le _⟩ dX3_change_5 (fun H locs hf => ?_)
  have hf : Fr G (va_A (wX G ad X0) s.heap.size) s (wX G ad X0) H locs := hf
  refine lv_if_eq (tgt := 30) hx hb dX3_change_8 (by decide) (fun c3 => ?_) (fun c3 => ?_)
  · replace hF := (if_pos c3).symm.trans hF
    refine lv_aload_n hx hb dX3_change_30 rfl (lv_at hl 0 rfl) ?_
    refine lv_iconst (v := 0) hx hb dX3_change_31 (by decide) ?_
    obtain ⟨q4, h5, hF⟩ := Option.bind_eq_some_iff.mp hF
    refine g_cv0 (o := some (.int q4.1)) (As := [.int 0]) (rest := []) (st1 := [.int q4.1]) (ci := 3) S hf (c_X3_finding l G ad X0 0 q4 h5) (cwV 1 hts gX3_change_X3_finding rfl rfl rfl (by decide +kernel) ⟨Nat.le_of_ble_eq_true rfl, Nat.le_of_ble_eq_true rfl⟩) rfl rfl rfl 0 rfl rfl hl.1 rfl rfl (Nat.le_of_ble_eq_true rfl) ⟨Nat.zero_le _, Nat.zero_le _⟩ dX3_change_32 (fun H locs hf => ?_)
    have hf : Fr G (va_A (wX G ad X0) s.heap.size) s (wX G ad q4.2) H locs := hf
    have hE := Option.some.inj hF
    have hV := congrArg (fun z : Int32 × K3 => z.1) hE
    have hW := congrArg (fun z : Int32 × K3 => wX G ad z.2) hE
    exact g_iret S hr hlocks hf hV hW dX3_change_35
  · replace hF := (if_neg c3).symm.trans hF
    refine lv_iload_n hx hb dX3_change_11 rfl (lv_at hl 2 rfl) ?_
    refine lv_iconst (v := 0) hx hb dX3_change_12 (by decide) ?_
    refine lv_bipush (v := 8) hx hb dX3_change_13 (by decide) ?_
    obtain ⟨q6, h7, hF⟩ := Option.bind_eq_some_iff.mp hF
    refine g_cs0 (o := some (.int q6)) (As := [.int a2, .int 0, .int 8]) (rest := []) (st1 := [.int q6]) S hf (c_X3_within l G  a2 0 8 q6 h7) (va_cwS 3 hts gX3_change_X3_within rfl rfl rfl (by decide +kernel) ⟨Nat.le_of_ble_eq_true rfl, Nat.le_of_ble_eq_true rfl⟩) rfl hl.1 rfl rfl (Nat.le_of_ble_eq_true rfl) ⟨Nat.zero_le _, Nat.zero_le _⟩ dX3_change_15 (fun H locs hf => ?_)
    refine lv_if_eq (tgt := 30) hx hb dX3_change_18 (by decide) (fun c8 => ?_) (fun c8 => ?_)
    · replace hF := (if_pos c8).symm.trans hF
      refine lv_aload_n hx hb dX3_change_30 rfl (lv_at hl 0 rfl) ?_
      refine lv_iconst (v := 0) hx hb dX3_change_31 (by decide) ?_
      obtain ⟨q9, h10, hF⟩ := Option.bind_eq_some_iff.mp hF
      refine g_cv0 (o := some (.int q9.1)) (As := [.int 0]) (rest := []) (st1 := [.int q9.1]) (ci := 3) S hf (c_X3_finding l G ad X0 0 q9 h10) (cwV 1 hts gX3_change_X3_finding rfl rfl rfl (by decide +kernel) ⟨Nat.le_of_ble_eq_true rfl, Nat.le_of_ble_eq_true rfl⟩) rfl rfl rfl 0 rfl rfl hl.1 rfl rfl (Nat.le_of_ble_eq_true rfl) ⟨Nat.zero_le _, Nat.zero_le _⟩ dX3_change_32 (fun H locs hf => ?_)
      have hf : Fr G (va_A (wX G ad X0) s.heap.size) s (wX G ad q9.2) H locs := hf
      have hE := Option.some.inj hF
      have hV := congrArg (fun z : Int32 × K3 => z.1) hE
      have hW := congrArg (fun z : Int32 × K3 => wX G ad z.2) hE
      exact g_iret S hr hlocks hf hV hW dX3_change_35
    · replace hF := (if_neg c8).symm.trans hF
      refine lv_iload_n hx hb dX3_change_21 rfl (lv_at hl 1 rfl) ?_
      refine lv_iload_n hx hb dX3_change_22 rfl (lv_at hl 2 rfl) ?_
      refine lv_iload_n hx hb dX3_change_23 rfl (lv_at hl 3 rfl) ?_
      obtain ⟨q11, h12, hF⟩ := Option.bind_eq_some_iff.mp hF
      refine g_cs0 (o := some (.int q11)) (As := [.int a1, .int a2, .int a3]) (rest := []) (st1 := [.int q11]) S hf (c_X0_allows l G  a1 a2 a3 q11 h12) (va_cwS 3 hts gX3_change_X0_allows rfl rfl rfl (by decide +kernel) ⟨Nat.le_of_ble_eq_true rfl, Nat.le_of_ble_eq_true rfl⟩) rfl hl.1 rfl rfl (Nat.le_of_ble_eq_true rfl) ⟨Nat.zero_le _, Nat.zero_le _⟩ dX3_change_24 (fun H locs hf => ?_)
      refine lv_if_ne (tgt := 36) hx hb dX3_change_27 (by decide) (fun c13 => ?_) (fun c13 => ?_)
      · replace hF := (if_neg c13).symm.trans hF
        refine lv_aload_n hx hb dX3_change_36 rfl (lv_at hl 0 rfl) ?_
        refine g_get (ci := 3) (C := RX3) (T := TX3) (N := 7) (v := .ref (ad 0 0)) S hf hinX3 0 rfl rfl 0 (by decide) k10 rfl rfl dX3_change_37 ?_
        refine g_get (ci := 0) (C := RX0) (T := TX0) (N := 16) (v := .ref (ad 0 3)) S hf hinX0 16 rfl rfl 6 (by decide) k85 rfl rfl dX3_change_40 ?_
        refine lv_iload_n hx hb dX3_change_43 rfl (lv_at hl 2 rfl) ?_
        obtain ⟨g14, hF⟩ := gd_some hF
        refine g_aald (v := ad 0 (4 + a2.toNatClampNeg)) (t0 := 1) S hf 19 rfl rfl rfl g14 (if_pos (ix_lt g14)) dX3_change_44 ?_
        refine lv_iload_n hx hb dX3_change_45 rfl (lv_at hl 1 rfl) ?_
        obtain ⟨g15, hF⟩ := gd_some hF
        refine g_ald (v := (X0 0) a2.toNatClampNeg a1.toNatClampNeg) S hf (20 + a2.toNatClampNeg) (wX_r0 (ix_lt g14)) g15 rfl dX3_change_46 ?_
        refine lv_istore (lv' := [(4, .int ((X0 0) a2.toNatClampNeg a1.toNatClampNeg)), (0, .ref (ad 8 0)), (1, .int a1), (2, .int a2), (3, .int a3)]) hx hb dX3_change_47 hl (by decide) rfl (fun ls hl => ?_)
        refine lv_aload_n hx hb dX3_change_49 rfl (lv_at hl 1 rfl) ?_
        refine g_get (ci := 3) (C := RX3) (T := TX3) (N := 7) (v := .ref (ad 0 0)) S hf hinX3 0 rfl rfl 0 (by decide) k10 rfl rfl dX3_change_50 ?_
        refine g_get (ci := 0) (C := RX0) (T := TX0) (N := 16) (v := .ref (ad 0 3)) S hf hinX0 16 rfl rfl 6 (by decide) k85 rfl rfl dX3_change_53 ?_
        refine lv_iload_n hx hb dX3_change_56 rfl (lv_at hl 3 rfl) ?_
        refine g_aald (v := ad 0 (4 + a2.toNatClampNeg)) (t0 := 1) S hf 19 rfl rfl rfl g14 (if_pos (ix_lt g14)) dX3_change_57 ?_
        refine lv_iload_n hx hb dX3_change_58 rfl (lv_at hl 2 rfl) ?_
        refine lv_iload_n hx hb dX3_change_59 rfl (lv_at hl 4 rfl) ?_
        refine g_ast (ww' := wX G ad (va_up X0 0 (va_up (X0 0) a2.toNatClampNeg (upd ((X0 0) a2.toNatClampNeg) a1.toNatClampNeg a3)))) S hf (20 + a2.toNatClampNeg) (wX_r0 (ix_lt g14)) g15 (wX_r0_set (ix_lt g14)) dX3_change_60 (fun H locs hf => ?_)
        refine lv_iload hx hb dX3_change_61 (lv_at hl 0 rfl) ?_
        have hE := Option.some.inj hF
        have hV := congrArg (fun z : Int32 × K3 => z.1) hE
        have hW := congrArg (fun z : Int32 × K3 => wX G ad z.2) hE
        exact g_iret S hr hlocks hf hV hW dX3_change_63
      · replace hF := (if_pos c13).symm.trans hF
        refine lv_aload_n hx hb dX3_change_30 rfl (lv_at hl 0 rfl) ?_
        refine lv_iconst (v := 0) hx hb dX3_change_31 (by decide) ?_
        obtain ⟨q16, h17, hF⟩ := Option.bind_eq_some_iff.mp hF
        refine g_cv0 (o := some (.int q16.1)) (As := [.int 0]) (rest := []) (st1 := [.int q16.1]) (ci := 3) S hf (c_X3_finding l G ad X0 0 q16 h17) (cwV 1 hts gX3_change_X3_finding rfl rfl rfl (by decide +kernel) ⟨Nat.le_of_ble_eq_true rfl, Nat.le_of_ble_eq_true rfl⟩) rfl rfl rfl 0 rfl rfl hl.1 rfl rfl (Nat.le_of_ble_eq_true rfl) ⟨Nat.zero_le _, Nat.zero_le _⟩ dX3_change_32 (fun H locs hf => ?_)
        have hf : Fr G (va_A (wX G ad X0) s.heap.size) s (wX G ad q16.2) H locs := hf
        have hE := Option.some.inj hF
        have hV := congrArg (fun z : Int32 × K3 => z.1) hE
        have hW := congrArg (fun z : Int32 × K3 => wX G ad z.2) hE
        exact g_iret S hr hlocks hf hV hW dX3_change_35
def f_X3_loft (X0 : K3) (a1 : Int32) : Option (Int32 × K3) := Option.bind (f_X3_within a1 0 5) (fun q1 => if q1 = 0 then (Option.bind (f_X3_finding X0 0) (fun q6 => some (q6.1, q6.2))) else (Option.bind (f_X0_loftSet (X0 0) a1) (fun q4 => some (q4, X0))))
set_option maxHeartbeats 4000000 in
set_option maxRecDepth 100000 in
theorem c_X3_loft (l : Launch) (G : GT) (ad : Nat → Nat → Nat) (X0 : K3) (a1 : Int32) (q : Int32 × K3) (hF : f_X3_loft X0 a1 = some q) : Ct l G yX3_loft wsX3_loft ({ frames := 1, cells := 0, slots := 0, locals := 23 } : Room) ([.ref (ad 8 0), .int a1] : List Value) (wX G ad X0) (some (.int q.1)) (wX G ad q.2) := by
  have k10 : Cond.fieldLink RX3 10 "PigeonRolls" "realm" "LPigeonRolls$Kingdom;" ∈ wsX3_loft := by decide +kernel
  have hinX3 : ∀ w ∈ u_ws RX3 TX3 7, w ∈ wsX3_loft := by decide +kernel
  refine Ct.of cX3_loft 2 (some .int) (by decide) rfl (Nat.le_of_ble_eq_true rfl) ?_
  intro p e s m below meth c ls S hr hlocks hf hl
  have S : CallFix p m c cX3_loft 2 s ([.ref (ad 8 0), .int a1] : List Value).toArray wsX3_loft RX3 := S
  obtain ⟨hx, hb, hml, hown, hts⟩ := id S
  have hl : lv_has ls 2 [(0, .ref (ad 8 0)), (1, .int a1)] := hl
  unfold f_X3_loft at hF
  refine lv_iload_n hx hb dX3_loft_0 rfl (lv_at hl 1 rfl) ?_
  refine lv_iconst (v := 0) hx hb dX3_loft_1 (by decide) ?_
  refine lv_iconst (v := 5) hx hb dX3_loft_2 (by decide) ?_
  obtain ⟨q1, h2, hF⟩ := Option.bind_eq_some_iff.mp hF
  refine g_cs0 (o := some (.int q1)) (As := [.int a1, .int 0, .int 5]) (rest := []) (st1 := [.int q1]) S hf (c_X3_within l G  a1 0 5 q1 h2) (va_cwS 3 hts gX3_loft_X3_within rfl rfl rfl (by decide +kernel) ⟨Nat.le_of_ble_eq_true rfl, Nat.le_of_ble_eq_true rfl⟩) rfl hl.1 rfl rfl (Nat.le_of_ble_eq_true rfl) ⟨Nat.zero_le _, Nat.zero_le _⟩ dX3_loft_3 (fun H locs hf => ?_)
  refine lv_if_ne (tgt := 15) hx hb dX3_loft_6 (by decide) (fun c3 => ?_) (fun c3 => ?_)
  · replace hF := (if_neg c3).symm.trans hF
    refine lv_aload_n hx hb dX3_loft_15 rfl (lv_at hl 0 rfl) ?_
    refine g_get (ci := 3) (C := RX3) (T := TX3) (N := 7) (v := .ref (ad 0 0)) S hf hinX3 0 rfl rfl 0 (by decide) k10 rfl rfl dX3_loft_16 ?_
    refine lv_iload_n hx hb dX3_loft_19 rfl (lv_at hl 1 rfl) ?_
    obtain ⟨q4, h5, hF⟩ := Option.bind_eq_some_iff.mp hF
    refine g_cv (o := some (.int q4)) (As := [.int a1]) (rest := []) (st1 := [.int q4]) (ci := 0) (a := List.take 16 (wX G ad X0)) (b := List.drop 29 (wX G ad X0)) S hf (c_X0_loftSet l G (ad 0) (X0 0) a1 q4 h5) (cwV 1 hts gX3_loft_X0_loftSet rfl rfl rfl (by decide +kernel) ⟨Nat.le_of_ble_eq_true rfl, Nat.le_of_ble_eq_true rfl⟩) rfl rfl rfl rfl 0 rfl rfl hl.1 rfl rfl (Nat.le_of_ble_eq_true rfl) ⟨Nat.zero_le _, Nat.zero_le _⟩ dX3_loft_20 (fun H locs hf => ?_)
    have hf : Fr G (va_A (wX G ad X0) s.heap.size) s (wX G ad X0) H locs := hf
    have hE := Option.some.inj hF
    have hV := congrArg (fun z : Int32 × K3 => z.1) hE
    have hW := congrArg (fun z : Int32 × K3 => wX G ad z.2) hE
    exact g_iret S hr hlocks hf hV hW dX3_loft_23
  · replace hF := (if_pos c3).symm.trans hF
    refine lv_aload_n hx hb dX3_loft_9 rfl (lv_at hl 0 rfl) ?_
    refine lv_iconst (v := 0) hx hb dX3_loft_10 (by decide) ?_
    obtain ⟨q6, h7, hF⟩ := Option.bind_eq_some_iff.mp hF
    refine g_cv0 (o := some (.int q6.1)) (As := [.int 0]) (rest := []) (st1 := [.int q6.1]) (ci := 3) S hf (c_X3_finding l G ad X0 0 q6 h7) (cwV 1 hts gX3_loft_X3_finding rfl rfl rfl (by decide +kernel) ⟨Nat.le_of_ble_eq_true rfl, Nat.le_of_ble_eq_true rfl⟩) rfl rfl rfl 0 rfl rfl hl.1 rfl rfl (Nat.le_of_ble_eq_true rfl) ⟨Nat.zero_le _, Nat.zero_le _⟩ dX3_loft_11 (fun H locs hf => ?_)
    have hf : Fr G (va_A (wX G ad X0) s.heap.size) s (wX G ad q6.2) H locs := hf
    have hE := Option.some.inj hF
    have hV := congrArg (fun z : Int32 × K3 => z.1) hE
    have hW := congrArg (fun z : Int32 × K3 => wX G ad z.2) hE
    exact g_iret S hr hlocks hf hV hW dX3_loft_14
def f_X3_issue (X0 : K3) (a1 : Int32) : Option (Int32 × K3) := Option.bind (f_X0_has (X0 0) a1) (fun q1 => if q1 = 0 then (Option.bind (f_X3_finding X0 0) (fun q6 => some (q6.1, q6.2))) else (Option.bind (f_X0_issueSet (X0 0) a1) (fun q4 => some (q4, X0))))
set_option maxHeartbeats 4000000 in
set_option maxRecDepth 100000 in
theorem c_X3_issue (l : Launch) (G : GT) (ad : Nat → Nat → Nat) (X0 : K3) (a1 : Int32) (q : Int32 × K3) (hF : f_X3_issue X0 a1 = some q) : Ct l G yX3_issue wsX3_issue ({ frames := 1, cells := 0, slots := 0, locals := 24 } : Room) ([.ref (ad 8 0), .int a1] : List Value) (wX G ad X0) (some (.int q.1)) (wX G ad q.2) := by
  have k10 : Cond.fieldLink RX3 10 "PigeonRolls" "realm" "LPigeonRolls$Kingdom;" ∈ wsX3_issue := by decide +kernel
  have hinX3 : ∀ w ∈ u_ws RX3 TX3 7, w ∈ wsX3_issue := by decide +kernel
  refine Ct.of cX3_issue 2 (some .int) (by decide) rfl (Nat.le_of_ble_eq_true rfl) ?_
  intro p e s m below meth c ls S hr hlocks hf hl
  have S : CallFix p m c cX3_issue 2 s ([.ref (ad 8 0), .int a1] : List Value).toArray wsX3_issue RX3 := S
  obtain ⟨hx, hb, hml, hown, hts⟩ := id S
  have hl : lv_has ls 2 [(0, .ref (ad 8 0)), (1, .int a1)] := hl
  unfold f_X3_issue at hF
  refine lv_aload_n hx hb dX3_issue_0 rfl (lv_at hl 0 rfl) ?_
  refine g_get (ci := 3) (C := RX3) (T := TX3) (N := 7) (v := .ref (ad 0 0)) S hf hinX3 0 rfl rfl 0 (by decide) k10 rfl rfl dX3_issue_1 ?_
  refine lv_iload_n hx hb dX3_issue_4 rfl (lv_at hl 1 rfl) ?_
  obtain ⟨q1, h2, hF⟩ := Option.bind_eq_some_iff.mp hF
  refine g_cv (o := some (.int q1)) (As := [.int a1]) (rest := []) (st1 := [.int q1]) (ci := 0) (a := List.take 16 (wX G ad X0)) (b := List.drop 29 (wX G ad X0)) S hf (c_X0_has l G (ad 0) (X0 0) a1 q1 h2) (cwV 1 hts gX3_issue_X0_has rfl rfl rfl (by decide +kernel) ⟨Nat.le_of_ble_eq_true rfl, Nat.le_of_ble_eq_true rfl⟩) rfl rfl rfl rfl 0 rfl rfl hl.1 rfl rfl (Nat.le_of_ble_eq_true rfl) ⟨Nat.zero_le _, Nat.zero_le _⟩ dX3_issue_5 (fun H locs hf => ?_)
  have hf : Fr G (va_A (wX G ad X0) s.heap.size) s (wX G ad X0) H locs := hf
  refine lv_if_ne (tgt := 17) hx hb dX3_issue_8 (by decide) (fun c3 => ?_) (fun c3 => ?_)
  · replace hF := (if_neg c3).symm.trans hF
    refine lv_aload_n hx hb dX3_issue_17 rfl (lv_at hl 0 rfl) ?_
    refine g_get (ci := 3) (C := RX3) (T := TX3) (N := 7) (v := .ref (ad 0 0)) S hf hinX3 0 rfl rfl 0 (by decide) k10 rfl rfl dX3_issue_18 ?_
    refine lv_iload_n hx hb dX3_issue_21 rfl (lv_at hl 1 rfl) ?_
    obtain ⟨q4, h5, hF⟩ := Option.bind_eq_some_iff.mp hF
    refine g_cv (o := some (.int q4)) (As := [.int a1]) (rest := []) (st1 := [.int q4]) (ci := 0) (a := List.take 16 (wX G ad X0)) (b := List.drop 29 (wX G ad X0)) S hf (c_X0_issueSet l G (ad 0) (X0 0) a1 q4 h5) (cwV 1 hts gX3_issue_X0_issueSet rfl rfl rfl (by decide +kernel) ⟨Nat.le_of_ble_eq_true rfl, Nat.le_of_ble_eq_true rfl⟩) rfl rfl rfl rfl 0 rfl rfl hl.1 rfl rfl (Nat.le_of_ble_eq_true rfl) ⟨Nat.zero_le _, Nat.zero_le _⟩ dX3_issue_22 (fun H locs hf => ?_)
    have hf : Fr G (va_A (wX G ad X0) s.heap.size) s (wX G ad X0) H locs := hf
    have hE := Option.some.inj hF
    have hV := congrArg (fun z : Int32 × K3 => z.1) hE
    have hW := congrArg (fun z : Int32 × K3 => wX G ad z.2) hE
    exact g_iret S hr hlocks hf hV hW dX3_issue_25
  · replace hF := (if_pos c3).symm.trans hF
    refine lv_aload_n hx hb dX3_issue_11 rfl (lv_at hl 0 rfl) ?_
    refine lv_iconst (v := 0) hx hb dX3_issue_12 (by decide) ?_
    obtain ⟨q6, h7, hF⟩ := Option.bind_eq_some_iff.mp hF
    refine g_cv0 (o := some (.int q6.1)) (As := [.int 0]) (rest := []) (st1 := [.int q6.1]) (ci := 3) S hf (c_X3_finding l G ad X0 0 q6 h7) (cwV 1 hts gX3_issue_X3_finding rfl rfl rfl (by decide +kernel) ⟨Nat.le_of_ble_eq_true rfl, Nat.le_of_ble_eq_true rfl⟩) rfl rfl rfl 0 rfl rfl hl.1 rfl rfl (Nat.le_of_ble_eq_true rfl) ⟨Nat.zero_le _, Nat.zero_le _⟩ dX3_issue_13 (fun H locs hf => ?_)
    have hf : Fr G (va_A (wX G ad X0) s.heap.size) s (wX G ad q6.2) H locs := hf
    have hE := Option.some.inj hF
    have hV := congrArg (fun z : Int32 × K3 => z.1) hE
    have hW := congrArg (fun z : Int32 × K3 => wX G ad z.2) hE
    exact g_iret S hr hlocks hf hV hW dX3_issue_16
def f_X3_go (X0 : K3) (a1 : Int32) : Option (Int32 × K3) := Option.bind (f_X3_within a1 1 60) (fun q1 => if q1 = 0 then (Option.bind (f_X3_finding X0 0) (fun q9 => some (q9.1, q9.2))) else (if (((X0 0) 11 0) + a1) ≤ 99999 then (Option.bind (f_X0_passDays (X0 0) a1) (fun q5 => some (q5 11 1, va_up X0 0 q5))) else (Option.bind (f_X3_finding X0 4) (fun q7 => some (q7.1, q7.2)))))
set_option maxHeartbeats 4000000 in
set_option maxRecDepth 100000 in
theorem c_X3_go (l : Launch) (G : GT) (ad : Nat → Nat → Nat) (X0 : K3) (a1 : Int32) (q : Int32 × K3) (hF : f_X3_go X0 a1 = some q) : Ct l G yX3_go wsX3_go ({ frames := 6, cells := 0, slots := 0, locals := 133 } : Room) ([.ref (ad 8 0), .int a1] : List Value) (wX G ad X0) (some (.int q.1)) (wX G ad q.2) := by
  have k10 : Cond.fieldLink RX3 10 "PigeonRolls" "realm" "LPigeonRolls$Kingdom;" ∈ wsX3_go := by decide +kernel
  have k95 : Cond.fieldLink RX3 95 "PigeonRolls$Kingdom" "day" "I" ∈ wsX3_go := by decide +kernel
  have kc55 : Cond.constant RX3 55 (99999) ∈ wsX3_go := by decide +kernel
  have k56 : Cond.fieldLink RX3 56 "PigeonRolls$Kingdom" "treasury" "I" ∈ wsX3_go := by decide +kernel
  have hinX0 : ∀ w ∈ u_ws RX0 TX0 16, w ∈ wsX3_go := by decide +kernel
  have hinX3 : ∀ w ∈ u_ws RX3 TX3 7, w ∈ wsX3_go := by decide +kernel
  refine Ct.of cX3_go 2 (some .int) (by decide) rfl (Nat.le_of_ble_eq_true rfl) ?_
  intro p e s m below meth c ls S hr hlocks hf hl
  have S : CallFix p m c cX3_go 2 s ([.ref (ad 8 0), .int a1] : List Value).toArray wsX3_go RX3 := S
  obtain ⟨hx, hb, hml, hown, hts⟩ := id S
  have hl : lv_has ls 2 [(0, .ref (ad 8 0)), (1, .int a1)] := hl
  unfold f_X3_go at hF
  refine lv_iload_n hx hb dX3_go_0 rfl (lv_at hl 1 rfl) ?_
  refine lv_iconst (v := 1) hx hb dX3_go_1 (by decide) ?_
  refine lv_bipush (v := 60) hx hb dX3_go_2 (by decide) ?_
  obtain ⟨q1, h2, hF⟩ := Option.bind_eq_some_iff.mp hF
  refine g_cs0 (o := some (.int q1)) (As := [.int a1, .int 1, .int 60]) (rest := []) (st1 := [.int q1]) S hf (c_X3_within l G  a1 1 60 q1 h2) (va_cwS 3 hts gX3_go_X3_within rfl rfl rfl (by decide +kernel) ⟨Nat.le_of_ble_eq_true rfl, Nat.le_of_ble_eq_true rfl⟩) rfl hl.1 rfl rfl (Nat.le_of_ble_eq_true rfl) ⟨Nat.zero_le _, Nat.zero_le _⟩ dX3_go_4 (fun H locs hf => ?_)
  refine lv_if_ne (tgt := 16) hx hb dX3_go_7 (by decide) (fun c3 => ?_) (fun c3 => ?_)
  · replace hF := (if_neg c3).symm.trans hF
    refine lv_aload_n hx hb dX3_go_16 rfl (lv_at hl 0 rfl) ?_
    refine g_get (ci := 3) (C := RX3) (T := TX3) (N := 7) (v := .ref (ad 0 0)) S hf hinX3 0 rfl rfl 0 (by decide) k10 rfl rfl dX3_go_17 ?_
    refine g_get (ci := 0) (C := RX0) (T := TX0) (N := 16) (v := .int ((X0 0) 11 0)) S hf hinX0 16 rfl rfl 0 (by decide) k95 rfl rfl dX3_go_20 ?_
    refine lv_iload_n hx hb dX3_go_23 rfl (lv_at hl 1 rfl) ?_
    refine lv_iadd hx hb dX3_go_24 ?_
    refine lv_ldc (v := 99999) hx hb hown (hts _ kc55) dX3_go_25 ?_
    refine lv_icmp_le (tgt := 36) hx hb dX3_go_27 (by decide) (fun c4 => ?_) (fun c4 => ?_)
    · replace hF := (if_pos c4).symm.trans hF
      refine lv_aload_n hx hb dX3_go_36 rfl (lv_at hl 0 rfl) ?_
      refine g_get (ci := 3) (C := RX3) (T := TX3) (N := 7) (v := .ref (ad 0 0)) S hf hinX3 0 rfl rfl 0 (by decide) k10 rfl rfl dX3_go_37 ?_
      refine lv_iload_n hx hb dX3_go_40 rfl (lv_at hl 1 rfl) ?_
      obtain ⟨q5, h6, hF⟩ := Option.bind_eq_some_iff.mp hF
      refine g_cv (o := none) (As := [.int a1]) (rest := []) (st1 := []) (ci := 0) (a := List.take 16 (wX G ad X0)) (b := List.drop 29 (wX G ad X0)) S hf (c_X0_passDays l G (ad 0) (X0 0) a1 q5 h6) (cwV 1 hts gX3_go_X0_passDays rfl rfl rfl (by decide +kernel) ⟨Nat.le_of_ble_eq_true rfl, Nat.le_of_ble_eq_true rfl⟩) rfl rfl rfl rfl 0 rfl rfl hl.1 rfl rfl (Nat.le_of_ble_eq_true rfl) ⟨Nat.zero_le _, Nat.zero_le _⟩ dX3_go_41 (fun H locs hf => ?_)
      have hf : Fr G (va_A (wX G ad X0) s.heap.size) s (wX G ad (va_up X0 0 q5)) H locs := hf
      refine lv_aload_n hx hb dX3_go_44 rfl (lv_at hl 0 rfl) ?_
      refine g_get (ci := 3) (C := RX3) (T := TX3) (N := 7) (v := .ref (ad 0 0)) S hf hinX3 0 rfl rfl 0 (by decide) k10 rfl rfl dX3_go_45 ?_
      refine g_get (ci := 0) (C := RX0) (T := TX0) (N := 16) (v := .int (q5 11 1)) S hf hinX0 16 rfl rfl 1 (by decide) k56 rfl rfl dX3_go_48 ?_
      have hE := Option.some.inj hF
      have hV := congrArg (fun z : Int32 × K3 => z.1) hE
      have hW := congrArg (fun z : Int32 × K3 => wX G ad z.2) hE
      exact g_iret S hr hlocks hf hV hW dX3_go_51
    · replace hF := (if_neg c4).symm.trans hF
      refine lv_aload_n hx hb dX3_go_30 rfl (lv_at hl 0 rfl) ?_
      refine lv_iconst (v := 4) hx hb dX3_go_31 (by decide) ?_
      obtain ⟨q7, h8, hF⟩ := Option.bind_eq_some_iff.mp hF
      refine g_cv0 (o := some (.int q7.1)) (As := [.int 4]) (rest := []) (st1 := [.int q7.1]) (ci := 3) S hf (c_X3_finding l G ad X0 4 q7 h8) (cwV 1 hts gX3_go_X3_finding rfl rfl rfl (by decide +kernel) ⟨Nat.le_of_ble_eq_true rfl, Nat.le_of_ble_eq_true rfl⟩) rfl rfl rfl 0 rfl rfl hl.1 rfl rfl (Nat.le_of_ble_eq_true rfl) ⟨Nat.zero_le _, Nat.zero_le _⟩ dX3_go_32 (fun H locs hf => ?_)
      have hf : Fr G (va_A (wX G ad X0) s.heap.size) s (wX G ad q7.2) H locs := hf
      have hE := Option.some.inj hF
      have hV := congrArg (fun z : Int32 × K3 => z.1) hE
      have hW := congrArg (fun z : Int32 × K3 => wX G ad z.2) hE
      exact g_iret S hr hlocks hf hV hW dX3_go_35
  · replace hF := (if_pos c3).symm.trans hF
    refine lv_aload_n hx hb dX3_go_10 rfl (lv_at hl 0 rfl) ?_
    refine lv_iconst (v := 0) hx hb dX3_go_11 (by decide) ?_
    obtain ⟨q9, h10, hF⟩ := Option.bind_eq_some_iff.mp hF
    refine g_cv0 (o := some (.int q9.1)) (As := [.int 0]) (rest := []) (st1 := [.int q9.1]) (ci := 3) S hf (c_X3_finding l G ad X0 0 q9 h10) (cwV 1 hts gX3_go_X3_finding rfl rfl rfl (by decide +kernel) ⟨Nat.le_of_ble_eq_true rfl, Nat.le_of_ble_eq_true rfl⟩) rfl rfl rfl 0 rfl rfl hl.1 rfl rfl (Nat.le_of_ble_eq_true rfl) ⟨Nat.zero_le _, Nat.zero_le _⟩ dX3_go_12 (fun H locs hf => ?_)
    have hf : Fr G (va_A (wX G ad X0) s.heap.size) s (wX G ad q9.2) H locs := hf
    have hE := Option.some.inj hF
    have hV := congrArg (fun z : Int32 × K3 => z.1) hE
    have hW := congrArg (fun z : Int32 × K3 => wX G ad z.2) hE
    exact g_iret S hr hlocks hf hV hW dX3_go_15
def f_X3_now (X0 : K3) (a1 : Int32) : Option (Int32 × K3) := if a1 = 0 then (some ((X0 0) 11 0, X0)) else (if a1 = 1 then (some ((X0 0) 11 1, X0)) else (if a1 = 2 then (Option.bind (f_X0_lineSet (X0 0)) (fun q4 => Option.bind (f_X0_drawSet (X0 0) q4) (fun q6 => some (q6, X0)))) else (if a1 = 3 then (Option.bind (f_X0_deadSet (X0 0)) (fun q9 => some (q9, X0))) else (if a1 = 4 then (Option.bind (f_X0_together (X0 0) 7) (fun q12 => some (q12, X0))) else (if a1 = 5 then (Option.bind (f_X0_ratesTogether (X0 0)) (fun q15 => some (q15, X0))) else (if a1 = 6 then (Option.bind (f_X0_lineSet (X0 0)) (fun q18 => some (q18, X0))) else (if a1 = 7 then (Option.bind (f_X0_together (X0 0) 8) (fun q21 => some (q21, X0))) else (Option.bind (f_X3_finding X0 0) (fun q23 => some (q23.1, q23.2))))))))))
set_option maxHeartbeats 4000000 in
set_option maxRecDepth 100000 in
theorem c_X3_now (l : Launch) (G : GT) (ad : Nat → Nat → Nat) (X0 : K3) (a1 : Int32) (q : Int32 × K3) (hF : f_X3_now X0 a1 = some q) : Ct l G yX3_now wsX3_now ({ frames := 4, cells := 0, slots := 0, locals := 88 } : Room) ([.ref (ad 8 0), .int a1] : List Value) (wX G ad X0) (some (.int q.1)) (wX G ad q.2) := by
  have k10 : Cond.fieldLink RX3 10 "PigeonRolls" "realm" "LPigeonRolls$Kingdom;" ∈ wsX3_now := by decide +kernel
  have k95 : Cond.fieldLink RX3 95 "PigeonRolls$Kingdom" "day" "I" ∈ wsX3_now := by decide +kernel
  have k56 : Cond.fieldLink RX3 56 "PigeonRolls$Kingdom" "treasury" "I" ∈ wsX3_now := by decide +kernel
  have hinX0 : ∀ w ∈ u_ws RX0 TX0 16, w ∈ wsX3_now := by decide +kernel
  have hinX3 : ∀ w ∈ u_ws RX3 TX3 7, w ∈ wsX3_now := by decide +kernel
  refine Ct.of cX3_now 2 (some .int) (by decide) rfl (Nat.le_of_ble_eq_true rfl) ?_
  intro p e s m below meth c ls S hr hlocks hf hl
  have S : CallFix p m c cX3_now 2 s ([.ref (ad 8 0), .int a1] : List Value).toArray wsX3_now RX3 := S
  obtain ⟨hx, hb, hml, hown, hts⟩ := id S
  have hl : lv_has ls 2 [(0, .ref (ad 8 0)), (1, .int a1)] := hl
  unfold f_X3_now at hF
  refine lv_iload_n hx hb dX3_now_0 rfl (lv_at hl 1 rfl) ?_
  by_cases c1 : a1 = 0
  · replace hF := (if_pos c1).symm.trans hF
    refine lv_tableIn (tgt := 48) hx hb dX3_now_1 (by rw [c1]; decide) (by rw [c1]; decide) (by rw [c1]; rfl) (by decide) ?_
    refine lv_aload_n hx hb dX3_now_48 rfl (lv_at hl 0 rfl) ?_
    refine g_get (ci := 3) (C := RX3) (T := TX3) (N := 7) (v := .ref (ad 0 0)) S hf hinX3 0 rfl rfl 0 (by decide) k10 rfl rfl dX3_now_49 ?_
    refine g_get (ci := 0) (C := RX0) (T := TX0) (N := 16) (v := .int ((X0 0) 11 0)) S hf hinX0 16 rfl rfl 0 (by decide) k95 rfl rfl dX3_now_52 ?_
    have hE := Option.some.inj hF
    have hV := congrArg (fun z : Int32 × K3 => z.1) hE
    have hW := congrArg (fun z : Int32 × K3 => wX G ad z.2) hE
    exact g_iret S hr hlocks hf hV hW dX3_now_55
  replace hF := (if_neg c1).symm.trans hF
  by_cases c2 : a1 = 1
  · replace hF := (if_pos c2).symm.trans hF
    refine lv_tableIn (tgt := 56) hx hb dX3_now_1 (by rw [c2]; decide) (by rw [c2]; decide) (by rw [c2]; rfl) (by decide) ?_
    refine lv_aload_n hx hb dX3_now_56 rfl (lv_at hl 0 rfl) ?_
    refine g_get (ci := 3) (C := RX3) (T := TX3) (N := 7) (v := .ref (ad 0 0)) S hf hinX3 0 rfl rfl 0 (by decide) k10 rfl rfl dX3_now_57 ?_
    refine g_get (ci := 0) (C := RX0) (T := TX0) (N := 16) (v := .int ((X0 0) 11 1)) S hf hinX0 16 rfl rfl 1 (by decide) k56 rfl rfl dX3_now_60 ?_
    have hE := Option.some.inj hF
    have hV := congrArg (fun z : Int32 × K3 => z.1) hE
    have hW := congrArg (fun z : Int32 × K3 => wX G ad z.2) hE
    exact g_iret S hr hlocks hf hV hW dX3_now_63
  replace hF := (if_neg c2).symm.trans hF
  by_cases c3 : a1 = 2
  · replace hF := (if_pos c3).symm.trans hF
    refine lv_tableIn (tgt := 64) hx hb dX3_now_1 (by rw [c3]; decide) (by rw [c3]; decide) (by rw [c3]; rfl) (by decide) ?_
    refine lv_aload_n hx hb dX3_now_64 rfl (lv_at hl 0 rfl) ?_
    refine g_get (ci := 3) (C := RX3) (T := TX3) (N := 7) (v := .ref (ad 0 0)) S hf hinX3 0 rfl rfl 0 (by decide) k10 rfl rfl dX3_now_65 ?_
    refine lv_aload_n hx hb dX3_now_68 rfl (lv_at hl 0 rfl) ?_
    refine g_get (ci := 3) (C := RX3) (T := TX3) (N := 7) (v := .ref (ad 0 0)) S hf hinX3 0 rfl rfl 0 (by decide) k10 rfl rfl dX3_now_69 ?_
    obtain ⟨q4, h5, hF⟩ := Option.bind_eq_some_iff.mp hF
    refine g_cv (o := some (.int q4)) (As := []) (rest := [.ref (ad 0 0)]) (st1 := [.int q4, .ref (ad 0 0)]) (ci := 0) (a := List.take 16 (wX G ad X0)) (b := List.drop 29 (wX G ad X0)) S hf (c_X0_lineSet l G (ad 0) (X0 0) q4 h5) (cwV 0 hts gX3_now_X0_lineSet rfl rfl rfl (by decide +kernel) ⟨Nat.le_of_ble_eq_true rfl, Nat.le_of_ble_eq_true rfl⟩) rfl rfl rfl rfl 0 rfl rfl hl.1 rfl rfl (Nat.le_of_ble_eq_true rfl) ⟨Nat.zero_le _, Nat.zero_le _⟩ dX3_now_72 (fun H locs hf => ?_)
    have hf : Fr G (va_A (wX G ad X0) s.heap.size) s (wX G ad X0) H locs := hf
    obtain ⟨q6, h7, hF⟩ := Option.bind_eq_some_iff.mp hF
    refine g_cv (o := some (.int q6)) (As := [.int q4]) (rest := []) (st1 := [.int q6]) (ci := 0) (a := List.take 16 (wX G ad X0)) (b := List.drop 29 (wX G ad X0)) S hf (c_X0_drawSet l G (ad 0) (X0 0) q4 q6 h7) (cwV 1 hts gX3_now_X0_drawSet rfl rfl rfl (by decide +kernel) ⟨Nat.le_of_ble_eq_true rfl, Nat.le_of_ble_eq_true rfl⟩) rfl rfl rfl rfl 0 rfl rfl hl.1 rfl rfl (Nat.le_of_ble_eq_true rfl) ⟨Nat.zero_le _, Nat.zero_le _⟩ dX3_now_75 (fun H locs hf => ?_)
    have hf : Fr G (va_A (wX G ad X0) s.heap.size) s (wX G ad X0) H locs := hf
    have hE := Option.some.inj hF
    have hV := congrArg (fun z : Int32 × K3 => z.1) hE
    have hW := congrArg (fun z : Int32 × K3 => wX G ad z.2) hE
    exact g_iret S hr hlocks hf hV hW dX3_now_78
  replace hF := (if_neg c3).symm.trans hF
  by_cases c8 : a1 = 3
  · replace hF := (if_pos c8).symm.trans hF
    refine lv_tableIn (tgt := 79) hx hb dX3_now_1 (by rw [c8]; decide) (by rw [c8]; decide) (by rw [c8]; rfl) (by decide) ?_
    refine lv_aload_n hx hb dX3_now_79 rfl (lv_at hl 0 rfl) ?_
    refine g_get (ci := 3) (C := RX3) (T := TX3) (N := 7) (v := .ref (ad 0 0)) S hf hinX3 0 rfl rfl 0 (by decide) k10 rfl rfl dX3_now_80 ?_
    obtain ⟨q9, h10, hF⟩ := Option.bind_eq_some_iff.mp hF
    refine g_cv (o := some (.int q9)) (As := []) (rest := []) (st1 := [.int q9]) (ci := 0) (a := List.take 16 (wX G ad X0)) (b := List.drop 29 (wX G ad X0)) S hf (c_X0_deadSet l G (ad 0) (X0 0) q9 h10) (cwV 0 hts gX3_now_X0_deadSet rfl rfl rfl (by decide +kernel) ⟨Nat.le_of_ble_eq_true rfl, Nat.le_of_ble_eq_true rfl⟩) rfl rfl rfl rfl 0 rfl rfl hl.1 rfl rfl (Nat.le_of_ble_eq_true rfl) ⟨Nat.zero_le _, Nat.zero_le _⟩ dX3_now_83 (fun H locs hf => ?_)
    have hf : Fr G (va_A (wX G ad X0) s.heap.size) s (wX G ad X0) H locs := hf
    have hE := Option.some.inj hF
    have hV := congrArg (fun z : Int32 × K3 => z.1) hE
    have hW := congrArg (fun z : Int32 × K3 => wX G ad z.2) hE
    exact g_iret S hr hlocks hf hV hW dX3_now_86
  replace hF := (if_neg c8).symm.trans hF
  by_cases c11 : a1 = 4
  · replace hF := (if_pos c11).symm.trans hF
    refine lv_tableIn (tgt := 87) hx hb dX3_now_1 (by rw [c11]; decide) (by rw [c11]; decide) (by rw [c11]; rfl) (by decide) ?_
    refine lv_aload_n hx hb dX3_now_87 rfl (lv_at hl 0 rfl) ?_
    refine g_get (ci := 3) (C := RX3) (T := TX3) (N := 7) (v := .ref (ad 0 0)) S hf hinX3 0 rfl rfl 0 (by decide) k10 rfl rfl dX3_now_88 ?_
    refine lv_bipush (v := 7) hx hb dX3_now_91 (by decide) ?_
    obtain ⟨q12, h13, hF⟩ := Option.bind_eq_some_iff.mp hF
    refine g_cv (o := some (.int q12)) (As := [.int 7]) (rest := []) (st1 := [.int q12]) (ci := 0) (a := List.take 16 (wX G ad X0)) (b := List.drop 29 (wX G ad X0)) S hf (c_X0_together l G (ad 0) (X0 0) 7 q12 h13) (cwV 1 hts gX3_now_X0_together rfl rfl rfl (by decide +kernel) ⟨Nat.le_of_ble_eq_true rfl, Nat.le_of_ble_eq_true rfl⟩) rfl rfl rfl rfl 0 rfl rfl hl.1 rfl rfl (Nat.le_of_ble_eq_true rfl) ⟨Nat.zero_le _, Nat.zero_le _⟩ dX3_now_93 (fun H locs hf => ?_)
    have hf : Fr G (va_A (wX G ad X0) s.heap.size) s (wX G ad X0) H locs := hf
    have hE := Option.some.inj hF
    have hV := congrArg (fun z : Int32 × K3 => z.1) hE
    have hW := congrArg (fun z : Int32 × K3 => wX G ad z.2) hE
    exact g_iret S hr hlocks hf hV hW dX3_now_96
  replace hF := (if_neg c11).symm.trans hF
  by_cases c14 : a1 = 5
  · replace hF := (if_pos c14).symm.trans hF
    refine lv_tableIn (tgt := 97) hx hb dX3_now_1 (by rw [c14]; decide) (by rw [c14]; decide) (by rw [c14]; rfl) (by decide) ?_
    refine lv_aload_n hx hb dX3_now_97 rfl (lv_at hl 0 rfl) ?_
    refine g_get (ci := 3) (C := RX3) (T := TX3) (N := 7) (v := .ref (ad 0 0)) S hf hinX3 0 rfl rfl 0 (by decide) k10 rfl rfl dX3_now_98 ?_
    obtain ⟨q15, h16, hF⟩ := Option.bind_eq_some_iff.mp hF
    refine g_cv (o := some (.int q15)) (As := []) (rest := []) (st1 := [.int q15]) (ci := 0) (a := List.take 16 (wX G ad X0)) (b := List.drop 29 (wX G ad X0)) S hf (c_X0_ratesTogether l G (ad 0) (X0 0) q15 h16) (cwV 0 hts gX3_now_X0_ratesTogether rfl rfl rfl (by decide +kernel) ⟨Nat.le_of_ble_eq_true rfl, Nat.le_of_ble_eq_true rfl⟩) rfl rfl rfl rfl 0 rfl rfl hl.1 rfl rfl (Nat.le_of_ble_eq_true rfl) ⟨Nat.zero_le _, Nat.zero_le _⟩ dX3_now_101 (fun H locs hf => ?_)
    have hf : Fr G (va_A (wX G ad X0) s.heap.size) s (wX G ad X0) H locs := hf
    have hE := Option.some.inj hF
    have hV := congrArg (fun z : Int32 × K3 => z.1) hE
    have hW := congrArg (fun z : Int32 × K3 => wX G ad z.2) hE
    exact g_iret S hr hlocks hf hV hW dX3_now_104
  replace hF := (if_neg c14).symm.trans hF
  by_cases c17 : a1 = 6
  · replace hF := (if_pos c17).symm.trans hF
    refine lv_tableIn (tgt := 105) hx hb dX3_now_1 (by rw [c17]; decide) (by rw [c17]; decide) (by rw [c17]; rfl) (by decide) ?_
    refine lv_aload_n hx hb dX3_now_105 rfl (lv_at hl 0 rfl) ?_
    refine g_get (ci := 3) (C := RX3) (T := TX3) (N := 7) (v := .ref (ad 0 0)) S hf hinX3 0 rfl rfl 0 (by decide) k10 rfl rfl dX3_now_106 ?_
    obtain ⟨q18, h19, hF⟩ := Option.bind_eq_some_iff.mp hF
    refine g_cv (o := some (.int q18)) (As := []) (rest := []) (st1 := [.int q18]) (ci := 0) (a := List.take 16 (wX G ad X0)) (b := List.drop 29 (wX G ad X0)) S hf (c_X0_lineSet l G (ad 0) (X0 0) q18 h19) (cwV 0 hts gX3_now_X0_lineSet rfl rfl rfl (by decide +kernel) ⟨Nat.le_of_ble_eq_true rfl, Nat.le_of_ble_eq_true rfl⟩) rfl rfl rfl rfl 0 rfl rfl hl.1 rfl rfl (Nat.le_of_ble_eq_true rfl) ⟨Nat.zero_le _, Nat.zero_le _⟩ dX3_now_109 (fun H locs hf => ?_)
    have hf : Fr G (va_A (wX G ad X0) s.heap.size) s (wX G ad X0) H locs := hf
    have hE := Option.some.inj hF
    have hV := congrArg (fun z : Int32 × K3 => z.1) hE
    have hW := congrArg (fun z : Int32 × K3 => wX G ad z.2) hE
    exact g_iret S hr hlocks hf hV hW dX3_now_112
  replace hF := (if_neg c17).symm.trans hF
  by_cases c20 : a1 = 7
  · replace hF := (if_pos c20).symm.trans hF
    refine lv_tableIn (tgt := 113) hx hb dX3_now_1 (by rw [c20]; decide) (by rw [c20]; decide) (by rw [c20]; rfl) (by decide) ?_
    refine lv_aload_n hx hb dX3_now_113 rfl (lv_at hl 0 rfl) ?_
    refine g_get (ci := 3) (C := RX3) (T := TX3) (N := 7) (v := .ref (ad 0 0)) S hf hinX3 0 rfl rfl 0 (by decide) k10 rfl rfl dX3_now_114 ?_
    refine lv_bipush (v := 8) hx hb dX3_now_117 (by decide) ?_
    obtain ⟨q21, h22, hF⟩ := Option.bind_eq_some_iff.mp hF
    refine g_cv (o := some (.int q21)) (As := [.int 8]) (rest := []) (st1 := [.int q21]) (ci := 0) (a := List.take 16 (wX G ad X0)) (b := List.drop 29 (wX G ad X0)) S hf (c_X0_together l G (ad 0) (X0 0) 8 q21 h22) (cwV 1 hts gX3_now_X0_together rfl rfl rfl (by decide +kernel) ⟨Nat.le_of_ble_eq_true rfl, Nat.le_of_ble_eq_true rfl⟩) rfl rfl rfl rfl 0 rfl rfl hl.1 rfl rfl (Nat.le_of_ble_eq_true rfl) ⟨Nat.zero_le _, Nat.zero_le _⟩ dX3_now_119 (fun H locs hf => ?_)
    have hf : Fr G (va_A (wX G ad X0) s.heap.size) s (wX G ad X0) H locs := hf
    have hE := Option.some.inj hF
    have hV := congrArg (fun z : Int32 × K3 => z.1) hE
    have hW := congrArg (fun z : Int32 × K3 => wX G ad z.2) hE
    exact g_iret S hr hlocks hf hV hW dX3_now_122
  replace hF := (if_neg c20).symm.trans hF
  refine lv_tableOut (tgt := 123) hx hb dX3_now_1 (by have t0 := lv_neT (a := 0) c1 (by decide); have t1 := lv_neT (a := 1) c2 (by decide); have t2 := lv_neT (a := 2) c3 (by decide); have t3 := lv_neT (a := 3) c8 (by decide); have t4 := lv_neT (a := 4) c11 (by decide); have t5 := lv_neT (a := 5) c14 (by decide); have t6 := lv_neT (a := 6) c17 (by decide); have t7 := lv_neT (a := 7) c20 (by decide); omega) (by decide) ?_
  refine lv_aload_n hx hb dX3_now_123 rfl (lv_at hl 0 rfl) ?_
  refine lv_iconst (v := 0) hx hb dX3_now_124 (by decide) ?_
  obtain ⟨q23, h24, hF⟩ := Option.bind_eq_some_iff.mp hF
  refine g_cv0 (o := some (.int q23.1)) (As := [.int 0]) (rest := []) (st1 := [.int q23.1]) (ci := 3) S hf (c_X3_finding l G ad X0 0 q23 h24) (cwV 1 hts gX3_now_X3_finding rfl rfl rfl (by decide +kernel) ⟨Nat.le_of_ble_eq_true rfl, Nat.le_of_ble_eq_true rfl⟩) rfl rfl rfl 0 rfl rfl hl.1 rfl rfl (Nat.le_of_ble_eq_true rfl) ⟨Nat.zero_le _, Nat.zero_le _⟩ dX3_now_125 (fun H locs hf => ?_)
  have hf : Fr G (va_A (wX G ad X0) s.heap.size) s (wX G ad q23.2) H locs := hf
  have hE := Option.some.inj hF
  have hV := congrArg (fun z : Int32 × K3 => z.1) hE
  have hW := congrArg (fun z : Int32 × K3 => wX G ad z.2) hE
  exact g_iret S hr hlocks hf hV hW dX3_now_128
