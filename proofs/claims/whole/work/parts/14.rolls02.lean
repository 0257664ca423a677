def f_X3_harvestFor_B80 (X : K3) : Option (Int32 × K3) := Option.bind (f_X3_finding X 3) (fun q10 => some (q10.1, q10.2))
def f_X3_harvestFor_L27 : Nat → K3 → Int32 → Int32 → Int32 → Option (Int32 × K3)
  | 0, _, _, _, _ => none
  | n + 1, X, x1, x2, x3 => if 99 < x3 then (f_X3_harvestFor_B80 X) else (Option.bind (f_X0_become2 (X 2) (X 0)) (fun q12 => if ix x1 6 then (Option.bind (f_X0_passDays (va_up q12 9 (upd (q12 9) x1.toNatClampNeg x3)) x2) (fun q15 => Option.bind (f_X0_owedSet q15) (fun q17 => if q17 = 0 then (some (x3, va_up X 2 q15)) else (f_X3_harvestFor_L27 n (va_up X 2 q15) x1 x2 (x3 + 1))))) else none))
def f_X3_harvestFor (X0 : K3) (a1 : Int32) (a2 : Int32) : Option (Int32 × K3) := Option.bind (f_X3_within a1 0 5) (fun q1 => if q1 = 0 then (Option.bind (f_X3_finding X0 0) (fun q4 => some (q4.1, q4.2))) else (Option.bind (f_X3_within a2 0 60) (fun q6 => if q6 = 0 then (Option.bind (f_X3_finding X0 0) (fun q20 => some (q20.1, q20.2))) else (f_X3_harvestFor_L27 1000 X0 a1 a2 0))))
set_option maxHeartbeats 4000000 in
set_option maxRecDepth 100000 in
theorem c_X3_harvestFor (l : Launch) (G : GT) (ad : Nat → Nat → Nat) (X0 : K3) (a1 : Int32) (a2 : Int32) (q : Int32 × K3) (hF : f_X3_harvestFor X0 a1 a2 = some q) : Ct l G yX3_harvestFor wsX3_harvestFor ({ frames := 6, cells := 0, slots := 0, locals := 133 } : Room) ([.ref (ad 8 0), .int a1, .int a2] : List Value) (wX G ad X0) (some (.int q.1)) (wX G ad q.2) := by
  have k19 : Cond.fieldLink RX3 19 "PigeonRolls" "trial" "LPigeonRolls$Kingdom;" ∈ wsX3_harvestFor := by decide +kernel
  have k10 : Cond.fieldLink RX3 10 "PigeonRolls" "realm" "LPigeonRolls$Kingdom;" ∈ wsX3_harvestFor := by decide +kernel
  have k52 : Cond.fieldLink RX3 52 "PigeonRolls$Kingdom" "list" "[I" ∈ wsX3_harvestFor := by decide +kernel
  have hinX0 : ∀ w ∈ u_ws RX0 TX0 16, w ∈ wsX3_harvestFor := by decide +kernel
  have hinX3 : ∀ w ∈ u_ws RX3 TX3 7, w ∈ wsX3_harvestFor := by decide +kernel
  refine Ct.of cX3_harvestFor 4 (some .int) (by decide) rfl (Nat.le_of_ble_eq_true rfl) ?_
  intro p e s m below meth c ls S hr hlocks hf hl
  have S : CallFix p m c cX3_harvestFor 4 s ([.ref (ad 8 0), .int a1, .int a2] : List Value).toArray wsX3_harvestFor RX3 := S
  obtain ⟨hx, hb, hml, hown, hts⟩ := id S
  have hl : lv_has ls 4 [(0, .ref (ad 8 0)), (1, .int a1), (2, .int a2)] := hl
  have hL80 : ∀ (X : K3)  (H : Heap) (locs : List Loc) (ls : Array Slot), f_X3_harvestFor_B80 X = some q → Fr G (va_A (wX G ad X0) s.heap.size) s (wX G ad X) H locs → lv_has ls 4 [(0, .ref (ad 8 0))] → W p l e ({ frames := 6, cells := 0, slots := 0, locals := 133 } : Room) s m ([.ref (ad 8 0), .int a1, .int a2] : List Value).toArray below meth c H locs 0 0 (MQ below (CPost G (wX G ad X0) s.heap.size (some (.int q.1)) (wX G ad q.2)) ([.ref (ad 8 0), .int a1, .int a2] : List Value).toArray s 0 0 (va_A (wX G ad X0) s.heap.size)) (F0 m 80 ls []) := by
    intro X H locs ls hF hf hl
    unfold f_X3_harvestFor_B80 at hF
    refine lv_aload_n hx hb dX3_harvestFor_80 rfl (lv_at hl 0 rfl) ?_
    refine lv_iconst (v := 3) hx hb dX3_harvestFor_81 (by decide) ?_
    obtain ⟨q10, h11, hF⟩ := Option.bind_eq_some_iff.mp hF
    refine g_cv0 (o := some (.int q10.1)) (As := [.int 3]) (rest := []) (st1 := [.int q10.1]) (ci := 3) S hf (c_X3_finding l G ad X 3 q10 h11) (cwV 1 hts gX3_harvestFor_X3_finding rfl rfl rfl (by decide +kernel) ⟨Nat.le_of_ble_eq_true rfl, Nat.le_of_ble_eq_true rfl⟩) rfl rfl rfl 0 rfl rfl hl.1 rfl rfl (Nat.le_of_ble_eq_true rfl) ⟨Nat.zero_le _, Nat.zero_le _⟩ dX3_harvestFor_82 (fun H locs hf => ?_)
    have hf : Fr G (va_A (wX G ad X0) s.heap.size) s (wX G ad q10.2) H locs := hf
    have hE := Option.some.inj hF
    have hV := congrArg (fun z : Int32 × K3 => z.1) hE
    have hW := congrArg (fun z : Int32 × K3 => wX G ad z.2) hE
    exact g_iret S hr hlocks hf hV hW dX3_harvestFor_85
  have hL27 : ∀ (n : Nat) (X : K3) (x1 : Int32) (x2 : Int32) (x3 : Int32)  (H : Heap) (locs : List Loc) (ls : Array Slot), f_X3_harvestFor_L27 n X x1 x2 x3 = some q → Fr G (va_A (wX G ad X0) s.heap.size) s (wX G ad X) H locs → lv_has ls 4 [(0, .ref (ad 8 0)), (1, .int x1), (2, .int x2), (3, .int x3)] → W p l e ({ frames := 6, cells := 0, slots := 0, locals := 133 } : Room) s m ([.ref (ad 8 0), .int a1, .int a2] : List Value).toArray below meth c H locs 0 0 (MQ below (CPost G (wX G ad X0) s.heap.size (some (.int q.1)) (wX G ad q.2)) ([.ref (ad 8 0), .int a1, .int a2] : List Value).toArray s 0 0 (va_A (wX G ad X0) s.heap.size)) (F0 m 27 ls []) := by
    intro n
    induction n with
    | zero =>
      intro X x1 x2 x3 H locs ls hF hf hl
      exact absurd hF (by simp [f_X3_harvestFor_L27])
    | succ n ih27 =>
      intro X x1 x2 x3 H locs ls hF hf hl
      rw [f_X3_harvestFor_L27] at hF
      refine lv_iload_n hx hb dX3_harvestFor_27 rfl (lv_at hl 3 rfl) ?_
      refine lv_bipush (v := 99) hx hb dX3_harvestFor_28 (by decide) ?_
      refine lv_icmp_gt (tgt := 80) hx hb dX3_harvestFor_30 (by decide) (fun c9 => ?_) (fun c9 => ?_)
      · replace hF := (if_pos c9).symm.trans hF
        exact hL80 X _ _ _ hF hf (lv_sub hl [0] rfl)
      · replace hF := (if_neg c9).symm.trans hF
        refine lv_aload_n hx hb dX3_harvestFor_33 rfl (lv_at hl 0 rfl) ?_
        refine g_get (ci := 3) (C := RX3) (T := TX3) (N := 7) (v := .ref (ad 2 0)) S hf hinX3 0 rfl rfl 2 (by decide) k19 rfl rfl dX3_harvestFor_34 ?_
        refine lv_aload_n hx hb dX3_harvestFor_37 rfl (lv_at hl 0 rfl) ?_
        refine g_get (ci := 3) (C := RX3) (T := TX3) (N := 7) (v := .ref (ad 0 0)) S hf hinX3 0 rfl rfl 0 (by decide) k10 rfl rfl dX3_harvestFor_38 ?_
        obtain ⟨q12, h13, hF⟩ := Option.bind_eq_some_iff.mp hF
        refine g_cv (o := none) (As := [.ref (ad 0 0)]) (rest := []) (st1 := []) (ci := 0) (a := List.take 16 (wX G ad X)) (b := List.drop 42 (wX G ad X)) S hf (c_X0_become2 l G (ad 2) (ad 0) (X 2) (X 0) q12 h13) (cwV 1 hts gX3_harvestFor_X0_become rfl rfl rfl (by decide +kernel) ⟨Nat.le_of_ble_eq_true rfl, Nat.le_of_ble_eq_true rfl⟩) rfl rfl rfl rfl 13 rfl rfl hl.1 rfl rfl (Nat.le_of_ble_eq_true rfl) ⟨Nat.zero_le _, Nat.zero_le _⟩ dX3_harvestFor_41 (fun H locs hf => ?_)
        have hf : Fr G (va_A (wX G ad X0) s.heap.size) s (wX G ad (va_up X 2 q12)) H locs := hf
        refine lv_aload_n hx hb dX3_harvestFor_44 rfl (lv_at hl 0 rfl) ?_
        refine g_get (ci := 3) (C := RX3) (T := TX3) (N := 7) (v := .ref (ad 2 0)) S hf hinX3 0 rfl rfl 2 (by decide) k19 rfl rfl dX3_harvestFor_45 ?_
        refine g_get (ci := 0) (C := RX0) (T := TX0) (N := 16) (v := .ref (ad 2 1)) S hf hinX0 29 rfl rfl 4 (by decide) k52 rfl rfl dX3_harvestFor_48 ?_
        refine lv_iload_n hx hb dX3_harvestFor_51 rfl (lv_at hl 1 rfl) ?_
        refine lv_iload_n hx hb dX3_harvestFor_52 rfl (lv_at hl 3 rfl) ?_
        obtain ⟨g14, hF⟩ := gd_some hF
        refine g_ast (ww' := wX G ad (va_up X 2 (va_up q12 9 (upd (q12 9) x1.toNatClampNeg x3)))) S hf 30 rfl g14 rfl dX3_harvestFor_53 (fun H locs hf => ?_)
        refine lv_aload_n hx hb dX3_harvestFor_54 rfl (lv_at hl 0 rfl) ?_
        refine g_get (ci := 3) (C := RX3) (T := TX3) (N := 7) (v := .ref (ad 2 0)) S hf hinX3 0 rfl rfl 2 (by decide) k19 rfl rfl dX3_harvestFor_55 ?_
        refine lv_iload_n hx hb dX3_harvestFor_58 rfl (lv_at hl 2 rfl) ?_
        obtain ⟨q15, h16, hF⟩ := Option.bind_eq_some_iff.mp hF
        refine g_cv (o := none) (As := [.int x2]) (rest := []) (st1 := []) (ci := 0) (a := List.take 29 (wX G ad (va_up X 2 (va_up q12 9 (upd (q12 9) x1.toNatClampNeg x3))))) (b := List.drop 42 (wX G ad (va_up X 2 (va_up q12 9 (upd (q12 9) x1.toNatClampNeg x3))))) S hf (c_X0_passDays l G (ad 2) (va_up q12 9 (upd (q12 9) x1.toNatClampNeg x3)) x2 q15 h16) (cwV 1 hts gX3_harvestFor_X0_passDays rfl rfl rfl (by decide +kernel) ⟨Nat.le_of_ble_eq_true rfl, Nat.le_of_ble_eq_true rfl⟩) rfl rfl rfl rfl 0 rfl rfl hl.1 rfl rfl (Nat.le_of_ble_eq_true rfl) ⟨Nat.zero_le _, Nat.zero_le _⟩ dX3_harvestFor_59 (fun H locs hf => ?_)
        have hf : Fr G (va_A (wX G ad X0) s.heap.size) s (wX G ad (va_up X 2 q15)) H locs := hf
        refine lv_aload_n hx hb dX3_harvestFor_62 rfl (lv_at hl 0 rfl) ?_
        refine g_get (ci := 3) (C := RX3) (T := TX3) (N := 7) (v := .ref (ad 2 0)) S hf hinX3 0 rfl rfl 2 (by decide) k19 rfl rfl dX3_harvestFor_63 ?_
        obtain ⟨q17, h18, hF⟩ := Option.bind_eq_some_iff.mp hF
        refine g_cv (o := some (.int q17)) (As := []) (rest := []) (st1 := [.int q17]) (ci := 0) (a := List.take 29 (wX G ad (va_up X 2 q15))) (b := List.drop 42 (wX G ad (va_up X 2 q15))) S hf (c_X0_owedSet l G (ad 2) q15 q17 h18) (cwV 0 hts gX3_harvestFor_X0_owedSet rfl rfl rfl (by decide +kernel) ⟨Nat.le_of_ble_eq_true rfl, Nat.le_of_ble_eq_true rfl⟩) rfl rfl rfl rfl 0 rfl rfl hl.1 rfl rfl (Nat.le_of_ble_eq_true rfl) ⟨Nat.zero_le _, Nat.zero_le _⟩ dX3_harvestFor_66 (fun H locs hf => ?_)
        have hf : Fr G (va_A (wX G ad X0) s.heap.size) s (wX G ad (va_up X 2 q15)) H locs := hf
        refine lv_if_ne (tgt := 74) hx hb dX3_harvestFor_69 (by decide) (fun c19 => ?_) (fun c19 => ?_)
        · replace hF := (if_neg c19).symm.trans hF
          refine lv_iinc (v := x3 + 1) (lv' := [(3, .int (x3 + 1)), (0, .ref (ad 8 0)), (1, .int x1), (2, .int x2)]) hx hb dX3_harvestFor_74 hl (k := 3) rfl rfl (by decide) rfl (fun ls hl => ?_)
          refine lv_goto (tgt := 27) hx hb dX3_harvestFor_77 (by decide) ?_
          exact ih27 (va_up X 2 q15) x1 x2 (x3 + 1) _ _ _ hF hf (lv_sub hl [1, 2, 3, 0] rfl)
        · replace hF := (if_pos c19).symm.trans hF
          refine lv_iload_n hx hb dX3_harvestFor_72 rfl (lv_at hl 3 rfl) ?_
          have hE := Option.some.inj hF
          have hV := congrArg (fun z : Int32 × K3 => z.1) hE
          have hW := congrArg (fun z : Int32 × K3 => wX G ad z.2) hE
          exact g_iret S hr hlocks hf hV hW dX3_harvestFor_73
  unfold f_X3_harvestFor at hF
  refine lv_iload_n hx hb dX3_harvestFor_0 rfl (lv_at hl 1 rfl) ?_
  refine lv_iconst (v := 0) hx hb dX3_harvestFor_1 (by decide) ?_
  refine lv_iconst (v := 5) hx hb dX3_harvestFor_2 (by decide) ?_
  obtain ⟨q1, h2, hF⟩ := Option.bind_eq_some_iff.mp hF
  refine g_cs0 (o := some (.int q1)) (As := [.int a1, .int 0, .int 5]) (rest := []) (st1 := [.int q1]) S hf (c_X3_within l G  a1 0 5 q1 h2) (va_cwS 3 hts gX3_harvestFor_X3_within rfl rfl rfl (by decide +kernel) ⟨Nat.le_of_ble_eq_true rfl, Nat.le_of_ble_eq_true rfl⟩) rfl hl.1 rfl rfl (Nat.le_of_ble_eq_true rfl) ⟨Nat.zero_le _, Nat.zero_le _⟩ dX3_harvestFor_3 (fun H locs hf => ?_)
  refine lv_if_eq (tgt := 19) hx hb dX3_harvestFor_6 (by decide) (fun c3 => ?_) (fun c3 => ?_)
  · replace hF := (if_pos c3).symm.trans hF
    refine lv_aload_n hx hb dX3_harvestFor_19 rfl (lv_at hl 0 rfl) ?_
    refine lv_iconst (v := 0) hx hb dX3_harvestFor_20 (by decide) ?_
    obtain ⟨q4, h5, hF⟩ := Option.bind_eq_some_iff.mp hF
    refine g_cv0 (o := some (.int q4.1)) (As := [.int 0]) (rest := []) (st1 := [.int q4.1]) (ci := 3) S hf (c_X3_finding l G ad X0 0 q4 h5) (cwV 1 hts gX3_harvestFor_X3_finding rfl rfl rfl (by decide +kernel) ⟨Nat.le_of_ble_eq_true rfl, Nat.le_of_ble_eq_true rfl⟩) rfl rfl rfl 0 rfl rfl hl.1 rfl rfl (Nat.le_of_ble_eq_true rfl) ⟨Nat.zero_le _, Nat.zero_le _⟩ dX3_harvestFor_21 (fun H locs hf => ?_)
    have hf : Fr G (va_A (wX G ad X0) s.heap.size) s (wX G ad q4.2) H locs := hf
    have hE := Option.some.inj hF
    have hV := congrArg (fun z : Int32 × K3 => z.1) hE
    have hW := congrArg (fun z : Int32 × K3 => wX G ad z.2) hE
    exact g_iret S hr hlocks hf hV hW dX3_harvestFor_24
  · replace hF := (if_neg c3).symm.trans hF
    refine lv_iload_n hx hb dX3_harvestFor_9 rfl (lv_at hl 2 rfl) ?_
    refine lv_iconst (v := 0) hx hb dX3_harvestFor_10 (by decide) ?_
    refine lv_bipush (v := 60) hx hb dX3_harvestFor_11 (by decide) ?_
    obtain ⟨q6, h7, hF⟩ := Option.bind_eq_some_iff.mp hF
    refine g_cs0 (o := some (.int q6)) (As := [.int a2, .int 0, .int 60]) (rest := []) (st1 := [.int q6]) S hf (c_X3_within l G  a2 0 60 q6 h7) (va_cwS 3 hts gX3_harvestFor_X3_within rfl rfl rfl (by decide +kernel) ⟨Nat.le_of_ble_eq_true rfl, Nat.le_of_ble_eq_true rfl⟩) rfl hl.1 rfl rfl (Nat.le_of_ble_eq_true rfl) ⟨Nat.zero_le _, Nat.zero_le _⟩ dX3_harvestFor_13 (fun H locs hf => ?_)
    refine lv_if_ne (tgt := 25) hx hb dX3_harvestFor_16 (by decide) (fun c8 => ?_) (fun c8 => ?_)
    · replace hF := (if_neg c8).symm.trans hF
      refine lv_iconst (v := 0) hx hb dX3_harvestFor_25 (by decide) ?_
      refine lv_istore_n (lv' := [(3, .int 0), (0, .ref (ad 8 0)), (1, .int a1), (2, .int a2)]) hx hb dX3_harvestFor_26 rfl hl (by decide) rfl (fun ls hl => ?_)
      exact hL27 1000 X0 a1 a2 0 _ _ _ hF hf (lv_sub hl [1, 2, 3, 0] rfl)
    · replace hF := (if_pos c8).symm.trans hF
      refine lv_aload_n hx hb dX3_harvestFor_19 rfl (lv_at hl 0 rfl) ?_
      refine lv_iconst (v := 0) hx hb dX3_harvestFor_20 (by decide) ?_
      obtain ⟨q20, h21, hF⟩ := Option.bind_eq_some_iff.mp hF
      refine g_cv0 (o := some (.int q20.1)) (As := [.int 0]) (rest := []) (st1 := [.int q20.1]) (ci := 3) S hf (c_X3_finding l G ad X0 0 q20 h21) (cwV 1 hts gX3_harvestFor_X3_finding rfl rfl rfl (by decide +kernel) ⟨Nat.le_of_ble_eq_true rfl, Nat.le_of_ble_eq_true rfl⟩) rfl rfl rfl 0 rfl rfl hl.1 rfl rfl (Nat.le_of_ble_eq_true rfl) ⟨Nat.zero_le _, Nat.zero_le _⟩ dX3_harvestFor_21 (fun H locs hf => ?_)
      have hf : Fr G (va_A (wX G ad X0) s.heap.size) s (wX G ad q20.2) H locs := hf
      have hE := Option.some.inj hF
      have hV := congrArg (fun z : Int32 × K3 => z.1) hE
      have hW := congrArg (fun z : Int32 × K3 => wX G ad z.2) hE
      exact g_iret S hr hlocks hf hV hW dX3_harvestFor_24
def f_X3_paidWith (X0 : K3) (a1 : Int32) (a2 : Int32) (a3 : Int32) (a4 : Int32) : Option (Int32 × K3) := Option.bind (f_X0_become2 (X0 2) (X0 0)) (fun q1 => if ix a2 9 then (if ix a1 8 then (Option.bind (f_X0_passDays (va_up q1 a2.toNatClampNeg (upd (q1 a2.toNatClampNeg) a1.toNatClampNeg a3)) a4) (fun q5 => some ((q5 8) a1.toNatClampNeg, va_up X0 2 q5))) else none) else none)
set_option maxHeartbeats 4000000 in
set_option maxRecDepth 100000 in
theorem c_X3_paidWith (l : Launch) (G : GT) (ad : Nat → Nat → Nat) (X0 : K3) (a1 : Int32) (a2 : Int32) (a3 : Int32) (a4 : Int32) (q : Int32 × K3) (hF : f_X3_paidWith X0 a1 a2 a3 a4 = some q) : Ct l G yX3_paidWith wsX3_paidWith ({ frames := 6, cells := 0, slots := 0, locals := 133 } : Room) ([.ref (ad 8 0), .int a1, .int a2, .int a3, .int a4] : List Value) (wX G ad X0) (some (.int q.1)) (wX G ad q.2) := by
  have k19 : Cond.fieldLink RX3 19 "PigeonRolls" "trial" "LPigeonRolls$Kingdom;" ∈ wsX3_paidWith := by decide +kernel
  have k10 : Cond.fieldLink RX3 10 "PigeonRolls" "realm" "LPigeonRolls$Kingdom;" ∈ wsX3_paidWith := by decide +kernel
  have k85 : Cond.fieldLink RX3 85 "PigeonRolls$Kingdom" "traits" "[[I" ∈ wsX3_paidWith := by decide +kernel
  have k136 : Cond.fieldLink RX3 136 "PigeonRolls$Kingdom" "paid" "[I" ∈ wsX3_paidWith := by decide +kernel
  have hinX0 : ∀ w ∈ u_ws RX0 TX0 16, w ∈ wsX3_paidWith := by decide +kernel
  have hinX3 : ∀ w ∈ u_ws RX3 TX3 7, w ∈ wsX3_paidWith := by decide +kernel
  refine Ct.of cX3_paidWith 5 (some .int) (by decide) rfl (Nat.le_of_ble_eq_true rfl) ?_
  intro p e s m below meth c ls S hr hlocks hf hl
  have S : CallFix p m c cX3_paidWith 5 s ([.ref (ad 8 0), .int a1, .int a2, .int a3, .int a4] : List Value).toArray wsX3_paidWith RX3 := S
  obtain ⟨hx, hb, hml, hown, hts⟩ := id S
  have hl : lv_has ls 5 [(0, .ref (ad 8 0)), (1, .int a1), (2, .int a2), (3, .int a3), (4, .int a4)] := hl
  unfold f_X3_paidWith at hF
  refine lv_aload_n hx hb dX3_paidWith_0 rfl (lv_at hl 0 rfl) ?_
  refine g_get (ci := 3) (C := RX3) (T := TX3) (N := 7) (v := .ref (ad 2 0)) S hf hinX3 0 rfl rfl 2 (by decide) k19 rfl rfl dX3_paidWith_1 ?_
  refine lv_aload_n hx hb dX3_paidWith_4 rfl (lv_at hl 0 rfl) ?_
  refine g_get (ci := 3) (C := RX3) (T := TX3) (N := 7) (v := .ref (ad 0 0)) S hf hinX3 0 rfl rfl 0 (by decide) k10 rfl rfl dX3_paidWith_5 ?_
  obtain ⟨q1, h2, hF⟩ := Option.bind_eq_some_iff.mp hF
  refine g_cv (o := none) (As := [.ref (ad 0 0)]) (rest := []) (st1 := []) (ci := 0) (a := List.take 16 (wX G ad X0)) (b := List.drop 42 (wX G ad X0)) S hf (c_X0_become2 l G (ad 2) (ad 0) (X0 2) (X0 0) q1 h2) (cwV 1 hts gX3_paidWith_X0_become rfl rfl rfl (by decide +kernel) ⟨Nat.le_of_ble_eq_true rfl, Nat.le_of_ble_eq_true rfl⟩) rfl rfl rfl rfl 13 rfl rfl hl.1 rfl rfl (Nat.le_of_ble_eq_true rfl) ⟨Nat.zero_le _, Nat.zero_le _⟩ dX3_paidWith_8 (fun H locs hf => ?_)
  have hf : Fr G (va_A (wX G ad X0) s.heap.size) s (wX G ad (va_up X0 2 q1)) H locs := hf
  refine lv_aload_n hx hb dX3_paidWith_11 rfl (lv_at hl 0 rfl) ?_
  refine g_get (ci := 3) (C := RX3) (T := TX3) (N := 7) (v := .ref (ad 2 0)) S hf hinX3 0 rfl rfl 2 (by decide) k19 rfl rfl dX3_paidWith_12 ?_
  refine g_get (ci := 0) (C := RX0) (T := TX0) (N := 16) (v := .ref (ad 2 3)) S hf hinX0 29 rfl rfl 6 (by decide) k85 rfl rfl dX3_paidWith_15 ?_
  refine lv_iload_n hx hb dX3_paidWith_18 rfl (lv_at hl 2 rfl) ?_
  obtain ⟨g3, hF⟩ := gd_some hF
  refine g_aald (v := ad 2 (4 + a2.toNatClampNeg)) (t0 := 1) S hf 32 rfl rfl rfl g3 (if_pos (ix_lt g3)) dX3_paidWith_19 ?_
  refine lv_iload_n hx hb dX3_paidWith_20 rfl (lv_at hl 1 rfl) ?_
  refine lv_iload_n hx hb dX3_paidWith_21 rfl (lv_at hl 3 rfl) ?_
  obtain ⟨g4, hF⟩ := gd_some hF
  refine g_ast (ww' := wX G ad (va_up X0 2 (va_up q1 a2.toNatClampNeg (upd (q1 a2.toNatClampNeg) a1.toNatClampNeg a3)))) S hf (33 + a2.toNatClampNeg) (wX_r2 (ix_lt g3)) g4 (wX_r2_set (ix_lt g3)) dX3_paidWith_22 (fun H locs hf => ?_)
  refine lv_aload_n hx hb dX3_paidWith_23 rfl (lv_at hl 0 rfl) ?_
  refine g_get (ci := 3) (C := RX3) (T := TX3) (N := 7) (v := .ref (ad 2 0)) S hf hinX3 0 rfl rfl 2 (by decide) k19 rfl rfl dX3_paidWith_24 ?_
  refine lv_iload hx hb dX3_paidWith_27 (lv_at hl 4 rfl) ?_
  obtain ⟨q5, h6, hF⟩ := Option.bind_eq_some_iff.mp hF
  refine g_cv (o := none) (As := [.int a4]) (rest := []) (st1 := []) (ci := 0) (a := List.take 29 (wX G ad (va_up X0 2 (va_up q1 a2.toNatClampNeg (upd (q1 a2.toNatClampNeg) a1.toNatClampNeg a3))))) (b := List.drop 42 (wX G ad (va_up X0 2 (va_up q1 a2.toNatClampNeg (upd (q1 a2.toNatClampNeg) a1.toNatClampNeg a3))))) S hf (c_X0_passDays l G (ad 2) (va_up q1 a2.toNatClampNeg (upd (q1 a2.toNatClampNeg) a1.toNatClampNeg a3)) a4 q5 h6) (cwV 1 hts gX3_paidWith_X0_passDays rfl rfl rfl (by decide +kernel) ⟨Nat.le_of_ble_eq_true rfl, Nat.le_of_ble_eq_true rfl⟩) rfl rfl rfl rfl 0 rfl rfl hl.1 rfl rfl (Nat.le_of_ble_eq_true rfl) ⟨Nat.zero_le _, Nat.zero_le _⟩ dX3_paidWith_29 (fun H locs hf => ?_)
  have hf : Fr G (va_A (wX G ad X0) s.heap.size) s (wX G ad (va_up X0 2 q5)) H locs := hf
  refine lv_aload_n hx hb dX3_paidWith_32 rfl (lv_at hl 0 rfl) ?_
  refine g_get (ci := 3) (C := RX3) (T := TX3) (N := 7) (v := .ref (ad 2 0)) S hf hinX3 0 rfl rfl 2 (by decide) k19 rfl rfl dX3_paidWith_33 ?_
  refine g_get (ci := 0) (C := RX0) (T := TX0) (N := 16) (v := .ref (ad 2 12)) S hf hinX0 29 rfl rfl 15 (by decide) k136 rfl rfl dX3_paidWith_36 ?_
  refine lv_iload_n hx hb dX3_paidWith_39 rfl (lv_at hl 1 rfl) ?_
  refine g_ald (v := (q5 8) a1.toNatClampNeg) S hf 41 rfl g4 rfl dX3_paidWith_40 ?_
  have hE := Option.some.inj hF
  have hV := congrArg (fun z : Int32 × K3 => z.1) hE
  have hW := congrArg (fun z : Int32 × K3 => wX G ad z.2) hE
  exact g_iret S hr hlocks hf hV hW dX3_paidWith_41
def f_X3_kindFor_L35 : Nat → K3 → Int32 → Int32 → Int32 → Int32 → Int32 → Option (Int32 × K3)
  | 0, _, _, _, _, _, _ => none
  | n + 1, X, x1, x2, x3, x4, x5 => if 7 ≤ x5 then (some (x3, X)) else (Option.bind (f_X3_paidWith X x1 0 x5 x2) (fun q10 => if q10.1 ≤ x4 then (f_X3_kindFor_L35 n q10.2 x1 x2 x3 x4 (x5 + 1)) else (f_X3_kindFor_L35 n q10.2 x1 x2 x5 q10.1 (x5 + 1))))
def f_X3_kindFor (X0 : K3) (a1 : Int32) (a2 : Int32) : Option (Int32 × K3) := Option.bind (f_X0_has (X0 0) a1) (fun q1 => if q1 = 0 then (Option.bind (f_X3_finding X0 0) (fun q4 => some (q4.1, q4.2))) else (Option.bind (f_X3_within a2 0 60) (fun q6 => if q6 = 0 then (Option.bind (f_X3_finding X0 0) (fun q13 => some (q13.1, q13.2))) else (f_X3_kindFor_L35 1000 X0 a1 a2 0 (-1) 0))))
set_option maxHeartbeats 4000000 in
set_option maxRecDepth 100000 in
theorem c_X3_kindFor (l : Launch) (G : GT) (ad : Nat → Nat → Nat) (X0 : K3) (a1 : Int32) (a2 : Int32) (q : Int32 × K3) (hF : f_X3_kindFor X0 a1 a2 = some q) : Ct l G yX3_kindFor wsX3_kindFor ({ frames := 7, cells := 0, slots := 0, locals := 157 } : Room) ([.ref (ad 8 0), .int a1, .int a2] : List Value) (wX G ad X0) (some (.int q.1)) (wX G ad q.2) := by
  have k10 : Cond.fieldLink RX3 10 "PigeonRolls" "realm" "LPigeonRolls$Kingdom;" ∈ wsX3_kindFor := by decide +kernel
  have hinX3 : ∀ w ∈ u_ws RX3 TX3 7, w ∈ wsX3_kindFor := by decide +kernel
  refine Ct.of cX3_kindFor 7 (some .int) (by decide) rfl (Nat.le_of_ble_eq_true rfl) ?_
  intro p e s m below meth c ls S hr hlocks hf hl
  have S : CallFix p m c cX3_kindFor 7 s ([.ref (ad 8 0), .int a1, .int a2] : List Value).toArray wsX3_kindFor RX3 := S
  obtain ⟨hx, hb, hml, hown, hts⟩ := id S
  have hl : lv_has ls 7 [(0, .ref (ad 8 0)), (1, .int a1), (2, .int a2)] := hl
  have hL35 : ∀ (n : Nat) (X : K3) (x1 : Int32) (x2 : Int32) (x3 : Int32) (x4 : Int32) (x5 : Int32)  (H : Heap) (locs : List Loc) (ls : Array Slot), f_X3_kindFor_L35 n X x1 x2 x3 x4 x5 = some q → Fr G (va_A (wX G ad X0) s.heap.size) s (wX G ad X) H locs → lv_has ls 7 [(0, .ref (ad 8 0)), (1, .int x1), (2, .int x2), (3, .int x3), (4, .int x4), (5, .int x5)] → W p l e ({ frames := 7, cells := 0, slots := 0, locals := 157 } : Room) s m ([.ref (ad 8 0), .int a1, .int a2] : List Value).toArray below meth c H locs 0 0 (MQ below (CPost G (wX G ad X0) s.heap.size (some (.int q.1)) (wX G ad q.2)) ([.ref (ad 8 0), .int a1, .int a2] : List Value).toArray s 0 0 (va_A (wX G ad X0) s.heap.size)) (F0 m 35 ls []) := by
    intro n
    induction n with
    | zero =>
      intro X x1 x2 x3 x4 x5 H locs ls hF hf hl
      exact absurd hF (by simp [f_X3_kindFor_L35])
    | succ n ih35 =>
      intro X x1 x2 x3 x4 x5 H locs ls hF hf hl
      rw [f_X3_kindFor_L35] at hF
      refine lv_iload hx hb dX3_kindFor_35 (lv_at hl 5 rfl) ?_
      refine lv_bipush (v := 7) hx hb dX3_kindFor_37 (by decide) ?_
      refine lv_icmp_ge (tgt := 73) hx hb dX3_kindFor_39 (by decide) (fun c9 => ?_) (fun c9 => ?_)
      · replace hF := (if_pos c9).symm.trans hF
        refine lv_iload_n hx hb dX3_kindFor_73 rfl (lv_at hl 3 rfl) ?_
        have hE := Option.some.inj hF
        have hV := congrArg (fun z : Int32 × K3 => z.1) hE
        have hW := congrArg (fun z : Int32 × K3 => wX G ad z.2) hE
        exact g_iret S hr hlocks hf hV hW dX3_kindFor_74
      · replace hF := (if_neg c9).symm.trans hF
        refine lv_aload_n hx hb dX3_kindFor_42 rfl (lv_at hl 0 rfl) ?_
        refine lv_iload_n hx hb dX3_kindFor_43 rfl (lv_at hl 1 rfl) ?_
        refine lv_iconst (v := 0) hx hb dX3_kindFor_44 (by decide) ?_
        refine lv_iload hx hb dX3_kindFor_45 (lv_at hl 5 rfl) ?_
        refine lv_iload_n hx hb dX3_kindFor_47 rfl (lv_at hl 2 rfl) ?_
        obtain ⟨q10, h11, hF⟩ := Option.bind_eq_some_iff.mp hF
        refine g_cv0 (o := some (.int q10.1)) (As := [.int x1, .int 0, .int x5, .int x2]) (rest := []) (st1 := [.int q10.1]) (ci := 3) S hf (c_X3_paidWith l G ad X x1 0 x5 x2 q10 h11) (cwV 4 hts gX3_kindFor_X3_paidWith rfl rfl rfl (by decide +kernel) ⟨Nat.le_of_ble_eq_true rfl, Nat.le_of_ble_eq_true rfl⟩) rfl rfl rfl 0 rfl rfl hl.1 rfl rfl (Nat.le_of_ble_eq_true rfl) ⟨Nat.zero_le _, Nat.zero_le _⟩ dX3_kindFor_48 (fun H locs hf => ?_)
        have hf : Fr G (va_A (wX G ad X0) s.heap.size) s (wX G ad q10.2) H locs := hf
        refine lv_istore (lv' := [(6, .int q10.1), (0, .ref (ad 8 0)), (1, .int x1), (2, .int x2), (3, .int x3), (4, .int x4), (5, .int x5)]) hx hb dX3_kindFor_51 hl (by decide) rfl (fun ls hl => ?_)
        refine lv_iload hx hb dX3_kindFor_53 (lv_at hl 0 rfl) ?_
        refine lv_iload hx hb dX3_kindFor_55 (lv_at hl 5 rfl) ?_
        refine lv_icmp_le (tgt := 67) hx hb dX3_kindFor_57 (by decide) (fun c12 => ?_) (fun c12 => ?_)
        · replace hF := (if_pos c12).symm.trans hF
          refine lv_iinc (v := x5 + 1) (lv' := [(5, .int (x5 + 1)), (6, .int q10.1), (0, .ref (ad 8 0)), (1, .int x1), (2, .int x2), (3, .int x3), (4, .int x4)]) hx hb dX3_kindFor_67 hl (k := 6) rfl rfl (by decide) rfl (fun ls hl => ?_)
          refine lv_goto (tgt := 35) hx hb dX3_kindFor_70 (by decide) ?_
          exact ih35 q10.2 x1 x2 x3 x4 (x5 + 1) _ _ _ hF hf (lv_sub hl [2, 3, 4, 5, 6, 0] rfl)
        · replace hF := (if_neg c12).symm.trans hF
          refine lv_iload hx hb dX3_kindFor_60 (lv_at hl 0 rfl) ?_
          refine lv_istore (lv' := [(4, .int q10.1), (6, .int q10.1), (0, .ref (ad 8 0)), (1, .int x1), (2, .int x2), (3, .int x3), (5, .int x5)]) hx hb dX3_kindFor_62 hl (by decide) rfl (fun ls hl => ?_)
          refine lv_iload hx hb dX3_kindFor_64 (lv_at hl 6 rfl) ?_
          refine lv_istore_n (lv' := [(3, .int x5), (4, .int q10.1), (6, .int q10.1), (0, .ref (ad 8 0)), (1, .int x1), (2, .int x2), (5, .int x5)]) hx hb dX3_kindFor_66 rfl hl (by decide) rfl (fun ls hl => ?_)
          refine lv_iinc (v := x5 + 1) (lv' := [(5, .int (x5 + 1)), (3, .int x5), (4, .int q10.1), (6, .int q10.1), (0, .ref (ad 8 0)), (1, .int x1), (2, .int x2)]) hx hb dX3_kindFor_67 hl (k := 6) rfl rfl (by decide) rfl (fun ls hl => ?_)
          refine lv_goto (tgt := 35) hx hb dX3_kindFor_70 (by decide) ?_
          exact ih35 q10.2 x1 x2 x5 q10.1 (x5 + 1) _ _ _ hF hf (lv_sub hl [4, 5, 6, 1, 2, 0] rfl)
  unfold f_X3_kindFor at hF
  refine lv_aload_n hx hb dX3_kindFor_0 rfl (lv_at hl 0 rfl) ?_
  refine g_get (ci := 3) (C := RX3) (T := TX3) (N := 7) (v := .ref (ad 0 0)) S hf hinX3 0 rfl rfl 0 (by decide) k10 rfl rfl dX3_kindFor_1 ?_
  refine lv_iload_n hx hb dX3_kindFor_4 rfl (lv_at hl 1 rfl) ?_
  obtain ⟨q1, h2, hF⟩ := Option.bind_eq_some_iff.mp hF
  refine g_cv (o := some (.int q1)) (As := [.int a1]) (rest := []) (st1 := [.int q1]) (ci := 0) (a := List.take 16 (wX G ad X0)) (b := List.drop 29 (wX G ad X0)) S hf (c_X0_has l G (ad 0) (X0 0) a1 q1 h2) (cwV 1 hts gX3_kindFor_X0_has rfl rfl rfl (by decide +kernel) ⟨Nat.le_of_ble_eq_true rfl, Nat.le_of_ble_eq_true rfl⟩) rfl rfl rfl rfl 0 rfl rfl hl.1 rfl rfl (Nat.le_of_ble_eq_true rfl) ⟨Nat.zero_le _, Nat.zero_le _⟩ dX3_kindFor_5 (fun H locs hf => ?_)
  have hf : Fr G (va_A (wX G ad X0) s.heap.size) s (wX G ad X0) H locs := hf
  refine lv_if_eq (tgt := 21) hx hb dX3_kindFor_8 (by decide) (fun c3 => ?_) (fun c3 => ?_)
  · replace hF := (if_pos c3).symm.trans hF
    refine lv_aload_n hx hb dX3_kindFor_21 rfl (lv_at hl 0 rfl) ?_
    refine lv_iconst (v := 0) hx hb dX3_kindFor_22 (by decide) ?_
    obtain ⟨q4, h5, hF⟩ := Option.bind_eq_some_iff.mp hF
    refine g_cv0 (o := some (.int q4.1)) (As := [.int 0]) (rest := []) (st1 := [.int q4.1]) (ci := 3) S hf (c_X3_finding l G ad X0 0 q4 h5) (cwV 1 hts gX3_kindFor_X3_finding rfl rfl rfl (by decide +kernel) ⟨Nat.le_of_ble_eq_true rfl, Nat.le_of_ble_eq_true rfl⟩) rfl rfl rfl 0 rfl rfl hl.1 rfl rfl (Nat.le_of_ble_eq_true rfl) ⟨Nat.zero_le _, Nat.zero_le _⟩ dX3_kindFor_23 (fun H locs hf => ?_)
    have hf : Fr G (va_A (wX G ad X0) s.heap.size) s (wX G ad q4.2) H locs := hf
    have hE := Option.some.inj hF
    have hV := congrArg (fun z : Int32 × K3 => z.1) hE
    have hW := congrArg (fun z : Int32 × K3 => wX G ad z.2) hE
    exact g_iret S hr hlocks hf hV hW dX3_kindFor_26
  · replace hF := (if_neg c3).symm.trans hF
    refine lv_iload_n hx hb dX3_kindFor_11 rfl (lv_at hl 2 rfl) ?_
    refine lv_iconst (v := 0) hx hb dX3_kindFor_12 (by decide) ?_
    refine lv_bipush (v := 60) hx hb dX3_kindFor_13 (by decide) ?_
    obtain ⟨q6, h7, hF⟩ := Option.bind_eq_some_iff.mp hF
    refine g_cs0 (o := some (.int q6)) (As := [.int a2, .int 0, .int 60]) (rest := []) (st1 := [.int q6]) S hf (c_X3_within l G  a2 0 60 q6 h7) (va_cwS 3 hts gX3_kindFor_X3_within rfl rfl rfl (by decide +kernel) ⟨Nat.le_of_ble_eq_true rfl, Nat.le_of_ble_eq_true rfl⟩) rfl hl.1 rfl rfl (Nat.le_of_ble_eq_true rfl) ⟨Nat.zero_le _, Nat.zero_le _⟩ dX3_kindFor_15 (fun H locs hf => ?_)
    refine lv_if_ne (tgt := 27) hx hb dX3_kindFor_18 (by decide) (fun c8 => ?_) (fun c8 => ?_)
    · replace hF := (if_neg c8).symm.trans hF
      refine lv_iconst (v := 0) hx hb dX3_kindFor_27 (by decide) ?_
      refine lv_istore_n (lv' := [(3, .int 0), (0, .ref (ad 8 0)), (1, .int a1), (2, .int a2)]) hx hb dX3_kindFor_28 rfl hl (by decide) rfl (fun ls hl => ?_)
      refine lv_iconst (v := -1) hx hb dX3_kindFor_29 (by decide) ?_
      refine lv_istore (lv' := [(4, .int (-1)), (3, .int 0), (0, .ref (ad 8 0)), (1, .int a1), (2, .int a2)]) hx hb dX3_kindFor_30 hl (by decide) rfl (fun ls hl => ?_)
      refine lv_iconst (v := 0) hx hb dX3_kindFor_32 (by decide) ?_
      refine lv_istore (lv' := [(5, .int 0), (4, .int (-1)), (3, .int 0), (0, .ref (ad 8 0)), (1, .int a1), (2, .int a2)]) hx hb dX3_kindFor_33 hl (by decide) rfl (fun ls hl => ?_)
      exact hL35 1000 X0 a1 a2 0 (-1) 0 _ _ _ hF hf (lv_sub hl [3, 4, 5, 2, 1, 0] rfl)
    · replace hF := (if_pos c8).symm.trans hF
      refine lv_aload_n hx hb dX3_kindFor_21 rfl (lv_at hl 0 rfl) ?_
      refine lv_iconst (v := 0) hx hb dX3_kindFor_22 (by decide) ?_
      obtain ⟨q13, h14, hF⟩ := Option.bind_eq_some_iff.mp hF
      refine g_cv0 (o := some (.int q13.1)) (As := [.int 0]) (rest := []) (st1 := [.int q13.1]) (ci := 3) S hf (c_X3_finding l G ad X0 0 q13 h14) (cwV 1 hts gX3_kindFor_X3_finding rfl rfl rfl (by decide +kernel) ⟨Nat.le_of_ble_eq_true rfl, Nat.le_of_ble_eq_true rfl⟩) rfl rfl rfl 0 rfl rfl hl.1 rfl rfl (Nat.le_of_ble_eq_true rfl) ⟨Nat.zero_le _, Nat.zero_le _⟩ dX3_kindFor_23 (fun H locs hf => ?_)
      have hf : Fr G (va_A (wX G ad X0) s.heap.size) s (wX G ad q13.2) H locs := hf
      have hE := Option.some.inj hF
      have hV := congrArg (fun z : Int32 × K3 => z.1) hE
      have hW := congrArg (fun z : Int32 × K3 => wX G ad z.2) hE
      exact g_iret S hr hlocks hf hV hW dX3_kindFor_26
def f_X3_parentFor_B72 (X : K3) (x1 : Int32) (x2 : Int32) (x3 : Int32) (x4 : Int32) : Option (Int32 × K3) := Option.bind (f_X3_paidWith X x1 2 (-1) x2) (fun q10 => if q10.1 ≤ x4 then (some (x3, q10.2)) else (some ((-1), q10.2)))
def f_X3_parentFor_L35 : Nat → K3 → Int32 → Int32 → Int32 → Int32 → Int32 → Option (Int32 × K3)
  | 0, _, _, _, _, _, _ => none
  | n + 1, X, x1, x2, x3, x4, x5 => if x1 ≤ x5 then (f_X3_parentFor_B72 X x1 x2 x3 x4) else (Option.bind (f_X3_paidWith X x1 2 x5 x2) (fun q13 => if q13.1 ≤ x4 then (f_X3_parentFor_L35 n q13.2 x1 x2 x3 x4 (x5 + 1)) else (f_X3_parentFor_L35 n q13.2 x1 x2 x5 q13.1 (x5 + 1))))
def f_X3_parentFor (X0 : K3) (a1 : Int32) (a2 : Int32) : Option (Int32 × K3) := Option.bind (f_X0_has (X0 0) a1) (fun q1 => if q1 = 0 then (Option.bind (f_X3_finding X0 0) (fun q4 => some (q4.1, q4.2))) else (Option.bind (f_X3_within a2 0 60) (fun q6 => if q6 = 0 then (Option.bind (f_X3_finding X0 0) (fun q16 => some (q16.1, q16.2))) else (f_X3_parentFor_L35 1000 X0 a1 a2 (-1) (-1) 0))))
set_option maxHeartbeats 4000000 in
set_option maxRecDepth 100000 in
theorem c_X3_parentFor (l : Launch) (G : GT) (ad : Nat → Nat → Nat) (X0 : K3) (a1 : Int32) (a2 : Int32) (q : Int32 × K3) (hF : f_X3_parentFor X0 a1 a2 = some q) : Ct l G yX3_parentFor wsX3_parentFor ({ frames := 7, cells := 0, slots := 0, locals := 157 } : Room) ([.ref (ad 8 0), .int a1, .int a2] : List Value) (wX G ad X0) (some (.int q.1)) (wX G ad q.2) := by
  have k10 : Cond.fieldLink RX3 10 "PigeonRolls" "realm" "LPigeonRolls$Kingdom;" ∈ wsX3_parentFor := by decide +kernel
  have hinX3 : ∀ w ∈ u_ws RX3 TX3 7, w ∈ wsX3_parentFor := by decide +kernel
  refine Ct.of cX3_parentFor 7 (some .int) (by decide) rfl (Nat.le_of_ble_eq_true rfl) ?_
  intro p e s m below meth c ls S hr hlocks hf hl
  have S : CallFix p m c cX3_parentFor 7 s ([.ref (ad 8 0), .int a1, .int a2] : List Value).toArray wsX3_parentFor RX3 := S
  obtain ⟨hx, hb, hml, hown, hts⟩ := id S
  have hl : lv_has ls 7 [(0, .ref (ad 8 0)), (1, .int a1), (2, .int a2)] := hl
  have hL72 : ∀ (X : K3) (x1 : Int32) (x2 : Int32) (x3 : Int32) (x4 : Int32)  (H : Heap) (locs : List Loc) (ls : Array Slot), f_X3_parentFor_B72 X x1 x2 x3 x4 = some q → Fr G (va_A (wX G ad X0) s.heap.size) s (wX G ad X) H locs → lv_has ls 7 [(0, .ref (ad 8 0)), (1, .int x1), (2, .int x2), (3, .int x3), (4, .int x4)] → W p l e ({ frames := 7, cells := 0, slots := 0, locals := 157 } : Room) s m ([.ref (ad 8 0), .int a1, .int a2] : List Value).toArray below meth c H locs 0 0 (MQ below (CPost G (wX G ad X0) s.heap.size (some (.int q.1)) (wX G ad q.2)) ([.ref (ad 8 0), .int a1, .int a2] : List Value).toArray s 0 0 (va_A (wX G ad X0) s.heap.size)) (F0 m 72 ls []) := by
    intro X x1 x2 x3 x4 H locs ls hF hf hl
    unfold f_X3_parentFor_B72 at hF
    refine lv_aload_n hx hb dX3_parentFor_72 rfl (lv_at hl 0 rfl) ?_
    refine lv_iload_n hx hb dX3_parentFor_73 rfl (lv_at hl 1 rfl) ?_
    refine lv_iconst (v := 2) hx hb dX3_parentFor_74 (by decide) ?_
    refine lv_iconst (v := -1) hx hb dX3_parentFor_75 (by decide) ?_
    refine lv_iload_n hx hb dX3_parentFor_76 rfl (lv_at hl 2 rfl) ?_
    obtain ⟨q10, h11, hF⟩ := Option.bind_eq_some_iff.mp hF
    refine g_cv0 (o := some (.int q10.1)) (As := [.int x1, .int 2, .int (-1), .int x2]) (rest := []) (st1 := [.int q10.1]) (ci := 3) S hf (c_X3_paidWith l G ad X x1 2 (-1) x2 q10 h11) (cwV 4 hts gX3_parentFor_X3_paidWith rfl rfl rfl (by decide +kernel) ⟨Nat.le_of_ble_eq_true rfl, Nat.le_of_ble_eq_true rfl⟩) rfl rfl rfl 0 rfl rfl hl.1 rfl rfl (Nat.le_of_ble_eq_true rfl) ⟨Nat.zero_le _, Nat.zero_le _⟩ dX3_parentFor_77 (fun H locs hf => ?_)
    have hf : Fr G (va_A (wX G ad X0) s.heap.size) s (wX G ad q10.2) H locs := hf
    refine lv_iload hx hb dX3_parentFor_80 (lv_at hl 4 rfl) ?_
    refine lv_icmp_le (tgt := 89) hx hb dX3_parentFor_82 (by decide) (fun c12 => ?_) (fun c12 => ?_)
    · replace hF := (if_pos c12).symm.trans hF
      refine lv_iload_n hx hb dX3_parentFor_89 rfl (lv_at hl 3 rfl) ?_
      have hE := Option.some.inj hF
      have hV := congrArg (fun z : Int32 × K3 => z.1) hE
      have hW := congrArg (fun z : Int32 × K3 => wX G ad z.2) hE
      exact g_iret S hr hlocks hf hV hW dX3_parentFor_90
    · replace hF := (if_neg c12).symm.trans hF
      refine lv_iconst (v := -1) hx hb dX3_parentFor_85 (by decide) ?_
      refine lv_goto (tgt := 90) hx hb dX3_parentFor_86 (by decide) ?_
      have hE := Option.some.inj hF
      have hV := congrArg (fun z : Int32 × K3 => z.1) hE
      have hW := congrArg (fun z : Int32 × K3 => wX G ad z.2) hE
      exact g_iret S hr hlocks hf hV hW dX3_parentFor_90
  have hL35 : ∀ (n : Nat) (X : K3) (x1 : Int32) (x2 : Int32) (x3 : Int32) (x4 : Int32) (x5 : Int32)  (H : Heap) (locs : List Loc) (ls : Array Slot), f_X3_parentFor_L35 n X x1 x2 x3 x4 x5 = some q → Fr G (va_A (wX G ad X0) s.heap.size) s (wX G ad X) H locs → lv_has ls 7 [(0, .ref (ad 8 0)), (1, .int x1), (2, .int x2), (3, .int x3), (4, .int x4), (5, .int x5)] → W p l e ({ frames := 7, cells := 0, slots := 0, locals := 157 } : Room) s m ([.ref (ad 8 0), .int a1, .int a2] : List Value).toArray below meth c H locs 0 0 (MQ below (CPost G (wX G ad X0) s.heap.size (some (.int q.1)) (wX G ad q.2)) ([.ref (ad 8 0), .int a1, .int a2] : List Value).toArray s 0 0 (va_A (wX G ad X0) s.heap.size)) (F0 m 35 ls []) := by
    intro n
    induction n with
    | zero =>
      intro X x1 x2 x3 x4 x5 H locs ls hF hf hl
      exact absurd hF (by simp [f_X3_parentFor_L35])
    | succ n ih35 =>
      intro X x1 x2 x3 x4 x5 H locs ls hF hf hl
      rw [f_X3_parentFor_L35] at hF
      refine lv_iload hx hb dX3_parentFor_35 (lv_at hl 5 rfl) ?_
      refine lv_iload_n hx hb dX3_parentFor_37 rfl (lv_at hl 1 rfl) ?_
      refine lv_icmp_ge (tgt := 72) hx hb dX3_parentFor_38 (by decide) (fun c9 => ?_) (fun c9 => ?_)
      · replace hF := (if_pos c9).symm.trans hF
        exact hL72 X x1 x2 x3 x4 _ _ _ hF hf (lv_sub hl [0, 1, 2, 3, 4] rfl)
      · replace hF := (if_neg c9).symm.trans hF
        refine lv_aload_n hx hb dX3_parentFor_41 rfl (lv_at hl 0 rfl) ?_
        refine lv_iload_n hx hb dX3_parentFor_42 rfl (lv_at hl 1 rfl) ?_
        refine lv_iconst (v := 2) hx hb dX3_parentFor_43 (by decide) ?_
        refine lv_iload hx hb dX3_parentFor_44 (lv_at hl 5 rfl) ?_
        refine lv_iload_n hx hb dX3_parentFor_46 rfl (lv_at hl 2 rfl) ?_
        obtain ⟨q13, h14, hF⟩ := Option.bind_eq_some_iff.mp hF
        refine g_cv0 (o := some (.int q13.1)) (As := [.int x1, .int 2, .int x5, .int x2]) (rest := []) (st1 := [.int q13.1]) (ci := 3) S hf (c_X3_paidWith l G ad X x1 2 x5 x2 q13 h14) (cwV 4 hts gX3_parentFor_X3_paidWith rfl rfl rfl (by decide +kernel) ⟨Nat.le_of_ble_eq_true rfl, Nat.le_of_ble_eq_true rfl⟩) rfl rfl rfl 0 rfl rfl hl.1 rfl rfl (Nat.le_of_ble_eq_true rfl) ⟨Nat.zero_le _, Nat.zero_le _⟩ dX3_parentFor_47 (fun H locs hf => ?_)
        have hf : Fr G (va_A (wX G ad X0) s.heap.size) s (wX G ad q13.2) H locs := hf
        refine lv_istore (lv' := [(6, .int q13.1), (0, .ref (ad 8 0)), (1, .int x1), (2, .int x2), (3, .int x3), (4, .int x4), (5, .int x5)]) hx hb dX3_parentFor_50 hl (by decide) rfl (fun ls hl => ?_)
        refine lv_iload hx hb dX3_parentFor_52 (lv_at hl 0 rfl) ?_
        refine lv_iload hx hb dX3_parentFor_54 (lv_at hl 5 rfl) ?_
        refine lv_icmp_le (tgt := 66) hx hb dX3_parentFor_56 (by decide) (fun c15 => ?_) (fun c15 => ?_)
        · replace hF := (if_pos c15).symm.trans hF
          refine lv_iinc (v := x5 + 1) (lv' := [(5, .int (x5 + 1)), (6, .int q13.1), (0, .ref (ad 8 0)), (1, .int x1), (2, .int x2), (3, .int x3), (4, .int x4)]) hx hb dX3_parentFor_66 hl (k := 6) rfl rfl (by decide) rfl (fun ls hl => ?_)
          refine lv_goto (tgt := 35) hx hb dX3_parentFor_69 (by decide) ?_
          exact ih35 q13.2 x1 x2 x3 x4 (x5 + 1) _ _ _ hF hf (lv_sub hl [2, 3, 4, 5, 6, 0] rfl)
        · replace hF := (if_neg c15).symm.trans hF
          refine lv_iload hx hb dX3_parentFor_59 (lv_at hl 0 rfl) ?_
          refine lv_istore (lv' := [(4, .int q13.1), (6, .int q13.1), (0, .ref (ad 8 0)), (1, .int x1), (2, .int x2), (3, .int x3), (5, .int x5)]) hx hb dX3_parentFor_61 hl (by decide) rfl (fun ls hl => ?_)
          refine lv_iload hx hb dX3_parentFor_63 (lv_at hl 6 rfl) ?_
          refine lv_istore_n (lv' := [(3, .int x5), (4, .int q13.1), (6, .int q13.1), (0, .ref (ad 8 0)), (1, .int x1), (2, .int x2), (5, .int x5)]) hx hb dX3_parentFor_65 rfl hl (by decide) rfl (fun ls hl => ?_)
          refine lv_iinc (v := x5 + 1) (lv' := [(5, .int (x5 + 1)), (3, .int x5), (4, .int q13.1), (6, .int q13.1), (0, .ref (ad 8 0)), (1, .int x1), (2, .int x2)]) hx hb dX3_parentFor_66 hl (k := 6) rfl rfl (by decide) rfl (fun ls hl => ?_)
          refine lv_goto (tgt := 35) hx hb dX3_parentFor_69 (by decide) ?_
          exact ih35 q13.2 x1 x2 x5 q13.1 (x5 + 1) _ _ _ hF hf (lv_sub hl [4, 5, 6, 1, 2, 0] rfl)
  unfold f_X3_parentFor at hF
  refine lv_aload_n hx hb dX3_parentFor_0 rfl (lv_at hl 0 rfl) ?_
  refine g_get (ci := 3) (C := RX3) (T := TX3) (N := 7) (v := .ref (ad 0 0)) S hf hinX3 0 rfl rfl 0 (by decide) k10 rfl rfl dX3_parentFor_1 ?_
  refine lv_iload_n hx hb dX3_parentFor_4 rfl (lv_at hl 1 rfl) ?_
  obtain ⟨q1, h2, hF⟩ := Option.bind_eq_some_iff.mp hF
  refine g_cv (o := some (.int q1)) (As := [.int a1]) (rest := []) (st1 := [.int q1]) (ci := 0) (a := List.take 16 (wX G ad X0)) (b := List.drop 29 (wX G ad X0)) S hf (c_X0_has l G (ad 0) (X0 0) a1 q1 h2) (cwV 1 hts gX3_parentFor_X0_has rfl rfl rfl (by decide +kernel) ⟨Nat.le_of_ble_eq_true rfl, Nat.le_of_ble_eq_true rfl⟩) rfl rfl rfl rfl 0 rfl rfl hl.1 rfl rfl (Nat.le_of_ble_eq_true rfl) ⟨Nat.zero_le _, Nat.zero_le _⟩ dX3_parentFor_5 (fun H locs hf => ?_)
  have hf : Fr G (va_A (wX G ad X0) s.heap.size) s (wX G ad X0) H locs := hf
  refine lv_if_eq (tgt := 21) hx hb dX3_parentFor_8 (by decide) (fun c3 => ?_) (fun c3 => ?_)
  · replace hF := (if_pos c3).symm.trans hF
    refine lv_aload_n hx hb dX3_parentFor_21 rfl (lv_at hl 0 rfl) ?_
    refine lv_iconst (v := 0) hx hb dX3_parentFor_22 (by decide) ?_
    obtain ⟨q4, h5, hF⟩ := Option.bind_eq_some_iff.mp hF
    refine g_cv0 (o := some (.int q4.1)) (As := [.int 0]) (rest := []) (st1 := [.int q4.1]) (ci := 3) S hf (c_X3_finding l G ad X0 0 q4 h5) (cwV 1 hts gX3_parentFor_X3_finding rfl rfl rfl (by decide +kernel) ⟨Nat.le_of_ble_eq_true rfl, Nat.le_of_ble_eq_true rfl⟩) rfl rfl rfl 0 rfl rfl hl.1 rfl rfl (Nat.le_of_ble_eq_true rfl) ⟨Nat.zero_le _, Nat.zero_le _⟩ dX3_parentFor_23 (fun H locs hf => ?_)
    have hf : Fr G (va_A (wX G ad X0) s.heap.size) s (wX G ad q4.2) H locs := hf
    have hE := Option.some.inj hF
    have hV := congrArg (fun z : Int32 × K3 => z.1) hE
    have hW := congrArg (fun z : Int32 × K3 => wX G ad z.2) hE
    exact g_iret S hr hlocks hf hV hW dX3_parentFor_26
  · replace hF := (if_neg c3).symm.trans hF
    refine lv_iload_n hx hb dX3_parentFor_11 rfl (lv_at hl 2 rfl) ?_
    refine lv_iconst (v := 0) hx hb dX3_parentFor_12 (by decide) ?_
    refine lv_bipush (v := 60) hx hb dX3_parentFor_13 (by decide) ?_
    obtain ⟨q6, h7, hF⟩ := Option.bind_eq_some_iff.mp hF
    refine g_cs0 (o := some (.int q6)) (As := [.int a2, .int 0, .int 60]) (rest := []) (st1 := [.int q6]) S hf (c_X3_within l G  a2 0 60 q6 h7) (va_cwS 3 hts gX3_parentFor_X3_within rfl rfl rfl (by decide +kernel) ⟨Nat.le_of_ble_eq_true rfl, Nat.le_of_ble_eq_true rfl⟩) rfl hl.1 rfl rfl (Nat.le_of_ble_eq_true rfl) ⟨Nat.zero_le _, Nat.zero_le _⟩ dX3_parentFor_15 (fun H locs hf => ?_)
    refine lv_if_ne (tgt := 27) hx hb dX3_parentFor_18 (by decide) (fun c8 => ?_) (fun c8 => ?_)
    · replace hF := (if_neg c8).symm.trans hF
      refine lv_iconst (v := -1) hx hb dX3_parentFor_27 (by decide) ?_
      refine lv_istore_n (lv' := [(3, .int (-1)), (0, .ref (ad 8 0)), (1, .int a1), (2, .int a2)]) hx hb dX3_parentFor_28 rfl hl (by decide) rfl (fun ls hl => ?_)
      refine lv_iconst (v := -1) hx hb dX3_parentFor_29 (by decide) ?_
      refine lv_istore (lv' := [(4, .int (-1)), (3, .int (-1)), (0, .ref (ad 8 0)), (1, .int a1), (2, .int a2)]) hx hb dX3_parentFor_30 hl (by decide) rfl (fun ls hl => ?_)
      refine lv_iconst (v := 0) hx hb dX3_parentFor_32 (by decide) ?_
      refine lv_istore (lv' := [(5, .int 0), (4, .int (-1)), (3, .int (-1)), (0, .ref (ad 8 0)), (1, .int a1), (2, .int a2)]) hx hb dX3_parentFor_33 hl (by decide) rfl (fun ls hl => ?_)
      exact hL35 1000 X0 a1 a2 (-1) (-1) 0 _ _ _ hF hf (lv_sub hl [3, 4, 5, 2, 1, 0] rfl)
    · replace hF := (if_pos c8).symm.trans hF
      refine lv_aload_n hx hb dX3_parentFor_21 rfl (lv_at hl 0 rfl) ?_
      refine lv_iconst (v := 0) hx hb dX3_parentFor_22 (by decide) ?_
      obtain ⟨q16, h17, hF⟩ := Option.bind_eq_some_iff.mp hF
      refine g_cv0 (o := some (.int q16.1)) (As := [.int 0]) (rest := []) (st1 := [.int q16.1]) (ci := 3) S hf (c_X3_finding l G ad X0 0 q16 h17) (cwV 1 hts gX3_parentFor_X3_finding rfl rfl rfl (by decide +kernel) ⟨Nat.le_of_ble_eq_true rfl, Nat.le_of_ble_eq_true rfl⟩) rfl rfl rfl 0 rfl rfl hl.1 rfl rfl (Nat.le_of_ble_eq_true rfl) ⟨Nat.zero_le _, Nat.zero_le _⟩ dX3_parentFor_23 (fun H locs hf => ?_)
      have hf : Fr G (va_A (wX G ad X0) s.heap.size) s (wX G ad q16.2) H locs := hf
      have hE := Option.some.inj hF
      have hV := congrArg (fun z : Int32 × K3 => z.1) hE
      have hW := congrArg (fun z : Int32 × K3 => wX G ad z.2) hE
      exact g_iret S hr hlocks hf hV hW dX3_parentFor_26
def f_X3_onlyTheseOwed_B49 (X : K3) (x1 : Int32) (x2 : Int32) : Option (Int32 × K3) := Option.bind (f_X0_passDays (X 2) x2) (fun q4 => Option.bind (f_X0_owedSet q4) (fun q6 => if (q6 &&& (x1 ^^^ (-1))) = 0 then (some (1, va_up X 2 q4)) else (some (0, va_up X 2 q4))))
def f_X3_onlyTheseOwed_L13 : Nat → K3 → Int32 → Int32 → Int32 → Option (Int32 × K3)
  | 0, _, _, _, _ => none
  | n + 1, X, x1, x2, x3 => if ((X 2) 11 3) ≤ x3 then (f_X3_onlyTheseOwed_B49 X x1 x2) else (if ((x1 >>> (x3 &&& 31)) &&& 1) = 1 then (if ix x3 8 then (f_X3_onlyTheseOwed_L13 n (va_up X 2 (va_up (X 2) 6 (upd ((X 2) 6) x3.toNatClampNeg 1))) x1 x2 (x3 + 1)) else none) else (f_X3_onlyTheseOwed_L13 n X x1 x2 (x3 + 1)))
def f_X3_onlyTheseOwed (X0 : K3) (a1 : Int32) (a2 : Int32) : Option (Int32 × K3) := Option.bind (f_X0_become2 (X0 2) (X0 0)) (fun q1 => f_X3_onlyTheseOwed_L13 1000 (va_up X0 2 q1) a1 a2 0)
set_option maxHeartbeats 4000000 in
set_option maxRecDepth 100000 in
theorem c_X3_onlyTheseOwed (l : Launch) (G : GT) (ad : Nat → Nat → Nat) (X0 : K3) (a1 : Int32) (a2 : Int32) (q : Int32 × K3) (hF : f_X3_onlyTheseOwed X0 a1 a2 = some q) : Ct l G yX3_onlyTheseOwed wsX3_onlyTheseOwed ({ frames := 6, cells := 0, slots := 0, locals := 133 } : Room) ([.ref (ad 8 0), .int a1, .int a2] : List Value) (wX G ad X0) (some (.int q.1)) (wX G ad q.2) := by
  have k19 : Cond.fieldLink RX3 19 "PigeonRolls" "trial" "LPigeonRolls$Kingdom;" ∈ wsX3_onlyTheseOwed := by decide +kernel
  have k10 : Cond.fieldLink RX3 10 "PigeonRolls" "realm" "LPigeonRolls$Kingdom;" ∈ wsX3_onlyTheseOwed := by decide +kernel
  have k143 : Cond.fieldLink RX3 143 "PigeonRolls$Kingdom" "birds" "I" ∈ wsX3_onlyTheseOwed := by decide +kernel
  have k234 : Cond.fieldLink RX3 234 "PigeonRolls$Kingdom" "off" "[I" ∈ wsX3_onlyTheseOwed := by decide +kernel
  have hinX0 : ∀ w ∈ u_ws RX0 TX0 16, w ∈ wsX3_onlyTheseOwed := by decide +kernel
  have hinX3 : ∀ w ∈ u_ws RX3 TX3 7, w ∈ wsX3_onlyTheseOwed := by decide +kernel
  refine Ct.of cX3_onlyTheseOwed 4 (some .boolean) (by decide) rfl (Nat.le_of_ble_eq_true rfl) ?_
  intro p e s m below meth c ls S hr hlocks hf hl
  have S : CallFix p m c cX3_onlyTheseOwed 4 s ([.ref (ad 8 0), .int a1, .int a2] : List Value).toArray wsX3_onlyTheseOwed RX3 := S
  obtain ⟨hx, hb, hml, hown, hts⟩ := id S
  have hl : lv_has ls 4 [(0, .ref (ad 8 0)), (1, .int a1), (2, .int a2)] := hl
  have hL49 : ∀ (X : K3) (x1 : Int32) (x2 : Int32)  (H : Heap) (locs : List Loc) (ls : Array Slot), f_X3_onlyTheseOwed_B49 X x1 x2 = some q → Fr G (va_A (wX G ad X0) s.heap.size) s (wX G ad X) H locs → lv_has ls 4 [(0, .ref (ad 8 0)), (1, .int x1), (2, .int x2)] → W p l e ({ frames := 6, cells := 0, slots := 0, locals := 133 } : Room) s m ([.ref (ad 8 0), .int a1, .int a2] : List Value).toArray below meth c H locs 0 0 (MQ below (CPost G (wX G ad X0) s.heap.size (some (.int q.1)) (wX G ad q.2)) ([.ref (ad 8 0), .int a1, .int a2] : List Value).toArray s 0 0 (va_A (wX G ad X0) s.heap.size)) (F0 m 49 ls []) := by
    intro X x1 x2 H locs ls hF hf hl
    unfold f_X3_onlyTheseOwed_B49 at hF
    refine lv_aload_n hx hb dX3_onlyTheseOwed_49 rfl (lv_at hl 0 rfl) ?_
    refine g_get (ci := 3) (C := RX3) (T := TX3) (N := 7) (v := .ref (ad 2 0)) S hf hinX3 0 rfl rfl 2 (by decide) k19 rfl rfl dX3_onlyTheseOwed_50 ?_
    refine lv_iload_n hx hb dX3_onlyTheseOwed_53 rfl (lv_at hl 2 rfl) ?_
    obtain ⟨q4, h5, hF⟩ := Option.bind_eq_some_iff.mp hF
    refine g_cv (o := none) (As := [.int x2]) (rest := []) (st1 := []) (ci := 0) (a := List.take 29 (wX G ad X)) (b := List.drop 42 (wX G ad X)) S hf (c_X0_passDays l G (ad 2) (X 2) x2 q4 h5) (cwV 1 hts gX3_onlyTheseOwed_X0_passDays rfl rfl rfl (by decide +kernel) ⟨Nat.le_of_ble_eq_true rfl, Nat.le_of_ble_eq_true rfl⟩) rfl rfl rfl rfl 0 rfl rfl hl.1 rfl rfl (Nat.le_of_ble_eq_true rfl) ⟨Nat.zero_le _, Nat.zero_le _⟩ dX3_onlyTheseOwed_54 (fun H locs hf => ?_)
    have hf : Fr G (va_A (wX G ad X0) s.heap.size) s (wX G ad (va_up X 2 q4)) H locs := hf
    refine lv_aload_n hx hb dX3_onlyTheseOwed_57 rfl (lv_at hl 0 rfl) ?_
    refine g_get (ci := 3) (C := RX3) (T := TX3) (N := 7) (v := .ref (ad 2 0)) S hf hinX3 0 rfl rfl 2 (by decide) k19 rfl rfl dX3_onlyTheseOwed_58 ?_
    obtain ⟨q6, h7, hF⟩ := Option.bind_eq_some_iff.mp hF
    refine g_cv (o := some (.int q6)) (As := []) (rest := []) (st1 := [.int q6]) (ci := 0) (a := List.take 29 (wX G ad (va_up X 2 q4))) (b := List.drop 42 (wX G ad (va_up X 2 q4))) S hf (c_X0_owedSet l G (ad 2) q4 q6 h7) (cwV 0 hts gX3_onlyTheseOwed_X0_owedSet rfl rfl rfl (by decide +kernel) ⟨Nat.le_of_ble_eq_true rfl, Nat.le_of_ble_eq_true rfl⟩) rfl rfl rfl rfl 0 rfl rfl hl.1 rfl rfl (Nat.le_of_ble_eq_true rfl) ⟨Nat.zero_le _, Nat.zero_le _⟩ dX3_onlyTheseOwed_61 (fun H locs hf => ?_)
    have hf : Fr G (va_A (wX G ad X0) s.heap.size) s (wX G ad (va_up X 2 q4)) H locs := hf
    refine lv_iload_n hx hb dX3_onlyTheseOwed_64 rfl (lv_at hl 1 rfl) ?_
    refine lv_iconst (v := -1) hx hb dX3_onlyTheseOwed_65 (by decide) ?_
    refine lv_ixor hx hb dX3_onlyTheseOwed_66 ?_
    refine lv_iand hx hb dX3_onlyTheseOwed_67 ?_
    refine lv_if_ne (tgt := 75) hx hb dX3_onlyTheseOwed_68 (by decide) (fun c8 => ?_) (fun c8 => ?_)
    · replace hF := (if_neg c8).symm.trans hF
      refine lv_iconst (v := 0) hx hb dX3_onlyTheseOwed_75 (by decide) ?_
      have hE := Option.some.inj hF
      have hV := congrArg (fun z : Int32 × K3 => z.1) hE
      have hW := congrArg (fun z : Int32 × K3 => wX G ad z.2) hE
      exact g_zret S hr hlocks hf (by decide) hV hW dX3_onlyTheseOwed_76
    · replace hF := (if_pos c8).symm.trans hF
      refine lv_iconst (v := 1) hx hb dX3_onlyTheseOwed_71 (by decide) ?_
      refine lv_goto (tgt := 76) hx hb dX3_onlyTheseOwed_72 (by decide) ?_
      have hE := Option.some.inj hF
      have hV := congrArg (fun z : Int32 × K3 => z.1) hE
      have hW := congrArg (fun z : Int32 × K3 => wX G ad z.2) hE
      exact g_zret S hr hlocks hf (by decide) hV hW dX3_onlyTheseOwed_76
  have hL13 : ∀ (n : Nat) (X : K3) (x1 : Int32) (x2 : Int32) (x3 : Int32)  (H : Heap) (locs : List Loc) (ls : Array Slot), f_X3_onlyTheseOwed_L13 n X x1 x2 x3 = some q → Fr G (va_A (wX G ad X0) s.heap.size) s (wX G ad X) H locs → lv_has ls 4 [(0, .ref (ad 8 0)), (1, .int x1), (2, .int x2), (3, .int x3)] → W p l e ({ frames := 6, cells := 0, slots := 0, locals := 133 } : Room) s m ([.ref (ad 8 0), .int a1, .int a2] : List Value).toArray below meth c H locs 0 0 (MQ below (CPost G (wX G ad X0) s.heap.size (some (.int q.1)) (wX G ad q.2)) ([.ref (ad 8 0), .int a1, .int a2] : List Value).toArray s 0 0 (va_A (wX G ad X0) s.heap.size)) (F0 m 13 ls []) := by
    intro n
    induction n with
    | zero =>
      intro X x1 x2 x3 H locs ls hF hf hl
      exact absurd hF (by simp [f_X3_onlyTheseOwed_L13])
    | succ n ih13 =>
      intro X x1 x2 x3 H locs ls hF hf hl
      rw [f_X3_onlyTheseOwed_L13] at hF
      refine lv_iload_n hx hb dX3_onlyTheseOwed_13 rfl (lv_at hl 3 rfl) ?_
      refine lv_aload_n hx hb dX3_onlyTheseOwed_14 rfl (lv_at hl 0 rfl) ?_
      refine g_get (ci := 3) (C := RX3) (T := TX3) (N := 7) (v := .ref (ad 2 0)) S hf hinX3 0 rfl rfl 2 (by decide) k19 rfl rfl dX3_onlyTheseOwed_15 ?_
      refine g_get (ci := 0) (C := RX0) (T := TX0) (N := 16) (v := .int ((X 2) 11 3)) S hf hinX0 29 rfl rfl 3 (by decide) k143 rfl rfl dX3_onlyTheseOwed_18 ?_
      refine lv_icmp_ge (tgt := 49) hx hb dX3_onlyTheseOwed_21 (by decide) (fun c3 => ?_) (fun c3 => ?_)
      · replace hF := (if_pos c3).symm.trans hF
        exact hL49 X x1 x2 _ _ _ hF hf (lv_sub hl [0, 1, 2] rfl)
      · replace hF := (if_neg c3).symm.trans hF
        refine lv_iload_n hx hb dX3_onlyTheseOwed_24 rfl (lv_at hl 1 rfl) ?_
        refine lv_iload_n hx hb dX3_onlyTheseOwed_25 rfl (lv_at hl 3 rfl) ?_
        refine lv_ishr hx hb dX3_onlyTheseOwed_26 ?_
        refine lv_iconst (v := 1) hx hb dX3_onlyTheseOwed_27 (by decide) ?_
        refine lv_iand hx hb dX3_onlyTheseOwed_28 ?_
        refine lv_iconst (v := 1) hx hb dX3_onlyTheseOwed_29 (by decide) ?_
        refine lv_icmp_ne (tgt := 43) hx hb dX3_onlyTheseOwed_30 (by decide) (fun c9 => ?_) (fun c9 => ?_)
        · replace hF := (if_neg c9).symm.trans hF
          refine lv_iinc (v := x3 + 1) (lv' := [(3, .int (x3 + 1)), (0, .ref (ad 8 0)), (1, .int x1), (2, .int x2)]) hx hb dX3_onlyTheseOwed_43 hl (k := 3) rfl rfl (by decide) rfl (fun ls hl => ?_)
          refine lv_goto (tgt := 13) hx hb dX3_onlyTheseOwed_46 (by decide) ?_
          exact ih13 X x1 x2 (x3 + 1) _ _ _ hF hf (lv_sub hl [1, 2, 3, 0] rfl)
        · replace hF := (if_pos c9).symm.trans hF
          refine lv_aload_n hx hb dX3_onlyTheseOwed_33 rfl (lv_at hl 0 rfl) ?_
          refine g_get (ci := 3) (C := RX3) (T := TX3) (N := 7) (v := .ref (ad 2 0)) S hf hinX3 0 rfl rfl 2 (by decide) k19 rfl rfl dX3_onlyTheseOwed_34 ?_
          refine g_get (ci := 0) (C := RX0) (T := TX0) (N := 16) (v := .ref (ad 2 10)) S hf hinX0 29 rfl rfl 13 (by decide) k234 rfl rfl dX3_onlyTheseOwed_37 ?_
          refine lv_iload_n hx hb dX3_onlyTheseOwed_40 rfl (lv_at hl 3 rfl) ?_
          refine lv_iconst (v := 1) hx hb dX3_onlyTheseOwed_41 (by decide) ?_
          obtain ⟨g10, hF⟩ := gd_some hF
          refine g_ast (ww' := wX G ad (va_up X 2 (va_up (X 2) 6 (upd ((X 2) 6) x3.toNatClampNeg 1)))) S hf 39 rfl g10 rfl dX3_onlyTheseOwed_42 (fun H locs hf => ?_)
          refine lv_iinc (v := x3 + 1) (lv' := [(3, .int (x3 + 1)), (0, .ref (ad 8 0)), (1, .int x1), (2, .int x2)]) hx hb dX3_onlyTheseOwed_43 hl (k := 3) rfl rfl (by decide) rfl (fun ls hl => ?_)
          refine lv_goto (tgt := 13) hx hb dX3_onlyTheseOwed_46 (by decide) ?_
          exact ih13 (va_up X 2 (va_up (X 2) 6 (upd ((X 2) 6) x3.toNatClampNeg 1))) x1 x2 (x3 + 1) _ _ _ hF hf (lv_sub hl [1, 2, 3, 0] rfl)
  unfold f_X3_onlyTheseOwed at hF
  refine lv_aload_n hx hb dX3_onlyTheseOwed_0 rfl (lv_at hl 0 rfl) ?_
  refine g_get (ci := 3) (C := RX3) (T := TX3) (N := 7) (v := .ref (ad 2 0)) S hf hinX3 0 rfl rfl 2 (by decide) k19 rfl rfl dX3_onlyTheseOwed_1 ?_
  refine lv_aload_n hx hb dX3_onlyTheseOwed_4 rfl (lv_at hl 0 rfl) ?_
  refine g_get (ci := 3) (C := RX3) (T := TX3) (N := 7) (v := .ref (ad 0 0)) S hf hinX3 0 rfl rfl 0 (by decide) k10 rfl rfl dX3_onlyTheseOwed_5 ?_
  obtain ⟨q1, h2, hF⟩ := Option.bind_eq_some_iff.mp hF
  refine g_cv (o := none) (As := [.ref (ad 0 0)]) (rest := []) (st1 := []) (ci := 0) (a := List.take 16 (wX G ad X0)) (b := List.drop 42 (wX G ad X0)) S hf (c_X0_become2 l G (ad 2) (ad 0) (X0 2) (X0 0) q1 h2) (cwV 1 hts gX3_onlyTheseOwed_X0_become rfl rfl rfl (by decide +kernel) ⟨Nat.le_of_ble_eq_true rfl, Nat.le_of_ble_eq_true rfl⟩) rfl rfl rfl rfl 13 rfl rfl hl.1 rfl rfl (Nat.le_of_ble_eq_true rfl) ⟨Nat.zero_le _, Nat.zero_le _⟩ dX3_onlyTheseOwed_8 (fun H locs hf => ?_)
  have hf : Fr G (va_A (wX G ad X0) s.heap.size) s (wX G ad (va_up X0 2 q1)) H locs := hf
  refine lv_iconst (v := 0) hx hb dX3_onlyTheseOwed_11 (by decide) ?_
  refine lv_istore_n (lv' := [(3, .int 0), (0, .ref (ad 8 0)), (1, .int a1), (2, .int a2)]) hx hb dX3_onlyTheseOwed_12 rfl hl (by decide) rfl (fun ls hl => ?_)
  exact hL13 1000 (va_up X0 2 q1) a1 a2 0 _ _ _ hF hf (lv_sub hl [1, 2, 3, 0] rfl)
def f_X3_strike_B82 (X : K3) : Option (Int32 × K3) := Option.bind (f_X3_finding X 3) (fun q5 => some (q5.1, q5.2))
def f_X3_strike_L42 (k28 : K3 → Int32 → Int32 → Int32 → Option (Int32 × K3)) : Nat → K3 → Int32 → Int32 → Int32 → Int32 → Option (Int32 × K3)
  | 0, _, _, _, _, _ => none
  | n + 1, X, x1, x2, x3, x4 => if x2 ≤ x4 then (k28 X x1 x2 (x3 + 1)) else (Option.bind (f_J6_bitCount_0f7a4 x4) (fun q8 => if q8 = x3 then (Option.bind (f_X3_onlyTheseOwed X x4 x1) (fun q11 => if q11.1 = 0 then (f_X3_strike_L42 k28 n q11.2 x1 x2 x3 (x4 + 1)) else (some (x4, q11.2)))) else (f_X3_strike_L42 k28 n X x1 x2 x3 (x4 + 1))))
def f_X3_strike_L28 : Nat → K3 → Int32 → Int32 → Int32 → Option (Int32 × K3)
  | 0, _, _, _, _ => none
  | n + 1, X, x1, x2, x3 => if ((X 0) 11 3) < x3 then (f_X3_strike_B82 X) else (f_X3_strike_L42 (fun y0 y1 y2 y3 => f_X3_strike_L28 n y0 y1 y2 y3) 1000 X x1 x2 x3 0)
def f_X3_strike (X0 : K3) (a1 : Int32) : Option (Int32 × K3) := Option.bind (f_X3_within a1 0 24) (fun q1 => if q1 = 0 then (Option.bind (f_X3_finding X0 0) (fun q14 => some (q14.1, q14.2))) else (f_X3_strike_L28 1000 X0 a1 (1 <<< (((X0 0) 11 3) &&& 31)) 0))
set_option maxHeartbeats 4000000 in
set_option maxRecDepth 100000 in
theorem c_X3_strike (l : Launch) (G : GT) (ad : Nat → Nat → Nat) (X0 : K3) (a1 : Int32) (q : Int32 × K3) (hF : f_X3_strike X0 a1 = some q) : Ct l G yX3_strike wsX3_strike ({ frames := 7, cells := 0, slots := 0, locals := 156 } : Room) ([.ref (ad 8 0), .int a1] : List Value) (wX G ad X0) (some (.int q.1)) (wX G ad q.2) := by
  have k10 : Cond.fieldLink RX3 10 "PigeonRolls" "realm" "LPigeonRolls$Kingdom;" ∈ wsX3_strike := by decide +kernel
  have k143 : Cond.fieldLink RX3 143 "PigeonRolls$Kingdom" "birds" "I" ∈ wsX3_strike := by decide +kernel
  have hinX0 : ∀ w ∈ u_ws RX0 TX0 16, w ∈ wsX3_strike := by decide +kernel
  have hinX3 : ∀ w ∈ u_ws RX3 TX3 7, w ∈ wsX3_strike := by decide +kernel
  refine Ct.of cX3_strike 5 (some .int) (by decide) rfl (Nat.le_of_ble_eq_true rfl) ?_
  intro p e s m below meth c ls S hr hlocks hf hl
  have S : CallFix p m c cX3_strike 5 s ([.ref (ad 8 0), .int a1] : List Value).toArray wsX3_strike RX3 := S
  obtain ⟨hx, hb, hml, hown, hts⟩ := id S
  have hl : lv_has ls 5 [(0, .ref (ad 8 0)), (1, .int a1)] := hl
  have hL82 : ∀ (X : K3)  (H : Heap) (locs : List Loc) (ls : Array Slot), f_X3_strike_B82 X = some q → Fr G (va_A (wX G ad X0) s.heap.size) s (wX G ad X) H locs → lv_has ls 5 [(0, .ref (ad 8 0))] → W p l e ({ frames := 7, cells := 0, slots := 0, locals := 156 } : Room) s m ([.ref (ad 8 0), .int a1] : List Value).toArray below meth c H locs 0 0 (MQ below (CPost G (wX G ad X0) s.heap.size (some (.int q.1)) (wX G ad q.2)) ([.ref (ad 8 0), .int a1] : List Value).toArray s 0 0 (va_A (wX G ad X0) s.heap.size)) (F0 m 82 ls []) := by
    intro X H locs ls hF hf hl
    unfold f_X3_strike_B82 at hF
    refine lv_aload_n hx hb dX3_strike_82 rfl (lv_at hl 0 rfl) ?_
    refine lv_iconst (v := 3) hx hb dX3_strike_83 (by decide) ?_
    obtain ⟨q5, h6, hF⟩ := Option.bind_eq_some_iff.mp hF
    refine g_cv0 (o := some (.int q5.1)) (As := [.int 3]) (rest := []) (st1 := [.int q5.1]) (ci := 3) S hf (c_X3_finding l G ad X 3 q5 h6) (cwV 1 hts gX3_strike_X3_finding rfl rfl rfl (by decide +kernel) ⟨Nat.le_of_ble_eq_true rfl, Nat.le_of_ble_eq_true rfl⟩) rfl rfl rfl 0 rfl rfl hl.1 rfl rfl (Nat.le_of_ble_eq_true rfl) ⟨Nat.zero_le _, Nat.zero_le _⟩ dX3_strike_84 (fun H locs hf => ?_)
    have hf : Fr G (va_A (wX G ad X0) s.heap.size) s (wX G ad q5.2) H locs := hf
    have hE := Option.some.inj hF
    have hV := congrArg (fun z : Int32 × K3 => z.1) hE
    have hW := congrArg (fun z : Int32 × K3 => wX G ad z.2) hE
    exact g_iret S hr hlocks hf hV hW dX3_strike_87
  have hL42 : ∀ (k28 : K3 → Int32 → Int32 → Int32 → Option (Int32 × K3)) (hk28 : ∀ (X : K3) (x1 : Int32) (x2 : Int32) (x3 : Int32) (H : Heap) (locs : List Loc) (ls : Array Slot), k28 X x1 x2 x3 = some q → Fr G (va_A (wX G ad X0) s.heap.size) s (wX G ad X) H locs → lv_has ls 5 [(0, .ref (ad 8 0)), (1, .int x1), (2, .int x2), (3, .int x3)] → W p l e ({ frames := 7, cells := 0, slots := 0, locals := 156 } : Room) s m ([.ref (ad 8 0), .int a1] : List Value).toArray below meth c H locs 0 0 (MQ below (CPost G (wX G ad X0) s.heap.size (some (.int q.1)) (wX G ad q.2)) ([.ref (ad 8 0), .int a1] : List Value).toArray s 0 0 (va_A (wX G ad X0) s.heap.size)) (F0 m 28 ls [])) (n : Nat) (X : K3) (x1 : Int32) (x2 : Int32) (x3 : Int32) (x4 : Int32)  (H : Heap) (locs : List Loc) (ls : Array Slot), f_X3_strike_L42 k28 n X x1 x2 x3 x4 = some q → Fr G (va_A (wX G ad X0) s.heap.size) s (wX G ad X) H locs → lv_has ls 5 [(0, .ref (ad 8 0)), (1, .int x1), (2, .int x2), (3, .int x3), (4, .int x4)] → W p l e ({ frames := 7, cells := 0, slots := 0, locals := 156 } : Room) s m ([.ref (ad 8 0), .int a1] : List Value).toArray below meth c H locs 0 0 (MQ below (CPost G (wX G ad X0) s.heap.size (some (.int q.1)) (wX G ad q.2)) ([.ref (ad 8 0), .int a1] : List Value).toArray s 0 0 (va_A (wX G ad X0) s.heap.size)) (F0 m 42 ls []) := by
    intro k28 hk28
    intro n
    induction n with
    | zero =>
      intro X x1 x2 x3 x4 H locs ls hF hf hl
      exact absurd hF (by simp [f_X3_strike_L42])
    | succ n ih42 =>
      intro X x1 x2 x3 x4 H locs ls hF hf hl
      rw [f_X3_strike_L42] at hF
      refine lv_iload hx hb dX3_strike_42 (lv_at hl 4 rfl) ?_
      refine lv_iload_n hx hb dX3_strike_44 rfl (lv_at hl 2 rfl) ?_
      refine lv_icmp_ge (tgt := 76) hx hb dX3_strike_45 (by decide) (fun c7 => ?_) (fun c7 => ?_)
      · replace hF := (if_pos c7).symm.trans hF
        refine lv_iinc (v := x3 + 1) (lv' := [(3, .int (x3 + 1)), (0, .ref (ad 8 0)), (1, .int x1), (2, .int x2), (4, .int x4)]) hx hb dX3_strike_76 hl (k := 3) rfl rfl (by decide) rfl (fun ls hl => ?_)
        refine lv_goto (tgt := 28) hx hb dX3_strike_79 (by decide) ?_
        exact hk28 X x1 x2 (x3 + 1) _ _ _ hF hf (lv_sub hl [1, 2, 3, 0] rfl)
      · replace hF := (if_neg c7).symm.trans hF
        refine lv_iload hx hb dX3_strike_48 (lv_at hl 4 rfl) ?_
        obtain ⟨q8, h9, hF⟩ := Option.bind_eq_some_iff.mp hF
        refine g_cs0 (o := some (.int q8)) (As := [.int x4]) (rest := []) (st1 := [.int q8]) S hf (c_J6_bitCount_0f7a4 l G  x4 q8 h9) (va_cwS 1 hts gX3_strike_J6_bitCount_0f7a4 rfl rfl rfl (by decide +kernel) ⟨Nat.le_of_ble_eq_true rfl, Nat.le_of_ble_eq_true rfl⟩) rfl hl.1 rfl rfl (Nat.le_of_ble_eq_true rfl) ⟨Nat.zero_le _, Nat.zero_le _⟩ dX3_strike_50 (fun H locs hf => ?_)
        refine lv_iload_n hx hb dX3_strike_53 rfl (lv_at hl 3 rfl) ?_
        refine lv_icmp_ne (tgt := 70) hx hb dX3_strike_54 (by decide) (fun c10 => ?_) (fun c10 => ?_)
        · replace hF := (if_neg c10).symm.trans hF
          refine lv_iinc (v := x4 + 1) (lv' := [(4, .int (x4 + 1)), (0, .ref (ad 8 0)), (1, .int x1), (2, .int x2), (3, .int x3)]) hx hb dX3_strike_70 hl (k := 4) rfl rfl (by decide) rfl (fun ls hl => ?_)
          refine lv_goto (tgt := 42) hx hb dX3_strike_73 (by decide) ?_
          exact ih42 X x1 x2 x3 (x4 + 1) _ _ _ hF hf (lv_sub hl [1, 2, 3, 4, 0] rfl)
        · replace hF := (if_pos c10).symm.trans hF
          refine lv_aload_n hx hb dX3_strike_57 rfl (lv_at hl 0 rfl) ?_
          refine lv_iload hx hb dX3_strike_58 (lv_at hl 4 rfl) ?_
          refine lv_iload_n hx hb dX3_strike_60 rfl (lv_at hl 1 rfl) ?_
          obtain ⟨q11, h12, hF⟩ := Option.bind_eq_some_iff.mp hF
          refine g_cv0 (o := some (.int q11.1)) (As := [.int x4, .int x1]) (rest := []) (st1 := [.int q11.1]) (ci := 3) S hf (c_X3_onlyTheseOwed l G ad X x4 x1 q11 h12) (cwV 2 hts gX3_strike_X3_onlyTheseOwed rfl rfl rfl (by decide +kernel) ⟨Nat.le_of_ble_eq_true rfl, Nat.le_of_ble_eq_true rfl⟩) rfl rfl rfl 0 rfl rfl hl.1 rfl rfl (Nat.le_of_ble_eq_true rfl) ⟨Nat.zero_le _, Nat.zero_le _⟩ dX3_strike_61 (fun H locs hf => ?_)
          have hf : Fr G (va_A (wX G ad X0) s.heap.size) s (wX G ad q11.2) H locs := hf
          refine lv_if_eq (tgt := 70) hx hb dX3_strike_64 (by decide) (fun c13 => ?_) (fun c13 => ?_)
          · replace hF := (if_pos c13).symm.trans hF
            refine lv_iinc (v := x4 + 1) (lv' := [(4, .int (x4 + 1)), (0, .ref (ad 8 0)), (1, .int x1), (2, .int x2), (3, .int x3)]) hx hb dX3_strike_70 hl (k := 4) rfl rfl (by decide) rfl (fun ls hl => ?_)
            refine lv_goto (tgt := 42) hx hb dX3_strike_73 (by decide) ?_
            exact ih42 q11.2 x1 x2 x3 (x4 + 1) _ _ _ hF hf (lv_sub hl [1, 2, 3, 4, 0] rfl)
          · replace hF := (if_neg c13).symm.trans hF
            refine lv_iload hx hb dX3_strike_67 (lv_at hl 4 rfl) ?_
            have hE := Option.some.inj hF
            have hV := congrArg (fun z : Int32 × K3 => z.1) hE
            have hW := congrArg (fun z : Int32 × K3 => wX G ad z.2) hE
            exact g_iret S hr hlocks hf hV hW dX3_strike_69
  have hL28 : ∀ (n : Nat) (X : K3) (x1 : Int32) (x2 : Int32) (x3 : Int32)  (H : Heap) (locs : List Loc) (ls : Array Slot), f_X3_strike_L28 n X x1 x2 x3 = some q → Fr G (va_A (wX G ad X0) s.heap.size) s (wX G ad X) H locs → lv_has ls 5 [(0, .ref (ad 8 0)), (1, .int x1), (2, .int x2), (3, .int x3)] → W p l e ({ frames := 7, cells := 0, slots := 0, locals := 156 } : Room) s m ([.ref (ad 8 0), .int a1] : List Value).toArray below meth c H locs 0 0 (MQ below (CPost G (wX G ad X0) s.heap.size (some (.int q.1)) (wX G ad q.2)) ([.ref (ad 8 0), .int a1] : List Value).toArray s 0 0 (va_A (wX G ad X0) s.heap.size)) (F0 m 28 ls []) := by
    intro n
    induction n with
    | zero =>
      intro X x1 x2 x3 H locs ls hF hf hl
      exact absurd hF (by simp [f_X3_strike_L28])
    | succ n ih28 =>
      intro X x1 x2 x3 H locs ls hF hf hl
      rw [f_X3_strike_L28] at hF
      refine lv_iload_n hx hb dX3_strike_28 rfl (lv_at hl 3 rfl) ?_
      refine lv_aload_n hx hb dX3_strike_29 rfl (lv_at hl 0 rfl) ?_
      refine g_get (ci := 3) (C := RX3) (T := TX3) (N := 7) (v := .ref (ad 0 0)) S hf hinX3 0 rfl rfl 0 (by decide) k10 rfl rfl dX3_strike_30 ?_
      refine g_get (ci := 0) (C := RX0) (T := TX0) (N := 16) (v := .int ((X 0) 11 3)) S hf hinX0 16 rfl rfl 3 (by decide) k143 rfl rfl dX3_strike_33 ?_
      refine lv_icmp_gt (tgt := 82) hx hb dX3_strike_36 (by decide) (fun c4 => ?_) (fun c4 => ?_)
      · replace hF := (if_pos c4).symm.trans hF
        exact hL82 X _ _ _ hF hf (lv_sub hl [0] rfl)
      · replace hF := (if_neg c4).symm.trans hF
        refine lv_iconst (v := 0) hx hb dX3_strike_39 (by decide) ?_
        refine lv_istore (lv' := [(4, .int 0), (0, .ref (ad 8 0)), (1, .int x1), (2, .int x2), (3, .int x3)]) hx hb dX3_strike_40 hl (by decide) rfl (fun ls hl => ?_)
        exact hL42 (fun y0 y1 y2 y3 => f_X3_strike_L28 n y0 y1 y2 y3) (fun y0 y1 y2 y3 => ih28 y0 y1 y2 y3) 1000 X x1 x2 x3 0 _ _ _ hF hf (lv_sub hl [1, 2, 3, 4, 0] rfl)
  unfold f_X3_strike at hF
  refine lv_iload_n hx hb dX3_strike_0 rfl (lv_at hl 1 rfl) ?_
  refine lv_iconst (v := 0) hx hb dX3_strike_1 (by decide) ?_
  refine lv_bipush (v := 24) hx hb dX3_strike_2 (by decide) ?_
  obtain ⟨q1, h2, hF⟩ := Option.bind_eq_some_iff.mp hF
  refine g_cs0 (o := some (.int q1)) (As := [.int a1, .int 0, .int 24]) (rest := []) (st1 := [.int q1]) S hf (c_X3_within l G  a1 0 24 q1 h2) (va_cwS 3 hts gX3_strike_X3_within rfl rfl rfl (by decide +kernel) ⟨Nat.le_of_ble_eq_true rfl, Nat.le_of_ble_eq_true rfl⟩) rfl hl.1 rfl rfl (Nat.le_of_ble_eq_true rfl) ⟨Nat.zero_le _, Nat.zero_le _⟩ dX3_strike_4 (fun H locs hf => ?_)
  refine lv_if_ne (tgt := 16) hx hb dX3_strike_7 (by decide) (fun c3 => ?_) (fun c3 => ?_)
  · replace hF := (if_neg c3).symm.trans hF
    refine lv_iconst (v := 1) hx hb dX3_strike_16 (by decide) ?_
    refine lv_aload_n hx hb dX3_strike_17 rfl (lv_at hl 0 rfl) ?_
    refine g_get (ci := 3) (C := RX3) (T := TX3) (N := 7) (v := .ref (ad 0 0)) S hf hinX3 0 rfl rfl 0 (by decide) k10 rfl rfl dX3_strike_18 ?_
    refine g_get (ci := 0) (C := RX0) (T := TX0) (N := 16) (v := .int ((X0 0) 11 3)) S hf hinX0 16 rfl rfl 3 (by decide) k143 rfl rfl dX3_strike_21 ?_
    refine lv_ishl hx hb dX3_strike_24 ?_
    refine lv_istore_n (lv' := [(2, .int (1 <<< (((X0 0) 11 3) &&& 31))), (0, .ref (ad 8 0)), (1, .int a1)]) hx hb dX3_strike_25 rfl hl (by decide) rfl (fun ls hl => ?_)
    refine lv_iconst (v := 0) hx hb dX3_strike_26 (by decide) ?_
    refine lv_istore_n (lv' := [(3, .int 0), (2, .int (1 <<< (((X0 0) 11 3) &&& 31))), (0, .ref (ad 8 0)), (1, .int a1)]) hx hb dX3_strike_27 rfl hl (by decide) rfl (fun ls hl => ?_)
    exact hL28 1000 X0 a1 (1 <<< (((X0 0) 11 3) &&& 31)) 0 _ _ _ hF hf (lv_sub hl [2, 3, 1, 0] rfl)
  · replace hF := (if_pos c3).symm.trans hF
    refine lv_aload_n hx hb dX3_strike_10 rfl (lv_at hl 0 rfl) ?_
    refine lv_iconst (v := 0) hx hb dX3_strike_11 (by decide) ?_
    obtain ⟨q14, h15, hF⟩ := Option.bind_eq_some_iff.mp hF
    refine g_cv0 (o := some (.int q14.1)) (As := [.int 0]) (rest := []) (st1 := [.int q14.1]) (ci := 3) S hf (c_X3_finding l G ad X0 0 q14 h15) (cwV 1 hts gX3_strike_X3_finding rfl rfl rfl (by decide +kernel) ⟨Nat.le_of_ble_eq_true rfl, Nat.le_of_ble_eq_true rfl⟩) rfl rfl rfl 0 rfl rfl hl.1 rfl rfl (Nat.le_of_ble_eq_true rfl) ⟨Nat.zero_le _, Nat.zero_le _⟩ dX3_strike_12 (fun H locs hf => ?_)
    have hf : Fr G (va_A (wX G ad X0) s.heap.size) s (wX G ad q14.2) H locs := hf
    have hE := Option.some.inj hF
    have hV := congrArg (fun z : Int32 × K3 => z.1) hE
    have hW := congrArg (fun z : Int32 × K3 => wX G ad z.2) hE
    exact g_iret S hr hlocks hf hV hW dX3_strike_15
def f_X3_deny (X0 : K3) (a1 : Int32) : Option (Int32 × K3) := Option.bind (f_X0_has (X0 0) a1) (fun q1 => if q1 = 0 then (Option.bind (f_X3_finding X0 0) (fun q6 => some (q6.1, q6.2))) else (Option.bind (f_X0_carriersAbove (X0 0) a1) (fun q4 => some (q4, X0))))
set_option maxHeartbeats 4000000 in
set_option maxRecDepth 100000 in
theorem c_X3_deny (l : Launch) (G : GT) (ad : Nat → Nat → Nat) (X0 : K3) (a1 : Int32) (q : Int32 × K3) (hF : f_X3_deny X0 a1 = some q) : Ct l G yX3_deny wsX3_deny ({ frames := 1, cells := 0, slots := 0, locals := 24 } : Room) ([.ref (ad 8 0), .int a1] : List Value) (wX G ad X0) (some (.int q.1)) (wX G ad q.2) := by
  have k10 : Cond.fieldLink RX3 10 "PigeonRolls" "realm" "LPigeonRolls$Kingdom;" ∈ wsX3_deny := by decide +kernel
  have hinX3 : ∀ w ∈ u_ws RX3 TX3 7, w ∈ wsX3_deny := by decide +kernel
  refine Ct.of cX3_deny 2 (some .int) (by decide) rfl (Nat.le_of_ble_eq_true rfl) ?_
  intro p e s m below meth c ls S hr hlocks hf hl
  have S : CallFix p m c cX3_deny 2 s ([.ref (ad 8 0), .int a1] : List Value).toArray wsX3_deny RX3 := S
  obtain ⟨hx, hb, hml, hown, hts⟩ := id S
  have hl : lv_has ls 2 [(0, .ref (ad 8 0)), (1, .int a1)] := hl
  unfold f_X3_deny at hF
  refine lv_aload_n hx hb dX3_deny_0 rfl (lv_at hl 0 rfl) ?_
  refine g_get (ci := 3) (C := RX3) (T := TX3) (N := 7) (v := .ref (ad 0 0)) S hf hinX3 0 rfl rfl 0 (by decide) k10 rfl rfl dX3_deny_1 ?_
  refine lv_iload_n hx hb dX3_deny_4 rfl (lv_at hl 1 rfl) ?_
  obtain ⟨q1, h2, hF⟩ := Option.bind_eq_some_iff.mp hF
  refine g_cv (o := some (.int q1)) (As := [.int a1]) (rest := []) (st1 := [.int q1]) (ci := 0) (a := List.take 16 (wX G ad X0)) (b := List.drop 29 (wX G ad X0)) S hf (c_X0_has l G (ad 0) (X0 0) a1 q1 h2) (cwV 1 hts gX3_deny_X0_has rfl rfl rfl (by decide +kernel) ⟨Nat.le_of_ble_eq_true rfl, Nat.le_of_ble_eq_true rfl⟩) rfl rfl rfl rfl 0 rfl rfl hl.1 rfl rfl (Nat.le_of_ble_eq_true rfl) ⟨Nat.zero_le _, Nat.zero_le _⟩ dX3_deny_5 (fun H locs hf => ?_)
  have hf : Fr G (va_A (wX G ad X0) s.heap.size) s (wX G ad X0) H locs := hf
  refine lv_if_ne (tgt := 17) hx hb dX3_deny_8 (by decide) (fun c3 => ?_) (fun c3 => ?_)
  · replace hF := (if_neg c3).symm.trans hF
    refine lv_aload_n hx hb dX3_deny_17 rfl (lv_at hl 0 rfl) ?_
    refine g_get (ci := 3) (C := RX3) (T := TX3) (N := 7) (v := .ref (ad 0 0)) S hf hinX3 0 rfl rfl 0 (by decide) k10 rfl rfl dX3_deny_18 ?_
    refine lv_iload_n hx hb dX3_deny_21 rfl (lv_at hl 1 rfl) ?_
    obtain ⟨q4, h5, hF⟩ := Option.bind_eq_some_iff.mp hF
    refine g_cv (o := some (.int q4)) (As := [.int a1]) (rest := []) (st1 := [.int q4]) (ci := 0) (a := List.take 16 (wX G ad X0)) (b := List.drop 29 (wX G ad X0)) S hf (c_X0_carriersAbove l G (ad 0) (X0 0) a1 q4 h5) (cwV 1 hts gX3_deny_X0_carriersAbove rfl rfl rfl (by decide +kernel) ⟨Nat.le_of_ble_eq_true rfl, Nat.le_of_ble_eq_true rfl⟩) rfl rfl rfl rfl 0 rfl rfl hl.1 rfl rfl (Nat.le_of_ble_eq_true rfl) ⟨Nat.zero_le _, Nat.zero_le _⟩ dX3_deny_22 (fun H locs hf => ?_)
    have hf : Fr G (va_A (wX G ad X0) s.heap.size) s (wX G ad X0) H locs := hf
    have hE := Option.some.inj hF
    have hV := congrArg (fun z : Int32 × K3 => z.1) hE
    have hW := congrArg (fun z : Int32 × K3 => wX G ad z.2) hE
    exact g_iret S hr hlocks hf hV hW dX3_deny_25
  · replace hF := (if_pos c3).symm.trans hF
    refine lv_aload_n hx hb dX3_deny_11 rfl (lv_at hl 0 rfl) ?_
    refine lv_iconst (v := 0) hx hb dX3_deny_12 (by decide) ?_
    obtain ⟨q6, h7, hF⟩ := Option.bind_eq_some_iff.mp hF
    refine g_cv0 (o := some (.int q6.1)) (As := [.int 0]) (rest := []) (st1 := [.int q6.1]) (ci := 3) S hf (c_X3_finding l G ad X0 0 q6 h7) (cwV 1 hts gX3_deny_X3_finding rfl rfl rfl (by decide +kernel) ⟨Nat.le_of_ble_eq_true rfl, Nat.le_of_ble_eq_true rfl⟩) rfl rfl rfl 0 rfl rfl hl.1 rfl rfl (Nat.le_of_ble_eq_true rfl) ⟨Nat.zero_le _, Nat.zero_le _⟩ dX3_deny_13 (fun H locs hf => ?_)
    have hf : Fr G (va_A (wX G ad X0) s.heap.size) s (wX G ad q6.2) H locs := hf
    have hE := Option.some.inj hF
    have hV := congrArg (fun z : Int32 × K3 => z.1) hE
    have hW := congrArg (fun z : Int32 × K3 => wX G ad z.2) hE
    exact g_iret S hr hlocks hf hV hW dX3_deny_16
def f_X3_sheetOf (X0 : K3) (a1 : Int32) : Option ((Option Nat)) := Option.bind (f_X3_within a1 0 3) (fun q1 => if q1 = 0 then (some (none)) else (if ix a1 4 then (some ((some a1.toNatClampNeg))) else none))
set_option maxHeartbeats 4000000 in
set_option maxRecDepth 100000 in
theorem c_X3_sheetOf (l : Launch) (G : GT) (ad : Nat → Nat → Nat) (X0 : K3) (a1 : Int32) (q : (Option Nat)) (hF : f_X3_sheetOf X0 a1 = some q) : Ct l G yX3_sheetOf wsX3_sheetOf ({ frames := 1, cells := 0, slots := 0, locals := 22 } : Room) ([.ref (ad 8 0), .int a1] : List Value) (wX G ad X0) (some (va_rf (Option.map (fun j => ad (4 + j) 0) q))) (wX G ad X0) := by
  have k31 : Cond.fieldLink RX3 31 "PigeonRolls" "sheets" "[LPigeonRolls$Sheet;" ∈ wsX3_sheetOf := by decide +kernel
  have hinX3 : ∀ w ∈ u_ws RX3 TX3 7, w ∈ wsX3_sheetOf := by decide +kernel
  refine Ct.of cX3_sheetOf 2 (some (.object "PigeonRolls$Sheet")) (by decide) rfl (Nat.le_of_ble_eq_true rfl) ?_
  intro p e s m below meth c ls S hr hlocks hf hl
  have S : CallFix p m c cX3_sheetOf 2 s ([.ref (ad 8 0), .int a1] : List Value).toArray wsX3_sheetOf RX3 := S
  obtain ⟨hx, hb, hml, hown, hts⟩ := id S
  have hl : lv_has ls 2 [(0, .ref (ad 8 0)), (1, .int a1)] := hl
  unfold f_X3_sheetOf at hF
  refine lv_iload_n hx hb dX3_sheetOf_0 rfl (lv_at hl 1 rfl) ?_
  refine lv_iconst (v := 0) hx hb dX3_sheetOf_1 (by decide) ?_
  refine lv_iconst (v := 3) hx hb dX3_sheetOf_2 (by decide) ?_
  obtain ⟨q1, h2, hF⟩ := Option.bind_eq_some_iff.mp hF
  refine g_cs0 (o := some (.int q1)) (As := [.int a1, .int 0, .int 3]) (rest := []) (st1 := [.int q1]) S hf (c_X3_within l G  a1 0 3 q1 h2) (va_cwS 3 hts gX3_sheetOf_X3_within rfl rfl rfl (by decide +kernel) ⟨Nat.le_of_ble_eq_true rfl, Nat.le_of_ble_eq_true rfl⟩) rfl hl.1 rfl rfl (Nat.le_of_ble_eq_true rfl) ⟨Nat.zero_le _, Nat.zero_le _⟩ dX3_sheetOf_3 (fun H locs hf => ?_)
  refine lv_if_eq (tgt := 18) hx hb dX3_sheetOf_6 (by decide) (fun c3 => ?_) (fun c3 => ?_)
  · replace hF := (if_pos c3).symm.trans hF
    refine lv_null hx hb dX3_sheetOf_18 ?_
    have hE := Option.some.inj hF
    have hV := congrArg (fun z : (Option Nat) => (va_rf (Option.map (fun j => ad (4 + j) 0) z) : Value)) hE
    exact g_aret S hr hlocks hf (Or.inl rfl) hV rfl dX3_sheetOf_19
  · replace hF := (if_neg c3).symm.trans hF
    refine lv_aload_n hx hb dX3_sheetOf_9 rfl (lv_at hl 0 rfl) ?_
    refine g_get (ci := 3) (C := RX3) (T := TX3) (N := 7) (v := .ref (ad 8 1)) S hf hinX3 0 rfl rfl 4 (by decide) k31 rfl rfl dX3_sheetOf_10 ?_
    refine lv_iload_n hx hb dX3_sheetOf_13 rfl (lv_at hl 1 rfl) ?_
    obtain ⟨g4, hF⟩ := gd_some hF
    refine g_aald (v := ad (4 + a1.toNatClampNeg) 0) (t0 := 2) S hf 1 rfl rfl rfl g4 (if_pos (ix_lt g4)) dX3_sheetOf_14 ?_
    refine lv_goto (tgt := 19) hx hb dX3_sheetOf_15 (by decide) ?_
    have hE := Option.some.inj hF
    have hV := congrArg (fun z : (Option Nat) => (va_rf (Option.map (fun j => ad (4 + j) 0) z) : Value)) hE
    exact g_aret S hr hlocks hf (Or.inr ⟨_, rfl⟩) hV rfl dX3_sheetOf_19
