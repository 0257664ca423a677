def f_X3_ahead (X0 : K3) (a1 : Int32) (a2 : Int32) (a3 : Int32) : Option (Int32 × K3) := if a2 = 7 then (Option.bind (f_X0_has (X0 0) a1) (fun q2 => if q2 = 0 then (Option.bind (f_X3_finding X0 0) (fun q5 => some (q5.1, q5.2))) else (Option.bind (f_X3_within a3 0 100) (fun q7 => if q7 = 0 then (Option.bind (f_X3_finding X0 0) (fun q16 => some (q16.1, q16.2))) else (Option.bind (f_X0_become2 (X0 2) (X0 0)) (fun q10 => Option.bind (f_X0_passDays q10 a3) (fun q12 => Option.bind (f_X0_tell q12 a1 a2) (fun q14 => some (q14, va_up X0 2 q12))))))))) else (if a2 = 8 then (Option.bind (f_X0_has (X0 0) a1) (fun q19 => if q19 = 0 then (Option.bind (f_X3_finding X0 0) (fun q22 => some (q22.1, q22.2))) else (Option.bind (f_X3_within a3 0 100) (fun q24 => if q24 = 0 then (Option.bind (f_X3_finding X0 0) (fun q33 => some (q33.1, q33.2))) else (Option.bind (f_X0_become2 (X0 2) (X0 0)) (fun q27 => Option.bind (f_X0_passDays q27 a3) (fun q29 => Option.bind (f_X0_tell q29 a1 a2) (fun q31 => some (q31, va_up X0 2 q29))))))))) else (if a2 = 10 then (Option.bind (f_X0_has (X0 0) a1) (fun q36 => if q36 = 0 then (Option.bind (f_X3_finding X0 0) (fun q39 => some (q39.1, q39.2))) else (Option.bind (f_X3_within a3 0 100) (fun q41 => if q41 = 0 then (Option.bind (f_X3_finding X0 0) (fun q50 => some (q50.1, q50.2))) else (Option.bind (f_X0_become2 (X0 2) (X0 0)) (fun q44 => Option.bind (f_X0_passDays q44 a3) (fun q46 => Option.bind (f_X0_tell q46 a1 a2) (fun q48 => some (q48, va_up X0 2 q46))))))))) else (if a2 = 13 then (Option.bind (f_X0_has (X0 0) a1) (fun q60 => if q60 = 0 then (Option.bind (f_X3_finding X0 0) (fun q63 => some (q63.1, q63.2))) else (Option.bind (f_X3_within a3 0 100) (fun q65 => if q65 = 0 then (Option.bind (f_X3_finding X0 0) (fun q74 => some (q74.1, q74.2))) else (Option.bind (f_X0_become2 (X0 2) (X0 0)) (fun q68 => Option.bind (f_X0_passDays q68 a3) (fun q70 => Option.bind (f_X0_tell q70 a1 a2) (fun q72 => some (q72, va_up X0 2 q70))))))))) else (Option.bind (f_X0_has (X0 0) a1) (fun q53 => if q53 = 0 then (Option.bind (f_X3_finding X0 0) (fun q56 => some (q56.1, q56.2))) else (Option.bind (f_X3_finding X0 0) (fun q58 => some (q58.1, q58.2))))))))
set_option maxHeartbeats 4000000 in
set_option maxRecDepth 100000 in
theorem c_X3_ahead (l : Launch) (G : GT) (ad : Nat → Nat → Nat) (X0 : K3) (a1 : Int32) (a2 : Int32) (a3 : Int32) (q : Int32 × K3) (hF : f_X3_ahead X0 a1 a2 a3 = some q) : Ct l G yX3_ahead wsX3_ahead ({ frames := 6, cells := 0, slots := 0, locals := 133 } : Room) ([.ref (ad 8 0), .int a1, .int a2, .int a3] : List Value) (wX G ad X0) (some (.int q.1)) (wX G ad q.2) := by
  have k10 : Cond.fieldLink RX3 10 "PigeonRolls" "realm" "LPigeonRolls$Kingdom;" ∈ wsX3_ahead := by decide +kernel
  have k19 : Cond.fieldLink RX3 19 "PigeonRolls" "trial" "LPigeonRolls$Kingdom;" ∈ wsX3_ahead := by decide +kernel
  have hinX3 : ∀ w ∈ u_ws RX3 TX3 7, w ∈ wsX3_ahead := by decide +kernel
  refine Ct.of cX3_ahead 5 (some .int) (by decide) rfl (Nat.le_of_ble_eq_true rfl) ?_
  intro p e s m below meth c ls S hr hlocks hf hl
  have S : CallFix p m c cX3_ahead 5 s ([.ref (ad 8 0), .int a1, .int a2, .int a3] : List Value).toArray wsX3_ahead RX3 := S
  obtain ⟨hx, hb, hml, hown, hts⟩ := id S
  have hl : lv_has ls 5 [(0, .ref (ad 8 0)), (1, .int a1), (2, .int a2), (3, .int a3)] := hl
  unfold f_X3_ahead at hF
  refine lv_iload_n hx hb dX3_ahead_0 rfl (lv_at hl 2 rfl) ?_
  refine lv_bipush (v := 7) hx hb dX3_ahead_1 (by decide) ?_
  refine lv_icmp_eq (tgt := 24) hx hb dX3_ahead_3 (by decide) (fun c1 => ?_) (fun c1 => ?_)
  · replace hF := (if_pos c1).symm.trans hF
    refine lv_iconst (v := 1) hx hb dX3_ahead_24 (by decide) ?_
    refine lv_goto (tgt := 29) hx hb dX3_ahead_25 (by decide) ?_
    refine lv_istore (lv' := [(4, .int 1), (0, .ref (ad 8 0)), (1, .int a1), (2, .int a2), (3, .int a3)]) hx hb dX3_ahead_29 hl (by decide) rfl (fun ls hl => ?_)
    refine lv_aload_n hx hb dX3_ahead_31 rfl (lv_at hl 1 rfl) ?_
    refine g_get (ci := 3) (C := RX3) (T := TX3) (N := 7) (v := .ref (ad 0 0)) S hf hinX3 0 rfl rfl 0 (by decide) k10 rfl rfl dX3_ahead_32 ?_
    refine lv_iload_n hx hb dX3_ahead_35 rfl (lv_at hl 2 rfl) ?_
    obtain ⟨q2, h3, hF⟩ := Option.bind_eq_some_iff.mp hF
    refine g_cv (o := some (.int q2)) (As := [.int a1]) (rest := []) (st1 := [.int q2]) (ci := 0) (a := List.take 16 (wX G ad X0)) (b := List.drop 29 (wX G ad X0)) S hf (c_X0_has l G (ad 0) (X0 0) a1 q2 h3) (cwV 1 hts gX3_ahead_X0_has rfl rfl rfl (by decide +kernel) ⟨Nat.le_of_ble_eq_true rfl, Nat.le_of_ble_eq_true rfl⟩) rfl rfl rfl rfl 0 rfl rfl hl.1 rfl rfl (Nat.le_of_ble_eq_true rfl) ⟨Nat.zero_le _, Nat.zero_le _⟩ dX3_ahead_36 (fun H locs hf => ?_)
    have hf : Fr G (va_A (wX G ad X0) s.heap.size) s (wX G ad X0) H locs := hf
    refine lv_if_eq (tgt := 57) hx hb dX3_ahead_39 (by decide) (fun c4 => ?_) (fun c4 => ?_)
    · replace hF := (if_pos c4).symm.trans hF
      refine lv_aload_n hx hb dX3_ahead_57 rfl (lv_at hl 1 rfl) ?_
      refine lv_iconst (v := 0) hx hb dX3_ahead_58 (by decide) ?_
      obtain ⟨q5, h6, hF⟩ := Option.bind_eq_some_iff.mp hF
      refine g_cv0 (o := some (.int q5.1)) (As := [.int 0]) (rest := []) (st1 := [.int q5.1]) (ci := 3) S hf (c_X3_finding l G ad X0 0 q5 h6) (cwV 1 hts gX3_ahead_X3_finding rfl rfl rfl (by decide +kernel) ⟨Nat.le_of_ble_eq_true rfl, Nat.le_of_ble_eq_true rfl⟩) rfl rfl rfl 0 rfl rfl hl.1 rfl rfl (Nat.le_of_ble_eq_true rfl) ⟨Nat.zero_le _, Nat.zero_le _⟩ dX3_ahead_59 (fun H locs hf => ?_)
      have hf : Fr G (va_A (wX G ad X0) s.heap.size) s (wX G ad q5.2) H locs := hf
      have hE := Option.some.inj hF
      have hV := congrArg (fun z : Int32 × K3 => z.1) hE
      have hW := congrArg (fun z : Int32 × K3 => wX G ad z.2) hE
      exact g_iret S hr hlocks hf hV hW dX3_ahead_62
    · replace hF := (if_neg c4).symm.trans hF
      refine lv_iload hx hb dX3_ahead_42 (lv_at hl 0 rfl) ?_
      refine lv_if_eq (tgt := 57) hx hb dX3_ahead_44 (by decide) (fun c => absurd c (by decide)) (fun c => ?_)
      refine lv_iload_n hx hb dX3_ahead_47 rfl (lv_at hl 4 rfl) ?_
      refine lv_iconst (v := 0) hx hb dX3_ahead_48 (by decide) ?_
      refine lv_bipush (v := 100) hx hb dX3_ahead_49 (by decide) ?_
      obtain ⟨q7, h8, hF⟩ := Option.bind_eq_some_iff.mp hF
      refine g_cs0 (o := some (.int q7)) (As := [.int a3, .int 0, .int 100]) (rest := []) (st1 := [.int q7]) S hf (c_X3_within l G  a3 0 100 q7 h8) (va_cwS 3 hts gX3_ahead_X3_within rfl rfl rfl (by decide +kernel) ⟨Nat.le_of_ble_eq_true rfl, Nat.le_of_ble_eq_true rfl⟩) rfl hl.1 rfl rfl (Nat.le_of_ble_eq_true rfl) ⟨Nat.zero_le _, Nat.zero_le _⟩ dX3_ahead_51 (fun H locs hf => ?_)
      refine lv_if_ne (tgt := 63) hx hb dX3_ahead_54 (by decide) (fun c9 => ?_) (fun c9 => ?_)
      · replace hF := (if_neg c9).symm.trans hF
        refine lv_aload_n hx hb dX3_ahead_63 rfl (lv_at hl 1 rfl) ?_
        refine g_get (ci := 3) (C := RX3) (T := TX3) (N := 7) (v := .ref (ad 2 0)) S hf hinX3 0 rfl rfl 2 (by decide) k19 rfl rfl dX3_ahead_64 ?_
        refine lv_aload_n hx hb dX3_ahead_67 rfl (lv_at hl 1 rfl) ?_
        refine g_get (ci := 3) (C := RX3) (T := TX3) (N := 7) (v := .ref (ad 0 0)) S hf hinX3 0 rfl rfl 0 (by decide) k10 rfl rfl dX3_ahead_68 ?_
        obtain ⟨q10, h11, hF⟩ := Option.bind_eq_some_iff.mp hF
        refine g_cv (o := none) (As := [.ref (ad 0 0)]) (rest := []) (st1 := []) (ci := 0) (a := List.take 16 (wX G ad X0)) (b := List.drop 42 (wX G ad X0)) S hf (c_X0_become2 l G (ad 2) (ad 0) (X0 2) (X0 0) q10 h11) (cwV 1 hts gX3_ahead_X0_become rfl rfl rfl (by decide +kernel) ⟨Nat.le_of_ble_eq_true rfl, Nat.le_of_ble_eq_true rfl⟩) rfl rfl rfl rfl 13 rfl rfl hl.1 rfl rfl (Nat.le_of_ble_eq_true rfl) ⟨Nat.zero_le _, Nat.zero_le _⟩ dX3_ahead_71 (fun H locs hf => ?_)
        have hf : Fr G (va_A (wX G ad X0) s.heap.size) s (wX G ad (va_up X0 2 q10)) H locs := hf
        refine lv_aload_n hx hb dX3_ahead_74 rfl (lv_at hl 1 rfl) ?_
        refine g_get (ci := 3) (C := RX3) (T := TX3) (N := 7) (v := .ref (ad 2 0)) S hf hinX3 0 rfl rfl 2 (by decide) k19 rfl rfl dX3_ahead_75 ?_
        refine lv_iload_n hx hb dX3_ahead_78 rfl (lv_at hl 4 rfl) ?_
        obtain ⟨q12, h13, hF⟩ := Option.bind_eq_some_iff.mp hF
        refine g_cv (o := none) (As := [.int a3]) (rest := []) (st1 := []) (ci := 0) (a := List.take 29 (wX G ad (va_up X0 2 q10))) (b := List.drop 42 (wX G ad (va_up X0 2 q10))) S hf (c_X0_passDays l G (ad 2) q10 a3 q12 h13) (cwV 1 hts gX3_ahead_X0_passDays rfl rfl rfl (by decide +kernel) ⟨Nat.le_of_ble_eq_true rfl, Nat.le_of_ble_eq_true rfl⟩) rfl rfl rfl rfl 0 rfl rfl hl.1 rfl rfl (Nat.le_of_ble_eq_true rfl) ⟨Nat.zero_le _, Nat.zero_le _⟩ dX3_ahead_79 (fun H locs hf => ?_)
        have hf : Fr G (va_A (wX G ad X0) s.heap.size) s (wX G ad (va_up X0 2 q12)) H locs := hf
        refine lv_aload_n hx hb dX3_ahead_82 rfl (lv_at hl 1 rfl) ?_
        refine g_get (ci := 3) (C := RX3) (T := TX3) (N := 7) (v := .ref (ad 2 0)) S hf hinX3 0 rfl rfl 2 (by decide) k19 rfl rfl dX3_ahead_83 ?_
        refine lv_iload_n hx hb dX3_ahead_86 rfl (lv_at hl 2 rfl) ?_
        refine lv_iload_n hx hb dX3_ahead_87 rfl (lv_at hl 3 rfl) ?_
        obtain ⟨q14, h15, hF⟩ := Option.bind_eq_some_iff.mp hF
        refine g_cv (o := some (.int q14)) (As := [.int a1, .int a2]) (rest := []) (st1 := [.int q14]) (ci := 0) (a := List.take 29 (wX G ad (va_up X0 2 q12))) (b := List.drop 42 (wX G ad (va_up X0 2 q12))) S hf (c_X0_tell l G (ad 2) q12 a1 a2 q14 h15) (cwV 2 hts gX3_ahead_X0_tell rfl rfl rfl (by decide +kernel) ⟨Nat.le_of_ble_eq_true rfl, Nat.le_of_ble_eq_true rfl⟩) rfl rfl rfl rfl 0 rfl rfl hl.1 rfl rfl (Nat.le_of_ble_eq_true rfl) ⟨Nat.zero_le _, Nat.zero_le _⟩ dX3_ahead_88 (fun H locs hf => ?_)
        have hf : Fr G (va_A (wX G ad X0) s.heap.size) s (wX G ad (va_up X0 2 q12)) H locs := hf
        have hE := Option.some.inj hF
        have hV := congrArg (fun z : Int32 × K3 => z.1) hE
        have hW := congrArg (fun z : Int32 × K3 => wX G ad z.2) hE
        exact g_iret S hr hlocks hf hV hW dX3_ahead_91
      · replace hF := (if_pos c9).symm.trans hF
        refine lv_aload_n hx hb dX3_ahead_57 rfl (lv_at hl 1 rfl) ?_
        refine lv_iconst (v := 0) hx hb dX3_ahead_58 (by decide) ?_
        obtain ⟨q16, h17, hF⟩ := Option.bind_eq_some_iff.mp hF
        refine g_cv0 (o := some (.int q16.1)) (As := [.int 0]) (rest := []) (st1 := [.int q16.1]) (ci := 3) S hf (c_X3_finding l G ad X0 0 q16 h17) (cwV 1 hts gX3_ahead_X3_finding rfl rfl rfl (by decide +kernel) ⟨Nat.le_of_ble_eq_true rfl, Nat.le_of_ble_eq_true rfl⟩) rfl rfl rfl 0 rfl rfl hl.1 rfl rfl (Nat.le_of_ble_eq_true rfl) ⟨Nat.zero_le _, Nat.zero_le _⟩ dX3_ahead_59 (fun H locs hf => ?_)
        have hf : Fr G (va_A (wX G ad X0) s.heap.size) s (wX G ad q16.2) H locs := hf
        have hE := Option.some.inj hF
        have hV := congrArg (fun z : Int32 × K3 => z.1) hE
        have hW := congrArg (fun z : Int32 × K3 => wX G ad z.2) hE
        exact g_iret S hr hlocks hf hV hW dX3_ahead_62
  · replace hF := (if_neg c1).symm.trans hF
    refine lv_iload_n hx hb dX3_ahead_6 rfl (lv_at hl 2 rfl) ?_
    refine lv_bipush (v := 8) hx hb dX3_ahead_7 (by decide) ?_
    refine lv_icmp_eq (tgt := 24) hx hb dX3_ahead_9 (by decide) (fun c18 => ?_) (fun c18 => ?_)
    · replace hF := (if_pos c18).symm.trans hF
      refine lv_iconst (v := 1) hx hb dX3_ahead_24 (by decide) ?_
      refine lv_goto (tgt := 29) hx hb dX3_ahead_25 (by decide) ?_
      refine lv_istore (lv' := [(4, .int 1), (0, .ref (ad 8 0)), (1, .int a1), (2, .int a2), (3, .int a3)]) hx hb dX3_ahead_29 hl (by decide) rfl (fun ls hl => ?_)
      refine lv_aload_n hx hb dX3_ahead_31 rfl (lv_at hl 1 rfl) ?_
      refine g_get (ci := 3) (C := RX3) (T := TX3) (N := 7) (v := .ref (ad 0 0)) S hf hinX3 0 rfl rfl 0 (by decide) k10 rfl rfl dX3_ahead_32 ?_
      refine lv_iload_n hx hb dX3_ahead_35 rfl (lv_at hl 2 rfl) ?_
      obtain ⟨q19, h20, hF⟩ := Option.bind_eq_some_iff.mp hF
      refine g_cv (o := some (.int q19)) (As := [.int a1]) (rest := []) (st1 := [.int q19]) (ci := 0) (a := List.take 16 (wX G ad X0)) (b := List.drop 29 (wX G ad X0)) S hf (c_X0_has l G (ad 0) (X0 0) a1 q19 h20) (cwV 1 hts gX3_ahead_X0_has rfl rfl rfl (by decide +kernel) ⟨Nat.le_of_ble_eq_true rfl, Nat.le_of_ble_eq_true rfl⟩) rfl rfl rfl rfl 0 rfl rfl hl.1 rfl rfl (Nat.le_of_ble_eq_true rfl) ⟨Nat.zero_le _, Nat.zero_le _⟩ dX3_ahead_36 (fun H locs hf => ?_)
      have hf : Fr G (va_A (wX G ad X0) s.heap.size) s (wX G ad X0) H locs := hf
      refine lv_if_eq (tgt := 57) hx hb dX3_ahead_39 (by decide) (fun c21 => ?_) (fun c21 => ?_)
      · replace hF := (if_pos c21).symm.trans hF
        refine lv_aload_n hx hb dX3_ahead_57 rfl (lv_at hl 1 rfl) ?_
        refine lv_iconst (v := 0) hx hb dX3_ahead_58 (by decide) ?_
        obtain ⟨q22, h23, hF⟩ := Option.bind_eq_some_iff.mp hF
        refine g_cv0 (o := some (.int q22.1)) (As := [.int 0]) (rest := []) (st1 := [.int q22.1]) (ci := 3) S hf (c_X3_finding l G ad X0 0 q22 h23) (cwV 1 hts gX3_ahead_X3_finding rfl rfl rfl (by decide +kernel) ⟨Nat.le_of_ble_eq_true rfl, Nat.le_of_ble_eq_true rfl⟩) rfl rfl rfl 0 rfl rfl hl.1 rfl rfl (Nat.le_of_ble_eq_true rfl) ⟨Nat.zero_le _, Nat.zero_le _⟩ dX3_ahead_59 (fun H locs hf => ?_)
        have hf : Fr G (va_A (wX G ad X0) s.heap.size) s (wX G ad q22.2) H locs := hf
        have hE := Option.some.inj hF
        have hV := congrArg (fun z : Int32 × K3 => z.1) hE
        have hW := congrArg (fun z : Int32 × K3 => wX G ad z.2) hE
        exact g_iret S hr hlocks hf hV hW dX3_ahead_62
      · replace hF := (if_neg c21).symm.trans hF
        refine lv_iload hx hb dX3_ahead_42 (lv_at hl 0 rfl) ?_
        refine lv_if_eq (tgt := 57) hx hb dX3_ahead_44 (by decide) (fun c => absurd c (by decide)) (fun c => ?_)
        refine lv_iload_n hx hb dX3_ahead_47 rfl (lv_at hl 4 rfl) ?_
        refine lv_iconst (v := 0) hx hb dX3_ahead_48 (by decide) ?_
        refine lv_bipush (v := 100) hx hb dX3_ahead_49 (by decide) ?_
        obtain ⟨q24, h25, hF⟩ := Option.bind_eq_some_iff.mp hF
        refine g_cs0 (o := some (.int q24)) (As := [.int a3, .int 0, .int 100]) (rest := []) (st1 := [.int q24]) S hf (c_X3_within l G  a3 0 100 q24 h25) (va_cwS 3 hts gX3_ahead_X3_within rfl rfl rfl (by decide +kernel) ⟨Nat.le_of_ble_eq_true rfl, Nat.le_of_ble_eq_true rfl⟩) rfl hl.1 rfl rfl (Nat.le_of_ble_eq_true rfl) ⟨Nat.zero_le _, Nat.zero_le _⟩ dX3_ahead_51 (fun H locs hf => ?_)
        refine lv_if_ne (tgt := 63) hx hb dX3_ahead_54 (by decide) (fun c26 => ?_) (fun c26 => ?_)
        · replace hF := (if_neg c26).symm.trans hF
          refine lv_aload_n hx hb dX3_ahead_63 rfl (lv_at hl 1 rfl) ?_
          refine g_get (ci := 3) (C := RX3) (T := TX3) (N := 7) (v := .ref (ad 2 0)) S hf hinX3 0 rfl rfl 2 (by decide) k19 rfl rfl dX3_ahead_64 ?_
          refine lv_aload_n hx hb dX3_ahead_67 rfl (lv_at hl 1 rfl) ?_
          refine g_get (ci := 3) (C := RX3) (T := TX3) (N := 7) (v := .ref (ad 0 0)) S hf hinX3 0 rfl rfl 0 (by decide) k10 rfl rfl dX3_ahead_68 ?_
          obtain ⟨q27, h28, hF⟩ := Option.bind_eq_some_iff.mp hF
          refine g_cv (o := none) (As := [.ref (ad 0 0)]) (rest := []) (st1 := []) (ci := 0) (a := List.take 16 (wX G ad X0)) (b := List.drop 42 (wX G ad X0)) S hf (c_X0_become2 l G (ad 2) (ad 0) (X0 2) (X0 0) q27 h28) (cwV 1 hts gX3_ahead_X0_become rfl rfl rfl (by decide +kernel) ⟨Nat.le_of_ble_eq_true rfl, Nat.le_of_ble_eq_true rfl⟩) rfl rfl rfl rfl 13 rfl rfl hl.1 rfl rfl (Nat.le_of_ble_eq_true rfl) ⟨Nat.zero_le _, Nat.zero_le _⟩ dX3_ahead_71 (fun H locs hf => ?_)
          have hf : Fr G (va_A (wX G ad X0) s.heap.size) s (wX G ad (va_up X0 2 q27)) H locs := hf
          refine lv_aload_n hx hb dX3_ahead_74 rfl (lv_at hl 1 rfl) ?_
          refine g_get (ci := 3) (C := RX3) (T := TX3) (N := 7) (v := .ref (ad 2 0)) S hf hinX3 0 rfl rfl 2 (by decide) k19 rfl rfl dX3_ahead_75 ?_
          refine lv_iload_n hx hb dX3_ahead_78 rfl (lv_at hl 4 rfl) ?_
          obtain ⟨q29, h30, hF⟩ := Option.bind_eq_some_iff.mp hF
          refine g_cv (o := none) (As := [.int a3]) (rest := []) (st1 := []) (ci := 0) (a := List.take 29 (wX G ad (va_up X0 2 q27))) (b := List.drop 42 (wX G ad (va_up X0 2 q27))) S hf (c_X0_passDays l G (ad 2) q27 a3 q29 h30) (cwV 1 hts gX3_ahead_X0_passDays rfl rfl rfl (by decide +kernel) ⟨Nat.le_of_ble_eq_true rfl, Nat.le_of_ble_eq_true rfl⟩) rfl rfl rfl rfl 0 rfl rfl hl.1 rfl rfl (Nat.le_of_ble_eq_true rfl) ⟨Nat.zero_le _, Nat.zero_le _⟩ dX3_ahead_79 (fun H locs hf => ?_)
          have hf : Fr G (va_A (wX G ad X0) s.heap.size) s (wX G ad (va_up X0 2 q29)) H locs := hf
          refine lv_aload_n hx hb dX3_ahead_82 rfl (lv_at hl 1 rfl) ?_
          refine g_get (ci := 3) (C := RX3) (T := TX3) (N := 7) (v := .ref (ad 2 0)) S hf hinX3 0 rfl rfl 2 (by decide) k19 rfl rfl dX3_ahead_83 ?_
          refine lv_iload_n hx hb dX3_ahead_86 rfl (lv_at hl 2 rfl) ?_
          refine lv_iload_n hx hb dX3_ahead_87 rfl (lv_at hl 3 rfl) ?_
          obtain ⟨q31, h32, hF⟩ := Option.bind_eq_some_iff.mp hF
          refine g_cv (o := some (.int q31)) (As := [.int a1, .int a2]) (rest := []) (st1 := [.int q31]) (ci := 0) (a := List.take 29 (wX G ad (va_up X0 2 q29))) (b := List.drop 42 (wX G ad (va_up X0 2 q29))) S hf (c_X0_tell l G (ad 2) q29 a1 a2 q31 h32) (cwV 2 hts gX3_ahead_X0_tell rfl rfl rfl (by decide +kernel) ⟨Nat.le_of_ble_eq_true rfl, Nat.le_of_ble_eq_true rfl⟩) rfl rfl rfl rfl 0 rfl rfl hl.1 rfl rfl (Nat.le_of_ble_eq_true rfl) ⟨Nat.zero_le _, Nat.zero_le _⟩ dX3_ahead_88 (fun H locs hf => ?_)
          have hf : Fr G (va_A (wX G ad X0) s.heap.size) s (wX G ad (va_up X0 2 q29)) H locs := hf
          have hE := Option.some.inj hF
          have hV := congrArg (fun z : Int32 × K3 => z.1) hE
          have hW := congrArg (fun z : Int32 × K3 => wX G ad z.2) hE
          exact g_iret S hr hlocks hf hV hW dX3_ahead_91
        · replace hF := (if_pos c26).symm.trans hF
          refine lv_aload_n hx hb dX3_ahead_57 rfl (lv_at hl 1 rfl) ?_
          refine lv_iconst (v := 0) hx hb dX3_ahead_58 (by decide) ?_
          obtain ⟨q33, h34, hF⟩ := Option.bind_eq_some_iff.mp hF
          refine g_cv0 (o := some (.int q33.1)) (As := [.int 0]) (rest := []) (st1 := [.int q33.1]) (ci := 3) S hf (c_X3_finding l G ad X0 0 q33 h34) (cwV 1 hts gX3_ahead_X3_finding rfl rfl rfl (by decide +kernel) ⟨Nat.le_of_ble_eq_true rfl, Nat.le_of_ble_eq_true rfl⟩) rfl rfl rfl 0 rfl rfl hl.1 rfl rfl (Nat.le_of_ble_eq_true rfl) ⟨Nat.zero_le _, Nat.zero_le _⟩ dX3_ahead_59 (fun H locs hf => ?_)
          have hf : Fr G (va_A (wX G ad X0) s.heap.size) s (wX G ad q33.2) H locs := hf
          have hE := Option.some.inj hF
          have hV := congrArg (fun z : Int32 × K3 => z.1) hE
          have hW := congrArg (fun z : Int32 × K3 => wX G ad z.2) hE
          exact g_iret S hr hlocks hf hV hW dX3_ahead_62
    · replace hF := (if_neg c18).symm.trans hF
      refine lv_iload_n hx hb dX3_ahead_12 rfl (lv_at hl 2 rfl) ?_
      refine lv_bipush (v := 10) hx hb dX3_ahead_13 (by decide) ?_
      refine lv_icmp_eq (tgt := 24) hx hb dX3_ahead_15 (by decide) (fun c35 => ?_) (fun c35 => ?_)
      · replace hF := (if_pos c35).symm.trans hF
        refine lv_iconst (v := 1) hx hb dX3_ahead_24 (by decide) ?_
        refine lv_goto (tgt := 29) hx hb dX3_ahead_25 (by decide) ?_
        refine lv_istore (lv' := [(4, .int 1), (0, .ref (ad 8 0)), (1, .int a1), (2, .int a2), (3, .int a3)]) hx hb dX3_ahead_29 hl (by decide) rfl (fun ls hl => ?_)
        refine lv_aload_n hx hb dX3_ahead_31 rfl (lv_at hl 1 rfl) ?_
        refine g_get (ci := 3) (C := RX3) (T := TX3) (N := 7) (v := .ref (ad 0 0)) S hf hinX3 0 rfl rfl 0 (by decide) k10 rfl rfl dX3_ahead_32 ?_
        refine lv_iload_n hx hb dX3_ahead_35 rfl (lv_at hl 2 rfl) ?_
        obtain ⟨q36, h37, hF⟩ := Option.bind_eq_some_iff.mp hF
        refine g_cv (o := some (.int q36)) (As := [.int a1]) (rest := []) (st1 := [.int q36]) (ci := 0) (a := List.take 16 (wX G ad X0)) (b := List.drop 29 (wX G ad X0)) S hf (c_X0_has l G (ad 0) (X0 0) a1 q36 h37) (cwV 1 hts gX3_ahead_X0_has rfl rfl rfl (by decide +kernel) ⟨Nat.le_of_ble_eq_true rfl, Nat.le_of_ble_eq_true rfl⟩) rfl rfl rfl rfl 0 rfl rfl hl.1 rfl rfl (Nat.le_of_ble_eq_true rfl) ⟨Nat.zero_le _, Nat.zero_le _⟩ dX3_ahead_36 (fun H locs hf => ?_)
        have hf : Fr G (va_A (wX G ad X0) s.heap.size) s (wX G ad X0) H locs := hf
        refine lv_if_eq (tgt := 57) hx hb dX3_ahead_39 (by decide) (fun c38 => ?_) (fun c38 => ?_)
        · replace hF := (if_pos c38).symm.trans hF
          refine lv_aload_n hx hb dX3_ahead_57 rfl (lv_at hl 1 rfl) ?_
          refine lv_iconst (v := 0) hx hb dX3_ahead_58 (by decide) ?_
          obtain ⟨q39, h40, hF⟩ := Option.bind_eq_some_iff.mp hF
          refine g_cv0 (o := some (.int q39.1)) (As := [.int 0]) (rest := []) (st1 := [.int q39.1]) (ci := 3) S hf (c_X3_finding l G ad X0 0 q39 h40) (cwV 1 hts gX3_ahead_X3_finding rfl rfl rfl (by decide +kernel) ⟨Nat.le_of_ble_eq_true rfl, Nat.le_of_ble_eq_true rfl⟩) rfl rfl rfl 0 rfl rfl hl.1 rfl rfl (Nat.le_of_ble_eq_true rfl) ⟨Nat.zero_le _, Nat.zero_le _⟩ dX3_ahead_59 (fun H locs hf => ?_)
          have hf : Fr G (va_A (wX G ad X0) s.heap.size) s (wX G ad q39.2) H locs := hf
          have hE := Option.some.inj hF
          have hV := congrArg (fun z : Int32 × K3 => z.1) hE
          have hW := congrArg (fun z : Int32 × K3 => wX G ad z.2) hE
          exact g_iret S hr hlocks hf hV hW dX3_ahead_62
        · replace hF := (if_neg c38).symm.trans hF
          refine lv_iload hx hb dX3_ahead_42 (lv_at hl 0 rfl) ?_
          refine lv_if_eq (tgt := 57) hx hb dX3_ahead_44 (by decide) (fun c => absurd c (by decide)) (fun c => ?_)
          refine lv_iload_n hx hb dX3_ahead_47 rfl (lv_at hl 4 rfl) ?_
          refine lv_iconst (v := 0) hx hb dX3_ahead_48 (by decide) ?_
          refine lv_bipush (v := 100) hx hb dX3_ahead_49 (by decide) ?_
          obtain ⟨q41, h42, hF⟩ := Option.bind_eq_some_iff.mp hF
          refine g_cs0 (o := some (.int q41)) (As := [.int a3, .int 0, .int 100]) (rest := []) (st1 := [.int q41]) S hf (c_X3_within l G  a3 0 100 q41 h42) (va_cwS 3 hts gX3_ahead_X3_within rfl rfl rfl (by decide +kernel) ⟨Nat.le_of_ble_eq_true rfl, Nat.le_of_ble_eq_true rfl⟩) rfl hl.1 rfl rfl (Nat.le_of_ble_eq_true rfl) ⟨Nat.zero_le _, Nat.zero_le _⟩ dX3_ahead_51 (fun H locs hf => ?_)
          refine lv_if_ne (tgt := 63) hx hb dX3_ahead_54 (by decide) (fun c43 => ?_) (fun c43 => ?_)
          · replace hF := (if_neg c43).symm.trans hF
            refine lv_aload_n hx hb dX3_ahead_63 rfl (lv_at hl 1 rfl) ?_
            refine g_get (ci := 3) (C := RX3) (T := TX3) (N := 7) (v := .ref (ad 2 0)) S hf hinX3 0 rfl rfl 2 (by decide) k19 rfl rfl dX3_ahead_64 ?_
            refine lv_aload_n hx hb dX3_ahead_67 rfl (lv_at hl 1 rfl) ?_
            refine g_get (ci := 3) (C := RX3) (T := TX3) (N := 7) (v := .ref (ad 0 0)) S hf hinX3 0 rfl rfl 0 (by decide) k10 rfl rfl dX3_ahead_68 ?_
            obtain ⟨q44, h45, hF⟩ := Option.bind_eq_some_iff.mp hF
            refine g_cv (o := none) (As := [.ref (ad 0 0)]) (rest := []) (st1 := []) (ci := 0) (a := List.take 16 (wX G ad X0)) (b := List.drop 42 (wX G ad X0)) S hf (c_X0_become2 l G (ad 2) (ad 0) (X0 2) (X0 0) q44 h45) (cwV 1 hts gX3_ahead_X0_become rfl rfl rfl (by decide +kernel) ⟨Nat.le_of_ble_eq_true rfl, Nat.le_of_ble_eq_true rfl⟩) rfl rfl rfl rfl 13 rfl rfl hl.1 rfl rfl (Nat.le_of_ble_eq_true rfl) ⟨Nat.zero_le _, Nat.zero_le _⟩ dX3_ahead_71 (fun H locs hf => ?_)
            have hf : Fr G (va_A (wX G ad X0) s.heap.size) s (wX G ad (va_up X0 2 q44)) H locs := hf
            refine lv_aload_n hx hb dX3_ahead_74 rfl (lv_at hl 1 rfl) ?_
            refine g_get (ci := 3) (C := RX3) (T := TX3) (N := 7) (v := .ref (ad 2 0)) S hf hinX3 0 rfl rfl 2 (by decide) k19 rfl rfl dX3_ahead_75 ?_
            refine lv_iload_n hx hb dX3_ahead_78 rfl (lv_at hl 4 rfl) ?_
            obtain ⟨q46, h47, hF⟩ := Option.bind_eq_some_iff.mp hF
            refine g_cv (o := none) (As := [.int a3]) (rest := []) (st1 := []) (ci := 0) (a := List.take 29 (wX G ad (va_up X0 2 q44))) (b := List.drop 42 (wX G ad (va_up X0 2 q44))) S hf (c_X0_passDays l G (ad 2) q44 a3 q46 h47) (cwV 1 hts gX3_ahead_X0_passDays rfl rfl rfl (by decide +kernel) ⟨Nat.le_of_ble_eq_true rfl, Nat.le_of_ble_eq_true rfl⟩) rfl rfl rfl rfl 0 rfl rfl hl.1 rfl rfl (Nat.le_of_ble_eq_true rfl) ⟨Nat.zero_le _, Nat.zero_le _⟩ dX3_ahead_79 (fun H locs hf => ?_)
            have hf : Fr G (va_A (wX G ad X0) s.heap.size) s (wX G ad (va_up X0 2 q46)) H locs := hf
            refine lv_aload_n hx hb dX3_ahead_82 rfl (lv_at hl 1 rfl) ?_
            refine g_get (ci := 3) (C := RX3) (T := TX3) (N := 7) (v := .ref (ad 2 0)) S hf hinX3 0 rfl rfl 2 (by decide) k19 rfl rfl dX3_ahead_83 ?_
            refine lv_iload_n hx hb dX3_ahead_86 rfl (lv_at hl 2 rfl) ?_
            refine lv_iload_n hx hb dX3_ahead_87 rfl (lv_at hl 3 rfl) ?_
            obtain ⟨q48, h49, hF⟩ := Option.bind_eq_some_iff.mp hF
            refine g_cv (o := some (.int q48)) (As := [.int a1, .int a2]) (rest := []) (st1 := [.int q48]) (ci := 0) (a := List.take 29 (wX G ad (va_up X0 2 q46))) (b := List.drop 42 (wX G ad (va_up X0 2 q46))) S hf (c_X0_tell l G (ad 2) q46 a1 a2 q48 h49) (cwV 2 hts gX3_ahead_X0_tell rfl rfl rfl (by decide +kernel) ⟨Nat.le_of_ble_eq_true rfl, Nat.le_of_ble_eq_true rfl⟩) rfl rfl rfl rfl 0 rfl rfl hl.1 rfl rfl (Nat.le_of_ble_eq_true rfl) ⟨Nat.zero_le _, Nat.zero_le _⟩ dX3_ahead_88 (fun H locs hf => ?_)
            have hf : Fr G (va_A (wX G ad X0) s.heap.size) s (wX G ad (va_up X0 2 q46)) H locs := hf
            have hE := Option.some.inj hF
            have hV := congrArg (fun z : Int32 × K3 => z.1) hE
            have hW := congrArg (fun z : Int32 × K3 => wX G ad z.2) hE
            exact g_iret S hr hlocks hf hV hW dX3_ahead_91
          · replace hF := (if_pos c43).symm.trans hF
            refine lv_aload_n hx hb dX3_ahead_57 rfl (lv_at hl 1 rfl) ?_
            refine lv_iconst (v := 0) hx hb dX3_ahead_58 (by decide) ?_
            obtain ⟨q50, h51, hF⟩ := Option.bind_eq_some_iff.mp hF
            refine g_cv0 (o := some (.int q50.1)) (As := [.int 0]) (rest := []) (st1 := [.int q50.1]) (ci := 3) S hf (c_X3_finding l G ad X0 0 q50 h51) (cwV 1 hts gX3_ahead_X3_finding rfl rfl rfl (by decide +kernel) ⟨Nat.le_of_ble_eq_true rfl, Nat.le_of_ble_eq_true rfl⟩) rfl rfl rfl 0 rfl rfl hl.1 rfl rfl (Nat.le_of_ble_eq_true rfl) ⟨Nat.zero_le _, Nat.zero_le _⟩ dX3_ahead_59 (fun H locs hf => ?_)
            have hf : Fr G (va_A (wX G ad X0) s.heap.size) s (wX G ad q50.2) H locs := hf
            have hE := Option.some.inj hF
            have hV := congrArg (fun z : Int32 × K3 => z.1) hE
            have hW := congrArg (fun z : Int32 × K3 => wX G ad z.2) hE
            exact g_iret S hr hlocks hf hV hW dX3_ahead_62
      · replace hF := (if_neg c35).symm.trans hF
        refine lv_iload_n hx hb dX3_ahead_18 rfl (lv_at hl 2 rfl) ?_
        refine lv_bipush (v := 13) hx hb dX3_ahead_19 (by decide) ?_
        refine lv_icmp_ne (tgt := 28) hx hb dX3_ahead_21 (by decide) (fun c52 => ?_) (fun c52 => ?_)
        · replace hF := (if_neg c52).symm.trans hF
          refine lv_iconst (v := 0) hx hb dX3_ahead_28 (by decide) ?_
          refine lv_istore (lv' := [(4, .int 0), (0, .ref (ad 8 0)), (1, .int a1), (2, .int a2), (3, .int a3)]) hx hb dX3_ahead_29 hl (by decide) rfl (fun ls hl => ?_)
          refine lv_aload_n hx hb dX3_ahead_31 rfl (lv_at hl 1 rfl) ?_
          refine g_get (ci := 3) (C := RX3) (T := TX3) (N := 7) (v := .ref (ad 0 0)) S hf hinX3 0 rfl rfl 0 (by decide) k10 rfl rfl dX3_ahead_32 ?_
          refine lv_iload_n hx hb dX3_ahead_35 rfl (lv_at hl 2 rfl) ?_
          obtain ⟨q53, h54, hF⟩ := Option.bind_eq_some_iff.mp hF
          refine g_cv (o := some (.int q53)) (As := [.int a1]) (rest := []) (st1 := [.int q53]) (ci := 0) (a := List.take 16 (wX G ad X0)) (b := List.drop 29 (wX G ad X0)) S hf (c_X0_has l G (ad 0) (X0 0) a1 q53 h54) (cwV 1 hts gX3_ahead_X0_has rfl rfl rfl (by decide +kernel) ⟨Nat.le_of_ble_eq_true rfl, Nat.le_of_ble_eq_true rfl⟩) rfl rfl rfl rfl 0 rfl rfl hl.1 rfl rfl (Nat.le_of_ble_eq_true rfl) ⟨Nat.zero_le _, Nat.zero_le _⟩ dX3_ahead_36 (fun H locs hf => ?_)
          have hf : Fr G (va_A (wX G ad X0) s.heap.size) s (wX G ad X0) H locs := hf
          refine lv_if_eq (tgt := 57) hx hb dX3_ahead_39 (by decide) (fun c55 => ?_) (fun c55 => ?_)
          · replace hF := (if_pos c55).symm.trans hF
            refine lv_aload_n hx hb dX3_ahead_57 rfl (lv_at hl 1 rfl) ?_
            refine lv_iconst (v := 0) hx hb dX3_ahead_58 (by decide) ?_
            obtain ⟨q56, h57, hF⟩ := Option.bind_eq_some_iff.mp hF
            refine g_cv0 (o := some (.int q56.1)) (As := [.int 0]) (rest := []) (st1 := [.int q56.1]) (ci := 3) S hf (c_X3_finding l G ad X0 0 q56 h57) (cwV 1 hts gX3_ahead_X3_finding rfl rfl rfl (by decide +kernel) ⟨Nat.le_of_ble_eq_true rfl, Nat.le_of_ble_eq_true rfl⟩) rfl rfl rfl 0 rfl rfl hl.1 rfl rfl (Nat.le_of_ble_eq_true rfl) ⟨Nat.zero_le _, Nat.zero_le _⟩ dX3_ahead_59 (fun H locs hf => ?_)
            have hf : Fr G (va_A (wX G ad X0) s.heap.size) s (wX G ad q56.2) H locs := hf
            have hE := Option.some.inj hF
            have hV := congrArg (fun z : Int32 × K3 => z.1) hE
            have hW := congrArg (fun z : Int32 × K3 => wX G ad z.2) hE
            exact g_iret S hr hlocks hf hV hW dX3_ahead_62
          · replace hF := (if_neg c55).symm.trans hF
            refine lv_iload hx hb dX3_ahead_42 (lv_at hl 0 rfl) ?_
            refine lv_if_eq (tgt := 57) hx hb dX3_ahead_44 (by decide) (fun c => ?_) (fun c => absurd c (by decide))
            refine lv_aload_n hx hb dX3_ahead_57 rfl (lv_at hl 1 rfl) ?_
            refine lv_iconst (v := 0) hx hb dX3_ahead_58 (by decide) ?_
            obtain ⟨q58, h59, hF⟩ := Option.bind_eq_some_iff.mp hF
            refine g_cv0 (o := some (.int q58.1)) (As := [.int 0]) (rest := []) (st1 := [.int q58.1]) (ci := 3) S hf (c_X3_finding l G ad X0 0 q58 h59) (cwV 1 hts gX3_ahead_X3_finding rfl rfl rfl (by decide +kernel) ⟨Nat.le_of_ble_eq_true rfl, Nat.le_of_ble_eq_true rfl⟩) rfl rfl rfl 0 rfl rfl hl.1 rfl rfl (Nat.le_of_ble_eq_true rfl) ⟨Nat.zero_le _, Nat.zero_le _⟩ dX3_ahead_59 (fun H locs hf => ?_)
            have hf : Fr G (va_A (wX G ad X0) s.heap.size) s (wX G ad q58.2) H locs := hf
            have hE := Option.some.inj hF
            have hV := congrArg (fun z : Int32 × K3 => z.1) hE
            have hW := congrArg (fun z : Int32 × K3 => wX G ad z.2) hE
            exact g_iret S hr hlocks hf hV hW dX3_ahead_62
        · replace hF := (if_pos c52).symm.trans hF
          refine lv_iconst (v := 1) hx hb dX3_ahead_24 (by decide) ?_
          refine lv_goto (tgt := 29) hx hb dX3_ahead_25 (by decide) ?_
          refine lv_istore (lv' := [(4, .int 1), (0, .ref (ad 8 0)), (1, .int a1), (2, .int a2), (3, .int a3)]) hx hb dX3_ahead_29 hl (by decide) rfl (fun ls hl => ?_)
          refine lv_aload_n hx hb dX3_ahead_31 rfl (lv_at hl 1 rfl) ?_
          refine g_get (ci := 3) (C := RX3) (T := TX3) (N := 7) (v := .ref (ad 0 0)) S hf hinX3 0 rfl rfl 0 (by decide) k10 rfl rfl dX3_ahead_32 ?_
          refine lv_iload_n hx hb dX3_ahead_35 rfl (lv_at hl 2 rfl) ?_
          obtain ⟨q60, h61, hF⟩ := Option.bind_eq_some_iff.mp hF
          refine g_cv (o := some (.int q60)) (As := [.int a1]) (rest := []) (st1 := [.int q60]) (ci := 0) (a := List.take 16 (wX G ad X0)) (b := List.drop 29 (wX G ad X0)) S hf (c_X0_has l G (ad 0) (X0 0) a1 q60 h61) (cwV 1 hts gX3_ahead_X0_has rfl rfl rfl (by decide +kernel) ⟨Nat.le_of_ble_eq_true rfl, Nat.le_of_ble_eq_true rfl⟩) rfl rfl rfl rfl 0 rfl rfl hl.1 rfl rfl (Nat.le_of_ble_eq_true rfl) ⟨Nat.zero_le _, Nat.zero_le _⟩ dX3_ahead_36 (fun H locs hf => ?_)
          have hf : Fr G (va_A (wX G ad X0) s.heap.size) s (wX G ad X0) H locs := hf
          refine lv_if_eq (tgt := 57) hx hb dX3_ahead_39 (by decide) (fun c62 => ?_) (fun c62 => ?_)
          · replace hF := (if_pos c62).symm.trans hF
            refine lv_aload_n hx hb dX3_ahead_57 rfl (lv_at hl 1 rfl) ?_
            refine lv_iconst (v := 0) hx hb dX3_ahead_58 (by decide) ?_
            obtain ⟨q63, h64, hF⟩ := Option.bind_eq_some_iff.mp hF
            refine g_cv0 (o := some (.int q63.1)) (As := [.int 0]) (rest := []) (st1 := [.int q63.1]) (ci := 3) S hf (c_X3_finding l G ad X0 0 q63 h64) (cwV 1 hts gX3_ahead_X3_finding rfl rfl rfl (by decide +kernel) ⟨Nat.le_of_ble_eq_true rfl, Nat.le_of_ble_eq_true rfl⟩) rfl rfl rfl 0 rfl rfl hl.1 rfl rfl (Nat.le_of_ble_eq_true rfl) ⟨Nat.zero_le _, Nat.zero_le _⟩ dX3_ahead_59 (fun H locs hf => ?_)
            have hf : Fr G (va_A (wX G ad X0) s.heap.size) s (wX G ad q63.2) H locs := hf
            have hE := Option.some.inj hF
            have hV := congrArg (fun z : Int32 × K3 => z.1) hE
            have hW := congrArg (fun z : Int32 × K3 => wX G ad z.2) hE
            exact g_iret S hr hlocks hf hV hW dX3_ahead_62
          · replace hF := (if_neg c62).symm.trans hF
            refine lv_iload hx hb dX3_ahead_42 (lv_at hl 0 rfl) ?_
            refine lv_if_eq (tgt := 57) hx hb dX3_ahead_44 (by decide) (fun c => absurd c (by decide)) (fun c => ?_)
            refine lv_iload_n hx hb dX3_ahead_47 rfl (lv_at hl 4 rfl) ?_
            refine lv_iconst (v := 0) hx hb dX3_ahead_48 (by decide) ?_
            refine lv_bipush (v := 100) hx hb dX3_ahead_49 (by decide) ?_
            obtain ⟨q65, h66, hF⟩ := Option.bind_eq_some_iff.mp hF
            refine g_cs0 (o := some (.int q65)) (As := [.int a3, .int 0, .int 100]) (rest := []) (st1 := [.int q65]) S hf (c_X3_within l G  a3 0 100 q65 h66) (va_cwS 3 hts gX3_ahead_X3_within rfl rfl rfl (by decide +kernel) ⟨Nat.le_of_ble_eq_true rfl, Nat.le_of_ble_eq_true rfl⟩) rfl hl.1 rfl rfl (Nat.le_of_ble_eq_true rfl) ⟨Nat.zero_le _, Nat.zero_le _⟩ dX3_ahead_51 (fun H locs hf => ?_)
            refine lv_if_ne (tgt := 63) hx hb dX3_ahead_54 (by decide) (fun c67 => ?_) (fun c67 => ?_)
            · replace hF := (if_neg c67).symm.trans hF
              refine lv_aload_n hx hb dX3_ahead_63 rfl (lv_at hl 1 rfl) ?_
              refine g_get (ci := 3) (C := RX3) (T := TX3) (N := 7) (v := .ref (ad 2 0)) S hf hinX3 0 rfl rfl 2 (by decide) k19 rfl rfl dX3_ahead_64 ?_
              refine lv_aload_n hx hb dX3_ahead_67 rfl (lv_at hl 1 rfl) ?_
              refine g_get (ci := 3) (C := RX3) (T := TX3) (N := 7) (v := .ref (ad 0 0)) S hf hinX3 0 rfl rfl 0 (by decide) k10 rfl rfl dX3_ahead_68 ?_
              obtain ⟨q68, h69, hF⟩ := Option.bind_eq_some_iff.mp hF
              refine g_cv (o := none) (As := [.ref (ad 0 0)]) (rest := []) (st1 := []) (ci := 0) (a := List.take 16 (wX G ad X0)) (b := List.drop 42 (wX G ad X0)) S hf (c_X0_become2 l G (ad 2) (ad 0) (X0 2) (X0 0) q68 h69) (cwV 1 hts gX3_ahead_X0_become rfl rfl rfl (by decide +kernel) ⟨Nat.le_of_ble_eq_true rfl, Nat.le_of_ble_eq_true rfl⟩) rfl rfl rfl rfl 13 rfl rfl hl.1 rfl rfl (Nat.le_of_ble_eq_true rfl) ⟨Nat.zero_le _, Nat.zero_le _⟩ dX3_ahead_71 (fun H locs hf => ?_)
              have hf : Fr G (va_A (wX G ad X0) s.heap.size) s (wX G ad (va_up X0 2 q68)) H locs := hf
              refine lv_aload_n hx hb dX3_ahead_74 rfl (lv_at hl 1 rfl) ?_
              refine g_get (ci := 3) (C := RX3) (T := TX3) (N := 7) (v := .ref (ad 2 0)) S hf hinX3 0 rfl rfl 2 (by decide) k19 rfl rfl dX3_ahead_75 ?_
              refine lv_iload_n hx hb dX3_ahead_78 rfl (lv_at hl 4 rfl) ?_
              obtain ⟨q70, h71, hF⟩ := Option.bind_eq_some_iff.mp hF
              refine g_cv (o := none) (As := [.int a3]) (rest := []) (st1 := []) (ci := 0) (a := List.take 29 (wX G ad (va_up X0 2 q68))) (b := List.drop 42 (wX G ad (va_up X0 2 q68))) S hf (c_X0_passDays l G (ad 2) q68 a3 q70 h71) (cwV 1 hts gX3_ahead_X0_passDays rfl rfl rfl (by decide +kernel) ⟨Nat.le_of_ble_eq_true rfl, Nat.le_of_ble_eq_true rfl⟩) rfl rfl rfl rfl 0 rfl rfl hl.1 rfl rfl (Nat.le_of_ble_eq_true rfl) ⟨Nat.zero_le _, Nat.zero_le _⟩ dX3_ahead_79 (fun H locs hf => ?_)
              have hf : Fr G (va_A (wX G ad X0) s.heap.size) s (wX G ad (va_up X0 2 q70)) H locs := hf
              refine lv_aload_n hx hb dX3_ahead_82 rfl (lv_at hl 1 rfl) ?_
              refine g_get (ci := 3) (C := RX3) (T := TX3) (N := 7) (v := .ref (ad 2 0)) S hf hinX3 0 rfl rfl 2 (by decide) k19 rfl rfl dX3_ahead_83 ?_
              refine lv_iload_n hx hb dX3_ahead_86 rfl (lv_at hl 2 rfl) ?_
              refine lv_iload_n hx hb dX3_ahead_87 rfl (lv_at hl 3 rfl) ?_
              obtain ⟨q72, h73, hF⟩ := Option.bind_eq_some_iff.mp hF
              refine g_cv (o := some (.int q72)) (As := [.int a1, .int a2]) (rest := []) (st1 := [.int q72]) (ci := 0) (a := List.take 29 (wX G ad (va_up X0 2 q70))) (b := List.drop 42 (wX G ad (va_up X0 2 q70))) S hf (c_X0_tell l G (ad 2) q70 a1 a2 q72 h73) (cwV 2 hts gX3_ahead_X0_tell rfl rfl rfl (by decide +kernel) ⟨Nat.le_of_ble_eq_true rfl, Nat.le_of_ble_eq_true rfl⟩) rfl rfl rfl rfl 0 rfl rfl hl.1 rfl rfl (Nat.le_of_ble_eq_true rfl) ⟨Nat.zero_le _, Nat.zero_le _⟩ dX3_ahead_88 (fun H locs hf => ?_)
              have hf : Fr G (va_A (wX G ad X0) s.heap.size) s (wX G ad (va_up X0 2 q70)) H locs := hf
              have hE := Option.some.inj hF
              have hV := congrArg (fun z : Int32 × K3 => z.1) hE
              have hW := congrArg (fun z : Int32 × K3 => wX G ad z.2) hE
              exact g_iret S hr hlocks hf hV hW dX3_ahead_91
            · replace hF := (if_pos c67).symm.trans hF
              refine lv_aload_n hx hb dX3_ahead_57 rfl (lv_at hl 1 rfl) ?_
              refine lv_iconst (v := 0) hx hb dX3_ahead_58 (by decide) ?_
              obtain ⟨q74, h75, hF⟩ := Option.bind_eq_some_iff.mp hF
              refine g_cv0 (o := some (.int q74.1)) (As := [.int 0]) (rest := []) (st1 := [.int q74.1]) (ci := 3) S hf (c_X3_finding l G ad X0 0 q74 h75) (cwV 1 hts gX3_ahead_X3_finding rfl rfl rfl (by decide +kernel) ⟨Nat.le_of_ble_eq_true rfl, Nat.le_of_ble_eq_true rfl⟩) rfl rfl rfl 0 rfl rfl hl.1 rfl rfl (Nat.le_of_ble_eq_true rfl) ⟨Nat.zero_le _, Nat.zero_le _⟩ dX3_ahead_59 (fun H locs hf => ?_)
              have hf : Fr G (va_A (wX G ad X0) s.heap.size) s (wX G ad q74.2) H locs := hf
              have hE := Option.some.inj hF
              have hV := congrArg (fun z : Int32 × K3 => z.1) hE
              have hW := congrArg (fun z : Int32 × K3 => wX G ad z.2) hE
              exact g_iret S hr hlocks hf hV hW dX3_ahead_62
def f_X3_budget (X0 : K3) (a1 : Int32) : Option (Int32 × K3) := Option.bind (f_X3_within a1 0 100) (fun q1 => if q1 = 0 then (Option.bind (f_X3_finding X0 0) (fun q8 => some (q8.1, q8.2))) else (Option.bind (f_X0_become2 (X0 2) (X0 0)) (fun q4 => Option.bind (f_X0_passDays q4 a1) (fun q6 => some (q6 11 1, va_up X0 2 q6)))))
set_option maxHeartbeats 4000000 in
set_option maxRecDepth 100000 in
theorem c_X3_budget (l : Launch) (G : GT) (ad : Nat → Nat → Nat) (X0 : K3) (a1 : Int32) (q : Int32 × K3) (hF : f_X3_budget X0 a1 = some q) : Ct l G yX3_budget wsX3_budget ({ frames := 6, cells := 0, slots := 0, locals := 133 } : Room) ([.ref (ad 8 0), .int a1] : List Value) (wX G ad X0) (some (.int q.1)) (wX G ad q.2) := by
  have k19 : Cond.fieldLink RX3 19 "PigeonRolls" "trial" "LPigeonRolls$Kingdom;" ∈ wsX3_budget := by decide +kernel
  have k10 : Cond.fieldLink RX3 10 "PigeonRolls" "realm" "LPigeonRolls$Kingdom;" ∈ wsX3_budget := by decide +kernel
  have k56 : Cond.fieldLink RX3 56 "PigeonRolls$Kingdom" "treasury" "I" ∈ wsX3_budget := by decide +kernel
  have hinX0 : ∀ w ∈ u_ws RX0 TX0 16, w ∈ wsX3_budget := by decide +kernel
  have hinX3 : ∀ w ∈ u_ws RX3 TX3 7, w ∈ wsX3_budget := by decide +kernel
  refine Ct.of cX3_budget 2 (some .int) (by decide) rfl (Nat.le_of_ble_eq_true rfl) ?_
  intro p e s m below meth c ls S hr hlocks hf hl
  have S : CallFix p m c cX3_budget 2 s ([.ref (ad 8 0), .int a1] : List Value).toArray wsX3_budget RX3 := S
  obtain ⟨hx, hb, hml, hown, hts⟩ := id S
  have hl : lv_has ls 2 [(0, .ref (ad 8 0)), (1, .int a1)] := hl
  unfold f_X3_budget at hF
  refine lv_iload_n hx hb dX3_budget_0 rfl (lv_at hl 1 rfl) ?_
  refine lv_iconst (v := 0) hx hb dX3_budget_1 (by decide) ?_
  refine lv_bipush (v := 100) hx hb dX3_budget_2 (by decide) ?_
  obtain ⟨q1, h2, hF⟩ := Option.bind_eq_some_iff.mp hF
  refine g_cs0 (o := some (.int q1)) (As := [.int a1, .int 0, .int 100]) (rest := []) (st1 := [.int q1]) S hf (c_X3_within l G  a1 0 100 q1 h2) (va_cwS 3 hts gX3_budget_X3_within rfl rfl rfl (by decide +kernel) ⟨Nat.le_of_ble_eq_true rfl, Nat.le_of_ble_eq_true rfl⟩) rfl hl.1 rfl rfl (Nat.le_of_ble_eq_true rfl) ⟨Nat.zero_le _, Nat.zero_le _⟩ dX3_budget_4 (fun H locs hf => ?_)
  refine lv_if_ne (tgt := 16) hx hb dX3_budget_7 (by decide) (fun c3 => ?_) (fun c3 => ?_)
  · replace hF := (if_neg c3).symm.trans hF
    refine lv_aload_n hx hb dX3_budget_16 rfl (lv_at hl 0 rfl) ?_
    refine g_get (ci := 3) (C := RX3) (T := TX3) (N := 7) (v := .ref (ad 2 0)) S hf hinX3 0 rfl rfl 2 (by decide) k19 rfl rfl dX3_budget_17 ?_
    refine lv_aload_n hx hb dX3_budget_20 rfl (lv_at hl 0 rfl) ?_
    refine g_get (ci := 3) (C := RX3) (T := TX3) (N := 7) (v := .ref (ad 0 0)) S hf hinX3 0 rfl rfl 0 (by decide) k10 rfl rfl dX3_budget_21 ?_
    obtain ⟨q4, h5, hF⟩ := Option.bind_eq_some_iff.mp hF
    refine g_cv (o := none) (As := [.ref (ad 0 0)]) (rest := []) (st1 := []) (ci := 0) (a := List.take 16 (wX G ad X0)) (b := List.drop 42 (wX G ad X0)) S hf (c_X0_become2 l G (ad 2) (ad 0) (X0 2) (X0 0) q4 h5) (cwV 1 hts gX3_budget_X0_become rfl rfl rfl (by decide +kernel) ⟨Nat.le_of_ble_eq_true rfl, Nat.le_of_ble_eq_true rfl⟩) rfl rfl rfl rfl 13 rfl rfl hl.1 rfl rfl (Nat.le_of_ble_eq_true rfl) ⟨Nat.zero_le _, Nat.zero_le _⟩ dX3_budget_24 (fun H locs hf => ?_)
    have hf : Fr G (va_A (wX G ad X0) s.heap.size) s (wX G ad (va_up X0 2 q4)) H locs := hf
    refine lv_aload_n hx hb dX3_budget_27 rfl (lv_at hl 0 rfl) ?_
    refine g_get (ci := 3) (C := RX3) (T := TX3) (N := 7) (v := .ref (ad 2 0)) S hf hinX3 0 rfl rfl 2 (by decide) k19 rfl rfl dX3_budget_28 ?_
    refine lv_iload_n hx hb dX3_budget_31 rfl (lv_at hl 1 rfl) ?_
    obtain ⟨q6, h7, hF⟩ := Option.bind_eq_some_iff.mp hF
    refine g_cv (o := none) (As := [.int a1]) (rest := []) (st1 := []) (ci := 0) (a := List.take 29 (wX G ad (va_up X0 2 q4))) (b := List.drop 42 (wX G ad (va_up X0 2 q4))) S hf (c_X0_passDays l G (ad 2) q4 a1 q6 h7) (cwV 1 hts gX3_budget_X0_passDays rfl rfl rfl (by decide +kernel) ⟨Nat.le_of_ble_eq_true rfl, Nat.le_of_ble_eq_true rfl⟩) rfl rfl rfl rfl 0 rfl rfl hl.1 rfl rfl (Nat.le_of_ble_eq_true rfl) ⟨Nat.zero_le _, Nat.zero_le _⟩ dX3_budget_32 (fun H locs hf => ?_)
    have hf : Fr G (va_A (wX G ad X0) s.heap.size) s (wX G ad (va_up X0 2 q6)) H locs := hf
    refine lv_aload_n hx hb dX3_budget_35 rfl (lv_at hl 0 rfl) ?_
    refine g_get (ci := 3) (C := RX3) (T := TX3) (N := 7) (v := .ref (ad 2 0)) S hf hinX3 0 rfl rfl 2 (by decide) k19 rfl rfl dX3_budget_36 ?_
    refine g_get (ci := 0) (C := RX0) (T := TX0) (N := 16) (v := .int (q6 11 1)) S hf hinX0 29 rfl rfl 1 (by decide) k56 rfl rfl dX3_budget_39 ?_
    have hE := Option.some.inj hF
    have hV := congrArg (fun z : Int32 × K3 => z.1) hE
    have hW := congrArg (fun z : Int32 × K3 => wX G ad z.2) hE
    exact g_iret S hr hlocks hf hV hW dX3_budget_42
  · replace hF := (if_pos c3).symm.trans hF
    refine lv_aload_n hx hb dX3_budget_10 rfl (lv_at hl 0 rfl) ?_
    refine lv_iconst (v := 0) hx hb dX3_budget_11 (by decide) ?_
    obtain ⟨q8, h9, hF⟩ := Option.bind_eq_some_iff.mp hF
    refine g_cv0 (o := some (.int q8.1)) (As := [.int 0]) (rest := []) (st1 := [.int q8.1]) (ci := 3) S hf (c_X3_finding l G ad X0 0 q8 h9) (cwV 1 hts gX3_budget_X3_finding rfl rfl rfl (by decide +kernel) ⟨Nat.le_of_ble_eq_true rfl, Nat.le_of_ble_eq_true rfl⟩) rfl rfl rfl 0 rfl rfl hl.1 rfl rfl (Nat.le_of_ble_eq_true rfl) ⟨Nat.zero_le _, Nat.zero_le _⟩ dX3_budget_12 (fun H locs hf => ?_)
    have hf : Fr G (va_A (wX G ad X0) s.heap.size) s (wX G ad q8.2) H locs := hf
    have hE := Option.some.inj hF
    have hV := congrArg (fun z : Int32 × K3 => z.1) hE
    have hW := congrArg (fun z : Int32 × K3 => wX G ad z.2) hE
    exact g_iret S hr hlocks hf hV hW dX3_budget_15
def f_X3_dies (X0 : K3) (a1 : Int32) : Option (Int32 × K3) := Option.bind (f_X0_has (X0 0) a1) (fun q1 => if q1 = 0 then (Option.bind (f_X3_finding X0 0) (fun q13 => some (q13.1, q13.2))) else (Option.bind (f_X0_tell (X0 0) a1 9) (fun q4 => if ix a1 8 then (if 9999 ≤ q4 then (Option.bind (f_X3_finding X0 3) (fun q8 => some (q8.1, q8.2))) else (if (imax 0 ((q4 + 1) - (((X0 0) 3) a1.toNatClampNeg))) ≤ 200 then (some (imax 0 ((q4 + 1) - (((X0 0) 3) a1.toNatClampNeg)), X0)) else (Option.bind (f_X3_finding X0 3) (fun q11 => some (q11.1, q11.2))))) else none)))
set_option maxHeartbeats 4000000 in
set_option maxRecDepth 100000 in
theorem c_X3_dies (l : Launch) (G : GT) (ad : Nat → Nat → Nat) (X0 : K3) (a1 : Int32) (q : Int32 × K3) (hF : f_X3_dies X0 a1 = some q) : Ct l G yX3_dies wsX3_dies ({ frames := 4, cells := 0, slots := 0, locals := 87 } : Room) ([.ref (ad 8 0), .int a1] : List Value) (wX G ad X0) (some (.int q.1)) (wX G ad q.2) := by
  have k10 : Cond.fieldLink RX3 10 "PigeonRolls" "realm" "LPigeonRolls$Kingdom;" ∈ wsX3_dies := by decide +kernel
  have k122 : Cond.fieldLink RX3 122 "PigeonRolls$Kingdom" "age" "[I" ∈ wsX3_dies := by decide +kernel
  have k125 : Cond.methodLink RX3 125 Lib.Math.max.name ∈ wsX3_dies := by decide +kernel
  have ksmax : Cond.static Lib.Math.max.name ∈ wsX3_dies := by decide +kernel
  have kiM : Cond.initialized "java/lang/Math" ∈ wsX3_dies := by decide +kernel
  have komax : Cond.code Lib.Math.max.name Lib.Math.max.code 2 (some .int) ∈ wsX3_dies := by decide +kernel
  have hinX0 : ∀ w ∈ u_ws RX0 TX0 16, w ∈ wsX3_dies := by decide +kernel
  have hinX3 : ∀ w ∈ u_ws RX3 TX3 7, w ∈ wsX3_dies := by decide +kernel
  refine Ct.of cX3_dies 4 (some .int) (by decide) rfl (Nat.le_of_ble_eq_true rfl) ?_
  intro p e s m below meth c ls S hr hlocks hf hl
  have S : CallFix p m c cX3_dies 4 s ([.ref (ad 8 0), .int a1] : List Value).toArray wsX3_dies RX3 := S
  obtain ⟨hx, hb, hml, hown, hts⟩ := id S
  have hl : lv_has ls 4 [(0, .ref (ad 8 0)), (1, .int a1)] := hl
  unfold f_X3_dies at hF
  refine lv_aload_n hx hb dX3_dies_0 rfl (lv_at hl 0 rfl) ?_
  refine g_get (ci := 3) (C := RX3) (T := TX3) (N := 7) (v := .ref (ad 0 0)) S hf hinX3 0 rfl rfl 0 (by decide) k10 rfl rfl dX3_dies_1 ?_
  refine lv_iload_n hx hb dX3_dies_4 rfl (lv_at hl 1 rfl) ?_
  obtain ⟨q1, h2, hF⟩ := Option.bind_eq_some_iff.mp hF
  refine g_cv (o := some (.int q1)) (As := [.int a1]) (rest := []) (st1 := [.int q1]) (ci := 0) (a := List.take 16 (wX G ad X0)) (b := List.drop 29 (wX G ad X0)) S hf (c_X0_has l G (ad 0) (X0 0) a1 q1 h2) (cwV 1 hts gX3_dies_X0_has rfl rfl rfl (by decide +kernel) ⟨Nat.le_of_ble_eq_true rfl, Nat.le_of_ble_eq_true rfl⟩) rfl rfl rfl rfl 0 rfl rfl hl.1 rfl rfl (Nat.le_of_ble_eq_true rfl) ⟨Nat.zero_le _, Nat.zero_le _⟩ dX3_dies_5 (fun H locs hf => ?_)
  have hf : Fr G (va_A (wX G ad X0) s.heap.size) s (wX G ad X0) H locs := hf
  refine lv_if_ne (tgt := 17) hx hb dX3_dies_8 (by decide) (fun c3 => ?_) (fun c3 => ?_)
  · replace hF := (if_neg c3).symm.trans hF
    refine lv_aload_n hx hb dX3_dies_17 rfl (lv_at hl 0 rfl) ?_
    refine g_get (ci := 3) (C := RX3) (T := TX3) (N := 7) (v := .ref (ad 0 0)) S hf hinX3 0 rfl rfl 0 (by decide) k10 rfl rfl dX3_dies_18 ?_
    refine lv_iload_n hx hb dX3_dies_21 rfl (lv_at hl 1 rfl) ?_
    refine lv_bipush (v := 9) hx hb dX3_dies_22 (by decide) ?_
    obtain ⟨q4, h5, hF⟩ := Option.bind_eq_some_iff.mp hF
    refine g_cv (o := some (.int q4)) (As := [.int a1, .int 9]) (rest := []) (st1 := [.int q4]) (ci := 0) (a := List.take 16 (wX G ad X0)) (b := List.drop 29 (wX G ad X0)) S hf (c_X0_tell l G (ad 0) (X0 0) a1 9 q4 h5) (cwV 2 hts gX3_dies_X0_tell rfl rfl rfl (by decide +kernel) ⟨Nat.le_of_ble_eq_true rfl, Nat.le_of_ble_eq_true rfl⟩) rfl rfl rfl rfl 0 rfl rfl hl.1 rfl rfl (Nat.le_of_ble_eq_true rfl) ⟨Nat.zero_le _, Nat.zero_le _⟩ dX3_dies_24 (fun H locs hf => ?_)
    have hf : Fr G (va_A (wX G ad X0) s.heap.size) s (wX G ad X0) H locs := hf
    refine lv_istore_n (lv' := [(2, .int q4), (0, .ref (ad 8 0)), (1, .int a1)]) hx hb dX3_dies_27 rfl hl (by decide) rfl (fun ls hl => ?_)
    refine lv_iconst (v := 0) hx hb dX3_dies_28 (by decide) ?_
    refine lv_iload_n hx hb dX3_dies_29 rfl (lv_at hl 0 rfl) ?_
    refine lv_iconst (v := 1) hx hb dX3_dies_30 (by decide) ?_
    refine lv_iadd hx hb dX3_dies_31 ?_
    refine lv_aload_n hx hb dX3_dies_32 rfl (lv_at hl 1 rfl) ?_
    refine g_get (ci := 3) (C := RX3) (T := TX3) (N := 7) (v := .ref (ad 0 0)) S hf hinX3 0 rfl rfl 0 (by decide) k10 rfl rfl dX3_dies_33 ?_
    refine g_get (ci := 0) (C := RX0) (T := TX0) (N := 16) (v := .ref (ad 0 7)) S hf hinX0 16 rfl rfl 10 (by decide) k122 rfl rfl dX3_dies_36 ?_
    refine lv_iload_n hx hb dX3_dies_39 rfl (lv_at hl 2 rfl) ?_
    obtain ⟨g6, hF⟩ := gd_some hF
    refine g_ald (v := ((X0 0) 3) a1.toNatClampNeg) S hf 23 rfl g6 rfl dX3_dies_40 ?_
    refine lv_isub hx hb dX3_dies_41 ?_
    refine va_mmax hx hb (hml.trans hl.1.symm) hown (hts _ k125) (hts _ ksmax) (hts _ kiM) (hts _ komax) (Nat.le_of_ble_eq_true rfl) (Nat.le_of_ble_eq_true rfl) (Nat.zero_le _) (Nat.zero_le _) dX3_dies_42 ?_
    refine lv_istore_n (lv' := [(3, .int (imax 0 ((q4 + 1) - (((X0 0) 3) a1.toNatClampNeg)))), (2, .int q4), (0, .ref (ad 8 0)), (1, .int a1)]) hx hb dX3_dies_45 rfl hl (by decide) rfl (fun ls hl => ?_)
    refine lv_iload_n hx hb dX3_dies_46 rfl (lv_at hl 1 rfl) ?_
    refine lv_sipush (v := 9999) hx hb dX3_dies_47 (by decide) ?_
    refine lv_icmp_ge (tgt := 60) hx hb dX3_dies_50 (by decide) (fun c7 => ?_) (fun c7 => ?_)
    · replace hF := (if_pos c7).symm.trans hF
      refine lv_aload_n hx hb dX3_dies_60 rfl (lv_at hl 2 rfl) ?_
      refine lv_iconst (v := 3) hx hb dX3_dies_61 (by decide) ?_
      obtain ⟨q8, h9, hF⟩ := Option.bind_eq_some_iff.mp hF
      refine g_cv0 (o := some (.int q8.1)) (As := [.int 3]) (rest := []) (st1 := [.int q8.1]) (ci := 3) S hf (c_X3_finding l G ad X0 3 q8 h9) (cwV 1 hts gX3_dies_X3_finding rfl rfl rfl (by decide +kernel) ⟨Nat.le_of_ble_eq_true rfl, Nat.le_of_ble_eq_true rfl⟩) rfl rfl rfl 0 rfl rfl hl.1 rfl rfl (Nat.le_of_ble_eq_true rfl) ⟨Nat.zero_le _, Nat.zero_le _⟩ dX3_dies_62 (fun H locs hf => ?_)
      have hf : Fr G (va_A (wX G ad X0) s.heap.size) s (wX G ad q8.2) H locs := hf
      have hE := Option.some.inj hF
      have hV := congrArg (fun z : Int32 × K3 => z.1) hE
      have hW := congrArg (fun z : Int32 × K3 => wX G ad z.2) hE
      exact g_iret S hr hlocks hf hV hW dX3_dies_65
    · replace hF := (if_neg c7).symm.trans hF
      refine lv_iload_n hx hb dX3_dies_53 rfl (lv_at hl 0 rfl) ?_
      refine lv_sipush (v := 200) hx hb dX3_dies_54 (by decide) ?_
      refine lv_icmp_le (tgt := 66) hx hb dX3_dies_57 (by decide) (fun c10 => ?_) (fun c10 => ?_)
      · replace hF := (if_pos c10).symm.trans hF
        refine lv_iload_n hx hb dX3_dies_66 rfl (lv_at hl 0 rfl) ?_
        have hE := Option.some.inj hF
        have hV := congrArg (fun z : Int32 × K3 => z.1) hE
        have hW := congrArg (fun z : Int32 × K3 => wX G ad z.2) hE
        exact g_iret S hr hlocks hf hV hW dX3_dies_67
      · replace hF := (if_neg c10).symm.trans hF
        refine lv_aload_n hx hb dX3_dies_60 rfl (lv_at hl 2 rfl) ?_
        refine lv_iconst (v := 3) hx hb dX3_dies_61 (by decide) ?_
        obtain ⟨q11, h12, hF⟩ := Option.bind_eq_some_iff.mp hF
        refine g_cv0 (o := some (.int q11.1)) (As := [.int 3]) (rest := []) (st1 := [.int q11.1]) (ci := 3) S hf (c_X3_finding l G ad X0 3 q11 h12) (cwV 1 hts gX3_dies_X3_finding rfl rfl rfl (by decide +kernel) ⟨Nat.le_of_ble_eq_true rfl, Nat.le_of_ble_eq_true rfl⟩) rfl rfl rfl 0 rfl rfl hl.1 rfl rfl (Nat.le_of_ble_eq_true rfl) ⟨Nat.zero_le _, Nat.zero_le _⟩ dX3_dies_62 (fun H locs hf => ?_)
        have hf : Fr G (va_A (wX G ad X0) s.heap.size) s (wX G ad q11.2) H locs := hf
        have hE := Option.some.inj hF
        have hV := congrArg (fun z : Int32 × K3 => z.1) hE
        have hW := congrArg (fun z : Int32 × K3 => wX G ad z.2) hE
        exact g_iret S hr hlocks hf hV hW dX3_dies_65
  · replace hF := (if_pos c3).symm.trans hF
    refine lv_aload_n hx hb dX3_dies_11 rfl (lv_at hl 0 rfl) ?_
    refine lv_iconst (v := 0) hx hb dX3_dies_12 (by decide) ?_
    obtain ⟨q13, h14, hF⟩ := Option.bind_eq_some_iff.mp hF
    refine g_cv0 (o := some (.int q13.1)) (As := [.int 0]) (rest := []) (st1 := [.int q13.1]) (ci := 3) S hf (c_X3_finding l G ad X0 0 q13 h14) (cwV 1 hts gX3_dies_X3_finding rfl rfl rfl (by decide +kernel) ⟨Nat.le_of_ble_eq_true rfl, Nat.le_of_ble_eq_true rfl⟩) rfl rfl rfl 0 rfl rfl hl.1 rfl rfl (Nat.le_of_ble_eq_true rfl) ⟨Nat.zero_le _, Nat.zero_le _⟩ dX3_dies_13 (fun H locs hf => ?_)
    have hf : Fr G (va_A (wX G ad X0) s.heap.size) s (wX G ad q13.2) H locs := hf
    have hE := Option.some.inj hF
    have hV := congrArg (fun z : Int32 × K3 => z.1) hE
    have hW := congrArg (fun z : Int32 × K3 => wX G ad z.2) hE
    exact g_iret S hr hlocks hf hV hW dX3_dies_16
def f_X3_fails_B54 (X : K3) : Option (Int32 × K3) := Option.bind (f_X3_finding X 3) (fun q6 => some (q6.1, q6.2))
def f_X3_fails_L21 : Nat → K3 → Int32 → Int32 → Option (Int32 × K3)
  | 0, _, _, _ => none
  | n + 1, X, x1, x2 => if 200 < x2 then (f_X3_fails_B54 X) else (Option.bind (f_X0_owedSet (X 2)) (fun q8 => if q8 = 0 then (Option.bind (f_X0_passDay (X 2) x1) (fun q11 => f_X3_fails_L21 n (va_up X 2 q11) x1 (x2 + 1))) else (some (x2, X))))
def f_X3_fails (X0 : K3) : Option (Int32 × K3) := Option.bind (f_X0_become2 (X0 2) (X0 0)) (fun q1 => Option.bind (f_X0_lineSet q1) (fun q3 => f_X3_fails_L21 1000 (va_up X0 2 q1) q3 0))
set_option maxHeartbeats 4000000 in
set_option maxRecDepth 100000 in
theorem c_X3_fails (l : Launch) (G : GT) (ad : Nat → Nat → Nat) (X0 : K3) (q : Int32 × K3) (hF : f_X3_fails X0 = some q) : Ct l G yX3_fails wsX3_fails ({ frames := 5, cells := 0, slots := 0, locals := 110 } : Room) ([.ref (ad 8 0)] : List Value) (wX G ad X0) (some (.int q.1)) (wX G ad q.2) := by
  have k19 : Cond.fieldLink RX3 19 "PigeonRolls" "trial" "LPigeonRolls$Kingdom;" ∈ wsX3_fails := by decide +kernel
  have k10 : Cond.fieldLink RX3 10 "PigeonRolls" "realm" "LPigeonRolls$Kingdom;" ∈ wsX3_fails := by decide +kernel
  have hinX3 : ∀ w ∈ u_ws RX3 TX3 7, w ∈ wsX3_fails := by decide +kernel
  refine Ct.of cX3_fails 3 (some .int) (by decide) rfl (Nat.le_of_ble_eq_true rfl) ?_
  intro p e s m below meth c ls S hr hlocks hf hl
  have S : CallFix p m c cX3_fails 3 s ([.ref (ad 8 0)] : List Value).toArray wsX3_fails RX3 := S
  obtain ⟨hx, hb, hml, hown, hts⟩ := id S
  have hl : lv_has ls 3 [(0, .ref (ad 8 0))] := hl
  have hL54 : ∀ (X : K3)  (H : Heap) (locs : List Loc) (ls : Array Slot), f_X3_fails_B54 X = some q → Fr G (va_A (wX G ad X0) s.heap.size) s (wX G ad X) H locs → lv_has ls 3 [(0, .ref (ad 8 0))] → W p l e ({ frames := 5, cells := 0, slots := 0, locals := 110 } : Room) s m ([.ref (ad 8 0)] : List Value).toArray below meth c H locs 0 0 (MQ below (CPost G (wX G ad X0) s.heap.size (some (.int q.1)) (wX G ad q.2)) ([.ref (ad 8 0)] : List Value).toArray s 0 0 (va_A (wX G ad X0) s.heap.size)) (F0 m 54 ls []) := by
    intro X H locs ls hF hf hl
    unfold f_X3_fails_B54 at hF
    refine lv_aload_n hx hb dX3_fails_54 rfl (lv_at hl 0 rfl) ?_
    refine lv_iconst (v := 3) hx hb dX3_fails_55 (by decide) ?_
    obtain ⟨q6, h7, hF⟩ := Option.bind_eq_some_iff.mp hF
    refine g_cv0 (o := some (.int q6.1)) (As := [.int 3]) (rest := []) (st1 := [.int q6.1]) (ci := 3) S hf (c_X3_finding l G ad X 3 q6 h7) (cwV 1 hts gX3_fails_X3_finding rfl rfl rfl (by decide +kernel) ⟨Nat.le_of_ble_eq_true rfl, Nat.le_of_ble_eq_true rfl⟩) rfl rfl rfl 0 rfl rfl hl.1 rfl rfl (Nat.le_of_ble_eq_true rfl) ⟨Nat.zero_le _, Nat.zero_le _⟩ dX3_fails_56 (fun H locs hf => ?_)
    have hf : Fr G (va_A (wX G ad X0) s.heap.size) s (wX G ad q6.2) H locs := hf
    have hE := Option.some.inj hF
    have hV := congrArg (fun z : Int32 × K3 => z.1) hE
    have hW := congrArg (fun z : Int32 × K3 => wX G ad z.2) hE
    exact g_iret S hr hlocks hf hV hW dX3_fails_59
  have hL21 : ∀ (n : Nat) (X : K3) (x1 : Int32) (x2 : Int32)  (H : Heap) (locs : List Loc) (ls : Array Slot), f_X3_fails_L21 n X x1 x2 = some q → Fr G (va_A (wX G ad X0) s.heap.size) s (wX G ad X) H locs → lv_has ls 3 [(0, .ref (ad 8 0)), (1, .int x1), (2, .int x2)] → W p l e ({ frames := 5, cells := 0, slots := 0, locals := 110 } : Room) s m ([.ref (ad 8 0)] : List Value).toArray below meth c H locs 0 0 (MQ below (CPost G (wX G ad X0) s.heap.size (some (.int q.1)) (wX G ad q.2)) ([.ref (ad 8 0)] : List Value).toArray s 0 0 (va_A (wX G ad X0) s.heap.size)) (F0 m 21 ls []) := by
    intro n
    induction n with
    | zero =>
      intro X x1 x2 H locs ls hF hf hl
      exact absurd hF (by simp [f_X3_fails_L21])
    | succ n ih21 =>
      intro X x1 x2 H locs ls hF hf hl
      rw [f_X3_fails_L21] at hF
      refine lv_iload_n hx hb dX3_fails_21 rfl (lv_at hl 2 rfl) ?_
      refine lv_sipush (v := 200) hx hb dX3_fails_22 (by decide) ?_
      refine lv_icmp_gt (tgt := 54) hx hb dX3_fails_25 (by decide) (fun c5 => ?_) (fun c5 => ?_)
      · replace hF := (if_pos c5).symm.trans hF
        exact hL54 X _ _ _ hF hf (lv_sub hl [0] rfl)
      · replace hF := (if_neg c5).symm.trans hF
        refine lv_aload_n hx hb dX3_fails_28 rfl (lv_at hl 0 rfl) ?_
        refine g_get (ci := 3) (C := RX3) (T := TX3) (N := 7) (v := .ref (ad 2 0)) S hf hinX3 0 rfl rfl 2 (by decide) k19 rfl rfl dX3_fails_29 ?_
        obtain ⟨q8, h9, hF⟩ := Option.bind_eq_some_iff.mp hF
        refine g_cv (o := some (.int q8)) (As := []) (rest := []) (st1 := [.int q8]) (ci := 0) (a := List.take 29 (wX G ad X)) (b := List.drop 42 (wX G ad X)) S hf (c_X0_owedSet l G (ad 2) (X 2) q8 h9) (cwV 0 hts gX3_fails_X0_owedSet rfl rfl rfl (by decide +kernel) ⟨Nat.le_of_ble_eq_true rfl, Nat.le_of_ble_eq_true rfl⟩) rfl rfl rfl rfl 0 rfl rfl hl.1 rfl rfl (Nat.le_of_ble_eq_true rfl) ⟨Nat.zero_le _, Nat.zero_le _⟩ dX3_fails_32 (fun H locs hf => ?_)
        have hf : Fr G (va_A (wX G ad X0) s.heap.size) s (wX G ad X) H locs := hf
        refine lv_if_eq (tgt := 40) hx hb dX3_fails_35 (by decide) (fun c10 => ?_) (fun c10 => ?_)
        · replace hF := (if_pos c10).symm.trans hF
          refine lv_aload_n hx hb dX3_fails_40 rfl (lv_at hl 0 rfl) ?_
          refine g_get (ci := 3) (C := RX3) (T := TX3) (N := 7) (v := .ref (ad 2 0)) S hf hinX3 0 rfl rfl 2 (by decide) k19 rfl rfl dX3_fails_41 ?_
          refine lv_iload_n hx hb dX3_fails_44 rfl (lv_at hl 1 rfl) ?_
          obtain ⟨q11, h12, hF⟩ := Option.bind_eq_some_iff.mp hF
          refine g_cv (o := none) (As := [.int x1]) (rest := []) (st1 := []) (ci := 0) (a := List.take 29 (wX G ad X)) (b := List.drop 42 (wX G ad X)) S hf (c_X0_passDay l G (ad 2) (X 2) x1 q11 h12) (cwV 1 hts gX3_fails_X0_passDay rfl rfl rfl (by decide +kernel) ⟨Nat.le_of_ble_eq_true rfl, Nat.le_of_ble_eq_true rfl⟩) rfl rfl rfl rfl 0 rfl rfl hl.1 rfl rfl (Nat.le_of_ble_eq_true rfl) ⟨Nat.zero_le _, Nat.zero_le _⟩ dX3_fails_45 (fun H locs hf => ?_)
          have hf : Fr G (va_A (wX G ad X0) s.heap.size) s (wX G ad (va_up X 2 q11)) H locs := hf
          refine lv_iinc (v := x2 + 1) (lv' := [(2, .int (x2 + 1)), (0, .ref (ad 8 0)), (1, .int x1)]) hx hb dX3_fails_48 hl (k := 2) rfl rfl (by decide) rfl (fun ls hl => ?_)
          refine lv_goto (tgt := 21) hx hb dX3_fails_51 (by decide) ?_
          exact ih21 (va_up X 2 q11) x1 (x2 + 1) _ _ _ hF hf (lv_sub hl [1, 2, 0] rfl)
        · replace hF := (if_neg c10).symm.trans hF
          refine lv_iload_n hx hb dX3_fails_38 rfl (lv_at hl 2 rfl) ?_
          have hE := Option.some.inj hF
          have hV := congrArg (fun z : Int32 × K3 => z.1) hE
          have hW := congrArg (fun z : Int32 × K3 => wX G ad z.2) hE
          exact g_iret S hr hlocks hf hV hW dX3_fails_39
  unfold f_X3_fails at hF
  refine lv_aload_n hx hb dX3_fails_0 rfl (lv_at hl 0 rfl) ?_
  refine g_get (ci := 3) (C := RX3) (T := TX3) (N := 7) (v := .ref (ad 2 0)) S hf hinX3 0 rfl rfl 2 (by decide) k19 rfl rfl dX3_fails_1 ?_
  refine lv_aload_n hx hb dX3_fails_4 rfl (lv_at hl 0 rfl) ?_
  refine g_get (ci := 3) (C := RX3) (T := TX3) (N := 7) (v := .ref (ad 0 0)) S hf hinX3 0 rfl rfl 0 (by decide) k10 rfl rfl dX3_fails_5 ?_
  obtain ⟨q1, h2, hF⟩ := Option.bind_eq_some_iff.mp hF
  refine g_cv (o := none) (As := [.ref (ad 0 0)]) (rest := []) (st1 := []) (ci := 0) (a := List.take 16 (wX G ad X0)) (b := List.drop 42 (wX G ad X0)) S hf (c_X0_become2 l G (ad 2) (ad 0) (X0 2) (X0 0) q1 h2) (cwV 1 hts gX3_fails_X0_become rfl rfl rfl (by decide +kernel) ⟨Nat.le_of_ble_eq_true rfl, Nat.le_of_ble_eq_true rfl⟩) rfl rfl rfl rfl 13 rfl rfl hl.1 rfl rfl (Nat.le_of_ble_eq_true rfl) ⟨Nat.zero_le _, Nat.zero_le _⟩ dX3_fails_8 (fun H locs hf => ?_)
  have hf : Fr G (va_A (wX G ad X0) s.heap.size) s (wX G ad (va_up X0 2 q1)) H locs := hf
  refine lv_aload_n hx hb dX3_fails_11 rfl (lv_at hl 0 rfl) ?_
  refine g_get (ci := 3) (C := RX3) (T := TX3) (N := 7) (v := .ref (ad 2 0)) S hf hinX3 0 rfl rfl 2 (by decide) k19 rfl rfl dX3_fails_12 ?_
  obtain ⟨q3, h4, hF⟩ := Option.bind_eq_some_iff.mp hF
  refine g_cv (o := some (.int q3)) (As := []) (rest := []) (st1 := [.int q3]) (ci := 0) (a := List.take 29 (wX G ad (va_up X0 2 q1))) (b := List.drop 42 (wX G ad (va_up X0 2 q1))) S hf (c_X0_lineSet l G (ad 2) q1 q3 h4) (cwV 0 hts gX3_fails_X0_lineSet rfl rfl rfl (by decide +kernel) ⟨Nat.le_of_ble_eq_true rfl, Nat.le_of_ble_eq_true rfl⟩) rfl rfl rfl rfl 0 rfl rfl hl.1 rfl rfl (Nat.le_of_ble_eq_true rfl) ⟨Nat.zero_le _, Nat.zero_le _⟩ dX3_fails_15 (fun H locs hf => ?_)
  have hf : Fr G (va_A (wX G ad X0) s.heap.size) s (wX G ad (va_up X0 2 q1)) H locs := hf
  refine lv_istore_n (lv' := [(1, .int q3), (0, .ref (ad 8 0))]) hx hb dX3_fails_18 rfl hl (by decide) rfl (fun ls hl => ?_)
  refine lv_iconst (v := 0) hx hb dX3_fails_19 (by decide) ?_
  refine lv_istore_n (lv' := [(2, .int 0), (1, .int q3), (0, .ref (ad 8 0))]) hx hb dX3_fails_20 rfl hl (by decide) rfl (fun ls hl => ?_)
  exact hL21 1000 (va_up X0 2 q1) q3 0 _ _ _ hF hf (lv_sub hl [2, 1, 0] rfl)
def f_X3_when_B88 (X : K3) : Option (Int32 × K3) := Option.bind (f_X3_finding X 3) (fun q14 => some (q14.1, q14.2))
def f_X3_when_L50 : Nat → K3 → Int32 → Int32 → Int32 → Int32 → Option (Int32 × K3)
  | 0, _, _, _, _, _ => none
  | n + 1, X, x1, x2, x3, x4 => if 200 < x4 then (f_X3_when_B88 X) else (if ix x1 8 then (if (((X 2) 8) x1.toNatClampNeg) < x2 then (Option.bind (f_X0_passDay (X 2) x3) (fun q18 => f_X3_when_L50 n (va_up X 2 q18) x1 x2 x3 (x4 + 1))) else (some (x4, X))) else none)
def f_X3_when (X0 : K3) (a1 : Int32) (a2 : Int32) : Option (Int32 × K3) := Option.bind (f_X0_has (X0 0) a1) (fun q1 => if q1 = 0 then (Option.bind (f_X3_finding X0 0) (fun q4 => some (q4.1, q4.2))) else (Option.bind (f_X3_within a2 0 9999) (fun q6 => if q6 = 0 then (Option.bind (f_X3_finding X0 0) (fun q20 => some (q20.1, q20.2))) else (Option.bind (f_X0_become2 (X0 2) (X0 0)) (fun q9 => Option.bind (f_X0_lineSet q9) (fun q11 => f_X3_when_L50 1000 (va_up X0 2 q9) a1 a2 q11 0))))))
set_option maxHeartbeats 4000000 in
set_option maxRecDepth 100000 in
theorem c_X3_when (l : Launch) (G : GT) (ad : Nat → Nat → Nat) (X0 : K3) (a1 : Int32) (a2 : Int32) (q : Int32 × K3) (hF : f_X3_when X0 a1 a2 = some q) : Ct l G yX3_when wsX3_when ({ frames := 5, cells := 0, slots := 0, locals := 110 } : Room) ([.ref (ad 8 0), .int a1, .int a2] : List Value) (wX G ad X0) (some (.int q.1)) (wX G ad q.2) := by
  have k10 : Cond.fieldLink RX3 10 "PigeonRolls" "realm" "LPigeonRolls$Kingdom;" ∈ wsX3_when := by decide +kernel
  have k19 : Cond.fieldLink RX3 19 "PigeonRolls" "trial" "LPigeonRolls$Kingdom;" ∈ wsX3_when := by decide +kernel
  have k136 : Cond.fieldLink RX3 136 "PigeonRolls$Kingdom" "paid" "[I" ∈ wsX3_when := by decide +kernel
  have hinX0 : ∀ w ∈ u_ws RX0 TX0 16, w ∈ wsX3_when := by decide +kernel
  have hinX3 : ∀ w ∈ u_ws RX3 TX3 7, w ∈ wsX3_when := by decide +kernel
  refine Ct.of cX3_when 5 (some .int) (by decide) rfl (Nat.le_of_ble_eq_true rfl) ?_
  intro p e s m below meth c ls S hr hlocks hf hl
  have S : CallFix p m c cX3_when 5 s ([.ref (ad 8 0), .int a1, .int a2] : List Value).toArray wsX3_when RX3 := S
  obtain ⟨hx, hb, hml, hown, hts⟩ := id S
  have hl : lv_has ls 5 [(0, .ref (ad 8 0)), (1, .int a1), (2, .int a2)] := hl
  have hL88 : ∀ (X : K3)  (H : Heap) (locs : List Loc) (ls : Array Slot), f_X3_when_B88 X = some q → Fr G (va_A (wX G ad X0) s.heap.size) s (wX G ad X) H locs → lv_has ls 5 [(0, .ref (ad 8 0))] → W p l e ({ frames := 5, cells := 0, slots := 0, locals := 110 } : Room) s m ([.ref (ad 8 0), .int a1, .int a2] : List Value).toArray below meth c H locs 0 0 (MQ below (CPost G (wX G ad X0) s.heap.size (some (.int q.1)) (wX G ad q.2)) ([.ref (ad 8 0), .int a1, .int a2] : List Value).toArray s 0 0 (va_A (wX G ad X0) s.heap.size)) (F0 m 88 ls []) := by
    intro X H locs ls hF hf hl
    unfold f_X3_when_B88 at hF
    refine lv_aload_n hx hb dX3_when_88 rfl (lv_at hl 0 rfl) ?_
    refine lv_iconst (v := 3) hx hb dX3_when_89 (by decide) ?_
    obtain ⟨q14, h15, hF⟩ := Option.bind_eq_some_iff.mp hF
    refine g_cv0 (o := some (.int q14.1)) (As := [.int 3]) (rest := []) (st1 := [.int q14.1]) (ci := 3) S hf (c_X3_finding l G ad X 3 q14 h15) (cwV 1 hts gX3_when_X3_finding rfl rfl rfl (by decide +kernel) ⟨Nat.le_of_ble_eq_true rfl, Nat.le_of_ble_eq_true rfl⟩) rfl rfl rfl 0 rfl rfl hl.1 rfl rfl (Nat.le_of_ble_eq_true rfl) ⟨Nat.zero_le _, Nat.zero_le _⟩ dX3_when_90 (fun H locs hf => ?_)
    have hf : Fr G (va_A (wX G ad X0) s.heap.size) s (wX G ad q14.2) H locs := hf
    have hE := Option.some.inj hF
    have hV := congrArg (fun z : Int32 × K3 => z.1) hE
    have hW := congrArg (fun z : Int32 × K3 => wX G ad z.2) hE
    exact g_iret S hr hlocks hf hV hW dX3_when_93
  have hL50 : ∀ (n : Nat) (X : K3) (x1 : Int32) (x2 : Int32) (x3 : Int32) (x4 : Int32)  (H : Heap) (locs : List Loc) (ls : Array Slot), f_X3_when_L50 n X x1 x2 x3 x4 = some q → Fr G (va_A (wX G ad X0) s.heap.size) s (wX G ad X) H locs → lv_has ls 5 [(0, .ref (ad 8 0)), (1, .int x1), (2, .int x2), (3, .int x3), (4, .int x4)] → W p l e ({ frames := 5, cells := 0, slots := 0, locals := 110 } : Room) s m ([.ref (ad 8 0), .int a1, .int a2] : List Value).toArray below meth c H locs 0 0 (MQ below (CPost G (wX G ad X0) s.heap.size (some (.int q.1)) (wX G ad q.2)) ([.ref (ad 8 0), .int a1, .int a2] : List Value).toArray s 0 0 (va_A (wX G ad X0) s.heap.size)) (F0 m 50 ls []) := by
    intro n
    induction n with
    | zero =>
      intro X x1 x2 x3 x4 H locs ls hF hf hl
      exact absurd hF (by simp [f_X3_when_L50])
    | succ n ih50 =>
      intro X x1 x2 x3 x4 H locs ls hF hf hl
      rw [f_X3_when_L50] at hF
      refine lv_iload hx hb dX3_when_50 (lv_at hl 4 rfl) ?_
      refine lv_sipush (v := 200) hx hb dX3_when_52 (by decide) ?_
      refine lv_icmp_gt (tgt := 88) hx hb dX3_when_55 (by decide) (fun c13 => ?_) (fun c13 => ?_)
      · replace hF := (if_pos c13).symm.trans hF
        exact hL88 X _ _ _ hF hf (lv_sub hl [0] rfl)
      · replace hF := (if_neg c13).symm.trans hF
        refine lv_aload_n hx hb dX3_when_58 rfl (lv_at hl 0 rfl) ?_
        refine g_get (ci := 3) (C := RX3) (T := TX3) (N := 7) (v := .ref (ad 2 0)) S hf hinX3 0 rfl rfl 2 (by decide) k19 rfl rfl dX3_when_59 ?_
        refine g_get (ci := 0) (C := RX0) (T := TX0) (N := 16) (v := .ref (ad 2 12)) S hf hinX0 29 rfl rfl 15 (by decide) k136 rfl rfl dX3_when_62 ?_
        refine lv_iload_n hx hb dX3_when_65 rfl (lv_at hl 1 rfl) ?_
        obtain ⟨g16, hF⟩ := gd_some hF
        refine g_ald (v := ((X 2) 8) x1.toNatClampNeg) S hf 41 rfl g16 rfl dX3_when_66 ?_
        refine lv_iload_n hx hb dX3_when_67 rfl (lv_at hl 2 rfl) ?_
        refine lv_icmp_lt (tgt := 74) hx hb dX3_when_68 (by decide) (fun c17 => ?_) (fun c17 => ?_)
        · replace hF := (if_pos c17).symm.trans hF
          refine lv_aload_n hx hb dX3_when_74 rfl (lv_at hl 0 rfl) ?_
          refine g_get (ci := 3) (C := RX3) (T := TX3) (N := 7) (v := .ref (ad 2 0)) S hf hinX3 0 rfl rfl 2 (by decide) k19 rfl rfl dX3_when_75 ?_
          refine lv_iload_n hx hb dX3_when_78 rfl (lv_at hl 3 rfl) ?_
          obtain ⟨q18, h19, hF⟩ := Option.bind_eq_some_iff.mp hF
          refine g_cv (o := none) (As := [.int x3]) (rest := []) (st1 := []) (ci := 0) (a := List.take 29 (wX G ad X)) (b := List.drop 42 (wX G ad X)) S hf (c_X0_passDay l G (ad 2) (X 2) x3 q18 h19) (cwV 1 hts gX3_when_X0_passDay rfl rfl rfl (by decide +kernel) ⟨Nat.le_of_ble_eq_true rfl, Nat.le_of_ble_eq_true rfl⟩) rfl rfl rfl rfl 0 rfl rfl hl.1 rfl rfl (Nat.le_of_ble_eq_true rfl) ⟨Nat.zero_le _, Nat.zero_le _⟩ dX3_when_79 (fun H locs hf => ?_)
          have hf : Fr G (va_A (wX G ad X0) s.heap.size) s (wX G ad (va_up X 2 q18)) H locs := hf
          refine lv_iinc (v := x4 + 1) (lv' := [(4, .int (x4 + 1)), (0, .ref (ad 8 0)), (1, .int x1), (2, .int x2), (3, .int x3)]) hx hb dX3_when_82 hl (k := 4) rfl rfl (by decide) rfl (fun ls hl => ?_)
          refine lv_goto (tgt := 50) hx hb dX3_when_85 (by decide) ?_
          exact ih50 (va_up X 2 q18) x1 x2 x3 (x4 + 1) _ _ _ hF hf (lv_sub hl [1, 2, 3, 4, 0] rfl)
        · replace hF := (if_neg c17).symm.trans hF
          refine lv_iload hx hb dX3_when_71 (lv_at hl 4 rfl) ?_
          have hE := Option.some.inj hF
          have hV := congrArg (fun z : Int32 × K3 => z.1) hE
          have hW := congrArg (fun z : Int32 × K3 => wX G ad z.2) hE
          exact g_iret S hr hlocks hf hV hW dX3_when_73
  unfold f_X3_when at hF
  refine lv_aload_n hx hb dX3_when_0 rfl (lv_at hl 0 rfl) ?_
  refine g_get (ci := 3) (C := RX3) (T := TX3) (N := 7) (v := .ref (ad 0 0)) S hf hinX3 0 rfl rfl 0 (by decide) k10 rfl rfl dX3_when_1 ?_
  refine lv_iload_n hx hb dX3_when_4 rfl (lv_at hl 1 rfl) ?_
  obtain ⟨q1, h2, hF⟩ := Option.bind_eq_some_iff.mp hF
  refine g_cv (o := some (.int q1)) (As := [.int a1]) (rest := []) (st1 := [.int q1]) (ci := 0) (a := List.take 16 (wX G ad X0)) (b := List.drop 29 (wX G ad X0)) S hf (c_X0_has l G (ad 0) (X0 0) a1 q1 h2) (cwV 1 hts gX3_when_X0_has rfl rfl rfl (by decide +kernel) ⟨Nat.le_of_ble_eq_true rfl, Nat.le_of_ble_eq_true rfl⟩) rfl rfl rfl rfl 0 rfl rfl hl.1 rfl rfl (Nat.le_of_ble_eq_true rfl) ⟨Nat.zero_le _, Nat.zero_le _⟩ dX3_when_5 (fun H locs hf => ?_)
  have hf : Fr G (va_A (wX G ad X0) s.heap.size) s (wX G ad X0) H locs := hf
  refine lv_if_eq (tgt := 22) hx hb dX3_when_8 (by decide) (fun c3 => ?_) (fun c3 => ?_)
  · replace hF := (if_pos c3).symm.trans hF
    refine lv_aload_n hx hb dX3_when_22 rfl (lv_at hl 0 rfl) ?_
    refine lv_iconst (v := 0) hx hb dX3_when_23 (by decide) ?_
    obtain ⟨q4, h5, hF⟩ := Option.bind_eq_some_iff.mp hF
    refine g_cv0 (o := some (.int q4.1)) (As := [.int 0]) (rest := []) (st1 := [.int q4.1]) (ci := 3) S hf (c_X3_finding l G ad X0 0 q4 h5) (cwV 1 hts gX3_when_X3_finding rfl rfl rfl (by decide +kernel) ⟨Nat.le_of_ble_eq_true rfl, Nat.le_of_ble_eq_true rfl⟩) rfl rfl rfl 0 rfl rfl hl.1 rfl rfl (Nat.le_of_ble_eq_true rfl) ⟨Nat.zero_le _, Nat.zero_le _⟩ dX3_when_24 (fun H locs hf => ?_)
    have hf : Fr G (va_A (wX G ad X0) s.heap.size) s (wX G ad q4.2) H locs := hf
    have hE := Option.some.inj hF
    have hV := congrArg (fun z : Int32 × K3 => z.1) hE
    have hW := congrArg (fun z : Int32 × K3 => wX G ad z.2) hE
    exact g_iret S hr hlocks hf hV hW dX3_when_27
  · replace hF := (if_neg c3).symm.trans hF
    refine lv_iload_n hx hb dX3_when_11 rfl (lv_at hl 2 rfl) ?_
    refine lv_iconst (v := 0) hx hb dX3_when_12 (by decide) ?_
    refine lv_sipush (v := 9999) hx hb dX3_when_13 (by decide) ?_
    obtain ⟨q6, h7, hF⟩ := Option.bind_eq_some_iff.mp hF
    refine g_cs0 (o := some (.int q6)) (As := [.int a2, .int 0, .int 9999]) (rest := []) (st1 := [.int q6]) S hf (c_X3_within l G  a2 0 9999 q6 h7) (va_cwS 3 hts gX3_when_X3_within rfl rfl rfl (by decide +kernel) ⟨Nat.le_of_ble_eq_true rfl, Nat.le_of_ble_eq_true rfl⟩) rfl hl.1 rfl rfl (Nat.le_of_ble_eq_true rfl) ⟨Nat.zero_le _, Nat.zero_le _⟩ dX3_when_16 (fun H locs hf => ?_)
    refine lv_if_ne (tgt := 28) hx hb dX3_when_19 (by decide) (fun c8 => ?_) (fun c8 => ?_)
    · replace hF := (if_neg c8).symm.trans hF
      refine lv_aload_n hx hb dX3_when_28 rfl (lv_at hl 0 rfl) ?_
      refine g_get (ci := 3) (C := RX3) (T := TX3) (N := 7) (v := .ref (ad 2 0)) S hf hinX3 0 rfl rfl 2 (by decide) k19 rfl rfl dX3_when_29 ?_
      refine lv_aload_n hx hb dX3_when_32 rfl (lv_at hl 0 rfl) ?_
      refine g_get (ci := 3) (C := RX3) (T := TX3) (N := 7) (v := .ref (ad 0 0)) S hf hinX3 0 rfl rfl 0 (by decide) k10 rfl rfl dX3_when_33 ?_
      obtain ⟨q9, h10, hF⟩ := Option.bind_eq_some_iff.mp hF
      refine g_cv (o := none) (As := [.ref (ad 0 0)]) (rest := []) (st1 := []) (ci := 0) (a := List.take 16 (wX G ad X0)) (b := List.drop 42 (wX G ad X0)) S hf (c_X0_become2 l G (ad 2) (ad 0) (X0 2) (X0 0) q9 h10) (cwV 1 hts gX3_when_X0_become rfl rfl rfl (by decide +kernel) ⟨Nat.le_of_ble_eq_true rfl, Nat.le_of_ble_eq_true rfl⟩) rfl rfl rfl rfl 13 rfl rfl hl.1 rfl rfl (Nat.le_of_ble_eq_true rfl) ⟨Nat.zero_le _, Nat.zero_le _⟩ dX3_when_36 (fun H locs hf => ?_)
      have hf : Fr G (va_A (wX G ad X0) s.heap.size) s (wX G ad (va_up X0 2 q9)) H locs := hf
      refine lv_aload_n hx hb dX3_when_39 rfl (lv_at hl 0 rfl) ?_
      refine g_get (ci := 3) (C := RX3) (T := TX3) (N := 7) (v := .ref (ad 2 0)) S hf hinX3 0 rfl rfl 2 (by decide) k19 rfl rfl dX3_when_40 ?_
      obtain ⟨q11, h12, hF⟩ := Option.bind_eq_some_iff.mp hF
      refine g_cv (o := some (.int q11)) (As := []) (rest := []) (st1 := [.int q11]) (ci := 0) (a := List.take 29 (wX G ad (va_up X0 2 q9))) (b := List.drop 42 (wX G ad (va_up X0 2 q9))) S hf (c_X0_lineSet l G (ad 2) q9 q11 h12) (cwV 0 hts gX3_when_X0_lineSet rfl rfl rfl (by decide +kernel) ⟨Nat.le_of_ble_eq_true rfl, Nat.le_of_ble_eq_true rfl⟩) rfl rfl rfl rfl 0 rfl rfl hl.1 rfl rfl (Nat.le_of_ble_eq_true rfl) ⟨Nat.zero_le _, Nat.zero_le _⟩ dX3_when_43 (fun H locs hf => ?_)
      have hf : Fr G (va_A (wX G ad X0) s.heap.size) s (wX G ad (va_up X0 2 q9)) H locs := hf
      refine lv_istore_n (lv' := [(3, .int q11), (0, .ref (ad 8 0)), (1, .int a1), (2, .int a2)]) hx hb dX3_when_46 rfl hl (by decide) rfl (fun ls hl => ?_)
      refine lv_iconst (v := 0) hx hb dX3_when_47 (by decide) ?_
      refine lv_istore (lv' := [(4, .int 0), (3, .int q11), (0, .ref (ad 8 0)), (1, .int a1), (2, .int a2)]) hx hb dX3_when_48 hl (by decide) rfl (fun ls hl => ?_)
      exact hL50 1000 (va_up X0 2 q9) a1 a2 q11 0 _ _ _ hF hf (lv_sub hl [2, 3, 4, 1, 0] rfl)
    · replace hF := (if_pos c8).symm.trans hF
      refine lv_aload_n hx hb dX3_when_22 rfl (lv_at hl 0 rfl) ?_
      refine lv_iconst (v := 0) hx hb dX3_when_23 (by decide) ?_
      obtain ⟨q20, h21, hF⟩ := Option.bind_eq_some_iff.mp hF
      refine g_cv0 (o := some (.int q20.1)) (As := [.int 0]) (rest := []) (st1 := [.int q20.1]) (ci := 3) S hf (c_X3_finding l G ad X0 0 q20 h21) (cwV 1 hts gX3_when_X3_finding rfl rfl rfl (by decide +kernel) ⟨Nat.le_of_ble_eq_true rfl, Nat.le_of_ble_eq_true rfl⟩) rfl rfl rfl 0 rfl rfl hl.1 rfl rfl (Nat.le_of_ble_eq_true rfl) ⟨Nat.zero_le _, Nat.zero_le _⟩ dX3_when_24 (fun H locs hf => ?_)
      have hf : Fr G (va_A (wX G ad X0) s.heap.size) s (wX G ad q20.2) H locs := hf
      have hE := Option.some.inj hF
      have hV := congrArg (fun z : Int32 × K3 => z.1) hE
      have hW := congrArg (fun z : Int32 × K3 => wX G ad z.2) hE
      exact g_iret S hr hlocks hf hV hW dX3_when_27
def f_X3_ends_B55 (X : K3) : Option (Int32 × K3) := Option.bind (f_X3_finding X 3) (fun q6 => some (q6.1, q6.2))
def f_X3_ends_L21 : Nat → K3 → Int32 → Int32 → Option (Int32 × K3)
  | 0, _, _, _ => none
  | n + 1, X, x1, x2 => if 200 < x2 then (f_X3_ends_B55 X) else (Option.bind (f_X0_drawSet (X 2) x1) (fun q8 => if q8 = 0 then (some (x2, X)) else (Option.bind (f_X0_passDay (X 2) x1) (fun q11 => f_X3_ends_L21 n (va_up X 2 q11) x1 (x2 + 1)))))
def f_X3_ends (X0 : K3) : Option (Int32 × K3) := Option.bind (f_X0_become2 (X0 2) (X0 0)) (fun q1 => Option.bind (f_X0_lineSet q1) (fun q3 => f_X3_ends_L21 1000 (va_up X0 2 q1) q3 0))
set_option maxHeartbeats 4000000 in
set_option maxRecDepth 100000 in
theorem c_X3_ends (l : Launch) (G : GT) (ad : Nat → Nat → Nat) (X0 : K3) (q : Int32 × K3) (hF : f_X3_ends X0 = some q) : Ct l G yX3_ends wsX3_ends ({ frames := 5, cells := 0, slots := 0, locals := 110 } : Room) ([.ref (ad 8 0)] : List Value) (wX G ad X0) (some (.int q.1)) (wX G ad q.2) := by
  have k19 : Cond.fieldLink RX3 19 "PigeonRolls" "trial" "LPigeonRolls$Kingdom;" ∈ wsX3_ends := by decide +kernel
  have k10 : Cond.fieldLink RX3 10 "PigeonRolls" "realm" "LPigeonRolls$Kingdom;" ∈ wsX3_ends := by decide +kernel
  have hinX3 : ∀ w ∈ u_ws RX3 TX3 7, w ∈ wsX3_ends := by decide +kernel
  refine Ct.of cX3_ends 3 (some .int) (by decide) rfl (Nat.le_of_ble_eq_true rfl) ?_
  intro p e s m below meth c ls S hr hlocks hf hl
  have S : CallFix p m c cX3_ends 3 s ([.ref (ad 8 0)] : List Value).toArray wsX3_ends RX3 := S
  obtain ⟨hx, hb, hml, hown, hts⟩ := id S
  have hl : lv_has ls 3 [(0, .ref (ad 8 0))] := hl
  have hL55 : ∀ (X : K3)  (H : Heap) (locs : List Loc) (ls : Array Slot), f_X3_ends_B55 X = some q → Fr G (va_A (wX G ad X0) s.heap.size) s (wX G ad X) H locs → lv_has ls 3 [(0, .ref (ad 8 0))] → W p l e ({ frames := 5, cells := 0, slots := 0, locals := 110 } : Room) s m ([.ref (ad 8 0)] : List Value).toArray below meth c H locs 0 0 (MQ below (CPost G (wX G ad X0) s.heap.size (some (.int q.1)) (wX G ad q.2)) ([.ref (ad 8 0)] : List Value).toArray s 0 0 (va_A (wX G ad X0) s.heap.size)) (F0 m 55 ls []) := by
    intro X H locs ls hF hf hl
    unfold f_X3_ends_B55 at hF
    refine lv_aload_n hx hb dX3_ends_55 rfl (lv_at hl 0 rfl) ?_
    refine lv_iconst (v := 3) hx hb dX3_ends_56 (by decide) ?_
    obtain ⟨q6, h7, hF⟩ := Option.bind_eq_some_iff.mp hF
    refine g_cv0 (o := some (.int q6.1)) (As := [.int 3]) (rest := []) (st1 := [.int q6.1]) (ci := 3) S hf (c_X3_finding l G ad X 3 q6 h7) (cwV 1 hts gX3_ends_X3_finding rfl rfl rfl (by decide +kernel) ⟨Nat.le_of_ble_eq_true rfl, Nat.le_of_ble_eq_true rfl⟩) rfl rfl rfl 0 rfl rfl hl.1 rfl rfl (Nat.le_of_ble_eq_true rfl) ⟨Nat.zero_le _, Nat.zero_le _⟩ dX3_ends_57 (fun H locs hf => ?_)
    have hf : Fr G (va_A (wX G ad X0) s.heap.size) s (wX G ad q6.2) H locs := hf
    have hE := Option.some.inj hF
    have hV := congrArg (fun z : Int32 × K3 => z.1) hE
    have hW := congrArg (fun z : Int32 × K3 => wX G ad z.2) hE
    exact g_iret S hr hlocks hf hV hW dX3_ends_60
  have hL21 : ∀ (n : Nat) (X : K3) (x1 : Int32) (x2 : Int32)  (H : Heap) (locs : List Loc) (ls : Array Slot), f_X3_ends_L21 n X x1 x2 = some q → Fr G (va_A (wX G ad X0) s.heap.size) s (wX G ad X) H locs → lv_has ls 3 [(0, .ref (ad 8 0)), (1, .int x1), (2, .int x2)] → W p l e ({ frames := 5, cells := 0, slots := 0, locals := 110 } : Room) s m ([.ref (ad 8 0)] : List Value).toArray below meth c H locs 0 0 (MQ below (CPost G (wX G ad X0) s.heap.size (some (.int q.1)) (wX G ad q.2)) ([.ref (ad 8 0)] : List Value).toArray s 0 0 (va_A (wX G ad X0) s.heap.size)) (F0 m 21 ls []) := by
    intro n
    induction n with
    | zero =>
      intro X x1 x2 H locs ls hF hf hl
      exact absurd hF (by simp [f_X3_ends_L21])
    | succ n ih21 =>
      intro X x1 x2 H locs ls hF hf hl
      rw [f_X3_ends_L21] at hF
      refine lv_iload_n hx hb dX3_ends_21 rfl (lv_at hl 2 rfl) ?_
      refine lv_sipush (v := 200) hx hb dX3_ends_22 (by decide) ?_
      refine lv_icmp_gt (tgt := 55) hx hb dX3_ends_25 (by decide) (fun c5 => ?_) (fun c5 => ?_)
      · replace hF := (if_pos c5).symm.trans hF
        exact hL55 X _ _ _ hF hf (lv_sub hl [0] rfl)
      · replace hF := (if_neg c5).symm.trans hF
        refine lv_aload_n hx hb dX3_ends_28 rfl (lv_at hl 0 rfl) ?_
        refine g_get (ci := 3) (C := RX3) (T := TX3) (N := 7) (v := .ref (ad 2 0)) S hf hinX3 0 rfl rfl 2 (by decide) k19 rfl rfl dX3_ends_29 ?_
        refine lv_iload_n hx hb dX3_ends_32 rfl (lv_at hl 1 rfl) ?_
        obtain ⟨q8, h9, hF⟩ := Option.bind_eq_some_iff.mp hF
        refine g_cv (o := some (.int q8)) (As := [.int x1]) (rest := []) (st1 := [.int q8]) (ci := 0) (a := List.take 29 (wX G ad X)) (b := List.drop 42 (wX G ad X)) S hf (c_X0_drawSet l G (ad 2) (X 2) x1 q8 h9) (cwV 1 hts gX3_ends_X0_drawSet rfl rfl rfl (by decide +kernel) ⟨Nat.le_of_ble_eq_true rfl, Nat.le_of_ble_eq_true rfl⟩) rfl rfl rfl rfl 0 rfl rfl hl.1 rfl rfl (Nat.le_of_ble_eq_true rfl) ⟨Nat.zero_le _, Nat.zero_le _⟩ dX3_ends_33 (fun H locs hf => ?_)
        have hf : Fr G (va_A (wX G ad X0) s.heap.size) s (wX G ad X) H locs := hf
        refine lv_if_ne (tgt := 41) hx hb dX3_ends_36 (by decide) (fun c10 => ?_) (fun c10 => ?_)
        · replace hF := (if_neg c10).symm.trans hF
          refine lv_aload_n hx hb dX3_ends_41 rfl (lv_at hl 0 rfl) ?_
          refine g_get (ci := 3) (C := RX3) (T := TX3) (N := 7) (v := .ref (ad 2 0)) S hf hinX3 0 rfl rfl 2 (by decide) k19 rfl rfl dX3_ends_42 ?_
          refine lv_iload_n hx hb dX3_ends_45 rfl (lv_at hl 1 rfl) ?_
          obtain ⟨q11, h12, hF⟩ := Option.bind_eq_some_iff.mp hF
          refine g_cv (o := none) (As := [.int x1]) (rest := []) (st1 := []) (ci := 0) (a := List.take 29 (wX G ad X)) (b := List.drop 42 (wX G ad X)) S hf (c_X0_passDay l G (ad 2) (X 2) x1 q11 h12) (cwV 1 hts gX3_ends_X0_passDay rfl rfl rfl (by decide +kernel) ⟨Nat.le_of_ble_eq_true rfl, Nat.le_of_ble_eq_true rfl⟩) rfl rfl rfl rfl 0 rfl rfl hl.1 rfl rfl (Nat.le_of_ble_eq_true rfl) ⟨Nat.zero_le _, Nat.zero_le _⟩ dX3_ends_46 (fun H locs hf => ?_)
          have hf : Fr G (va_A (wX G ad X0) s.heap.size) s (wX G ad (va_up X 2 q11)) H locs := hf
          refine lv_iinc (v := x2 + 1) (lv' := [(2, .int (x2 + 1)), (0, .ref (ad 8 0)), (1, .int x1)]) hx hb dX3_ends_49 hl (k := 2) rfl rfl (by decide) rfl (fun ls hl => ?_)
          refine lv_goto (tgt := 21) hx hb dX3_ends_52 (by decide) ?_
          exact ih21 (va_up X 2 q11) x1 (x2 + 1) _ _ _ hF hf (lv_sub hl [1, 2, 0] rfl)
        · replace hF := (if_pos c10).symm.trans hF
          refine lv_iload_n hx hb dX3_ends_39 rfl (lv_at hl 2 rfl) ?_
          have hE := Option.some.inj hF
          have hV := congrArg (fun z : Int32 × K3 => z.1) hE
          have hW := congrArg (fun z : Int32 × K3 => wX G ad z.2) hE
          exact g_iret S hr hlocks hf hV hW dX3_ends_40
  unfold f_X3_ends at hF
  refine lv_aload_n hx hb dX3_ends_0 rfl (lv_at hl 0 rfl) ?_
  refine g_get (ci := 3) (C := RX3) (T := TX3) (N := 7) (v := .ref (ad 2 0)) S hf hinX3 0 rfl rfl 2 (by decide) k19 rfl rfl dX3_ends_1 ?_
  refine lv_aload_n hx hb dX3_ends_4 rfl (lv_at hl 0 rfl) ?_
  refine g_get (ci := 3) (C := RX3) (T := TX3) (N := 7) (v := .ref (ad 0 0)) S hf hinX3 0 rfl rfl 0 (by decide) k10 rfl rfl dX3_ends_5 ?_
  obtain ⟨q1, h2, hF⟩ := Option.bind_eq_some_iff.mp hF
  refine g_cv (o := none) (As := [.ref (ad 0 0)]) (rest := []) (st1 := []) (ci := 0) (a := List.take 16 (wX G ad X0)) (b := List.drop 42 (wX G ad X0)) S hf (c_X0_become2 l G (ad 2) (ad 0) (X0 2) (X0 0) q1 h2) (cwV 1 hts gX3_ends_X0_become rfl rfl rfl (by decide +kernel) ⟨Nat.le_of_ble_eq_true rfl, Nat.le_of_ble_eq_true rfl⟩) rfl rfl rfl rfl 13 rfl rfl hl.1 rfl rfl (Nat.le_of_ble_eq_true rfl) ⟨Nat.zero_le _, Nat.zero_le _⟩ dX3_ends_8 (fun H locs hf => ?_)
  have hf : Fr G (va_A (wX G ad X0) s.heap.size) s (wX G ad (va_up X0 2 q1)) H locs := hf
  refine lv_aload_n hx hb dX3_ends_11 rfl (lv_at hl 0 rfl) ?_
  refine g_get (ci := 3) (C := RX3) (T := TX3) (N := 7) (v := .ref (ad 2 0)) S hf hinX3 0 rfl rfl 2 (by decide) k19 rfl rfl dX3_ends_12 ?_
  obtain ⟨q3, h4, hF⟩ := Option.bind_eq_some_iff.mp hF
  refine g_cv (o := some (.int q3)) (As := []) (rest := []) (st1 := [.int q3]) (ci := 0) (a := List.take 29 (wX G ad (va_up X0 2 q1))) (b := List.drop 42 (wX G ad (va_up X0 2 q1))) S hf (c_X0_lineSet l G (ad 2) q1 q3 h4) (cwV 0 hts gX3_ends_X0_lineSet rfl rfl rfl (by decide +kernel) ⟨Nat.le_of_ble_eq_true rfl, Nat.le_of_ble_eq_true rfl⟩) rfl rfl rfl rfl 0 rfl rfl hl.1 rfl rfl (Nat.le_of_ble_eq_true rfl) ⟨Nat.zero_le _, Nat.zero_le _⟩ dX3_ends_15 (fun H locs hf => ?_)
  have hf : Fr G (va_A (wX G ad X0) s.heap.size) s (wX G ad (va_up X0 2 q1)) H locs := hf
  refine lv_istore_n (lv' := [(1, .int q3), (0, .ref (ad 8 0))]) hx hb dX3_ends_18 rfl hl (by decide) rfl (fun ls hl => ?_)
  refine lv_iconst (v := 0) hx hb dX3_ends_19 (by decide) ?_
  refine lv_istore_n (lv' := [(2, .int 0), (1, .int q3), (0, .ref (ad 8 0))]) hx hb dX3_ends_20 rfl hl (by decide) rfl (fun ls hl => ?_)
  exact hL21 1000 (va_up X0 2 q1) q3 0 _ _ _ hF hf (lv_sub hl [2, 1, 0] rfl)
