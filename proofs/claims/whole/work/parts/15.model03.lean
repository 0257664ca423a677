def f_X4_ahead (μ0 : K2) (a1 : Int32) (a2 : Int32) (a3 : Int32) : Option (Int32 × K2) := Option.bind (f_X4_within a2 7 8) (fun q1 => if q1 = 0 then (if a2 = 10 then (Option.bind (f_X4_isBird μ0 a1) (fun q23 => if q23 = 0 then (Option.bind (f_X4_finding μ0 (-1000001)) (fun q26 => some (q26.1, q26.2))) else (Option.bind (f_X4_within a3 0 100) (fun q28 => if q28 = 0 then (Option.bind (f_X4_finding μ0 (-1000001)) (fun q39 => some (q39.1, q39.2))) else (Option.bind (f_X4_copyRow (μ0 0) (μ0 2)) (fun q31 => Option.bind (f_X4_daysGo (va_up μ0 2 q31) a3) (fun q33 => Option.bind (f_X4_told q33 a1 a2) (fun q35 => Option.bind (f_X4_putBack q33 q35) (fun q37 => some (q37.1, q37.2)))))))))) else (if a2 = 13 then (Option.bind (f_X4_isBird μ0 a1) (fun q49 => if q49 = 0 then (Option.bind (f_X4_finding μ0 (-1000001)) (fun q52 => some (q52.1, q52.2))) else (Option.bind (f_X4_within a3 0 100) (fun q54 => if q54 = 0 then (Option.bind (f_X4_finding μ0 (-1000001)) (fun q65 => some (q65.1, q65.2))) else (Option.bind (f_X4_copyRow (μ0 0) (μ0 2)) (fun q57 => Option.bind (f_X4_daysGo (va_up μ0 2 q57) a3) (fun q59 => Option.bind (f_X4_told q59 a1 a2) (fun q61 => Option.bind (f_X4_putBack q59 q61) (fun q63 => some (q63.1, q63.2)))))))))) else (Option.bind (f_X4_isBird μ0 a1) (fun q42 => if q42 = 0 then (Option.bind (f_X4_finding μ0 (-1000001)) (fun q45 => some (q45.1, q45.2))) else (Option.bind (f_X4_finding μ0 (-1000001)) (fun q47 => some (q47.1, q47.2))))))) else (Option.bind (f_X4_isBird μ0 a1) (fun q4 => if q4 = 0 then (Option.bind (f_X4_finding μ0 (-1000001)) (fun q7 => some (q7.1, q7.2))) else (Option.bind (f_X4_within a3 0 100) (fun q9 => if q9 = 0 then (Option.bind (f_X4_finding μ0 (-1000001)) (fun q20 => some (q20.1, q20.2))) else (Option.bind (f_X4_copyRow (μ0 0) (μ0 2)) (fun q12 => Option.bind (f_X4_daysGo (va_up μ0 2 q12) a3) (fun q14 => Option.bind (f_X4_told q14 a1 a2) (fun q16 => Option.bind (f_X4_putBack q14 q16) (fun q18 => some (q18.1, q18.2)))))))))))
set_option maxHeartbeats 4000000 in
set_option maxRecDepth 100000 in
theorem c_X4_ahead (l : Launch) (G : GT) (ad : Nat → Nat) (μ0 : K2) (a1 : Int32) (a2 : Int32) (a3 : Int32) (q : Int32 × K2) (hF : f_X4_ahead μ0 a1 a2 a3 = some q) : Ct l G yX4_ahead wsX4_ahead ({ frames := 9, cells := 0, slots := 0, locals := 197 } : Room) ([.ref (ad 0), .int a1, .int a2, .int a3] : List Value) (wM G ad μ0) (some (.int q.1)) (wM G ad q.2) := by
  have kc63 : Cond.constant RX4 63 (-1000001) ∈ wsX4_ahead := by decide +kernel
  have k9 : Cond.fieldLink RX4 9 "PigeonRollsModel" "now" "[I" ∈ wsX4_ahead := by decide +kernel
  have k16 : Cond.fieldLink RX4 16 "PigeonRollsModel" "aside" "[I" ∈ wsX4_ahead := by decide +kernel
  have hinX4 : ∀ w ∈ u_ws RX4 TX4 21, w ∈ wsX4_ahead := by decide +kernel
  refine Ct.of cX4_ahead 5 (some .int) (by decide) rfl (Nat.le_of_ble_eq_true rfl) ?_
  intro p e s m below meth c ls S hr hlocks hf hl
  have S : CallFix p m c cX4_ahead 5 s ([.ref (ad 0), .int a1, .int a2, .int a3] : List Value).toArray wsX4_ahead RX4 := S
  obtain ⟨hx, hb, hml, hown, hts⟩ := id S
  have hl : lv_has ls 5 [(0, .ref (ad 0)), (1, .int a1), (2, .int a2), (3, .int a3)] := hl
  unfold f_X4_ahead at hF
  refine lv_iload_n hx hb dX4_ahead_0 rfl (lv_at hl 2 rfl) ?_
  refine lv_bipush (v := 7) hx hb dX4_ahead_1 (by decide) ?_
  refine lv_bipush (v := 8) hx hb dX4_ahead_3 (by decide) ?_
  obtain ⟨q1, h2, hF⟩ := Option.bind_eq_some_iff.mp hF
  refine g_cs0 (o := some (.int q1)) (As := [.int a2, .int 7, .int 8]) (rest := []) (st1 := [.int q1]) S hf (c_X4_within l G  a2 7 8 q1 h2) (va_cwS 3 hts gX4_ahead_X4_within rfl rfl rfl (by decide +kernel) ⟨Nat.le_of_ble_eq_true rfl, Nat.le_of_ble_eq_true rfl⟩) rfl hl.1 rfl rfl (Nat.le_of_ble_eq_true rfl) ⟨Nat.zero_le _, Nat.zero_le _⟩ dX4_ahead_5 (fun H locs hf => ?_)
  refine lv_if_ne (tgt := 23) hx hb dX4_ahead_8 (by decide) (fun c3 => ?_) (fun c3 => ?_)
  · replace hF := (if_neg c3).symm.trans hF
    refine lv_iconst (v := 1) hx hb dX4_ahead_23 (by decide) ?_
    refine lv_goto (tgt := 28) hx hb dX4_ahead_24 (by decide) ?_
    refine lv_istore (lv' := [(4, .int 1), (0, .ref (ad 0)), (1, .int a1), (2, .int a2), (3, .int a3)]) hx hb dX4_ahead_28 hl (by decide) rfl (fun ls hl => ?_)
    refine lv_aload_n hx hb dX4_ahead_30 rfl (lv_at hl 1 rfl) ?_
    refine lv_iload_n hx hb dX4_ahead_31 rfl (lv_at hl 2 rfl) ?_
    obtain ⟨q4, h5, hF⟩ := Option.bind_eq_some_iff.mp hF
    refine g_cv0 (o := some (.int q4)) (As := [.int a1]) (rest := []) (st1 := [.int q4]) (ci := 4) S hf (c_X4_isBird l G ad μ0 a1 q4 h5) (cwV 1 hts gX4_ahead_X4_isBird rfl rfl rfl (by decide +kernel) ⟨Nat.le_of_ble_eq_true rfl, Nat.le_of_ble_eq_true rfl⟩) rfl rfl rfl 0 rfl rfl hl.1 rfl rfl (Nat.le_of_ble_eq_true rfl) ⟨Nat.zero_le _, Nat.zero_le _⟩ dX4_ahead_32 (fun H locs hf => ?_)
    have hf : Fr G (va_A (wM G ad μ0) s.heap.size) s (wM G ad μ0) H locs := hf
    refine lv_if_eq (tgt := 53) hx hb dX4_ahead_35 (by decide) (fun c6 => ?_) (fun c6 => ?_)
    · replace hF := (if_pos c6).symm.trans hF
      refine lv_aload_n hx hb dX4_ahead_53 rfl (lv_at hl 1 rfl) ?_
      refine lv_ldc (v := -1000001) hx hb hown (hts _ kc63) dX4_ahead_54 ?_
      obtain ⟨q7, h8, hF⟩ := Option.bind_eq_some_iff.mp hF
      refine g_cv0 (o := some (.int q7.1)) (As := [.int (-1000001)]) (rest := []) (st1 := [.int q7.1]) (ci := 4) S hf (c_X4_finding l G ad μ0 (-1000001) q7 h8) (cwV 1 hts gX4_ahead_X4_finding rfl rfl rfl (by decide +kernel) ⟨Nat.le_of_ble_eq_true rfl, Nat.le_of_ble_eq_true rfl⟩) rfl rfl rfl 0 rfl rfl hl.1 rfl rfl (Nat.le_of_ble_eq_true rfl) ⟨Nat.zero_le _, Nat.zero_le _⟩ dX4_ahead_56 (fun H locs hf => ?_)
      have hf : Fr G (va_A (wM G ad μ0) s.heap.size) s (wM G ad q7.2) H locs := hf
      have hE := Option.some.inj hF
      have hV := congrArg (fun z : Int32 × K2 => z.1) hE
      have hW := congrArg (fun z : Int32 × K2 => wM G ad z.2) hE
      exact g_iret S hr hlocks hf hV hW dX4_ahead_59
    · replace hF := (if_neg c6).symm.trans hF
      refine lv_iload hx hb dX4_ahead_38 (lv_at hl 0 rfl) ?_
      refine lv_if_eq (tgt := 53) hx hb dX4_ahead_40 (by decide) (fun c => absurd c (by decide)) (fun c => ?_)
      refine lv_iload_n hx hb dX4_ahead_43 rfl (lv_at hl 4 rfl) ?_
      refine lv_iconst (v := 0) hx hb dX4_ahead_44 (by decide) ?_
      refine lv_bipush (v := 100) hx hb dX4_ahead_45 (by decide) ?_
      obtain ⟨q9, h10, hF⟩ := Option.bind_eq_some_iff.mp hF
      refine g_cs0 (o := some (.int q9)) (As := [.int a3, .int 0, .int 100]) (rest := []) (st1 := [.int q9]) S hf (c_X4_within l G  a3 0 100 q9 h10) (va_cwS 3 hts gX4_ahead_X4_within rfl rfl rfl (by decide +kernel) ⟨Nat.le_of_ble_eq_true rfl, Nat.le_of_ble_eq_true rfl⟩) rfl hl.1 rfl rfl (Nat.le_of_ble_eq_true rfl) ⟨Nat.zero_le _, Nat.zero_le _⟩ dX4_ahead_47 (fun H locs hf => ?_)
      refine lv_if_ne (tgt := 60) hx hb dX4_ahead_50 (by decide) (fun c11 => ?_) (fun c11 => ?_)
      · replace hF := (if_neg c11).symm.trans hF
        refine lv_aload_n hx hb dX4_ahead_60 rfl (lv_at hl 1 rfl) ?_
        refine g_get (ci := 4) (C := RX4) (T := TX4) (N := 21) (v := .ref (ad 1)) S hf hinX4 0 rfl rfl 0 (by decide) k9 rfl rfl dX4_ahead_61 ?_
        refine lv_aload_n hx hb dX4_ahead_64 rfl (lv_at hl 1 rfl) ?_
        refine g_get (ci := 4) (C := RX4) (T := TX4) (N := 21) (v := .ref (ad 3)) S hf hinX4 0 rfl rfl 2 (by decide) k16 rfl rfl dX4_ahead_65 ?_
        obtain ⟨q12, h13, hF⟩ := Option.bind_eq_some_iff.mp hF
        refine g_cs (o := none) (As := [.ref (ad 1), .ref (ad 3)]) (rest := []) (st1 := []) (a := List.take 2 (wM G ad μ0)) (b := List.drop 4 (wM G ad μ0)) S hf (c_X4_copyRow l G (ad 1) (ad 3) (μ0 0) (μ0 2) q12 h13) (va_cwS 2 hts gX4_ahead_X4_copyRow rfl rfl rfl (by decide +kernel) ⟨Nat.le_of_ble_eq_true rfl, Nat.le_of_ble_eq_true rfl⟩) rfl rfl rfl hl.1 rfl rfl (Nat.le_of_ble_eq_true rfl) ⟨Nat.zero_le _, Nat.zero_le _⟩ dX4_ahead_68 (fun H locs hf => ?_)
        have hf : Fr G (va_A (wM G ad μ0) s.heap.size) s (wM G ad (va_up μ0 2 q12)) H locs := hf
        refine lv_aload_n hx hb dX4_ahead_71 rfl (lv_at hl 1 rfl) ?_
        refine lv_iload_n hx hb dX4_ahead_72 rfl (lv_at hl 4 rfl) ?_
        obtain ⟨q14, h15, hF⟩ := Option.bind_eq_some_iff.mp hF
        refine g_cv0 (o := none) (As := [.int a3]) (rest := []) (st1 := []) (ci := 4) S hf (c_X4_daysGo l G ad (va_up μ0 2 q12) a3 q14 h15) (cwV 1 hts gX4_ahead_X4_daysGo rfl rfl rfl (by decide +kernel) ⟨Nat.le_of_ble_eq_true rfl, Nat.le_of_ble_eq_true rfl⟩) rfl rfl rfl 0 rfl rfl hl.1 rfl rfl (Nat.le_of_ble_eq_true rfl) ⟨Nat.zero_le _, Nat.zero_le _⟩ dX4_ahead_73 (fun H locs hf => ?_)
        have hf : Fr G (va_A (wM G ad μ0) s.heap.size) s (wM G ad q14) H locs := hf
        refine lv_aload_n hx hb dX4_ahead_76 rfl (lv_at hl 1 rfl) ?_
        refine lv_aload_n hx hb dX4_ahead_77 rfl (lv_at hl 1 rfl) ?_
        refine lv_iload_n hx hb dX4_ahead_78 rfl (lv_at hl 2 rfl) ?_
        refine lv_iload_n hx hb dX4_ahead_79 rfl (lv_at hl 3 rfl) ?_
        obtain ⟨q16, h17, hF⟩ := Option.bind_eq_some_iff.mp hF
        refine g_cv0 (o := some (.int q16)) (As := [.int a1, .int a2]) (rest := [.ref (ad 0)]) (st1 := [.int q16, .ref (ad 0)]) (ci := 4) S hf (c_X4_told l G ad q14 a1 a2 q16 h17) (cwV 2 hts gX4_ahead_X4_told rfl rfl rfl (by decide +kernel) ⟨Nat.le_of_ble_eq_true rfl, Nat.le_of_ble_eq_true rfl⟩) rfl rfl rfl 0 rfl rfl hl.1 rfl rfl (Nat.le_of_ble_eq_true rfl) ⟨Nat.zero_le _, Nat.zero_le _⟩ dX4_ahead_80 (fun H locs hf => ?_)
        have hf : Fr G (va_A (wM G ad μ0) s.heap.size) s (wM G ad q14) H locs := hf
        obtain ⟨q18, h19, hF⟩ := Option.bind_eq_some_iff.mp hF
        refine g_cv0 (o := some (.int q18.1)) (As := [.int q16]) (rest := []) (st1 := [.int q18.1]) (ci := 4) S hf (c_X4_putBack l G ad q14 q16 q18 h19) (cwV 1 hts gX4_ahead_X4_putBack rfl rfl rfl (by decide +kernel) ⟨Nat.le_of_ble_eq_true rfl, Nat.le_of_ble_eq_true rfl⟩) rfl rfl rfl 0 rfl rfl hl.1 rfl rfl (Nat.le_of_ble_eq_true rfl) ⟨Nat.zero_le _, Nat.zero_le _⟩ dX4_ahead_83 (fun H locs hf => ?_)
        have hf : Fr G (va_A (wM G ad μ0) s.heap.size) s (wM G ad q18.2) H locs := hf
        have hE := Option.some.inj hF
        have hV := congrArg (fun z : Int32 × K2 => z.1) hE
        have hW := congrArg (fun z : Int32 × K2 => wM G ad z.2) hE
        exact g_iret S hr hlocks hf hV hW dX4_ahead_86
      · replace hF := (if_pos c11).symm.trans hF
        refine lv_aload_n hx hb dX4_ahead_53 rfl (lv_at hl 1 rfl) ?_
        refine lv_ldc (v := -1000001) hx hb hown (hts _ kc63) dX4_ahead_54 ?_
        obtain ⟨q20, h21, hF⟩ := Option.bind_eq_some_iff.mp hF
        refine g_cv0 (o := some (.int q20.1)) (As := [.int (-1000001)]) (rest := []) (st1 := [.int q20.1]) (ci := 4) S hf (c_X4_finding l G ad μ0 (-1000001) q20 h21) (cwV 1 hts gX4_ahead_X4_finding rfl rfl rfl (by decide +kernel) ⟨Nat.le_of_ble_eq_true rfl, Nat.le_of_ble_eq_true rfl⟩) rfl rfl rfl 0 rfl rfl hl.1 rfl rfl (Nat.le_of_ble_eq_true rfl) ⟨Nat.zero_le _, Nat.zero_le _⟩ dX4_ahead_56 (fun H locs hf => ?_)
        have hf : Fr G (va_A (wM G ad μ0) s.heap.size) s (wM G ad q20.2) H locs := hf
        have hE := Option.some.inj hF
        have hV := congrArg (fun z : Int32 × K2 => z.1) hE
        have hW := congrArg (fun z : Int32 × K2 => wM G ad z.2) hE
        exact g_iret S hr hlocks hf hV hW dX4_ahead_59
  · replace hF := (if_pos c3).symm.trans hF
    refine lv_iload_n hx hb dX4_ahead_11 rfl (lv_at hl 2 rfl) ?_
    refine lv_bipush (v := 10) hx hb dX4_ahead_12 (by decide) ?_
    refine lv_icmp_eq (tgt := 23) hx hb dX4_ahead_14 (by decide) (fun c22 => ?_) (fun c22 => ?_)
    · replace hF := (if_pos c22).symm.trans hF
      refine lv_iconst (v := 1) hx hb dX4_ahead_23 (by decide) ?_
      refine lv_goto (tgt := 28) hx hb dX4_ahead_24 (by decide) ?_
      refine lv_istore (lv' := [(4, .int 1), (0, .ref (ad 0)), (1, .int a1), (2, .int a2), (3, .int a3)]) hx hb dX4_ahead_28 hl (by decide) rfl (fun ls hl => ?_)
      refine lv_aload_n hx hb dX4_ahead_30 rfl (lv_at hl 1 rfl) ?_
      refine lv_iload_n hx hb dX4_ahead_31 rfl (lv_at hl 2 rfl) ?_
      obtain ⟨q23, h24, hF⟩ := Option.bind_eq_some_iff.mp hF
      refine g_cv0 (o := some (.int q23)) (As := [.int a1]) (rest := []) (st1 := [.int q23]) (ci := 4) S hf (c_X4_isBird l G ad μ0 a1 q23 h24) (cwV 1 hts gX4_ahead_X4_isBird rfl rfl rfl (by decide +kernel) ⟨Nat.le_of_ble_eq_true rfl, Nat.le_of_ble_eq_true rfl⟩) rfl rfl rfl 0 rfl rfl hl.1 rfl rfl (Nat.le_of_ble_eq_true rfl) ⟨Nat.zero_le _, Nat.zero_le _⟩ dX4_ahead_32 (fun H locs hf => ?_)
      have hf : Fr G (va_A (wM G ad μ0) s.heap.size) s (wM G ad μ0) H locs := hf
      refine lv_if_eq (tgt := 53) hx hb dX4_ahead_35 (by decide) (fun c25 => ?_) (fun c25 => ?_)
      · replace hF := (if_pos c25).symm.trans hF
        refine lv_aload_n hx hb dX4_ahead_53 rfl (lv_at hl 1 rfl) ?_
        refine lv_ldc (v := -1000001) hx hb hown (hts _ kc63) dX4_ahead_54 ?_
        obtain ⟨q26, h27, hF⟩ := Option.bind_eq_some_iff.mp hF
        refine g_cv0 (o := some (.int q26.1)) (As := [.int (-1000001)]) (rest := []) (st1 := [.int q26.1]) (ci := 4) S hf (c_X4_finding l G ad μ0 (-1000001) q26 h27) (cwV 1 hts gX4_ahead_X4_finding rfl rfl rfl (by decide +kernel) ⟨Nat.le_of_ble_eq_true rfl, Nat.le_of_ble_eq_true rfl⟩) rfl rfl rfl 0 rfl rfl hl.1 rfl rfl (Nat.le_of_ble_eq_true rfl) ⟨Nat.zero_le _, Nat.zero_le _⟩ dX4_ahead_56 (fun H locs hf => ?_)
        have hf : Fr G (va_A (wM G ad μ0) s.heap.size) s (wM G ad q26.2) H locs := hf
        have hE := Option.some.inj hF
        have hV := congrArg (fun z : Int32 × K2 => z.1) hE
        have hW := congrArg (fun z : Int32 × K2 => wM G ad z.2) hE
        exact g_iret S hr hlocks hf hV hW dX4_ahead_59
      · replace hF := (if_neg c25).symm.trans hF
        refine lv_iload hx hb dX4_ahead_38 (lv_at hl 0 rfl) ?_
        refine lv_if_eq (tgt := 53) hx hb dX4_ahead_40 (by decide) (fun c => absurd c (by decide)) (fun c => ?_)
        refine lv_iload_n hx hb dX4_ahead_43 rfl (lv_at hl 4 rfl) ?_
        refine lv_iconst (v := 0) hx hb dX4_ahead_44 (by decide) ?_
        refine lv_bipush (v := 100) hx hb dX4_ahead_45 (by decide) ?_
        obtain ⟨q28, h29, hF⟩ := Option.bind_eq_some_iff.mp hF
        refine g_cs0 (o := some (.int q28)) (As := [.int a3, .int 0, .int 100]) (rest := []) (st1 := [.int q28]) S hf (c_X4_within l G  a3 0 100 q28 h29) (va_cwS 3 hts gX4_ahead_X4_within rfl rfl rfl (by decide +kernel) ⟨Nat.le_of_ble_eq_true rfl, Nat.le_of_ble_eq_true rfl⟩) rfl hl.1 rfl rfl (Nat.le_of_ble_eq_true rfl) ⟨Nat.zero_le _, Nat.zero_le _⟩ dX4_ahead_47 (fun H locs hf => ?_)
        refine lv_if_ne (tgt := 60) hx hb dX4_ahead_50 (by decide) (fun c30 => ?_) (fun c30 => ?_)
        · replace hF := (if_neg c30).symm.trans hF
          refine lv_aload_n hx hb dX4_ahead_60 rfl (lv_at hl 1 rfl) ?_
          refine g_get (ci := 4) (C := RX4) (T := TX4) (N := 21) (v := .ref (ad 1)) S hf hinX4 0 rfl rfl 0 (by decide) k9 rfl rfl dX4_ahead_61 ?_
          refine lv_aload_n hx hb dX4_ahead_64 rfl (lv_at hl 1 rfl) ?_
          refine g_get (ci := 4) (C := RX4) (T := TX4) (N := 21) (v := .ref (ad 3)) S hf hinX4 0 rfl rfl 2 (by decide) k16 rfl rfl dX4_ahead_65 ?_
          obtain ⟨q31, h32, hF⟩ := Option.bind_eq_some_iff.mp hF
          refine g_cs (o := none) (As := [.ref (ad 1), .ref (ad 3)]) (rest := []) (st1 := []) (a := List.take 2 (wM G ad μ0)) (b := List.drop 4 (wM G ad μ0)) S hf (c_X4_copyRow l G (ad 1) (ad 3) (μ0 0) (μ0 2) q31 h32) (va_cwS 2 hts gX4_ahead_X4_copyRow rfl rfl rfl (by decide +kernel) ⟨Nat.le_of_ble_eq_true rfl, Nat.le_of_ble_eq_true rfl⟩) rfl rfl rfl hl.1 rfl rfl (Nat.le_of_ble_eq_true rfl) ⟨Nat.zero_le _, Nat.zero_le _⟩ dX4_ahead_68 (fun H locs hf => ?_)
          have hf : Fr G (va_A (wM G ad μ0) s.heap.size) s (wM G ad (va_up μ0 2 q31)) H locs := hf
          refine lv_aload_n hx hb dX4_ahead_71 rfl (lv_at hl 1 rfl) ?_
          refine lv_iload_n hx hb dX4_ahead_72 rfl (lv_at hl 4 rfl) ?_
          obtain ⟨q33, h34, hF⟩ := Option.bind_eq_some_iff.mp hF
          refine g_cv0 (o := none) (As := [.int a3]) (rest := []) (st1 := []) (ci := 4) S hf (c_X4_daysGo l G ad (va_up μ0 2 q31) a3 q33 h34) (cwV 1 hts gX4_ahead_X4_daysGo rfl rfl rfl (by decide +kernel) ⟨Nat.le_of_ble_eq_true rfl, Nat.le_of_ble_eq_true rfl⟩) rfl rfl rfl 0 rfl rfl hl.1 rfl rfl (Nat.le_of_ble_eq_true rfl) ⟨Nat.zero_le _, Nat.zero_le _⟩ dX4_ahead_73 (fun H locs hf => ?_)
          have hf : Fr G (va_A (wM G ad μ0) s.heap.size) s (wM G ad q33) H locs := hf
          refine lv_aload_n hx hb dX4_ahead_76 rfl (lv_at hl 1 rfl) ?_
          refine lv_aload_n hx hb dX4_ahead_77 rfl (lv_at hl 1 rfl) ?_
          refine lv_iload_n hx hb dX4_ahead_78 rfl (lv_at hl 2 rfl) ?_
          refine lv_iload_n hx hb dX4_ahead_79 rfl (lv_at hl 3 rfl) ?_
          obtain ⟨q35, h36, hF⟩ := Option.bind_eq_some_iff.mp hF
          refine g_cv0 (o := some (.int q35)) (As := [.int a1, .int a2]) (rest := [.ref (ad 0)]) (st1 := [.int q35, .ref (ad 0)]) (ci := 4) S hf (c_X4_told l G ad q33 a1 a2 q35 h36) (cwV 2 hts gX4_ahead_X4_told rfl rfl rfl (by decide +kernel) ⟨Nat.le_of_ble_eq_true rfl, Nat.le_of_ble_eq_true rfl⟩) rfl rfl rfl 0 rfl rfl hl.1 rfl rfl (Nat.le_of_ble_eq_true rfl) ⟨Nat.zero_le _, Nat.zero_le _⟩ dX4_ahead_80 (fun H locs hf => ?_)
          have hf : Fr G (va_A (wM G ad μ0) s.heap.size) s (wM G ad q33) H locs := hf
          obtain ⟨q37, h38, hF⟩ := Option.bind_eq_some_iff.mp hF
          refine g_cv0 (o := some (.int q37.1)) (As := [.int q35]) (rest := []) (st1 := [.int q37.1]) (ci := 4) S hf (c_X4_putBack l G ad q33 q35 q37 h38) (cwV 1 hts gX4_ahead_X4_putBack rfl rfl rfl (by decide +kernel) ⟨Nat.le_of_ble_eq_true rfl, Nat.le_of_ble_eq_true rfl⟩) rfl rfl rfl 0 rfl rfl hl.1 rfl rfl (Nat.le_of_ble_eq_true rfl) ⟨Nat.zero_le _, Nat.zero_le _⟩ dX4_ahead_83 (fun H locs hf => ?_)
          have hf : Fr G (va_A (wM G ad μ0) s.heap.size) s (wM G ad q37.2) H locs := hf
          have hE := Option.some.inj hF
          have hV := congrArg (fun z : Int32 × K2 => z.1) hE
          have hW := congrArg (fun z : Int32 × K2 => wM G ad z.2) hE
          exact g_iret S hr hlocks hf hV hW dX4_ahead_86
        · replace hF := (if_pos c30).symm.trans hF
          refine lv_aload_n hx hb dX4_ahead_53 rfl (lv_at hl 1 rfl) ?_
          refine lv_ldc (v := -1000001) hx hb hown (hts _ kc63) dX4_ahead_54 ?_
          obtain ⟨q39, h40, hF⟩ := Option.bind_eq_some_iff.mp hF
          refine g_cv0 (o := some (.int q39.1)) (As := [.int (-1000001)]) (rest := []) (st1 := [.int q39.1]) (ci := 4) S hf (c_X4_finding l G ad μ0 (-1000001) q39 h40) (cwV 1 hts gX4_ahead_X4_finding rfl rfl rfl (by decide +kernel) ⟨Nat.le_of_ble_eq_true rfl, Nat.le_of_ble_eq_true rfl⟩) rfl rfl rfl 0 rfl rfl hl.1 rfl rfl (Nat.le_of_ble_eq_true rfl) ⟨Nat.zero_le _, Nat.zero_le _⟩ dX4_ahead_56 (fun H locs hf => ?_)
          have hf : Fr G (va_A (wM G ad μ0) s.heap.size) s (wM G ad q39.2) H locs := hf
          have hE := Option.some.inj hF
          have hV := congrArg (fun z : Int32 × K2 => z.1) hE
          have hW := congrArg (fun z : Int32 × K2 => wM G ad z.2) hE
          exact g_iret S hr hlocks hf hV hW dX4_ahead_59
    · replace hF := (if_neg c22).symm.trans hF
      refine lv_iload_n hx hb dX4_ahead_17 rfl (lv_at hl 2 rfl) ?_
      refine lv_bipush (v := 13) hx hb dX4_ahead_18 (by decide) ?_
      refine lv_icmp_ne (tgt := 27) hx hb dX4_ahead_20 (by decide) (fun c41 => ?_) (fun c41 => ?_)
      · replace hF := (if_neg c41).symm.trans hF
        refine lv_iconst (v := 0) hx hb dX4_ahead_27 (by decide) ?_
        refine lv_istore (lv' := [(4, .int 0), (0, .ref (ad 0)), (1, .int a1), (2, .int a2), (3, .int a3)]) hx hb dX4_ahead_28 hl (by decide) rfl (fun ls hl => ?_)
        refine lv_aload_n hx hb dX4_ahead_30 rfl (lv_at hl 1 rfl) ?_
        refine lv_iload_n hx hb dX4_ahead_31 rfl (lv_at hl 2 rfl) ?_
        obtain ⟨q42, h43, hF⟩ := Option.bind_eq_some_iff.mp hF
        refine g_cv0 (o := some (.int q42)) (As := [.int a1]) (rest := []) (st1 := [.int q42]) (ci := 4) S hf (c_X4_isBird l G ad μ0 a1 q42 h43) (cwV 1 hts gX4_ahead_X4_isBird rfl rfl rfl (by decide +kernel) ⟨Nat.le_of_ble_eq_true rfl, Nat.le_of_ble_eq_true rfl⟩) rfl rfl rfl 0 rfl rfl hl.1 rfl rfl (Nat.le_of_ble_eq_true rfl) ⟨Nat.zero_le _, Nat.zero_le _⟩ dX4_ahead_32 (fun H locs hf => ?_)
        have hf : Fr G (va_A (wM G ad μ0) s.heap.size) s (wM G ad μ0) H locs := hf
        refine lv_if_eq (tgt := 53) hx hb dX4_ahead_35 (by decide) (fun c44 => ?_) (fun c44 => ?_)
        · replace hF := (if_pos c44).symm.trans hF
          refine lv_aload_n hx hb dX4_ahead_53 rfl (lv_at hl 1 rfl) ?_
          refine lv_ldc (v := -1000001) hx hb hown (hts _ kc63) dX4_ahead_54 ?_
          obtain ⟨q45, h46, hF⟩ := Option.bind_eq_some_iff.mp hF
          refine g_cv0 (o := some (.int q45.1)) (As := [.int (-1000001)]) (rest := []) (st1 := [.int q45.1]) (ci := 4) S hf (c_X4_finding l G ad μ0 (-1000001) q45 h46) (cwV 1 hts gX4_ahead_X4_finding rfl rfl rfl (by decide +kernel) ⟨Nat.le_of_ble_eq_true rfl, Nat.le_of_ble_eq_true rfl⟩) rfl rfl rfl 0 rfl rfl hl.1 rfl rfl (Nat.le_of_ble_eq_true rfl) ⟨Nat.zero_le _, Nat.zero_le _⟩ dX4_ahead_56 (fun H locs hf => ?_)
          have hf : Fr G (va_A (wM G ad μ0) s.heap.size) s (wM G ad q45.2) H locs := hf
          have hE := Option.some.inj hF
          have hV := congrArg (fun z : Int32 × K2 => z.1) hE
          have hW := congrArg (fun z : Int32 × K2 => wM G ad z.2) hE
          exact g_iret S hr hlocks hf hV hW dX4_ahead_59
        · replace hF := (if_neg c44).symm.trans hF
          refine lv_iload hx hb dX4_ahead_38 (lv_at hl 0 rfl) ?_
          refine lv_if_eq (tgt := 53) hx hb dX4_ahead_40 (by decide) (fun c => ?_) (fun c => absurd c (by decide))
          refine lv_aload_n hx hb dX4_ahead_53 rfl (lv_at hl 1 rfl) ?_
          refine lv_ldc (v := -1000001) hx hb hown (hts _ kc63) dX4_ahead_54 ?_
          obtain ⟨q47, h48, hF⟩ := Option.bind_eq_some_iff.mp hF
          refine g_cv0 (o := some (.int q47.1)) (As := [.int (-1000001)]) (rest := []) (st1 := [.int q47.1]) (ci := 4) S hf (c_X4_finding l G ad μ0 (-1000001) q47 h48) (cwV 1 hts gX4_ahead_X4_finding rfl rfl rfl (by decide +kernel) ⟨Nat.le_of_ble_eq_true rfl, Nat.le_of_ble_eq_true rfl⟩) rfl rfl rfl 0 rfl rfl hl.1 rfl rfl (Nat.le_of_ble_eq_true rfl) ⟨Nat.zero_le _, Nat.zero_le _⟩ dX4_ahead_56 (fun H locs hf => ?_)
          have hf : Fr G (va_A (wM G ad μ0) s.heap.size) s (wM G ad q47.2) H locs := hf
          have hE := Option.some.inj hF
          have hV := congrArg (fun z : Int32 × K2 => z.1) hE
          have hW := congrArg (fun z : Int32 × K2 => wM G ad z.2) hE
          exact g_iret S hr hlocks hf hV hW dX4_ahead_59
      · replace hF := (if_pos c41).symm.trans hF
        refine lv_iconst (v := 1) hx hb dX4_ahead_23 (by decide) ?_
        refine lv_goto (tgt := 28) hx hb dX4_ahead_24 (by decide) ?_
        refine lv_istore (lv' := [(4, .int 1), (0, .ref (ad 0)), (1, .int a1), (2, .int a2), (3, .int a3)]) hx hb dX4_ahead_28 hl (by decide) rfl (fun ls hl => ?_)
        refine lv_aload_n hx hb dX4_ahead_30 rfl (lv_at hl 1 rfl) ?_
        refine lv_iload_n hx hb dX4_ahead_31 rfl (lv_at hl 2 rfl) ?_
        obtain ⟨q49, h50, hF⟩ := Option.bind_eq_some_iff.mp hF
        refine g_cv0 (o := some (.int q49)) (As := [.int a1]) (rest := []) (st1 := [.int q49]) (ci := 4) S hf (c_X4_isBird l G ad μ0 a1 q49 h50) (cwV 1 hts gX4_ahead_X4_isBird rfl rfl rfl (by decide +kernel) ⟨Nat.le_of_ble_eq_true rfl, Nat.le_of_ble_eq_true rfl⟩) rfl rfl rfl 0 rfl rfl hl.1 rfl rfl (Nat.le_of_ble_eq_true rfl) ⟨Nat.zero_le _, Nat.zero_le _⟩ dX4_ahead_32 (fun H locs hf => ?_)
        have hf : Fr G (va_A (wM G ad μ0) s.heap.size) s (wM G ad μ0) H locs := hf
        refine lv_if_eq (tgt := 53) hx hb dX4_ahead_35 (by decide) (fun c51 => ?_) (fun c51 => ?_)
        · replace hF := (if_pos c51).symm.trans hF
          refine lv_aload_n hx hb dX4_ahead_53 rfl (lv_at hl 1 rfl) ?_
          refine lv_ldc (v := -1000001) hx hb hown (hts _ kc63) dX4_ahead_54 ?_
          obtain ⟨q52, h53, hF⟩ := Option.bind_eq_some_iff.mp hF
          refine g_cv0 (o := some (.int q52.1)) (As := [.int (-1000001)]) (rest := []) (st1 := [.int q52.1]) (ci := 4) S hf (c_X4_finding l G ad μ0 (-1000001) q52 h53) (cwV 1 hts gX4_ahead_X4_finding rfl rfl rfl (by decide +kernel) ⟨Nat.le_of_ble_eq_true rfl, Nat.le_of_ble_eq_true rfl⟩) rfl rfl rfl 0 rfl rfl hl.1 rfl rfl (Nat.le_of_ble_eq_true rfl) ⟨Nat.zero_le _, Nat.zero_le _⟩ dX4_ahead_56 (fun H locs hf => ?_)
          have hf : Fr G (va_A (wM G ad μ0) s.heap.size) s (wM G ad q52.2) H locs := hf
          have hE := Option.some.inj hF
          have hV := congrArg (fun z : Int32 × K2 => z.1) hE
          have hW := congrArg (fun z : Int32 × K2 => wM G ad z.2) hE
          exact g_iret S hr hlocks hf hV hW dX4_ahead_59
        · replace hF := (if_neg c51).symm.trans hF
          refine lv_iload hx hb dX4_ahead_38 (lv_at hl 0 rfl) ?_
          refine lv_if_eq (tgt := 53) hx hb dX4_ahead_40 (by decide) (fun c => absurd c (by decide)) (fun c => ?_)
          refine lv_iload_n hx hb dX4_ahead_43 rfl (lv_at hl 4 rfl) ?_
          refine lv_iconst (v := 0) hx hb dX4_ahead_44 (by decide) ?_
          refine lv_bipush (v := 100) hx hb dX4_ahead_45 (by decide) ?_
          obtain ⟨q54, h55, hF⟩ := Option.bind_eq_some_iff.mp hF
          refine g_cs0 (o := some (.int q54)) (As := [.int a3, .int 0, .int 100]) (rest := []) (st1 := [.int q54]) S hf (c_X4_within l G  a3 0 100 q54 h55) (va_cwS 3 hts gX4_ahead_X4_within rfl rfl rfl (by decide +kernel) ⟨Nat.le_of_ble_eq_true rfl, Nat.le_of_ble_eq_true rfl⟩) rfl hl.1 rfl rfl (Nat.le_of_ble_eq_true rfl) ⟨Nat.zero_le _, Nat.zero_le _⟩ dX4_ahead_47 (fun H locs hf => ?_)
          refine lv_if_ne (tgt := 60) hx hb dX4_ahead_50 (by decide) (fun c56 => ?_) (fun c56 => ?_)
          · replace hF := (if_neg c56).symm.trans hF
            refine lv_aload_n hx hb dX4_ahead_60 rfl (lv_at hl 1 rfl) ?_
            refine g_get (ci := 4) (C := RX4) (T := TX4) (N := 21) (v := .ref (ad 1)) S hf hinX4 0 rfl rfl 0 (by decide) k9 rfl rfl dX4_ahead_61 ?_
            refine lv_aload_n hx hb dX4_ahead_64 rfl (lv_at hl 1 rfl) ?_
            refine g_get (ci := 4) (C := RX4) (T := TX4) (N := 21) (v := .ref (ad 3)) S hf hinX4 0 rfl rfl 2 (by decide) k16 rfl rfl dX4_ahead_65 ?_
            obtain ⟨q57, h58, hF⟩ := Option.bind_eq_some_iff.mp hF
            refine g_cs (o := none) (As := [.ref (ad 1), .ref (ad 3)]) (rest := []) (st1 := []) (a := List.take 2 (wM G ad μ0)) (b := List.drop 4 (wM G ad μ0)) S hf (c_X4_copyRow l G (ad 1) (ad 3) (μ0 0) (μ0 2) q57 h58) (va_cwS 2 hts gX4_ahead_X4_copyRow rfl rfl rfl (by decide +kernel) ⟨Nat.le_of_ble_eq_true rfl, Nat.le_of_ble_eq_true rfl⟩) rfl rfl rfl hl.1 rfl rfl (Nat.le_of_ble_eq_true rfl) ⟨Nat.zero_le _, Nat.zero_le _⟩ dX4_ahead_68 (fun H locs hf => ?_)
            have hf : Fr G (va_A (wM G ad μ0) s.heap.size) s (wM G ad (va_up μ0 2 q57)) H locs := hf
            refine lv_aload_n hx hb dX4_ahead_71 rfl (lv_at hl 1 rfl) ?_
            refine lv_iload_n hx hb dX4_ahead_72 rfl (lv_at hl 4 rfl) ?_
            obtain ⟨q59, h60, hF⟩ := Option.bind_eq_some_iff.mp hF
            refine g_cv0 (o := none) (As := [.int a3]) (rest := []) (st1 := []) (ci := 4) S hf (c_X4_daysGo l G ad (va_up μ0 2 q57) a3 q59 h60) (cwV 1 hts gX4_ahead_X4_daysGo rfl rfl rfl (by decide +kernel) ⟨Nat.le_of_ble_eq_true rfl, Nat.le_of_ble_eq_true rfl⟩) rfl rfl rfl 0 rfl rfl hl.1 rfl rfl (Nat.le_of_ble_eq_true rfl) ⟨Nat.zero_le _, Nat.zero_le _⟩ dX4_ahead_73 (fun H locs hf => ?_)
            have hf : Fr G (va_A (wM G ad μ0) s.heap.size) s (wM G ad q59) H locs := hf
            refine lv_aload_n hx hb dX4_ahead_76 rfl (lv_at hl 1 rfl) ?_
            refine lv_aload_n hx hb dX4_ahead_77 rfl (lv_at hl 1 rfl) ?_
            refine lv_iload_n hx hb dX4_ahead_78 rfl (lv_at hl 2 rfl) ?_
            refine lv_iload_n hx hb dX4_ahead_79 rfl (lv_at hl 3 rfl) ?_
            obtain ⟨q61, h62, hF⟩ := Option.bind_eq_some_iff.mp hF
            refine g_cv0 (o := some (.int q61)) (As := [.int a1, .int a2]) (rest := [.ref (ad 0)]) (st1 := [.int q61, .ref (ad 0)]) (ci := 4) S hf (c_X4_told l G ad q59 a1 a2 q61 h62) (cwV 2 hts gX4_ahead_X4_told rfl rfl rfl (by decide +kernel) ⟨Nat.le_of_ble_eq_true rfl, Nat.le_of_ble_eq_true rfl⟩) rfl rfl rfl 0 rfl rfl hl.1 rfl rfl (Nat.le_of_ble_eq_true rfl) ⟨Nat.zero_le _, Nat.zero_le _⟩ dX4_ahead_80 (fun H locs hf => ?_)
            have hf : Fr G (va_A (wM G ad μ0) s.heap.size) s (wM G ad q59) H locs := hf
            obtain ⟨q63, h64, hF⟩ := Option.bind_eq_some_iff.mp hF
            refine g_cv0 (o := some (.int q63.1)) (As := [.int q61]) (rest := []) (st1 := [.int q63.1]) (ci := 4) S hf (c_X4_putBack l G ad q59 q61 q63 h64) (cwV 1 hts gX4_ahead_X4_putBack rfl rfl rfl (by decide +kernel) ⟨Nat.le_of_ble_eq_true rfl, Nat.le_of_ble_eq_true rfl⟩) rfl rfl rfl 0 rfl rfl hl.1 rfl rfl (Nat.le_of_ble_eq_true rfl) ⟨Nat.zero_le _, Nat.zero_le _⟩ dX4_ahead_83 (fun H locs hf => ?_)
            have hf : Fr G (va_A (wM G ad μ0) s.heap.size) s (wM G ad q63.2) H locs := hf
            have hE := Option.some.inj hF
            have hV := congrArg (fun z : Int32 × K2 => z.1) hE
            have hW := congrArg (fun z : Int32 × K2 => wM G ad z.2) hE
            exact g_iret S hr hlocks hf hV hW dX4_ahead_86
          · replace hF := (if_pos c56).symm.trans hF
            refine lv_aload_n hx hb dX4_ahead_53 rfl (lv_at hl 1 rfl) ?_
            refine lv_ldc (v := -1000001) hx hb hown (hts _ kc63) dX4_ahead_54 ?_
            obtain ⟨q65, h66, hF⟩ := Option.bind_eq_some_iff.mp hF
            refine g_cv0 (o := some (.int q65.1)) (As := [.int (-1000001)]) (rest := []) (st1 := [.int q65.1]) (ci := 4) S hf (c_X4_finding l G ad μ0 (-1000001) q65 h66) (cwV 1 hts gX4_ahead_X4_finding rfl rfl rfl (by decide +kernel) ⟨Nat.le_of_ble_eq_true rfl, Nat.le_of_ble_eq_true rfl⟩) rfl rfl rfl 0 rfl rfl hl.1 rfl rfl (Nat.le_of_ble_eq_true rfl) ⟨Nat.zero_le _, Nat.zero_le _⟩ dX4_ahead_56 (fun H locs hf => ?_)
            have hf : Fr G (va_A (wM G ad μ0) s.heap.size) s (wM G ad q65.2) H locs := hf
            have hE := Option.some.inj hF
            have hV := congrArg (fun z : Int32 × K2 => z.1) hE
            have hW := congrArg (fun z : Int32 × K2 => wM G ad z.2) hE
            exact g_iret S hr hlocks hf hV hW dX4_ahead_59
def f_X4_budget (μ0 : K2) (a1 : Int32) : Option (Int32 × K2) := Option.bind (f_X4_within a1 0 100) (fun q1 => if q1 = 0 then (Option.bind (f_X4_finding μ0 (-1000001)) (fun q4 => some (q4.1, q4.2))) else (Option.bind (f_X4_behind μ0 3 a1) (fun q6 => some (q6.1, q6.2))))
set_option maxHeartbeats 4000000 in
set_option maxRecDepth 100000 in
theorem c_X4_budget (l : Launch) (G : GT) (ad : Nat → Nat) (μ0 : K2) (a1 : Int32) (q : Int32 × K2) (hF : f_X4_budget μ0 a1 = some q) : Ct l G yX4_budget wsX4_budget ({ frames := 10, cells := 0, slots := 0, locals := 219 } : Room) ([.ref (ad 0), .int a1] : List Value) (wM G ad μ0) (some (.int q.1)) (wM G ad q.2) := by
  have kc63 : Cond.constant RX4 63 (-1000001) ∈ wsX4_budget := by decide +kernel
  refine Ct.of cX4_budget 2 (some .int) (by decide) rfl (Nat.le_of_ble_eq_true rfl) ?_
  intro p e s m below meth c ls S hr hlocks hf hl
  have S : CallFix p m c cX4_budget 2 s ([.ref (ad 0), .int a1] : List Value).toArray wsX4_budget RX4 := S
  obtain ⟨hx, hb, hml, hown, hts⟩ := id S
  have hl : lv_has ls 2 [(0, .ref (ad 0)), (1, .int a1)] := hl
  unfold f_X4_budget at hF
  refine lv_iload_n hx hb dX4_budget_0 rfl (lv_at hl 1 rfl) ?_
  refine lv_iconst (v := 0) hx hb dX4_budget_1 (by decide) ?_
  refine lv_bipush (v := 100) hx hb dX4_budget_2 (by decide) ?_
  obtain ⟨q1, h2, hF⟩ := Option.bind_eq_some_iff.mp hF
  refine g_cs0 (o := some (.int q1)) (As := [.int a1, .int 0, .int 100]) (rest := []) (st1 := [.int q1]) S hf (c_X4_within l G  a1 0 100 q1 h2) (va_cwS 3 hts gX4_budget_X4_within rfl rfl rfl (by decide +kernel) ⟨Nat.le_of_ble_eq_true rfl, Nat.le_of_ble_eq_true rfl⟩) rfl hl.1 rfl rfl (Nat.le_of_ble_eq_true rfl) ⟨Nat.zero_le _, Nat.zero_le _⟩ dX4_budget_4 (fun H locs hf => ?_)
  refine lv_if_eq (tgt := 19) hx hb dX4_budget_7 (by decide) (fun c3 => ?_) (fun c3 => ?_)
  · replace hF := (if_pos c3).symm.trans hF
    refine lv_aload_n hx hb dX4_budget_19 rfl (lv_at hl 0 rfl) ?_
    refine lv_ldc (v := -1000001) hx hb hown (hts _ kc63) dX4_budget_20 ?_
    obtain ⟨q4, h5, hF⟩ := Option.bind_eq_some_iff.mp hF
    refine g_cv0 (o := some (.int q4.1)) (As := [.int (-1000001)]) (rest := []) (st1 := [.int q4.1]) (ci := 4) S hf (c_X4_finding l G ad μ0 (-1000001) q4 h5) (cwV 1 hts gX4_budget_X4_finding rfl rfl rfl (by decide +kernel) ⟨Nat.le_of_ble_eq_true rfl, Nat.le_of_ble_eq_true rfl⟩) rfl rfl rfl 0 rfl rfl hl.1 rfl rfl (Nat.le_of_ble_eq_true rfl) ⟨Nat.zero_le _, Nat.zero_le _⟩ dX4_budget_22 (fun H locs hf => ?_)
    have hf : Fr G (va_A (wM G ad μ0) s.heap.size) s (wM G ad q4.2) H locs := hf
    have hE := Option.some.inj hF
    have hV := congrArg (fun z : Int32 × K2 => z.1) hE
    have hW := congrArg (fun z : Int32 × K2 => wM G ad z.2) hE
    exact g_iret S hr hlocks hf hV hW dX4_budget_25
  · replace hF := (if_neg c3).symm.trans hF
    refine lv_aload_n hx hb dX4_budget_10 rfl (lv_at hl 0 rfl) ?_
    refine lv_iconst (v := 3) hx hb dX4_budget_11 (by decide) ?_
    refine lv_iload_n hx hb dX4_budget_12 rfl (lv_at hl 1 rfl) ?_
    obtain ⟨q6, h7, hF⟩ := Option.bind_eq_some_iff.mp hF
    refine g_cv0 (o := some (.int q6.1)) (As := [.int 3, .int a1]) (rest := []) (st1 := [.int q6.1]) (ci := 4) S hf (c_X4_behind l G ad μ0 3 a1 q6 h7) (cwV 2 hts gX4_budget_X4_behind rfl rfl rfl (by decide +kernel) ⟨Nat.le_of_ble_eq_true rfl, Nat.le_of_ble_eq_true rfl⟩) rfl rfl rfl 0 rfl rfl hl.1 rfl rfl (Nat.le_of_ble_eq_true rfl) ⟨Nat.zero_le _, Nat.zero_le _⟩ dX4_budget_13 (fun H locs hf => ?_)
    have hf : Fr G (va_A (wM G ad μ0) s.heap.size) s (wM G ad q6.2) H locs := hf
    refine lv_goto (tgt := 25) hx hb dX4_budget_16 (by decide) ?_
    have hE := Option.some.inj hF
    have hV := congrArg (fun z : Int32 × K2 => z.1) hE
    have hW := congrArg (fun z : Int32 × K2 => wM G ad z.2) hE
    exact g_iret S hr hlocks hf hV hW dX4_budget_25
def f_X4_dies_B53 (μ : K2) (x1 : Int32) (x2 : Int32) : Option (Int32 × K2) := Option.bind (f_X4_isDead μ x1) (fun q7 => if q7 = 0 then (Option.bind (f_X4_putBack μ (-1)) (fun q10 => Option.bind (f_X4_orNone q10.2 q10.1) (fun q12 => some (q12.1, q12.2)))) else (Option.bind (f_X4_putBack μ x2) (fun q14 => Option.bind (f_X4_orNone q14.2 q14.1) (fun q16 => some (q16.1, q16.2)))))
def f_X4_dies_L28 : Nat → K2 → Int32 → Int32 → Option (Int32 × K2)
  | 0, _, _, _ => none
  | n + 1, μ, x1, x2 => if 200 ≤ x2 then (f_X4_dies_B53 μ x1 x2) else (Option.bind (f_X4_isDead μ x1) (fun q18 => if q18 = 0 then (Option.bind (f_X4_day μ) (fun q21 => f_X4_dies_L28 n q21 x1 (x2 + 1))) else (f_X4_dies_B53 μ x1 x2)))
def f_X4_dies (μ0 : K2) (a1 : Int32) : Option (Int32 × K2) := Option.bind (f_X4_isBird μ0 a1) (fun q1 => if q1 = 0 then (Option.bind (f_X4_finding μ0 (-1000001)) (fun q23 => some (q23.1, q23.2))) else (Option.bind (f_X4_copyRow (μ0 0) (μ0 2)) (fun q4 => f_X4_dies_L28 1000 (va_up μ0 2 q4) a1 0)))
set_option maxHeartbeats 4000000 in
set_option maxRecDepth 100000 in
theorem c_X4_dies (l : Launch) (G : GT) (ad : Nat → Nat) (μ0 : K2) (a1 : Int32) (q : Int32 × K2) (hF : f_X4_dies μ0 a1 = some q) : Ct l G yX4_dies wsX4_dies ({ frames := 8, cells := 0, slots := 0, locals := 175 } : Room) ([.ref (ad 0), .int a1] : List Value) (wM G ad μ0) (some (.int q.1)) (wM G ad q.2) := by
  have k9 : Cond.fieldLink RX4 9 "PigeonRollsModel" "now" "[I" ∈ wsX4_dies := by decide +kernel
  have k16 : Cond.fieldLink RX4 16 "PigeonRollsModel" "aside" "[I" ∈ wsX4_dies := by decide +kernel
  have kc63 : Cond.constant RX4 63 (-1000001) ∈ wsX4_dies := by decide +kernel
  have hinX4 : ∀ w ∈ u_ws RX4 TX4 21, w ∈ wsX4_dies := by decide +kernel
  refine Ct.of cX4_dies 3 (some .int) (by decide) rfl (Nat.le_of_ble_eq_true rfl) ?_
  intro p e s m below meth c ls S hr hlocks hf hl
  have S : CallFix p m c cX4_dies 3 s ([.ref (ad 0), .int a1] : List Value).toArray wsX4_dies RX4 := S
  obtain ⟨hx, hb, hml, hown, hts⟩ := id S
  have hl : lv_has ls 3 [(0, .ref (ad 0)), (1, .int a1)] := hl
  have hL53 : ∀ (μ : K2) (x1 : Int32) (x2 : Int32)  (H : Heap) (locs : List Loc) (ls : Array Slot), f_X4_dies_B53 μ x1 x2 = some q → Fr G (va_A (wM G ad μ0) s.heap.size) s (wM G ad μ) H locs → lv_has ls 3 [(0, .ref (ad 0)), (1, .int x1), (2, .int x2)] → W p l e ({ frames := 8, cells := 0, slots := 0, locals := 175 } : Room) s m ([.ref (ad 0), .int a1] : List Value).toArray below meth c H locs 0 0 (MQ below (CPost G (wM G ad μ0) s.heap.size (some (.int q.1)) (wM G ad q.2)) ([.ref (ad 0), .int a1] : List Value).toArray s 0 0 (va_A (wM G ad μ0) s.heap.size)) (F0 m 53 ls []) := by
    intro μ x1 x2 H locs ls hF hf hl
    unfold f_X4_dies_B53 at hF
    refine lv_aload_n hx hb dX4_dies_53 rfl (lv_at hl 0 rfl) ?_
    refine lv_aload_n hx hb dX4_dies_54 rfl (lv_at hl 0 rfl) ?_
    refine lv_aload_n hx hb dX4_dies_55 rfl (lv_at hl 0 rfl) ?_
    refine lv_iload_n hx hb dX4_dies_56 rfl (lv_at hl 1 rfl) ?_
    obtain ⟨q7, h8, hF⟩ := Option.bind_eq_some_iff.mp hF
    refine g_cv0 (o := some (.int q7)) (As := [.int x1]) (rest := [.ref (ad 0), .ref (ad 0)]) (st1 := [.int q7, .ref (ad 0), .ref (ad 0)]) (ci := 4) S hf (c_X4_isDead l G ad μ x1 q7 h8) (cwV 1 hts gX4_dies_X4_isDead rfl rfl rfl (by decide +kernel) ⟨Nat.le_of_ble_eq_true rfl, Nat.le_of_ble_eq_true rfl⟩) rfl rfl rfl 0 rfl rfl hl.1 rfl rfl (Nat.le_of_ble_eq_true rfl) ⟨Nat.zero_le _, Nat.zero_le _⟩ dX4_dies_57 (fun H locs hf => ?_)
    have hf : Fr G (va_A (wM G ad μ0) s.heap.size) s (wM G ad μ) H locs := hf
    refine lv_if_eq (tgt := 67) hx hb dX4_dies_60 (by decide) (fun c9 => ?_) (fun c9 => ?_)
    · replace hF := (if_pos c9).symm.trans hF
      refine lv_iconst (v := -1) hx hb dX4_dies_67 (by decide) ?_
      obtain ⟨q10, h11, hF⟩ := Option.bind_eq_some_iff.mp hF
      refine g_cv0 (o := some (.int q10.1)) (As := [.int (-1)]) (rest := [.ref (ad 0)]) (st1 := [.int q10.1, .ref (ad 0)]) (ci := 4) S hf (c_X4_putBack l G ad μ (-1) q10 h11) (cwV 1 hts gX4_dies_X4_putBack rfl rfl rfl (by decide +kernel) ⟨Nat.le_of_ble_eq_true rfl, Nat.le_of_ble_eq_true rfl⟩) rfl rfl rfl 0 rfl rfl hl.1 rfl rfl (Nat.le_of_ble_eq_true rfl) ⟨Nat.zero_le _, Nat.zero_le _⟩ dX4_dies_68 (fun H locs hf => ?_)
      have hf : Fr G (va_A (wM G ad μ0) s.heap.size) s (wM G ad q10.2) H locs := hf
      obtain ⟨q12, h13, hF⟩ := Option.bind_eq_some_iff.mp hF
      refine g_cv0 (o := some (.int q12.1)) (As := [.int q10.1]) (rest := []) (st1 := [.int q12.1]) (ci := 4) S hf (c_X4_orNone l G ad q10.2 q10.1 q12 h13) (cwV 1 hts gX4_dies_X4_orNone rfl rfl rfl (by decide +kernel) ⟨Nat.le_of_ble_eq_true rfl, Nat.le_of_ble_eq_true rfl⟩) rfl rfl rfl 0 rfl rfl hl.1 rfl rfl (Nat.le_of_ble_eq_true rfl) ⟨Nat.zero_le _, Nat.zero_le _⟩ dX4_dies_71 (fun H locs hf => ?_)
      have hf : Fr G (va_A (wM G ad μ0) s.heap.size) s (wM G ad q12.2) H locs := hf
      have hE := Option.some.inj hF
      have hV := congrArg (fun z : Int32 × K2 => z.1) hE
      have hW := congrArg (fun z : Int32 × K2 => wM G ad z.2) hE
      exact g_iret S hr hlocks hf hV hW dX4_dies_74
    · replace hF := (if_neg c9).symm.trans hF
      refine lv_iload_n hx hb dX4_dies_63 rfl (lv_at hl 2 rfl) ?_
      refine lv_goto (tgt := 68) hx hb dX4_dies_64 (by decide) ?_
      obtain ⟨q14, h15, hF⟩ := Option.bind_eq_some_iff.mp hF
      refine g_cv0 (o := some (.int q14.1)) (As := [.int x2]) (rest := [.ref (ad 0)]) (st1 := [.int q14.1, .ref (ad 0)]) (ci := 4) S hf (c_X4_putBack l G ad μ x2 q14 h15) (cwV 1 hts gX4_dies_X4_putBack rfl rfl rfl (by decide +kernel) ⟨Nat.le_of_ble_eq_true rfl, Nat.le_of_ble_eq_true rfl⟩) rfl rfl rfl 0 rfl rfl hl.1 rfl rfl (Nat.le_of_ble_eq_true rfl) ⟨Nat.zero_le _, Nat.zero_le _⟩ dX4_dies_68 (fun H locs hf => ?_)
      have hf : Fr G (va_A (wM G ad μ0) s.heap.size) s (wM G ad q14.2) H locs := hf
      obtain ⟨q16, h17, hF⟩ := Option.bind_eq_some_iff.mp hF
      refine g_cv0 (o := some (.int q16.1)) (As := [.int q14.1]) (rest := []) (st1 := [.int q16.1]) (ci := 4) S hf (c_X4_orNone l G ad q14.2 q14.1 q16 h17) (cwV 1 hts gX4_dies_X4_orNone rfl rfl rfl (by decide +kernel) ⟨Nat.le_of_ble_eq_true rfl, Nat.le_of_ble_eq_true rfl⟩) rfl rfl rfl 0 rfl rfl hl.1 rfl rfl (Nat.le_of_ble_eq_true rfl) ⟨Nat.zero_le _, Nat.zero_le _⟩ dX4_dies_71 (fun H locs hf => ?_)
      have hf : Fr G (va_A (wM G ad μ0) s.heap.size) s (wM G ad q16.2) H locs := hf
      have hE := Option.some.inj hF
      have hV := congrArg (fun z : Int32 × K2 => z.1) hE
      have hW := congrArg (fun z : Int32 × K2 => wM G ad z.2) hE
      exact g_iret S hr hlocks hf hV hW dX4_dies_74
  have hL28 : ∀ (n : Nat) (μ : K2) (x1 : Int32) (x2 : Int32)  (H : Heap) (locs : List Loc) (ls : Array Slot), f_X4_dies_L28 n μ x1 x2 = some q → Fr G (va_A (wM G ad μ0) s.heap.size) s (wM G ad μ) H locs → lv_has ls 3 [(0, .ref (ad 0)), (1, .int x1), (2, .int x2)] → W p l e ({ frames := 8, cells := 0, slots := 0, locals := 175 } : Room) s m ([.ref (ad 0), .int a1] : List Value).toArray below meth c H locs 0 0 (MQ below (CPost G (wM G ad μ0) s.heap.size (some (.int q.1)) (wM G ad q.2)) ([.ref (ad 0), .int a1] : List Value).toArray s 0 0 (va_A (wM G ad μ0) s.heap.size)) (F0 m 28 ls []) := by
    intro n
    induction n with
    | zero =>
      intro μ x1 x2 H locs ls hF hf hl
      exact absurd hF (by simp [f_X4_dies_L28])
    | succ n ih28 =>
      intro μ x1 x2 H locs ls hF hf hl
      rw [f_X4_dies_L28] at hF
      refine lv_iload_n hx hb dX4_dies_28 rfl (lv_at hl 2 rfl) ?_
      refine lv_sipush (v := 200) hx hb dX4_dies_29 (by decide) ?_
      refine lv_icmp_ge (tgt := 53) hx hb dX4_dies_32 (by decide) (fun c6 => ?_) (fun c6 => ?_)
      · replace hF := (if_pos c6).symm.trans hF
        exact hL53 μ x1 x2 _ _ _ hF hf (lv_sub hl [0, 1, 2] rfl)
      · replace hF := (if_neg c6).symm.trans hF
        refine lv_aload_n hx hb dX4_dies_35 rfl (lv_at hl 0 rfl) ?_
        refine lv_iload_n hx hb dX4_dies_36 rfl (lv_at hl 1 rfl) ?_
        obtain ⟨q18, h19, hF⟩ := Option.bind_eq_some_iff.mp hF
        refine g_cv0 (o := some (.int q18)) (As := [.int x1]) (rest := []) (st1 := [.int q18]) (ci := 4) S hf (c_X4_isDead l G ad μ x1 q18 h19) (cwV 1 hts gX4_dies_X4_isDead rfl rfl rfl (by decide +kernel) ⟨Nat.le_of_ble_eq_true rfl, Nat.le_of_ble_eq_true rfl⟩) rfl rfl rfl 0 rfl rfl hl.1 rfl rfl (Nat.le_of_ble_eq_true rfl) ⟨Nat.zero_le _, Nat.zero_le _⟩ dX4_dies_37 (fun H locs hf => ?_)
        have hf : Fr G (va_A (wM G ad μ0) s.heap.size) s (wM G ad μ) H locs := hf
        refine lv_if_ne (tgt := 53) hx hb dX4_dies_40 (by decide) (fun c20 => ?_) (fun c20 => ?_)
        · replace hF := (if_neg c20).symm.trans hF
          exact hL53 μ x1 x2 _ _ _ hF hf (lv_sub hl [0, 1, 2] rfl)
        · replace hF := (if_pos c20).symm.trans hF
          refine lv_aload_n hx hb dX4_dies_43 rfl (lv_at hl 0 rfl) ?_
          obtain ⟨q21, h22, hF⟩ := Option.bind_eq_some_iff.mp hF
          refine g_cv0 (o := none) (As := []) (rest := []) (st1 := []) (ci := 4) S hf (c_X4_day l G ad μ q21 h22) (cwV 0 hts gX4_dies_X4_day rfl rfl rfl (by decide +kernel) ⟨Nat.le_of_ble_eq_true rfl, Nat.le_of_ble_eq_true rfl⟩) rfl rfl rfl 0 rfl rfl hl.1 rfl rfl (Nat.le_of_ble_eq_true rfl) ⟨Nat.zero_le _, Nat.zero_le _⟩ dX4_dies_44 (fun H locs hf => ?_)
          have hf : Fr G (va_A (wM G ad μ0) s.heap.size) s (wM G ad q21) H locs := hf
          refine lv_iinc (v := x2 + 1) (lv' := [(2, .int (x2 + 1)), (0, .ref (ad 0)), (1, .int x1)]) hx hb dX4_dies_47 hl (k := 2) rfl rfl (by decide) rfl (fun ls hl => ?_)
          refine lv_goto (tgt := 28) hx hb dX4_dies_50 (by decide) ?_
          exact ih28 q21 x1 (x2 + 1) _ _ _ hF hf (lv_sub hl [1, 2, 0] rfl)
  unfold f_X4_dies at hF
  refine lv_aload_n hx hb dX4_dies_0 rfl (lv_at hl 0 rfl) ?_
  refine lv_iload_n hx hb dX4_dies_1 rfl (lv_at hl 1 rfl) ?_
  obtain ⟨q1, h2, hF⟩ := Option.bind_eq_some_iff.mp hF
  refine g_cv0 (o := some (.int q1)) (As := [.int a1]) (rest := []) (st1 := [.int q1]) (ci := 4) S hf (c_X4_isBird l G ad μ0 a1 q1 h2) (cwV 1 hts gX4_dies_X4_isBird rfl rfl rfl (by decide +kernel) ⟨Nat.le_of_ble_eq_true rfl, Nat.le_of_ble_eq_true rfl⟩) rfl rfl rfl 0 rfl rfl hl.1 rfl rfl (Nat.le_of_ble_eq_true rfl) ⟨Nat.zero_le _, Nat.zero_le _⟩ dX4_dies_2 (fun H locs hf => ?_)
  have hf : Fr G (va_A (wM G ad μ0) s.heap.size) s (wM G ad μ0) H locs := hf
  refine lv_if_ne (tgt := 15) hx hb dX4_dies_5 (by decide) (fun c3 => ?_) (fun c3 => ?_)
  · replace hF := (if_neg c3).symm.trans hF
    refine lv_aload_n hx hb dX4_dies_15 rfl (lv_at hl 0 rfl) ?_
    refine g_get (ci := 4) (C := RX4) (T := TX4) (N := 21) (v := .ref (ad 1)) S hf hinX4 0 rfl rfl 0 (by decide) k9 rfl rfl dX4_dies_16 ?_
    refine lv_aload_n hx hb dX4_dies_19 rfl (lv_at hl 0 rfl) ?_
    refine g_get (ci := 4) (C := RX4) (T := TX4) (N := 21) (v := .ref (ad 3)) S hf hinX4 0 rfl rfl 2 (by decide) k16 rfl rfl dX4_dies_20 ?_
    obtain ⟨q4, h5, hF⟩ := Option.bind_eq_some_iff.mp hF
    refine g_cs (o := none) (As := [.ref (ad 1), .ref (ad 3)]) (rest := []) (st1 := []) (a := List.take 2 (wM G ad μ0)) (b := List.drop 4 (wM G ad μ0)) S hf (c_X4_copyRow l G (ad 1) (ad 3) (μ0 0) (μ0 2) q4 h5) (va_cwS 2 hts gX4_dies_X4_copyRow rfl rfl rfl (by decide +kernel) ⟨Nat.le_of_ble_eq_true rfl, Nat.le_of_ble_eq_true rfl⟩) rfl rfl rfl hl.1 rfl rfl (Nat.le_of_ble_eq_true rfl) ⟨Nat.zero_le _, Nat.zero_le _⟩ dX4_dies_23 (fun H locs hf => ?_)
    have hf : Fr G (va_A (wM G ad μ0) s.heap.size) s (wM G ad (va_up μ0 2 q4)) H locs := hf
    refine lv_iconst (v := 0) hx hb dX4_dies_26 (by decide) ?_
    refine lv_istore_n (lv' := [(2, .int 0), (0, .ref (ad 0)), (1, .int a1)]) hx hb dX4_dies_27 rfl hl (by decide) rfl (fun ls hl => ?_)
    exact hL28 1000 (va_up μ0 2 q4) a1 0 _ _ _ hF hf (lv_sub hl [1, 2, 0] rfl)
  · replace hF := (if_pos c3).symm.trans hF
    refine lv_aload_n hx hb dX4_dies_8 rfl (lv_at hl 0 rfl) ?_
    refine lv_ldc (v := -1000001) hx hb hown (hts _ kc63) dX4_dies_9 ?_
    obtain ⟨q23, h24, hF⟩ := Option.bind_eq_some_iff.mp hF
    refine g_cv0 (o := some (.int q23.1)) (As := [.int (-1000001)]) (rest := []) (st1 := [.int q23.1]) (ci := 4) S hf (c_X4_finding l G ad μ0 (-1000001) q23 h24) (cwV 1 hts gX4_dies_X4_finding rfl rfl rfl (by decide +kernel) ⟨Nat.le_of_ble_eq_true rfl, Nat.le_of_ble_eq_true rfl⟩) rfl rfl rfl 0 rfl rfl hl.1 rfl rfl (Nat.le_of_ble_eq_true rfl) ⟨Nat.zero_le _, Nat.zero_le _⟩ dX4_dies_11 (fun H locs hf => ?_)
    have hf : Fr G (va_A (wM G ad μ0) s.heap.size) s (wM G ad q23.2) H locs := hf
    have hE := Option.some.inj hF
    have hV := congrArg (fun z : Int32 × K2 => z.1) hE
    have hW := congrArg (fun z : Int32 × K2 => wM G ad z.2) hE
    exact g_iret S hr hlocks hf hV hW dX4_dies_14
def f_X4_fails_B39 (μ : K2) (x1 : Int32) : Option (Int32 × K2) := Option.bind (f_X4_sumOf μ 7) (fun q4 => if q4 = 0 then (Option.bind (f_X4_putBack μ (-1)) (fun q11 => Option.bind (f_X4_orNone q11.2 q11.1) (fun q13 => some (q13.1, q13.2)))) else (Option.bind (f_X4_putBack μ x1) (fun q7 => Option.bind (f_X4_orNone q7.2 q7.1) (fun q9 => some (q9.1, q9.2)))))
def f_X4_fails_L13 : Nat → K2 → Int32 → Option (Int32 × K2)
  | 0, _, _ => none
  | n + 1, μ, x1 => if 200 ≤ x1 then (f_X4_fails_B39 μ x1) else (Option.bind (f_X4_sumOf μ 7) (fun q15 => if q15 = 0 then (Option.bind (f_X4_day μ) (fun q18 => f_X4_fails_L13 n q18 (x1 + 1))) else (f_X4_fails_B39 μ x1)))
def f_X4_fails (μ0 : K2) : Option (Int32 × K2) := Option.bind (f_X4_copyRow (μ0 0) (μ0 2)) (fun q1 => f_X4_fails_L13 1000 (va_up μ0 2 q1) 0)
set_option maxHeartbeats 4000000 in
set_option maxRecDepth 100000 in
theorem c_X4_fails (l : Launch) (G : GT) (ad : Nat → Nat) (μ0 : K2) (q : Int32 × K2) (hF : f_X4_fails μ0 = some q) : Ct l G yX4_fails wsX4_fails ({ frames := 8, cells := 0, slots := 0, locals := 175 } : Room) ([.ref (ad 0)] : List Value) (wM G ad μ0) (some (.int q.1)) (wM G ad q.2) := by
  have k9 : Cond.fieldLink RX4 9 "PigeonRollsModel" "now" "[I" ∈ wsX4_fails := by decide +kernel
  have k16 : Cond.fieldLink RX4 16 "PigeonRollsModel" "aside" "[I" ∈ wsX4_fails := by decide +kernel
  have hinX4 : ∀ w ∈ u_ws RX4 TX4 21, w ∈ wsX4_fails := by decide +kernel
  refine Ct.of cX4_fails 2 (some .int) (by decide) rfl (Nat.le_of_ble_eq_true rfl) ?_
  intro p e s m below meth c ls S hr hlocks hf hl
  have S : CallFix p m c cX4_fails 2 s ([.ref (ad 0)] : List Value).toArray wsX4_fails RX4 := S
  obtain ⟨hx, hb, hml, hown, hts⟩ := id S
  have hl : lv_has ls 2 [(0, .ref (ad 0))] := hl
  have hL39 : ∀ (μ : K2) (x1 : Int32)  (H : Heap) (locs : List Loc) (ls : Array Slot), f_X4_fails_B39 μ x1 = some q → Fr G (va_A (wM G ad μ0) s.heap.size) s (wM G ad μ) H locs → lv_has ls 2 [(0, .ref (ad 0)), (1, .int x1)] → W p l e ({ frames := 8, cells := 0, slots := 0, locals := 175 } : Room) s m ([.ref (ad 0)] : List Value).toArray below meth c H locs 0 0 (MQ below (CPost G (wM G ad μ0) s.heap.size (some (.int q.1)) (wM G ad q.2)) ([.ref (ad 0)] : List Value).toArray s 0 0 (va_A (wM G ad μ0) s.heap.size)) (F0 m 39 ls []) := by
    intro μ x1 H locs ls hF hf hl
    unfold f_X4_fails_B39 at hF
    refine lv_aload_n hx hb dX4_fails_39 rfl (lv_at hl 0 rfl) ?_
    refine lv_aload_n hx hb dX4_fails_40 rfl (lv_at hl 0 rfl) ?_
    refine lv_aload_n hx hb dX4_fails_41 rfl (lv_at hl 0 rfl) ?_
    refine lv_bipush (v := 7) hx hb dX4_fails_42 (by decide) ?_
    obtain ⟨q4, h5, hF⟩ := Option.bind_eq_some_iff.mp hF
    refine g_cv0 (o := some (.int q4)) (As := [.int 7]) (rest := [.ref (ad 0), .ref (ad 0)]) (st1 := [.int q4, .ref (ad 0), .ref (ad 0)]) (ci := 4) S hf (c_X4_sumOf l G ad μ 7 q4 h5) (cwV 1 hts gX4_fails_X4_sumOf rfl rfl rfl (by decide +kernel) ⟨Nat.le_of_ble_eq_true rfl, Nat.le_of_ble_eq_true rfl⟩) rfl rfl rfl 0 rfl rfl hl.1 rfl rfl (Nat.le_of_ble_eq_true rfl) ⟨Nat.zero_le _, Nat.zero_le _⟩ dX4_fails_44 (fun H locs hf => ?_)
    have hf : Fr G (va_A (wM G ad μ0) s.heap.size) s (wM G ad μ) H locs := hf
    refine lv_if_ne (tgt := 54) hx hb dX4_fails_47 (by decide) (fun c6 => ?_) (fun c6 => ?_)
    · replace hF := (if_neg c6).symm.trans hF
      refine lv_iload_n hx hb dX4_fails_54 rfl (lv_at hl 1 rfl) ?_
      obtain ⟨q7, h8, hF⟩ := Option.bind_eq_some_iff.mp hF
      refine g_cv0 (o := some (.int q7.1)) (As := [.int x1]) (rest := [.ref (ad 0)]) (st1 := [.int q7.1, .ref (ad 0)]) (ci := 4) S hf (c_X4_putBack l G ad μ x1 q7 h8) (cwV 1 hts gX4_fails_X4_putBack rfl rfl rfl (by decide +kernel) ⟨Nat.le_of_ble_eq_true rfl, Nat.le_of_ble_eq_true rfl⟩) rfl rfl rfl 0 rfl rfl hl.1 rfl rfl (Nat.le_of_ble_eq_true rfl) ⟨Nat.zero_le _, Nat.zero_le _⟩ dX4_fails_55 (fun H locs hf => ?_)
      have hf : Fr G (va_A (wM G ad μ0) s.heap.size) s (wM G ad q7.2) H locs := hf
      obtain ⟨q9, h10, hF⟩ := Option.bind_eq_some_iff.mp hF
      refine g_cv0 (o := some (.int q9.1)) (As := [.int q7.1]) (rest := []) (st1 := [.int q9.1]) (ci := 4) S hf (c_X4_orNone l G ad q7.2 q7.1 q9 h10) (cwV 1 hts gX4_fails_X4_orNone rfl rfl rfl (by decide +kernel) ⟨Nat.le_of_ble_eq_true rfl, Nat.le_of_ble_eq_true rfl⟩) rfl rfl rfl 0 rfl rfl hl.1 rfl rfl (Nat.le_of_ble_eq_true rfl) ⟨Nat.zero_le _, Nat.zero_le _⟩ dX4_fails_58 (fun H locs hf => ?_)
      have hf : Fr G (va_A (wM G ad μ0) s.heap.size) s (wM G ad q9.2) H locs := hf
      have hE := Option.some.inj hF
      have hV := congrArg (fun z : Int32 × K2 => z.1) hE
      have hW := congrArg (fun z : Int32 × K2 => wM G ad z.2) hE
      exact g_iret S hr hlocks hf hV hW dX4_fails_61
    · replace hF := (if_pos c6).symm.trans hF
      refine lv_iconst (v := -1) hx hb dX4_fails_50 (by decide) ?_
      refine lv_goto (tgt := 55) hx hb dX4_fails_51 (by decide) ?_
      obtain ⟨q11, h12, hF⟩ := Option.bind_eq_some_iff.mp hF
      refine g_cv0 (o := some (.int q11.1)) (As := [.int (-1)]) (rest := [.ref (ad 0)]) (st1 := [.int q11.1, .ref (ad 0)]) (ci := 4) S hf (c_X4_putBack l G ad μ (-1) q11 h12) (cwV 1 hts gX4_fails_X4_putBack rfl rfl rfl (by decide +kernel) ⟨Nat.le_of_ble_eq_true rfl, Nat.le_of_ble_eq_true rfl⟩) rfl rfl rfl 0 rfl rfl hl.1 rfl rfl (Nat.le_of_ble_eq_true rfl) ⟨Nat.zero_le _, Nat.zero_le _⟩ dX4_fails_55 (fun H locs hf => ?_)
      have hf : Fr G (va_A (wM G ad μ0) s.heap.size) s (wM G ad q11.2) H locs := hf
      obtain ⟨q13, h14, hF⟩ := Option.bind_eq_some_iff.mp hF
      refine g_cv0 (o := some (.int q13.1)) (As := [.int q11.1]) (rest := []) (st1 := [.int q13.1]) (ci := 4) S hf (c_X4_orNone l G ad q11.2 q11.1 q13 h14) (cwV 1 hts gX4_fails_X4_orNone rfl rfl rfl (by decide +kernel) ⟨Nat.le_of_ble_eq_true rfl, Nat.le_of_ble_eq_true rfl⟩) rfl rfl rfl 0 rfl rfl hl.1 rfl rfl (Nat.le_of_ble_eq_true rfl) ⟨Nat.zero_le _, Nat.zero_le _⟩ dX4_fails_58 (fun H locs hf => ?_)
      have hf : Fr G (va_A (wM G ad μ0) s.heap.size) s (wM G ad q13.2) H locs := hf
      have hE := Option.some.inj hF
      have hV := congrArg (fun z : Int32 × K2 => z.1) hE
      have hW := congrArg (fun z : Int32 × K2 => wM G ad z.2) hE
      exact g_iret S hr hlocks hf hV hW dX4_fails_61
  have hL13 : ∀ (n : Nat) (μ : K2) (x1 : Int32)  (H : Heap) (locs : List Loc) (ls : Array Slot), f_X4_fails_L13 n μ x1 = some q → Fr G (va_A (wM G ad μ0) s.heap.size) s (wM G ad μ) H locs → lv_has ls 2 [(0, .ref (ad 0)), (1, .int x1)] → W p l e ({ frames := 8, cells := 0, slots := 0, locals := 175 } : Room) s m ([.ref (ad 0)] : List Value).toArray below meth c H locs 0 0 (MQ below (CPost G (wM G ad μ0) s.heap.size (some (.int q.1)) (wM G ad q.2)) ([.ref (ad 0)] : List Value).toArray s 0 0 (va_A (wM G ad μ0) s.heap.size)) (F0 m 13 ls []) := by
    intro n
    induction n with
    | zero =>
      intro μ x1 H locs ls hF hf hl
      exact absurd hF (by simp [f_X4_fails_L13])
    | succ n ih13 =>
      intro μ x1 H locs ls hF hf hl
      rw [f_X4_fails_L13] at hF
      refine lv_iload_n hx hb dX4_fails_13 rfl (lv_at hl 1 rfl) ?_
      refine lv_sipush (v := 200) hx hb dX4_fails_14 (by decide) ?_
      refine lv_icmp_ge (tgt := 39) hx hb dX4_fails_17 (by decide) (fun c3 => ?_) (fun c3 => ?_)
      · replace hF := (if_pos c3).symm.trans hF
        exact hL39 μ x1 _ _ _ hF hf (lv_sub hl [0, 1] rfl)
      · replace hF := (if_neg c3).symm.trans hF
        refine lv_aload_n hx hb dX4_fails_20 rfl (lv_at hl 0 rfl) ?_
        refine lv_bipush (v := 7) hx hb dX4_fails_21 (by decide) ?_
        obtain ⟨q15, h16, hF⟩ := Option.bind_eq_some_iff.mp hF
        refine g_cv0 (o := some (.int q15)) (As := [.int 7]) (rest := []) (st1 := [.int q15]) (ci := 4) S hf (c_X4_sumOf l G ad μ 7 q15 h16) (cwV 1 hts gX4_fails_X4_sumOf rfl rfl rfl (by decide +kernel) ⟨Nat.le_of_ble_eq_true rfl, Nat.le_of_ble_eq_true rfl⟩) rfl rfl rfl 0 rfl rfl hl.1 rfl rfl (Nat.le_of_ble_eq_true rfl) ⟨Nat.zero_le _, Nat.zero_le _⟩ dX4_fails_23 (fun H locs hf => ?_)
        have hf : Fr G (va_A (wM G ad μ0) s.heap.size) s (wM G ad μ) H locs := hf
        refine lv_if_ne (tgt := 39) hx hb dX4_fails_26 (by decide) (fun c17 => ?_) (fun c17 => ?_)
        · replace hF := (if_neg c17).symm.trans hF
          exact hL39 μ x1 _ _ _ hF hf (lv_sub hl [0, 1] rfl)
        · replace hF := (if_pos c17).symm.trans hF
          refine lv_aload_n hx hb dX4_fails_29 rfl (lv_at hl 0 rfl) ?_
          obtain ⟨q18, h19, hF⟩ := Option.bind_eq_some_iff.mp hF
          refine g_cv0 (o := none) (As := []) (rest := []) (st1 := []) (ci := 4) S hf (c_X4_day l G ad μ q18 h19) (cwV 0 hts gX4_fails_X4_day rfl rfl rfl (by decide +kernel) ⟨Nat.le_of_ble_eq_true rfl, Nat.le_of_ble_eq_true rfl⟩) rfl rfl rfl 0 rfl rfl hl.1 rfl rfl (Nat.le_of_ble_eq_true rfl) ⟨Nat.zero_le _, Nat.zero_le _⟩ dX4_fails_30 (fun H locs hf => ?_)
          have hf : Fr G (va_A (wM G ad μ0) s.heap.size) s (wM G ad q18) H locs := hf
          refine lv_iinc (v := x1 + 1) (lv' := [(1, .int (x1 + 1)), (0, .ref (ad 0))]) hx hb dX4_fails_33 hl (k := 1) rfl rfl (by decide) rfl (fun ls hl => ?_)
          refine lv_goto (tgt := 13) hx hb dX4_fails_36 (by decide) ?_
          exact ih13 q18 (x1 + 1) _ _ _ hF hf (lv_sub hl [1, 0] rfl)
  unfold f_X4_fails at hF
  refine lv_aload_n hx hb dX4_fails_0 rfl (lv_at hl 0 rfl) ?_
  refine g_get (ci := 4) (C := RX4) (T := TX4) (N := 21) (v := .ref (ad 1)) S hf hinX4 0 rfl rfl 0 (by decide) k9 rfl rfl dX4_fails_1 ?_
  refine lv_aload_n hx hb dX4_fails_4 rfl (lv_at hl 0 rfl) ?_
  refine g_get (ci := 4) (C := RX4) (T := TX4) (N := 21) (v := .ref (ad 3)) S hf hinX4 0 rfl rfl 2 (by decide) k16 rfl rfl dX4_fails_5 ?_
  obtain ⟨q1, h2, hF⟩ := Option.bind_eq_some_iff.mp hF
  refine g_cs (o := none) (As := [.ref (ad 1), .ref (ad 3)]) (rest := []) (st1 := []) (a := List.take 2 (wM G ad μ0)) (b := List.drop 4 (wM G ad μ0)) S hf (c_X4_copyRow l G (ad 1) (ad 3) (μ0 0) (μ0 2) q1 h2) (va_cwS 2 hts gX4_fails_X4_copyRow rfl rfl rfl (by decide +kernel) ⟨Nat.le_of_ble_eq_true rfl, Nat.le_of_ble_eq_true rfl⟩) rfl rfl rfl hl.1 rfl rfl (Nat.le_of_ble_eq_true rfl) ⟨Nat.zero_le _, Nat.zero_le _⟩ dX4_fails_8 (fun H locs hf => ?_)
  have hf : Fr G (va_A (wM G ad μ0) s.heap.size) s (wM G ad (va_up μ0 2 q1)) H locs := hf
  refine lv_iconst (v := 0) hx hb dX4_fails_11 (by decide) ?_
  refine lv_istore_n (lv' := [(1, .int 0), (0, .ref (ad 0))]) hx hb dX4_fails_12 rfl hl (by decide) rfl (fun ls hl => ?_)
  exact hL13 1000 (va_up μ0 2 q1) 0 _ _ _ hF hf (lv_sub hl [1, 0] rfl)
def f_X4_when_B67 (μ : K2) (x1 : Int32) (x2 : Int32) (x3 : Int32) : Option (Int32 × K2) := Option.bind (f_X4_birdIs μ x1 8) (fun q12 => if x2 ≤ q12 then (Option.bind (f_X4_putBack μ x3) (fun q15 => Option.bind (f_X4_orNone q15.2 q15.1) (fun q17 => some (q17.1, q17.2)))) else (Option.bind (f_X4_putBack μ (-1)) (fun q19 => Option.bind (f_X4_orNone q19.2 q19.1) (fun q21 => some (q21.1, q21.2)))))
def f_X4_when_L39 : Nat → K2 → Int32 → Int32 → Int32 → Option (Int32 × K2)
  | 0, _, _, _, _ => none
  | n + 1, μ, x1, x2, x3 => if 200 ≤ x3 then (f_X4_when_B67 μ x1 x2 x3) else (Option.bind (f_X4_birdIs μ x1 8) (fun q23 => if x2 ≤ q23 then (f_X4_when_B67 μ x1 x2 x3) else (Option.bind (f_X4_day μ) (fun q26 => f_X4_when_L39 n q26 x1 x2 (x3 + 1)))))
def f_X4_when (μ0 : K2) (a1 : Int32) (a2 : Int32) : Option (Int32 × K2) := Option.bind (f_X4_isBird μ0 a1) (fun q1 => if q1 = 0 then (Option.bind (f_X4_finding μ0 (-1000001)) (fun q4 => some (q4.1, q4.2))) else (Option.bind (f_X4_within a2 0 9999) (fun q6 => if q6 = 0 then (Option.bind (f_X4_finding μ0 (-1000001)) (fun q28 => some (q28.1, q28.2))) else (Option.bind (f_X4_copyRow (μ0 0) (μ0 2)) (fun q9 => f_X4_when_L39 1000 (va_up μ0 2 q9) a1 a2 0)))))
set_option maxHeartbeats 4000000 in
set_option maxRecDepth 100000 in
theorem c_X4_when (l : Launch) (G : GT) (ad : Nat → Nat) (μ0 : K2) (a1 : Int32) (a2 : Int32) (q : Int32 × K2) (hF : f_X4_when μ0 a1 a2 = some q) : Ct l G yX4_when wsX4_when ({ frames := 8, cells := 0, slots := 0, locals := 175 } : Room) ([.ref (ad 0), .int a1, .int a2] : List Value) (wM G ad μ0) (some (.int q.1)) (wM G ad q.2) := by
  have kc63 : Cond.constant RX4 63 (-1000001) ∈ wsX4_when := by decide +kernel
  have k9 : Cond.fieldLink RX4 9 "PigeonRollsModel" "now" "[I" ∈ wsX4_when := by decide +kernel
  have k16 : Cond.fieldLink RX4 16 "PigeonRollsModel" "aside" "[I" ∈ wsX4_when := by decide +kernel
  have hinX4 : ∀ w ∈ u_ws RX4 TX4 21, w ∈ wsX4_when := by decide +kernel
  refine Ct.of cX4_when 4 (some .int) (by decide) rfl (Nat.le_of_ble_eq_true rfl) ?_
  intro p e s m below meth c ls S hr hlocks hf hl
  have S : CallFix p m c cX4_when 4 s ([.ref (ad 0), .int a1, .int a2] : List Value).toArray wsX4_when RX4 := S
  obtain ⟨hx, hb, hml, hown, hts⟩ := id S
  have hl : lv_has ls 4 [(0, .ref (ad 0)), (1, .int a1), (2, .int a2)] := hl
  have hL67 : ∀ (μ : K2) (x1 : Int32) (x2 : Int32) (x3 : Int32)  (H : Heap) (locs : List Loc) (ls : Array Slot), f_X4_when_B67 μ x1 x2 x3 = some q → Fr G (va_A (wM G ad μ0) s.heap.size) s (wM G ad μ) H locs → lv_has ls 4 [(0, .ref (ad 0)), (1, .int x1), (2, .int x2), (3, .int x3)] → W p l e ({ frames := 8, cells := 0, slots := 0, locals := 175 } : Room) s m ([.ref (ad 0), .int a1, .int a2] : List Value).toArray below meth c H locs 0 0 (MQ below (CPost G (wM G ad μ0) s.heap.size (some (.int q.1)) (wM G ad q.2)) ([.ref (ad 0), .int a1, .int a2] : List Value).toArray s 0 0 (va_A (wM G ad μ0) s.heap.size)) (F0 m 67 ls []) := by
    intro μ x1 x2 x3 H locs ls hF hf hl
    unfold f_X4_when_B67 at hF
    refine lv_aload_n hx hb dX4_when_67 rfl (lv_at hl 0 rfl) ?_
    refine lv_aload_n hx hb dX4_when_68 rfl (lv_at hl 0 rfl) ?_
    refine lv_aload_n hx hb dX4_when_69 rfl (lv_at hl 0 rfl) ?_
    refine lv_iload_n hx hb dX4_when_70 rfl (lv_at hl 1 rfl) ?_
    refine lv_bipush (v := 8) hx hb dX4_when_71 (by decide) ?_
    obtain ⟨q12, h13, hF⟩ := Option.bind_eq_some_iff.mp hF
    refine g_cv0 (o := some (.int q12)) (As := [.int x1, .int 8]) (rest := [.ref (ad 0), .ref (ad 0)]) (st1 := [.int q12, .ref (ad 0), .ref (ad 0)]) (ci := 4) S hf (c_X4_birdIs l G ad μ x1 8 q12 h13) (cwV 2 hts gX4_when_X4_birdIs rfl rfl rfl (by decide +kernel) ⟨Nat.le_of_ble_eq_true rfl, Nat.le_of_ble_eq_true rfl⟩) rfl rfl rfl 0 rfl rfl hl.1 rfl rfl (Nat.le_of_ble_eq_true rfl) ⟨Nat.zero_le _, Nat.zero_le _⟩ dX4_when_73 (fun H locs hf => ?_)
    have hf : Fr G (va_A (wM G ad μ0) s.heap.size) s (wM G ad μ) H locs := hf
    refine lv_iload_n hx hb dX4_when_76 rfl (lv_at hl 2 rfl) ?_
    refine lv_icmp_ge (tgt := 84) hx hb dX4_when_77 (by decide) (fun c14 => ?_) (fun c14 => ?_)
    · replace hF := (if_pos c14).symm.trans hF
      refine lv_iload_n hx hb dX4_when_84 rfl (lv_at hl 3 rfl) ?_
      obtain ⟨q15, h16, hF⟩ := Option.bind_eq_some_iff.mp hF
      refine g_cv0 (o := some (.int q15.1)) (As := [.int x3]) (rest := [.ref (ad 0)]) (st1 := [.int q15.1, .ref (ad 0)]) (ci := 4) S hf (c_X4_putBack l G ad μ x3 q15 h16) (cwV 1 hts gX4_when_X4_putBack rfl rfl rfl (by decide +kernel) ⟨Nat.le_of_ble_eq_true rfl, Nat.le_of_ble_eq_true rfl⟩) rfl rfl rfl 0 rfl rfl hl.1 rfl rfl (Nat.le_of_ble_eq_true rfl) ⟨Nat.zero_le _, Nat.zero_le _⟩ dX4_when_85 (fun H locs hf => ?_)
      have hf : Fr G (va_A (wM G ad μ0) s.heap.size) s (wM G ad q15.2) H locs := hf
      obtain ⟨q17, h18, hF⟩ := Option.bind_eq_some_iff.mp hF
      refine g_cv0 (o := some (.int q17.1)) (As := [.int q15.1]) (rest := []) (st1 := [.int q17.1]) (ci := 4) S hf (c_X4_orNone l G ad q15.2 q15.1 q17 h18) (cwV 1 hts gX4_when_X4_orNone rfl rfl rfl (by decide +kernel) ⟨Nat.le_of_ble_eq_true rfl, Nat.le_of_ble_eq_true rfl⟩) rfl rfl rfl 0 rfl rfl hl.1 rfl rfl (Nat.le_of_ble_eq_true rfl) ⟨Nat.zero_le _, Nat.zero_le _⟩ dX4_when_88 (fun H locs hf => ?_)
      have hf : Fr G (va_A (wM G ad μ0) s.heap.size) s (wM G ad q17.2) H locs := hf
      have hE := Option.some.inj hF
      have hV := congrArg (fun z : Int32 × K2 => z.1) hE
      have hW := congrArg (fun z : Int32 × K2 => wM G ad z.2) hE
      exact g_iret S hr hlocks hf hV hW dX4_when_91
    · replace hF := (if_neg c14).symm.trans hF
      refine lv_iconst (v := -1) hx hb dX4_when_80 (by decide) ?_
      refine lv_goto (tgt := 85) hx hb dX4_when_81 (by decide) ?_
      obtain ⟨q19, h20, hF⟩ := Option.bind_eq_some_iff.mp hF
      refine g_cv0 (o := some (.int q19.1)) (As := [.int (-1)]) (rest := [.ref (ad 0)]) (st1 := [.int q19.1, .ref (ad 0)]) (ci := 4) S hf (c_X4_putBack l G ad μ (-1) q19 h20) (cwV 1 hts gX4_when_X4_putBack rfl rfl rfl (by decide +kernel) ⟨Nat.le_of_ble_eq_true rfl, Nat.le_of_ble_eq_true rfl⟩) rfl rfl rfl 0 rfl rfl hl.1 rfl rfl (Nat.le_of_ble_eq_true rfl) ⟨Nat.zero_le _, Nat.zero_le _⟩ dX4_when_85 (fun H locs hf => ?_)
      have hf : Fr G (va_A (wM G ad μ0) s.heap.size) s (wM G ad q19.2) H locs := hf
      obtain ⟨q21, h22, hF⟩ := Option.bind_eq_some_iff.mp hF
      refine g_cv0 (o := some (.int q21.1)) (As := [.int q19.1]) (rest := []) (st1 := [.int q21.1]) (ci := 4) S hf (c_X4_orNone l G ad q19.2 q19.1 q21 h22) (cwV 1 hts gX4_when_X4_orNone rfl rfl rfl (by decide +kernel) ⟨Nat.le_of_ble_eq_true rfl, Nat.le_of_ble_eq_true rfl⟩) rfl rfl rfl 0 rfl rfl hl.1 rfl rfl (Nat.le_of_ble_eq_true rfl) ⟨Nat.zero_le _, Nat.zero_le _⟩ dX4_when_88 (fun H locs hf => ?_)
      have hf : Fr G (va_A (wM G ad μ0) s.heap.size) s (wM G ad q21.2) H locs := hf
      have hE := Option.some.inj hF
      have hV := congrArg (fun z : Int32 × K2 => z.1) hE
      have hW := congrArg (fun z : Int32 × K2 => wM G ad z.2) hE
      exact g_iret S hr hlocks hf hV hW dX4_when_91
  have hL39 : ∀ (n : Nat) (μ : K2) (x1 : Int32) (x2 : Int32) (x3 : Int32)  (H : Heap) (locs : List Loc) (ls : Array Slot), f_X4_when_L39 n μ x1 x2 x3 = some q → Fr G (va_A (wM G ad μ0) s.heap.size) s (wM G ad μ) H locs → lv_has ls 4 [(0, .ref (ad 0)), (1, .int x1), (2, .int x2), (3, .int x3)] → W p l e ({ frames := 8, cells := 0, slots := 0, locals := 175 } : Room) s m ([.ref (ad 0), .int a1, .int a2] : List Value).toArray below meth c H locs 0 0 (MQ below (CPost G (wM G ad μ0) s.heap.size (some (.int q.1)) (wM G ad q.2)) ([.ref (ad 0), .int a1, .int a2] : List Value).toArray s 0 0 (va_A (wM G ad μ0) s.heap.size)) (F0 m 39 ls []) := by
    intro n
    induction n with
    | zero =>
      intro μ x1 x2 x3 H locs ls hF hf hl
      exact absurd hF (by simp [f_X4_when_L39])
    | succ n ih39 =>
      intro μ x1 x2 x3 H locs ls hF hf hl
      rw [f_X4_when_L39] at hF
      refine lv_iload_n hx hb dX4_when_39 rfl (lv_at hl 3 rfl) ?_
      refine lv_sipush (v := 200) hx hb dX4_when_40 (by decide) ?_
      refine lv_icmp_ge (tgt := 67) hx hb dX4_when_43 (by decide) (fun c11 => ?_) (fun c11 => ?_)
      · replace hF := (if_pos c11).symm.trans hF
        exact hL67 μ x1 x2 x3 _ _ _ hF hf (lv_sub hl [0, 1, 2, 3] rfl)
      · replace hF := (if_neg c11).symm.trans hF
        refine lv_aload_n hx hb dX4_when_46 rfl (lv_at hl 0 rfl) ?_
        refine lv_iload_n hx hb dX4_when_47 rfl (lv_at hl 1 rfl) ?_
        refine lv_bipush (v := 8) hx hb dX4_when_48 (by decide) ?_
        obtain ⟨q23, h24, hF⟩ := Option.bind_eq_some_iff.mp hF
        refine g_cv0 (o := some (.int q23)) (As := [.int x1, .int 8]) (rest := []) (st1 := [.int q23]) (ci := 4) S hf (c_X4_birdIs l G ad μ x1 8 q23 h24) (cwV 2 hts gX4_when_X4_birdIs rfl rfl rfl (by decide +kernel) ⟨Nat.le_of_ble_eq_true rfl, Nat.le_of_ble_eq_true rfl⟩) rfl rfl rfl 0 rfl rfl hl.1 rfl rfl (Nat.le_of_ble_eq_true rfl) ⟨Nat.zero_le _, Nat.zero_le _⟩ dX4_when_50 (fun H locs hf => ?_)
        have hf : Fr G (va_A (wM G ad μ0) s.heap.size) s (wM G ad μ) H locs := hf
        refine lv_iload_n hx hb dX4_when_53 rfl (lv_at hl 2 rfl) ?_
        refine lv_icmp_ge (tgt := 67) hx hb dX4_when_54 (by decide) (fun c25 => ?_) (fun c25 => ?_)
        · replace hF := (if_pos c25).symm.trans hF
          exact hL67 μ x1 x2 x3 _ _ _ hF hf (lv_sub hl [0, 1, 2, 3] rfl)
        · replace hF := (if_neg c25).symm.trans hF
          refine lv_aload_n hx hb dX4_when_57 rfl (lv_at hl 0 rfl) ?_
          obtain ⟨q26, h27, hF⟩ := Option.bind_eq_some_iff.mp hF
          refine g_cv0 (o := none) (As := []) (rest := []) (st1 := []) (ci := 4) S hf (c_X4_day l G ad μ q26 h27) (cwV 0 hts gX4_when_X4_day rfl rfl rfl (by decide +kernel) ⟨Nat.le_of_ble_eq_true rfl, Nat.le_of_ble_eq_true rfl⟩) rfl rfl rfl 0 rfl rfl hl.1 rfl rfl (Nat.le_of_ble_eq_true rfl) ⟨Nat.zero_le _, Nat.zero_le _⟩ dX4_when_58 (fun H locs hf => ?_)
          have hf : Fr G (va_A (wM G ad μ0) s.heap.size) s (wM G ad q26) H locs := hf
          refine lv_iinc (v := x3 + 1) (lv' := [(3, .int (x3 + 1)), (0, .ref (ad 0)), (1, .int x1), (2, .int x2)]) hx hb dX4_when_61 hl (k := 3) rfl rfl (by decide) rfl (fun ls hl => ?_)
          refine lv_goto (tgt := 39) hx hb dX4_when_64 (by decide) ?_
          exact ih39 q26 x1 x2 (x3 + 1) _ _ _ hF hf (lv_sub hl [1, 2, 3, 0] rfl)
  unfold f_X4_when at hF
  refine lv_aload_n hx hb dX4_when_0 rfl (lv_at hl 0 rfl) ?_
  refine lv_iload_n hx hb dX4_when_1 rfl (lv_at hl 1 rfl) ?_
  obtain ⟨q1, h2, hF⟩ := Option.bind_eq_some_iff.mp hF
  refine g_cv0 (o := some (.int q1)) (As := [.int a1]) (rest := []) (st1 := [.int q1]) (ci := 4) S hf (c_X4_isBird l G ad μ0 a1 q1 h2) (cwV 1 hts gX4_when_X4_isBird rfl rfl rfl (by decide +kernel) ⟨Nat.le_of_ble_eq_true rfl, Nat.le_of_ble_eq_true rfl⟩) rfl rfl rfl 0 rfl rfl hl.1 rfl rfl (Nat.le_of_ble_eq_true rfl) ⟨Nat.zero_le _, Nat.zero_le _⟩ dX4_when_2 (fun H locs hf => ?_)
  have hf : Fr G (va_A (wM G ad μ0) s.heap.size) s (wM G ad μ0) H locs := hf
  refine lv_if_eq (tgt := 19) hx hb dX4_when_5 (by decide) (fun c3 => ?_) (fun c3 => ?_)
  · replace hF := (if_pos c3).symm.trans hF
    refine lv_aload_n hx hb dX4_when_19 rfl (lv_at hl 0 rfl) ?_
    refine lv_ldc (v := -1000001) hx hb hown (hts _ kc63) dX4_when_20 ?_
    obtain ⟨q4, h5, hF⟩ := Option.bind_eq_some_iff.mp hF
    refine g_cv0 (o := some (.int q4.1)) (As := [.int (-1000001)]) (rest := []) (st1 := [.int q4.1]) (ci := 4) S hf (c_X4_finding l G ad μ0 (-1000001) q4 h5) (cwV 1 hts gX4_when_X4_finding rfl rfl rfl (by decide +kernel) ⟨Nat.le_of_ble_eq_true rfl, Nat.le_of_ble_eq_true rfl⟩) rfl rfl rfl 0 rfl rfl hl.1 rfl rfl (Nat.le_of_ble_eq_true rfl) ⟨Nat.zero_le _, Nat.zero_le _⟩ dX4_when_22 (fun H locs hf => ?_)
    have hf : Fr G (va_A (wM G ad μ0) s.heap.size) s (wM G ad q4.2) H locs := hf
    have hE := Option.some.inj hF
    have hV := congrArg (fun z : Int32 × K2 => z.1) hE
    have hW := congrArg (fun z : Int32 × K2 => wM G ad z.2) hE
    exact g_iret S hr hlocks hf hV hW dX4_when_25
  · replace hF := (if_neg c3).symm.trans hF
    refine lv_iload_n hx hb dX4_when_8 rfl (lv_at hl 2 rfl) ?_
    refine lv_iconst (v := 0) hx hb dX4_when_9 (by decide) ?_
    refine lv_sipush (v := 9999) hx hb dX4_when_10 (by decide) ?_
    obtain ⟨q6, h7, hF⟩ := Option.bind_eq_some_iff.mp hF
    refine g_cs0 (o := some (.int q6)) (As := [.int a2, .int 0, .int 9999]) (rest := []) (st1 := [.int q6]) S hf (c_X4_within l G  a2 0 9999 q6 h7) (va_cwS 3 hts gX4_when_X4_within rfl rfl rfl (by decide +kernel) ⟨Nat.le_of_ble_eq_true rfl, Nat.le_of_ble_eq_true rfl⟩) rfl hl.1 rfl rfl (Nat.le_of_ble_eq_true rfl) ⟨Nat.zero_le _, Nat.zero_le _⟩ dX4_when_13 (fun H locs hf => ?_)
    refine lv_if_ne (tgt := 26) hx hb dX4_when_16 (by decide) (fun c8 => ?_) (fun c8 => ?_)
    · replace hF := (if_neg c8).symm.trans hF
      refine lv_aload_n hx hb dX4_when_26 rfl (lv_at hl 0 rfl) ?_
      refine g_get (ci := 4) (C := RX4) (T := TX4) (N := 21) (v := .ref (ad 1)) S hf hinX4 0 rfl rfl 0 (by decide) k9 rfl rfl dX4_when_27 ?_
      refine lv_aload_n hx hb dX4_when_30 rfl (lv_at hl 0 rfl) ?_
      refine g_get (ci := 4) (C := RX4) (T := TX4) (N := 21) (v := .ref (ad 3)) S hf hinX4 0 rfl rfl 2 (by decide) k16 rfl rfl dX4_when_31 ?_
      obtain ⟨q9, h10, hF⟩ := Option.bind_eq_some_iff.mp hF
      refine g_cs (o := none) (As := [.ref (ad 1), .ref (ad 3)]) (rest := []) (st1 := []) (a := List.take 2 (wM G ad μ0)) (b := List.drop 4 (wM G ad μ0)) S hf (c_X4_copyRow l G (ad 1) (ad 3) (μ0 0) (μ0 2) q9 h10) (va_cwS 2 hts gX4_when_X4_copyRow rfl rfl rfl (by decide +kernel) ⟨Nat.le_of_ble_eq_true rfl, Nat.le_of_ble_eq_true rfl⟩) rfl rfl rfl hl.1 rfl rfl (Nat.le_of_ble_eq_true rfl) ⟨Nat.zero_le _, Nat.zero_le _⟩ dX4_when_34 (fun H locs hf => ?_)
      have hf : Fr G (va_A (wM G ad μ0) s.heap.size) s (wM G ad (va_up μ0 2 q9)) H locs := hf
      refine lv_iconst (v := 0) hx hb dX4_when_37 (by decide) ?_
      refine lv_istore_n (lv' := [(3, .int 0), (0, .ref (ad 0)), (1, .int a1), (2, .int a2)]) hx hb dX4_when_38 rfl hl (by decide) rfl (fun ls hl => ?_)
      exact hL39 1000 (va_up μ0 2 q9) a1 a2 0 _ _ _ hF hf (lv_sub hl [1, 2, 3, 0] rfl)
    · replace hF := (if_pos c8).symm.trans hF
      refine lv_aload_n hx hb dX4_when_19 rfl (lv_at hl 0 rfl) ?_
      refine lv_ldc (v := -1000001) hx hb hown (hts _ kc63) dX4_when_20 ?_
      obtain ⟨q28, h29, hF⟩ := Option.bind_eq_some_iff.mp hF
      refine g_cv0 (o := some (.int q28.1)) (As := [.int (-1000001)]) (rest := []) (st1 := [.int q28.1]) (ci := 4) S hf (c_X4_finding l G ad μ0 (-1000001) q28 h29) (cwV 1 hts gX4_when_X4_finding rfl rfl rfl (by decide +kernel) ⟨Nat.le_of_ble_eq_true rfl, Nat.le_of_ble_eq_true rfl⟩) rfl rfl rfl 0 rfl rfl hl.1 rfl rfl (Nat.le_of_ble_eq_true rfl) ⟨Nat.zero_le _, Nat.zero_le _⟩ dX4_when_22 (fun H locs hf => ?_)
      have hf : Fr G (va_A (wM G ad μ0) s.heap.size) s (wM G ad q28.2) H locs := hf
      have hE := Option.some.inj hF
      have hV := congrArg (fun z : Int32 × K2 => z.1) hE
      have hW := congrArg (fun z : Int32 × K2 => wM G ad z.2) hE
      exact g_iret S hr hlocks hf hV hW dX4_when_25
def f_X4_ends_B37 (μ : K2) (x1 : Int32) : Option (Int32 × K2) := Option.bind (f_X4_drawers μ) (fun q4 => if q4 = 0 then (Option.bind (f_X4_putBack μ x1) (fun q7 => Option.bind (f_X4_orNone q7.2 q7.1) (fun q9 => some (q9.1, q9.2)))) else (Option.bind (f_X4_putBack μ (-1)) (fun q11 => Option.bind (f_X4_orNone q11.2 q11.1) (fun q13 => some (q13.1, q13.2)))))
def f_X4_ends_L13 : Nat → K2 → Int32 → Option (Int32 × K2)
  | 0, _, _ => none
  | n + 1, μ, x1 => if 200 ≤ x1 then (f_X4_ends_B37 μ x1) else (Option.bind (f_X4_drawers μ) (fun q15 => if q15 = 0 then (f_X4_ends_B37 μ x1) else (Option.bind (f_X4_day μ) (fun q18 => f_X4_ends_L13 n q18 (x1 + 1)))))
def f_X4_ends (μ0 : K2) : Option (Int32 × K2) := Option.bind (f_X4_copyRow (μ0 0) (μ0 2)) (fun q1 => f_X4_ends_L13 1000 (va_up μ0 2 q1) 0)
set_option maxHeartbeats 4000000 in
set_option maxRecDepth 100000 in
theorem c_X4_ends (l : Launch) (G : GT) (ad : Nat → Nat) (μ0 : K2) (q : Int32 × K2) (hF : f_X4_ends μ0 = some q) : Ct l G yX4_ends wsX4_ends ({ frames := 8, cells := 0, slots := 0, locals := 175 } : Room) ([.ref (ad 0)] : List Value) (wM G ad μ0) (some (.int q.1)) (wM G ad q.2) := by
  have k9 : Cond.fieldLink RX4 9 "PigeonRollsModel" "now" "[I" ∈ wsX4_ends := by decide +kernel
  have k16 : Cond.fieldLink RX4 16 "PigeonRollsModel" "aside" "[I" ∈ wsX4_ends := by decide +kernel
  have hinX4 : ∀ w ∈ u_ws RX4 TX4 21, w ∈ wsX4_ends := by decide +kernel
  refine Ct.of cX4_ends 2 (some .int) (by decide) rfl (Nat.le_of_ble_eq_true rfl) ?_
  intro p e s m below meth c ls S hr hlocks hf hl
  have S : CallFix p m c cX4_ends 2 s ([.ref (ad 0)] : List Value).toArray wsX4_ends RX4 := S
  obtain ⟨hx, hb, hml, hown, hts⟩ := id S
  have hl : lv_has ls 2 [(0, .ref (ad 0))] := hl
  have hL37 : ∀ (μ : K2) (x1 : Int32)  (H : Heap) (locs : List Loc) (ls : Array Slot), f_X4_ends_B37 μ x1 = some q → Fr G (va_A (wM G ad μ0) s.heap.size) s (wM G ad μ) H locs → lv_has ls 2 [(0, .ref (ad 0)), (1, .int x1)] → W p l e ({ frames := 8, cells := 0, slots := 0, locals := 175 } : Room) s m ([.ref (ad 0)] : List Value).toArray below meth c H locs 0 0 (MQ below (CPost G (wM G ad μ0) s.heap.size (some (.int q.1)) (wM G ad q.2)) ([.ref (ad 0)] : List Value).toArray s 0 0 (va_A (wM G ad μ0) s.heap.size)) (F0 m 37 ls []) := by
    intro μ x1 H locs ls hF hf hl
    unfold f_X4_ends_B37 at hF
    refine lv_aload_n hx hb dX4_ends_37 rfl (lv_at hl 0 rfl) ?_
    refine lv_aload_n hx hb dX4_ends_38 rfl (lv_at hl 0 rfl) ?_
    refine lv_aload_n hx hb dX4_ends_39 rfl (lv_at hl 0 rfl) ?_
    obtain ⟨q4, h5, hF⟩ := Option.bind_eq_some_iff.mp hF
    refine g_cv0 (o := some (.int q4)) (As := []) (rest := [.ref (ad 0), .ref (ad 0)]) (st1 := [.int q4, .ref (ad 0), .ref (ad 0)]) (ci := 4) S hf (c_X4_drawers l G ad μ q4 h5) (cwV 0 hts gX4_ends_X4_drawers rfl rfl rfl (by decide +kernel) ⟨Nat.le_of_ble_eq_true rfl, Nat.le_of_ble_eq_true rfl⟩) rfl rfl rfl 0 rfl rfl hl.1 rfl rfl (Nat.le_of_ble_eq_true rfl) ⟨Nat.zero_le _, Nat.zero_le _⟩ dX4_ends_40 (fun H locs hf => ?_)
    have hf : Fr G (va_A (wM G ad μ0) s.heap.size) s (wM G ad μ) H locs := hf
    refine lv_if_eq (tgt := 50) hx hb dX4_ends_43 (by decide) (fun c6 => ?_) (fun c6 => ?_)
    · replace hF := (if_pos c6).symm.trans hF
      refine lv_iload_n hx hb dX4_ends_50 rfl (lv_at hl 1 rfl) ?_
      obtain ⟨q7, h8, hF⟩ := Option.bind_eq_some_iff.mp hF
      refine g_cv0 (o := some (.int q7.1)) (As := [.int x1]) (rest := [.ref (ad 0)]) (st1 := [.int q7.1, .ref (ad 0)]) (ci := 4) S hf (c_X4_putBack l G ad μ x1 q7 h8) (cwV 1 hts gX4_ends_X4_putBack rfl rfl rfl (by decide +kernel) ⟨Nat.le_of_ble_eq_true rfl, Nat.le_of_ble_eq_true rfl⟩) rfl rfl rfl 0 rfl rfl hl.1 rfl rfl (Nat.le_of_ble_eq_true rfl) ⟨Nat.zero_le _, Nat.zero_le _⟩ dX4_ends_51 (fun H locs hf => ?_)
      have hf : Fr G (va_A (wM G ad μ0) s.heap.size) s (wM G ad q7.2) H locs := hf
      obtain ⟨q9, h10, hF⟩ := Option.bind_eq_some_iff.mp hF
      refine g_cv0 (o := some (.int q9.1)) (As := [.int q7.1]) (rest := []) (st1 := [.int q9.1]) (ci := 4) S hf (c_X4_orNone l G ad q7.2 q7.1 q9 h10) (cwV 1 hts gX4_ends_X4_orNone rfl rfl rfl (by decide +kernel) ⟨Nat.le_of_ble_eq_true rfl, Nat.le_of_ble_eq_true rfl⟩) rfl rfl rfl 0 rfl rfl hl.1 rfl rfl (Nat.le_of_ble_eq_true rfl) ⟨Nat.zero_le _, Nat.zero_le _⟩ dX4_ends_54 (fun H locs hf => ?_)
      have hf : Fr G (va_A (wM G ad μ0) s.heap.size) s (wM G ad q9.2) H locs := hf
      have hE := Option.some.inj hF
      have hV := congrArg (fun z : Int32 × K2 => z.1) hE
      have hW := congrArg (fun z : Int32 × K2 => wM G ad z.2) hE
      exact g_iret S hr hlocks hf hV hW dX4_ends_57
    · replace hF := (if_neg c6).symm.trans hF
      refine lv_iconst (v := -1) hx hb dX4_ends_46 (by decide) ?_
      refine lv_goto (tgt := 51) hx hb dX4_ends_47 (by decide) ?_
      obtain ⟨q11, h12, hF⟩ := Option.bind_eq_some_iff.mp hF
      refine g_cv0 (o := some (.int q11.1)) (As := [.int (-1)]) (rest := [.ref (ad 0)]) (st1 := [.int q11.1, .ref (ad 0)]) (ci := 4) S hf (c_X4_putBack l G ad μ (-1) q11 h12) (cwV 1 hts gX4_ends_X4_putBack rfl rfl rfl (by decide +kernel) ⟨Nat.le_of_ble_eq_true rfl, Nat.le_of_ble_eq_true rfl⟩) rfl rfl rfl 0 rfl rfl hl.1 rfl rfl (Nat.le_of_ble_eq_true rfl) ⟨Nat.zero_le _, Nat.zero_le _⟩ dX4_ends_51 (fun H locs hf => ?_)
      have hf : Fr G (va_A (wM G ad μ0) s.heap.size) s (wM G ad q11.2) H locs := hf
      obtain ⟨q13, h14, hF⟩ := Option.bind_eq_some_iff.mp hF
      refine g_cv0 (o := some (.int q13.1)) (As := [.int q11.1]) (rest := []) (st1 := [.int q13.1]) (ci := 4) S hf (c_X4_orNone l G ad q11.2 q11.1 q13 h14) (cwV 1 hts gX4_ends_X4_orNone rfl rfl rfl (by decide +kernel) ⟨Nat.le_of_ble_eq_true rfl, Nat.le_of_ble_eq_true rfl⟩) rfl rfl rfl 0 rfl rfl hl.1 rfl rfl (Nat.le_of_ble_eq_true rfl) ⟨Nat.zero_le _, Nat.zero_le _⟩ dX4_ends_54 (fun H locs hf => ?_)
      have hf : Fr G (va_A (wM G ad μ0) s.heap.size) s (wM G ad q13.2) H locs := hf
      have hE := Option.some.inj hF
      have hV := congrArg (fun z : Int32 × K2 => z.1) hE
      have hW := congrArg (fun z : Int32 × K2 => wM G ad z.2) hE
      exact g_iret S hr hlocks hf hV hW dX4_ends_57
  have hL13 : ∀ (n : Nat) (μ : K2) (x1 : Int32)  (H : Heap) (locs : List Loc) (ls : Array Slot), f_X4_ends_L13 n μ x1 = some q → Fr G (va_A (wM G ad μ0) s.heap.size) s (wM G ad μ) H locs → lv_has ls 2 [(0, .ref (ad 0)), (1, .int x1)] → W p l e ({ frames := 8, cells := 0, slots := 0, locals := 175 } : Room) s m ([.ref (ad 0)] : List Value).toArray below meth c H locs 0 0 (MQ below (CPost G (wM G ad μ0) s.heap.size (some (.int q.1)) (wM G ad q.2)) ([.ref (ad 0)] : List Value).toArray s 0 0 (va_A (wM G ad μ0) s.heap.size)) (F0 m 13 ls []) := by
    intro n
    induction n with
    | zero =>
      intro μ x1 H locs ls hF hf hl
      exact absurd hF (by simp [f_X4_ends_L13])
    | succ n ih13 =>
      intro μ x1 H locs ls hF hf hl
      rw [f_X4_ends_L13] at hF
      refine lv_iload_n hx hb dX4_ends_13 rfl (lv_at hl 1 rfl) ?_
      refine lv_sipush (v := 200) hx hb dX4_ends_14 (by decide) ?_
      refine lv_icmp_ge (tgt := 37) hx hb dX4_ends_17 (by decide) (fun c3 => ?_) (fun c3 => ?_)
      · replace hF := (if_pos c3).symm.trans hF
        exact hL37 μ x1 _ _ _ hF hf (lv_sub hl [0, 1] rfl)
      · replace hF := (if_neg c3).symm.trans hF
        refine lv_aload_n hx hb dX4_ends_20 rfl (lv_at hl 0 rfl) ?_
        obtain ⟨q15, h16, hF⟩ := Option.bind_eq_some_iff.mp hF
        refine g_cv0 (o := some (.int q15)) (As := []) (rest := []) (st1 := [.int q15]) (ci := 4) S hf (c_X4_drawers l G ad μ q15 h16) (cwV 0 hts gX4_ends_X4_drawers rfl rfl rfl (by decide +kernel) ⟨Nat.le_of_ble_eq_true rfl, Nat.le_of_ble_eq_true rfl⟩) rfl rfl rfl 0 rfl rfl hl.1 rfl rfl (Nat.le_of_ble_eq_true rfl) ⟨Nat.zero_le _, Nat.zero_le _⟩ dX4_ends_21 (fun H locs hf => ?_)
        have hf : Fr G (va_A (wM G ad μ0) s.heap.size) s (wM G ad μ) H locs := hf
        refine lv_if_eq (tgt := 37) hx hb dX4_ends_24 (by decide) (fun c17 => ?_) (fun c17 => ?_)
        · replace hF := (if_pos c17).symm.trans hF
          exact hL37 μ x1 _ _ _ hF hf (lv_sub hl [0, 1] rfl)
        · replace hF := (if_neg c17).symm.trans hF
          refine lv_aload_n hx hb dX4_ends_27 rfl (lv_at hl 0 rfl) ?_
          obtain ⟨q18, h19, hF⟩ := Option.bind_eq_some_iff.mp hF
          refine g_cv0 (o := none) (As := []) (rest := []) (st1 := []) (ci := 4) S hf (c_X4_day l G ad μ q18 h19) (cwV 0 hts gX4_ends_X4_day rfl rfl rfl (by decide +kernel) ⟨Nat.le_of_ble_eq_true rfl, Nat.le_of_ble_eq_true rfl⟩) rfl rfl rfl 0 rfl rfl hl.1 rfl rfl (Nat.le_of_ble_eq_true rfl) ⟨Nat.zero_le _, Nat.zero_le _⟩ dX4_ends_28 (fun H locs hf => ?_)
          have hf : Fr G (va_A (wM G ad μ0) s.heap.size) s (wM G ad q18) H locs := hf
          refine lv_iinc (v := x1 + 1) (lv' := [(1, .int (x1 + 1)), (0, .ref (ad 0))]) hx hb dX4_ends_31 hl (k := 1) rfl rfl (by decide) rfl (fun ls hl => ?_)
          refine lv_goto (tgt := 13) hx hb dX4_ends_34 (by decide) ?_
          exact ih13 q18 (x1 + 1) _ _ _ hF hf (lv_sub hl [1, 0] rfl)
  unfold f_X4_ends at hF
  refine lv_aload_n hx hb dX4_ends_0 rfl (lv_at hl 0 rfl) ?_
  refine g_get (ci := 4) (C := RX4) (T := TX4) (N := 21) (v := .ref (ad 1)) S hf hinX4 0 rfl rfl 0 (by decide) k9 rfl rfl dX4_ends_1 ?_
  refine lv_aload_n hx hb dX4_ends_4 rfl (lv_at hl 0 rfl) ?_
  refine g_get (ci := 4) (C := RX4) (T := TX4) (N := 21) (v := .ref (ad 3)) S hf hinX4 0 rfl rfl 2 (by decide) k16 rfl rfl dX4_ends_5 ?_
  obtain ⟨q1, h2, hF⟩ := Option.bind_eq_some_iff.mp hF
  refine g_cs (o := none) (As := [.ref (ad 1), .ref (ad 3)]) (rest := []) (st1 := []) (a := List.take 2 (wM G ad μ0)) (b := List.drop 4 (wM G ad μ0)) S hf (c_X4_copyRow l G (ad 1) (ad 3) (μ0 0) (μ0 2) q1 h2) (va_cwS 2 hts gX4_ends_X4_copyRow rfl rfl rfl (by decide +kernel) ⟨Nat.le_of_ble_eq_true rfl, Nat.le_of_ble_eq_true rfl⟩) rfl rfl rfl hl.1 rfl rfl (Nat.le_of_ble_eq_true rfl) ⟨Nat.zero_le _, Nat.zero_le _⟩ dX4_ends_8 (fun H locs hf => ?_)
  have hf : Fr G (va_A (wM G ad μ0) s.heap.size) s (wM G ad (va_up μ0 2 q1)) H locs := hf
  refine lv_iconst (v := 0) hx hb dX4_ends_11 (by decide) ?_
  refine lv_istore_n (lv' := [(1, .int 0), (0, .ref (ad 0))]) hx hb dX4_ends_12 rfl hl (by decide) rfl (fun ls hl => ?_)
  exact hL13 1000 (va_up μ0 2 q1) 0 _ _ _ hF hf (lv_sub hl [1, 0] rfl)
def f_X4_isThought (a0 : Int32) : Option (Int32) := Option.bind (f_X4_within a0 0 60) (fun q1 => if q1 = 0 ∨ q1 = 1 then some (q1) else none)
set_option maxHeartbeats 4000000 in
set_option maxRecDepth 100000 in
theorem c_X4_isThought (l : Launch) (G : GT)  (a0 : Int32) (q : Int32) (hF : f_X4_isThought a0 = some q) : Ct l G yX4_isThought wsX4_isThought ({ frames := 1, cells := 0, slots := 0, locals := 22 } : Room) ([.int a0] : List Value) (([] : va_W)) (some (.int q)) (([] : va_W)) := by
  refine Ct.of cX4_isThought 1 (some .boolean) (by decide) rfl (Nat.le_of_ble_eq_true rfl) ?_
  intro p e s m below meth c ls S hr hlocks hf hl
  have S : CallFix p m c cX4_isThought 1 s ([.int a0] : List Value).toArray wsX4_isThought RX4 := S
  obtain ⟨hx, hb, hml, hown, hts⟩ := id S
  have hl : lv_has ls 1 [(0, .int a0)] := hl
  unfold f_X4_isThought at hF
  refine lv_iload_n hx hb dX4_isThought_0 rfl (lv_at hl 0 rfl) ?_
  refine lv_iconst (v := 0) hx hb dX4_isThought_1 (by decide) ?_
  refine lv_bipush (v := 60) hx hb dX4_isThought_2 (by decide) ?_
  obtain ⟨q1, h2, hF⟩ := Option.bind_eq_some_iff.mp hF
  refine g_cs0 (o := some (.int q1)) (As := [.int a0, .int 0, .int 60]) (rest := []) (st1 := [.int q1]) S hf (c_X4_within l G  a0 0 60 q1 h2) (va_cwS 3 hts gX4_isThought_X4_within rfl rfl rfl (by decide +kernel) ⟨Nat.le_of_ble_eq_true rfl, Nat.le_of_ble_eq_true rfl⟩) rfl hl.1 rfl rfl (Nat.le_of_ble_eq_true rfl) ⟨Nat.zero_le _, Nat.zero_le _⟩ dX4_isThought_4 (fun H locs hf => ?_)
  obtain ⟨g3, hF⟩ := gd_some hF
  have hE := Option.some.inj hF
  have hV := congrArg (fun z : Int32 => z) hE
  exact g_zret S hr hlocks hf (nz g3) hV rfl dX4_isThought_7
