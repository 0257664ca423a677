def f_X3_copy (X0 : K3) (a1 : Int32) (a2 : Int32) (a3 : Int32) (a4 : Int32) (a5 : Int32) : Option (Int32 × K3) := Option.bind (f_X3_sheetOf X0 a1) (fun q1 => shc q1 (Option.bind (f_X3_sheetOf X0 a3) (fun q5 => shc q5 (Option.bind (f_X3_finding X0 0) (fun q9 => some (q9.1, q9.2))) (fun j7 => if j7 < 4 then (Option.bind (f_X3_finding X0 0) (fun q11 => some (q11.1, q11.2))) else none))) (fun j3 => if j3 < 4 then (Option.bind (f_X3_sheetOf X0 a3) (fun q13 => shc q13 (Option.bind (f_X3_finding X0 0) (fun q17 => some (q17.1, q17.2))) (fun j15 => if j15 < 4 then (Option.bind (f_X1_isMissing (X0 (4 + j3))) (fun q19 => if q19 = 0 then (Option.bind (f_X1_isMissing (X0 (4 + j15))) (fun q24 => if q24 = 0 then (if ((X0 (4 + j3)) 1 0) = ((X0 (4 + j15)) 1 0) then (Option.bind (f_X1_hasRow (X0 (4 + j3)) a2 a5) (fun q28 => if q28 = 0 then (Option.bind (f_X3_finding X0 0) (fun q31 => some (q31.1, q31.2))) else (Option.bind (f_X1_hasRow (X0 (4 + j15)) a4 a5) (fun q33 => if q33 = 0 then (Option.bind (f_X3_finding X0 0) (fun q36 => some (q36.1, q36.2))) else (if ¬ a2 < 0 ∧ ¬ a4 < 0 ∧ ¬ a5 < 0 ∧ a2.toNatClampNeg + a5.toNatClampNeg ≤ 40 ∧ a4.toNatClampNeg + a5.toNatClampNeg ≤ 40 then (some (a5, va_up X0 (4 + j15) (va_up (X0 (4 + j15)) 0 (va_cpy ((X0 (4 + j3)) 0) ((X0 (4 + j15)) 0) a2.toNatClampNeg a4.toNatClampNeg a5.toNatClampNeg)))) else none))))) else (Option.bind (f_X3_finding X0 2) (fun q38 => some (q38.1, q38.2)))) else (Option.bind (f_X3_finding X0 5) (fun q40 => some (q40.1, q40.2))))) else (Option.bind (f_X3_finding X0 5) (fun q22 => some (q22.1, q22.2))))) else none))) else none))
set_option maxHeartbeats 4000000 in
set_option maxRecDepth 100000 in
theorem c_X3_copy (l : Launch) (G : GT) (ad : Nat → Nat → Nat) (X0 : K3) (a1 : Int32) (a2 : Int32) (a3 : Int32) (a4 : Int32) (a5 : Int32) (q : Int32 × K3) (hF : f_X3_copy X0 a1 a2 a3 a4 a5 = some q) : Ct l G yX3_copy wsX3_copy ({ frames := 2, cells := 0, slots := 0, locals := 60 } : Room) ([.ref (ad 8 0), .int a1, .int a2, .int a3, .int a4, .int a5] : List Value) (wX G ad X0) (some (.int q.1)) (wX G ad q.2) := by
  have k215 : Cond.fieldLink RX3 215 "PigeonRolls$Sheet" "bits" "I" ∈ wsX3_copy := by decide +kernel
  have k221 : Cond.fieldLink RX3 221 "PigeonRolls$Sheet" "numbers" "[I" ∈ wsX3_copy := by decide +kernel
  have k224 : Cond.methodLink RX3 224 arraycopyName ∈ wsX3_copy := by decide +kernel
  have kna : Cond.native arraycopyName ∈ wsX3_copy := by decide +kernel
  have ksa : Cond.static arraycopyName ∈ wsX3_copy := by decide +kernel
  have kiS : Cond.initialized "java/lang/System" ∈ wsX3_copy := by decide +kernel
  have hinX1 : ∀ w ∈ u_ws RX1 TX1 3, w ∈ wsX3_copy := by decide +kernel
  refine Ct.of cX3_copy 8 (some .int) (by decide) rfl (Nat.le_of_ble_eq_true rfl) ?_
  intro p e s m below meth c ls S hr hlocks hf hl
  have S : CallFix p m c cX3_copy 8 s ([.ref (ad 8 0), .int a1, .int a2, .int a3, .int a4, .int a5] : List Value).toArray wsX3_copy RX3 := S
  obtain ⟨hx, hb, hml, hown, hts⟩ := id S
  have hl : lv_has ls 8 [(0, .ref (ad 8 0)), (1, .int a1), (2, .int a2), (3, .int a3), (4, .int a4), (5, .int a5)] := hl
  unfold f_X3_copy at hF
  refine lv_aload_n hx hb dX3_copy_0 rfl (lv_at hl 0 rfl) ?_
  refine lv_iload_n hx hb dX3_copy_1 rfl (lv_at hl 1 rfl) ?_
  obtain ⟨q1, h2, hF⟩ := Option.bind_eq_some_iff.mp hF
  refine g_cv0 (o := some (va_rf (Option.map (fun j => ad (4 + j) 0) q1))) (As := [.int a1]) (rest := []) (st1 := [va_rf (Option.map (fun j => ad (4 + j) 0) q1)]) (ci := 3) S hf (c_X3_sheetOf l G ad X0 a1 q1 h2) (cwV 1 hts gX3_copy_X3_sheetOf rfl rfl rfl (by decide +kernel) ⟨Nat.le_of_ble_eq_true rfl, Nat.le_of_ble_eq_true rfl⟩) rfl rfl rfl 0 rfl rfl hl.1 rfl rfl (Nat.le_of_ble_eq_true rfl) ⟨Nat.zero_le _, Nat.zero_le _⟩ dX3_copy_2 (fun H locs hf => ?_)
  have hf : Fr G (va_A (wX G ad X0) s.heap.size) s (wX G ad X0) H locs := hf
  cases q1 with
  | none =>
    replace hF := shc_none.symm.trans hF
    refine W.eq (g2 := F0 m 5 ls [.null]) rfl ?_
    refine lv_astoreN (lv' := [(6, .null), (0, .ref (ad 8 0)), (1, .int a1), (2, .int a2), (3, .int a3), (4, .int a4), (5, .int a5)]) hx hb dX3_copy_5 hl (by decide) rfl (fun ls hl => ?_)
    refine lv_aload_n hx hb dX3_copy_7 rfl (lv_at hl 1 rfl) ?_
    refine lv_iload_n hx hb dX3_copy_8 rfl (lv_at hl 4 rfl) ?_
    obtain ⟨q5, h6, hF⟩ := Option.bind_eq_some_iff.mp hF
    refine g_cv0 (o := some (va_rf (Option.map (fun j => ad (4 + j) 0) q5))) (As := [.int a3]) (rest := []) (st1 := [va_rf (Option.map (fun j => ad (4 + j) 0) q5)]) (ci := 3) S hf (c_X3_sheetOf l G ad X0 a3 q5 h6) (cwV 1 hts gX3_copy_X3_sheetOf rfl rfl rfl (by decide +kernel) ⟨Nat.le_of_ble_eq_true rfl, Nat.le_of_ble_eq_true rfl⟩) rfl rfl rfl 0 rfl rfl hl.1 rfl rfl (Nat.le_of_ble_eq_true rfl) ⟨Nat.zero_le _, Nat.zero_le _⟩ dX3_copy_9 (fun H locs hf => ?_)
    have hf : Fr G (va_A (wX G ad X0) s.heap.size) s (wX G ad X0) H locs := hf
    cases q5 with
    | none =>
      replace hF := shc_none.symm.trans hF
      refine W.eq (g2 := F0 m 12 ls [.null]) rfl ?_
      refine lv_astoreN (lv' := [(7, .null), (6, .null), (0, .ref (ad 8 0)), (1, .int a1), (2, .int a2), (3, .int a3), (4, .int a4), (5, .int a5)]) hx hb dX3_copy_12 hl (by decide) rfl (fun ls hl => ?_)
      refine lv_aloadN hx hb dX3_copy_14 (lv_at hl 1 rfl) ?_
      refine lv_ifnullN (tgt := 24) hx hb dX3_copy_16 (by decide) ?_
      refine lv_aload_n hx hb dX3_copy_24 rfl (lv_at hl 2 rfl) ?_
      refine lv_iconst (v := 0) hx hb dX3_copy_25 (by decide) ?_
      obtain ⟨q9, h10, hF⟩ := Option.bind_eq_some_iff.mp hF
      refine g_cv0 (o := some (.int q9.1)) (As := [.int 0]) (rest := []) (st1 := [.int q9.1]) (ci := 3) S hf (c_X3_finding l G ad X0 0 q9 h10) (cwV 1 hts gX3_copy_X3_finding rfl rfl rfl (by decide +kernel) ⟨Nat.le_of_ble_eq_true rfl, Nat.le_of_ble_eq_true rfl⟩) rfl rfl rfl 0 rfl rfl hl.1 rfl rfl (Nat.le_of_ble_eq_true rfl) ⟨Nat.zero_le _, Nat.zero_le _⟩ dX3_copy_26 (fun H locs hf => ?_)
      have hf : Fr G (va_A (wX G ad X0) s.heap.size) s (wX G ad q9.2) H locs := hf
      have hE := Option.some.inj hF
      have hV := congrArg (fun z : Int32 × K3 => z.1) hE
      have hW := congrArg (fun z : Int32 × K3 => wX G ad z.2) hE
      exact g_iret S hr hlocks hf hV hW dX3_copy_29
    | some j7 =>
      replace hF := shc_some.symm.trans hF
      obtain ⟨hj8, hF⟩ := gd_some hF
      refine W.eq (g2 := F0 m 12 ls [.ref (ad (4 + j7) 0)]) rfl ?_
      refine lv_astore (lv' := [(7, .ref (ad (4 + j7) 0)), (6, .null), (0, .ref (ad 8 0)), (1, .int a1), (2, .int a2), (3, .int a3), (4, .int a4), (5, .int a5)]) hx hb dX3_copy_12 hl (by decide) rfl (fun ls hl => ?_)
      refine lv_aloadN hx hb dX3_copy_14 (lv_at hl 1 rfl) ?_
      refine lv_ifnullN (tgt := 24) hx hb dX3_copy_16 (by decide) ?_
      refine lv_aload_n hx hb dX3_copy_24 rfl (lv_at hl 2 rfl) ?_
      refine lv_iconst (v := 0) hx hb dX3_copy_25 (by decide) ?_
      obtain ⟨q11, h12, hF⟩ := Option.bind_eq_some_iff.mp hF
      refine g_cv0 (o := some (.int q11.1)) (As := [.int 0]) (rest := []) (st1 := [.int q11.1]) (ci := 3) S hf (c_X3_finding l G ad X0 0 q11 h12) (cwV 1 hts gX3_copy_X3_finding rfl rfl rfl (by decide +kernel) ⟨Nat.le_of_ble_eq_true rfl, Nat.le_of_ble_eq_true rfl⟩) rfl rfl rfl 0 rfl rfl hl.1 rfl rfl (Nat.le_of_ble_eq_true rfl) ⟨Nat.zero_le _, Nat.zero_le _⟩ dX3_copy_26 (fun H locs hf => ?_)
      have hf : Fr G (va_A (wX G ad X0) s.heap.size) s (wX G ad q11.2) H locs := hf
      have hE := Option.some.inj hF
      have hV := congrArg (fun z : Int32 × K3 => z.1) hE
      have hW := congrArg (fun z : Int32 × K3 => wX G ad z.2) hE
      exact g_iret S hr hlocks hf hV hW dX3_copy_29
  | some j3 =>
    replace hF := shc_some.symm.trans hF
    obtain ⟨hj4, hF⟩ := gd_some hF
    refine W.eq (g2 := F0 m 5 ls [.ref (ad (4 + j3) 0)]) rfl ?_
    refine lv_astore (lv' := [(6, .ref (ad (4 + j3) 0)), (0, .ref (ad 8 0)), (1, .int a1), (2, .int a2), (3, .int a3), (4, .int a4), (5, .int a5)]) hx hb dX3_copy_5 hl (by decide) rfl (fun ls hl => ?_)
    refine lv_aload_n hx hb dX3_copy_7 rfl (lv_at hl 1 rfl) ?_
    refine lv_iload_n hx hb dX3_copy_8 rfl (lv_at hl 4 rfl) ?_
    obtain ⟨q13, h14, hF⟩ := Option.bind_eq_some_iff.mp hF
    refine g_cv0 (o := some (va_rf (Option.map (fun j => ad (4 + j) 0) q13))) (As := [.int a3]) (rest := []) (st1 := [va_rf (Option.map (fun j => ad (4 + j) 0) q13)]) (ci := 3) S hf (c_X3_sheetOf l G ad X0 a3 q13 h14) (cwV 1 hts gX3_copy_X3_sheetOf rfl rfl rfl (by decide +kernel) ⟨Nat.le_of_ble_eq_true rfl, Nat.le_of_ble_eq_true rfl⟩) rfl rfl rfl 0 rfl rfl hl.1 rfl rfl (Nat.le_of_ble_eq_true rfl) ⟨Nat.zero_le _, Nat.zero_le _⟩ dX3_copy_9 (fun H locs hf => ?_)
    have hf : Fr G (va_A (wX G ad X0) s.heap.size) s (wX G ad X0) H locs := hf
    cases q13 with
    | none =>
      replace hF := shc_none.symm.trans hF
      refine W.eq (g2 := F0 m 12 ls [.null]) rfl ?_
      refine lv_astoreN (lv' := [(7, .null), (6, .ref (ad (4 + j3) 0)), (0, .ref (ad 8 0)), (1, .int a1), (2, .int a2), (3, .int a3), (4, .int a4), (5, .int a5)]) hx hb dX3_copy_12 hl (by decide) rfl (fun ls hl => ?_)
      refine lv_aload hx hb dX3_copy_14 (lv_at hl 1 rfl) ?_
      refine lv_ifnull hx hb dX3_copy_16 ?_
      refine lv_aloadN hx hb dX3_copy_19 (lv_at hl 0 rfl) ?_
      refine lv_ifnonnullN hx hb dX3_copy_21 ?_
      refine lv_aload_n hx hb dX3_copy_24 rfl (lv_at hl 2 rfl) ?_
      refine lv_iconst (v := 0) hx hb dX3_copy_25 (by decide) ?_
      obtain ⟨q17, h18, hF⟩ := Option.bind_eq_some_iff.mp hF
      refine g_cv0 (o := some (.int q17.1)) (As := [.int 0]) (rest := []) (st1 := [.int q17.1]) (ci := 3) S hf (c_X3_finding l G ad X0 0 q17 h18) (cwV 1 hts gX3_copy_X3_finding rfl rfl rfl (by decide +kernel) ⟨Nat.le_of_ble_eq_true rfl, Nat.le_of_ble_eq_true rfl⟩) rfl rfl rfl 0 rfl rfl hl.1 rfl rfl (Nat.le_of_ble_eq_true rfl) ⟨Nat.zero_le _, Nat.zero_le _⟩ dX3_copy_26 (fun H locs hf => ?_)
      have hf : Fr G (va_A (wX G ad X0) s.heap.size) s (wX G ad q17.2) H locs := hf
      have hE := Option.some.inj hF
      have hV := congrArg (fun z : Int32 × K3 => z.1) hE
      have hW := congrArg (fun z : Int32 × K3 => wX G ad z.2) hE
      exact g_iret S hr hlocks hf hV hW dX3_copy_29
    | some j15 =>
      replace hF := shc_some.symm.trans hF
      obtain ⟨hj16, hF⟩ := gd_some hF
      refine W.eq (g2 := F0 m 12 ls [.ref (ad (4 + j15) 0)]) rfl ?_
      refine lv_astore (lv' := [(7, .ref (ad (4 + j15) 0)), (6, .ref (ad (4 + j3) 0)), (0, .ref (ad 8 0)), (1, .int a1), (2, .int a2), (3, .int a3), (4, .int a4), (5, .int a5)]) hx hb dX3_copy_12 hl (by decide) rfl (fun ls hl => ?_)
      refine lv_aload hx hb dX3_copy_14 (lv_at hl 1 rfl) ?_
      refine lv_ifnull hx hb dX3_copy_16 ?_
      refine lv_aload hx hb dX3_copy_19 (lv_at hl 0 rfl) ?_
      refine lv_ifnonnull (tgt := 30) hx hb dX3_copy_21 (by decide) ?_
      refine lv_aload hx hb dX3_copy_30 (lv_at hl 1 rfl) ?_
      obtain ⟨q19, h20, hF⟩ := Option.bind_eq_some_iff.mp hF
      refine g_cv (o := some (.int q19)) (As := []) (rest := []) (st1 := [.int q19]) (ci := 1) (a := List.take (44 + 2 * j3) (wX G ad X0)) (b := List.drop (46 + 2 * j3) (wX G ad X0)) S hf (c_X1_isMissing l G (ad (4 + j3)) (X0 (4 + j3)) q19 h20) (cwV 0 hts gX3_copy_X1_isMissing rfl rfl rfl (by decide +kernel) ⟨Nat.le_of_ble_eq_true rfl, Nat.le_of_ble_eq_true rfl⟩) (wX_sw hj4) rfl rfl rfl 0 rfl rfl hl.1 rfl rfl (Nat.le_of_ble_eq_true rfl) ⟨Nat.zero_le _, Nat.zero_le _⟩ dX3_copy_32 (fun H locs hf => ?_)
      rw [← wX_sw hj4] at hf
      refine lv_if_ne (tgt := 46) hx hb dX3_copy_35 (by decide) (fun c21 => ?_) (fun c21 => ?_)
      · replace hF := (if_neg c21).symm.trans hF
        refine lv_aload_n hx hb dX3_copy_46 rfl (lv_at hl 2 rfl) ?_
        refine lv_iconst (v := 5) hx hb dX3_copy_47 (by decide) ?_
        obtain ⟨q22, h23, hF⟩ := Option.bind_eq_some_iff.mp hF
        refine g_cv0 (o := some (.int q22.1)) (As := [.int 5]) (rest := []) (st1 := [.int q22.1]) (ci := 3) S hf (c_X3_finding l G ad X0 5 q22 h23) (cwV 1 hts gX3_copy_X3_finding rfl rfl rfl (by decide +kernel) ⟨Nat.le_of_ble_eq_true rfl, Nat.le_of_ble_eq_true rfl⟩) rfl rfl rfl 0 rfl rfl hl.1 rfl rfl (Nat.le_of_ble_eq_true rfl) ⟨Nat.zero_le _, Nat.zero_le _⟩ dX3_copy_48 (fun H locs hf => ?_)
        have hf : Fr G (va_A (wX G ad X0) s.heap.size) s (wX G ad q22.2) H locs := hf
        have hE := Option.some.inj hF
        have hV := congrArg (fun z : Int32 × K3 => z.1) hE
        have hW := congrArg (fun z : Int32 × K3 => wX G ad z.2) hE
        exact g_iret S hr hlocks hf hV hW dX3_copy_51
      · replace hF := (if_pos c21).symm.trans hF
        refine lv_aload hx hb dX3_copy_38 (lv_at hl 0 rfl) ?_
        obtain ⟨q24, h25, hF⟩ := Option.bind_eq_some_iff.mp hF
        refine g_cv (o := some (.int q24)) (As := []) (rest := []) (st1 := [.int q24]) (ci := 1) (a := List.take (44 + 2 * j15) (wX G ad X0)) (b := List.drop (46 + 2 * j15) (wX G ad X0)) S hf (c_X1_isMissing l G (ad (4 + j15)) (X0 (4 + j15)) q24 h25) (cwV 0 hts gX3_copy_X1_isMissing rfl rfl rfl (by decide +kernel) ⟨Nat.le_of_ble_eq_true rfl, Nat.le_of_ble_eq_true rfl⟩) (wX_sw hj16) rfl rfl rfl 0 rfl rfl hl.1 rfl rfl (Nat.le_of_ble_eq_true rfl) ⟨Nat.zero_le _, Nat.zero_le _⟩ dX3_copy_40 (fun H locs hf => ?_)
        rw [← wX_sw hj16] at hf
        refine lv_if_eq (tgt := 52) hx hb dX3_copy_43 (by decide) (fun c26 => ?_) (fun c26 => ?_)
        · replace hF := (if_pos c26).symm.trans hF
          refine lv_aload hx hb dX3_copy_52 (lv_at hl 1 rfl) ?_
          refine g_get (ci := 1) (C := RX1) (T := TX1) (N := 3) (v := .int ((X0 (4 + j3)) 1 0)) S hf hinX1 (44 + 2 * j3) (wX_so hj4) rfl 0 (by decide) k215 rfl rfl dX3_copy_54 ?_
          refine lv_aload hx hb dX3_copy_57 (lv_at hl 0 rfl) ?_
          refine g_get (ci := 1) (C := RX1) (T := TX1) (N := 3) (v := .int ((X0 (4 + j15)) 1 0)) S hf hinX1 (44 + 2 * j15) (wX_so hj16) rfl 0 (by decide) k215 rfl rfl dX3_copy_59 ?_
          refine lv_icmp_eq (tgt := 71) hx hb dX3_copy_62 (by decide) (fun c27 => ?_) (fun c27 => ?_)
          · replace hF := (if_pos c27).symm.trans hF
            refine lv_aload hx hb dX3_copy_71 (lv_at hl 1 rfl) ?_
            refine lv_iload_n hx hb dX3_copy_73 rfl (lv_at hl 4 rfl) ?_
            refine lv_iload hx hb dX3_copy_74 (lv_at hl 7 rfl) ?_
            obtain ⟨q28, h29, hF⟩ := Option.bind_eq_some_iff.mp hF
            refine g_cv (o := some (.int q28)) (As := [.int a2, .int a5]) (rest := []) (st1 := [.int q28]) (ci := 1) (a := List.take (44 + 2 * j3) (wX G ad X0)) (b := List.drop (46 + 2 * j3) (wX G ad X0)) S hf (c_X1_hasRow l G (ad (4 + j3)) (X0 (4 + j3)) a2 a5 q28 h29) (cwV 2 hts gX3_copy_X1_hasRow rfl rfl rfl (by decide +kernel) ⟨Nat.le_of_ble_eq_true rfl, Nat.le_of_ble_eq_true rfl⟩) (wX_sw hj4) rfl rfl rfl 0 rfl rfl hl.1 rfl rfl (Nat.le_of_ble_eq_true rfl) ⟨Nat.zero_le _, Nat.zero_le _⟩ dX3_copy_76 (fun H locs hf => ?_)
            rw [← wX_sw hj4] at hf
            refine lv_if_eq (tgt := 94) hx hb dX3_copy_79 (by decide) (fun c30 => ?_) (fun c30 => ?_)
            · replace hF := (if_pos c30).symm.trans hF
              refine lv_aload_n hx hb dX3_copy_94 rfl (lv_at hl 2 rfl) ?_
              refine lv_iconst (v := 0) hx hb dX3_copy_95 (by decide) ?_
              obtain ⟨q31, h32, hF⟩ := Option.bind_eq_some_iff.mp hF
              refine g_cv0 (o := some (.int q31.1)) (As := [.int 0]) (rest := []) (st1 := [.int q31.1]) (ci := 3) S hf (c_X3_finding l G ad X0 0 q31 h32) (cwV 1 hts gX3_copy_X3_finding rfl rfl rfl (by decide +kernel) ⟨Nat.le_of_ble_eq_true rfl, Nat.le_of_ble_eq_true rfl⟩) rfl rfl rfl 0 rfl rfl hl.1 rfl rfl (Nat.le_of_ble_eq_true rfl) ⟨Nat.zero_le _, Nat.zero_le _⟩ dX3_copy_96 (fun H locs hf => ?_)
              have hf : Fr G (va_A (wX G ad X0) s.heap.size) s (wX G ad q31.2) H locs := hf
              have hE := Option.some.inj hF
              have hV := congrArg (fun z : Int32 × K3 => z.1) hE
              have hW := congrArg (fun z : Int32 × K3 => wX G ad z.2) hE
              exact g_iret S hr hlocks hf hV hW dX3_copy_99
            · replace hF := (if_neg c30).symm.trans hF
              refine lv_aload hx hb dX3_copy_82 (lv_at hl 0 rfl) ?_
              refine lv_iload hx hb dX3_copy_84 (lv_at hl 6 rfl) ?_
              refine lv_iload hx hb dX3_copy_86 (lv_at hl 7 rfl) ?_
              obtain ⟨q33, h34, hF⟩ := Option.bind_eq_some_iff.mp hF
              refine g_cv (o := some (.int q33)) (As := [.int a4, .int a5]) (rest := []) (st1 := [.int q33]) (ci := 1) (a := List.take (44 + 2 * j15) (wX G ad X0)) (b := List.drop (46 + 2 * j15) (wX G ad X0)) S hf (c_X1_hasRow l G (ad (4 + j15)) (X0 (4 + j15)) a4 a5 q33 h34) (cwV 2 hts gX3_copy_X1_hasRow rfl rfl rfl (by decide +kernel) ⟨Nat.le_of_ble_eq_true rfl, Nat.le_of_ble_eq_true rfl⟩) (wX_sw hj16) rfl rfl rfl 0 rfl rfl hl.1 rfl rfl (Nat.le_of_ble_eq_true rfl) ⟨Nat.zero_le _, Nat.zero_le _⟩ dX3_copy_88 (fun H locs hf => ?_)
              rw [← wX_sw hj16] at hf
              refine lv_if_ne (tgt := 100) hx hb dX3_copy_91 (by decide) (fun c35 => ?_) (fun c35 => ?_)
              · replace hF := (if_neg c35).symm.trans hF
                refine lv_aload hx hb dX3_copy_100 (lv_at hl 1 rfl) ?_
                refine g_get (ci := 1) (C := RX1) (T := TX1) (N := 3) (v := .ref (ad (4 + j3) 1)) S hf hinX1 (44 + 2 * j3) (wX_so hj4) rfl 2 (by decide) k221 rfl rfl dX3_copy_102 ?_
                refine lv_iload_n hx hb dX3_copy_105 rfl (lv_at hl 4 rfl) ?_
                refine lv_aload hx hb dX3_copy_106 (lv_at hl 0 rfl) ?_
                refine g_get (ci := 1) (C := RX1) (T := TX1) (N := 3) (v := .ref (ad (4 + j15) 1)) S hf hinX1 (44 + 2 * j15) (wX_so hj16) rfl 2 (by decide) k221 rfl rfl dX3_copy_108 ?_
                refine lv_iload hx hb dX3_copy_111 (lv_at hl 6 rfl) ?_
                refine lv_iload hx hb dX3_copy_113 (lv_at hl 7 rfl) ?_
                obtain ⟨g9, hF⟩ := gd_some hF
                refine g_copy (ww' := wX G ad (va_up X0 (4 + j15) (va_up (X0 (4 + j15)) 0 (va_cpy ((X0 (4 + j3)) 0) ((X0 (4 + j15)) 0) a2.toNatClampNeg a4.toNatClampNeg a5.toNatClampNeg)))) S hf (45 + 2 * j3) (45 + 2 * j15) (wX_sn hj4) (wX_sn hj16) g9.1 g9.2.1 g9.2.2.1 g9.2.2.2.1 g9.2.2.2.2 (hl.1) (hts _ k224) (hts _ kna) (hts _ ksa) (hts _ kiS) (Nat.le_of_ble_eq_true rfl) (Nat.le_of_ble_eq_true rfl) (wX_sn_set hj16) dX3_copy_115 (fun H locs hf => ?_)
                refine lv_iload hx hb dX3_copy_118 (lv_at hl 7 rfl) ?_
                have hE := Option.some.inj hF
                have hV := congrArg (fun z : Int32 × K3 => z.1) hE
                have hW := congrArg (fun z : Int32 × K3 => wX G ad z.2) hE
                exact g_iret S hr hlocks hf hV hW dX3_copy_120
              · replace hF := (if_pos c35).symm.trans hF
                refine lv_aload_n hx hb dX3_copy_94 rfl (lv_at hl 2 rfl) ?_
                refine lv_iconst (v := 0) hx hb dX3_copy_95 (by decide) ?_
                obtain ⟨q36, h37, hF⟩ := Option.bind_eq_some_iff.mp hF
                refine g_cv0 (o := some (.int q36.1)) (As := [.int 0]) (rest := []) (st1 := [.int q36.1]) (ci := 3) S hf (c_X3_finding l G ad X0 0 q36 h37) (cwV 1 hts gX3_copy_X3_finding rfl rfl rfl (by decide +kernel) ⟨Nat.le_of_ble_eq_true rfl, Nat.le_of_ble_eq_true rfl⟩) rfl rfl rfl 0 rfl rfl hl.1 rfl rfl (Nat.le_of_ble_eq_true rfl) ⟨Nat.zero_le _, Nat.zero_le _⟩ dX3_copy_96 (fun H locs hf => ?_)
                have hf : Fr G (va_A (wX G ad X0) s.heap.size) s (wX G ad q36.2) H locs := hf
                have hE := Option.some.inj hF
                have hV := congrArg (fun z : Int32 × K3 => z.1) hE
                have hW := congrArg (fun z : Int32 × K3 => wX G ad z.2) hE
                exact g_iret S hr hlocks hf hV hW dX3_copy_99
          · replace hF := (if_neg c27).symm.trans hF
            refine lv_aload_n hx hb dX3_copy_65 rfl (lv_at hl 2 rfl) ?_
            refine lv_iconst (v := 2) hx hb dX3_copy_66 (by decide) ?_
            obtain ⟨q38, h39, hF⟩ := Option.bind_eq_some_iff.mp hF
            refine g_cv0 (o := some (.int q38.1)) (As := [.int 2]) (rest := []) (st1 := [.int q38.1]) (ci := 3) S hf (c_X3_finding l G ad X0 2 q38 h39) (cwV 1 hts gX3_copy_X3_finding rfl rfl rfl (by decide +kernel) ⟨Nat.le_of_ble_eq_true rfl, Nat.le_of_ble_eq_true rfl⟩) rfl rfl rfl 0 rfl rfl hl.1 rfl rfl (Nat.le_of_ble_eq_true rfl) ⟨Nat.zero_le _, Nat.zero_le _⟩ dX3_copy_67 (fun H locs hf => ?_)
            have hf : Fr G (va_A (wX G ad X0) s.heap.size) s (wX G ad q38.2) H locs := hf
            have hE := Option.some.inj hF
            have hV := congrArg (fun z : Int32 × K3 => z.1) hE
            have hW := congrArg (fun z : Int32 × K3 => wX G ad z.2) hE
            exact g_iret S hr hlocks hf hV hW dX3_copy_70
        · replace hF := (if_neg c26).symm.trans hF
          refine lv_aload_n hx hb dX3_copy_46 rfl (lv_at hl 2 rfl) ?_
          refine lv_iconst (v := 5) hx hb dX3_copy_47 (by decide) ?_
          obtain ⟨q40, h41, hF⟩ := Option.bind_eq_some_iff.mp hF
          refine g_cv0 (o := some (.int q40.1)) (As := [.int 5]) (rest := []) (st1 := [.int q40.1]) (ci := 3) S hf (c_X3_finding l G ad X0 5 q40 h41) (cwV 1 hts gX3_copy_X3_finding rfl rfl rfl (by decide +kernel) ⟨Nat.le_of_ble_eq_true rfl, Nat.le_of_ble_eq_true rfl⟩) rfl rfl rfl 0 rfl rfl hl.1 rfl rfl (Nat.le_of_ble_eq_true rfl) ⟨Nat.zero_le _, Nat.zero_le _⟩ dX3_copy_48 (fun H locs hf => ?_)
          have hf : Fr G (va_A (wX G ad X0) s.heap.size) s (wX G ad q40.2) H locs := hf
          have hE := Option.some.inj hF
          have hV := congrArg (fun z : Int32 × K3 => z.1) hE
          have hW := congrArg (fun z : Int32 × K3 => wX G ad z.2) hE
          exact g_iret S hr hlocks hf hV hW dX3_copy_51
def f_X3_load_L31 : Nat → K3 → Nat → Int32 → Option (Int32 × K3)
  | 0, _, _, _ => none
  | n + 1, X, j2, x3 => if 6 ≤ x3 then (some (x3, X)) else (if ((X (4 + j2)) 1 1) ≤ x3 then (some (x3, X)) else (if ix x3 40 then (Option.bind (f_X3_within (((X (4 + j2)) 0) x3.toNatClampNeg) 0 99) (fun q13 => if q13 = 0 then (some (x3, X)) else (if ix x3 6 then (f_X3_load_L31 n (va_up X 0 (va_up (X 0) 9 (upd ((X 0) 9) x3.toNatClampNeg (((X (4 + j2)) 0) x3.toNatClampNeg)))) j2 (x3 + 1)) else none))) else none))
def f_X3_load (X0 : K3) (a1 : Int32) : Option (Int32 × K3) := Option.bind (f_X3_sheetOf X0 a1) (fun q1 => shc q1 (Option.bind (f_X3_finding X0 0) (fun q5 => some (q5.1, q5.2))) (fun j3 => if j3 < 4 then (Option.bind (f_X1_isMissing (X0 (4 + j3))) (fun q7 => if q7 = 0 then (f_X3_load_L31 1000 X0 j3 0) else (Option.bind (f_X3_finding X0 5) (fun q17 => some (q17.1, q17.2))))) else none))
set_option maxHeartbeats 4000000 in
set_option maxRecDepth 100000 in
theorem c_X3_load (l : Launch) (G : GT) (ad : Nat → Nat → Nat) (X0 : K3) (a1 : Int32) (q : Int32 × K3) (hF : f_X3_load X0 a1 = some q) : Ct l G yX3_load wsX3_load ({ frames := 2, cells := 0, slots := 0, locals := 43 } : Room) ([.ref (ad 8 0), .int a1] : List Value) (wX G ad X0) (some (.int q.1)) (wX G ad q.2) := by
  have k211 : Cond.fieldLink RX3 211 "PigeonRolls$Sheet" "length" "I" ∈ wsX3_load := by decide +kernel
  have k221 : Cond.fieldLink RX3 221 "PigeonRolls$Sheet" "numbers" "[I" ∈ wsX3_load := by decide +kernel
  have k10 : Cond.fieldLink RX3 10 "PigeonRolls" "realm" "LPigeonRolls$Kingdom;" ∈ wsX3_load := by decide +kernel
  have k52 : Cond.fieldLink RX3 52 "PigeonRolls$Kingdom" "list" "[I" ∈ wsX3_load := by decide +kernel
  have hinX0 : ∀ w ∈ u_ws RX0 TX0 16, w ∈ wsX3_load := by decide +kernel
  have hinX1 : ∀ w ∈ u_ws RX1 TX1 3, w ∈ wsX3_load := by decide +kernel
  have hinX3 : ∀ w ∈ u_ws RX3 TX3 7, w ∈ wsX3_load := by decide +kernel
  refine Ct.of cX3_load 4 (some .int) (by decide) rfl (Nat.le_of_ble_eq_true rfl) ?_
  intro p e s m below meth c ls S hr hlocks hf hl
  have S : CallFix p m c cX3_load 4 s ([.ref (ad 8 0), .int a1] : List Value).toArray wsX3_load RX3 := S
  obtain ⟨hx, hb, hml, hown, hts⟩ := id S
  have hl : lv_has ls 4 [(0, .ref (ad 8 0)), (1, .int a1)] := hl
  have hL31 : ∀ (n : Nat) (X : K3) (j2 : Nat) (x3 : Int32) (hj_j2 : j2 < 4) (H : Heap) (locs : List Loc) (ls : Array Slot), f_X3_load_L31 n X j2 x3 = some q → Fr G (va_A (wX G ad X0) s.heap.size) s (wX G ad X) H locs → lv_has ls 4 [(0, .ref (ad 8 0)), (2, .ref (ad (4 + j2) 0)), (3, .int x3)] → W p l e ({ frames := 2, cells := 0, slots := 0, locals := 43 } : Room) s m ([.ref (ad 8 0), .int a1] : List Value).toArray below meth c H locs 0 0 (MQ below (CPost G (wX G ad X0) s.heap.size (some (.int q.1)) (wX G ad q.2)) ([.ref (ad 8 0), .int a1] : List Value).toArray s 0 0 (va_A (wX G ad X0) s.heap.size)) (F0 m 31 ls []) := by
    intro n
    induction n with
    | zero =>
      intro X j2 x3 hj_j2 H locs ls hF hf hl
      exact absurd hF (by simp [f_X3_load_L31])
    | succ n ih31 =>
      intro X j2 x3 hj_j2 H locs ls hF hf hl
      rw [f_X3_load_L31] at hF
      refine lv_iload_n hx hb dX3_load_31 rfl (lv_at hl 2 rfl) ?_
      refine lv_bipush (v := 6) hx hb dX3_load_32 (by decide) ?_
      refine lv_icmp_ge (tgt := 81) hx hb dX3_load_34 (by decide) (fun c10 => ?_) (fun c10 => ?_)
      · replace hF := (if_pos c10).symm.trans hF
        refine lv_iload_n hx hb dX3_load_81 rfl (lv_at hl 2 rfl) ?_
        have hE := Option.some.inj hF
        have hV := congrArg (fun z : Int32 × K3 => z.1) hE
        have hW := congrArg (fun z : Int32 × K3 => wX G ad z.2) hE
        exact g_iret S hr hlocks hf hV hW dX3_load_82
      · replace hF := (if_neg c10).symm.trans hF
        refine lv_iload_n hx hb dX3_load_37 rfl (lv_at hl 2 rfl) ?_
        refine lv_aload_n hx hb dX3_load_38 rfl (lv_at hl 1 rfl) ?_
        refine g_get (ci := 1) (C := RX1) (T := TX1) (N := 3) (v := .int ((X (4 + j2)) 1 1)) S hf hinX1 (44 + 2 * j2) (wX_so hj_j2) rfl 1 (by decide) k211 rfl rfl dX3_load_39 ?_
        refine lv_icmp_ge (tgt := 81) hx hb dX3_load_42 (by decide) (fun c11 => ?_) (fun c11 => ?_)
        · replace hF := (if_pos c11).symm.trans hF
          refine lv_iload_n hx hb dX3_load_81 rfl (lv_at hl 2 rfl) ?_
          have hE := Option.some.inj hF
          have hV := congrArg (fun z : Int32 × K3 => z.1) hE
          have hW := congrArg (fun z : Int32 × K3 => wX G ad z.2) hE
          exact g_iret S hr hlocks hf hV hW dX3_load_82
        · replace hF := (if_neg c11).symm.trans hF
          refine lv_aload_n hx hb dX3_load_45 rfl (lv_at hl 1 rfl) ?_
          refine g_get (ci := 1) (C := RX1) (T := TX1) (N := 3) (v := .ref (ad (4 + j2) 1)) S hf hinX1 (44 + 2 * j2) (wX_so hj_j2) rfl 2 (by decide) k221 rfl rfl dX3_load_46 ?_
          refine lv_iload_n hx hb dX3_load_49 rfl (lv_at hl 2 rfl) ?_
          obtain ⟨g12, hF⟩ := gd_some hF
          refine g_ald (v := ((X (4 + j2)) 0) x3.toNatClampNeg) S hf (45 + 2 * j2) (wX_sn hj_j2) g12 rfl dX3_load_50 ?_
          refine lv_iconst (v := 0) hx hb dX3_load_51 (by decide) ?_
          refine lv_bipush (v := 99) hx hb dX3_load_52 (by decide) ?_
          obtain ⟨q13, h14, hF⟩ := Option.bind_eq_some_iff.mp hF
          refine g_cs0 (o := some (.int q13)) (As := [.int (((X (4 + j2)) 0) x3.toNatClampNeg), .int 0, .int 99]) (rest := []) (st1 := [.int q13]) S hf (c_X3_within l G  (((X (4 + j2)) 0) x3.toNatClampNeg) 0 99 q13 h14) (va_cwS 3 hts gX3_load_X3_within rfl rfl rfl (by decide +kernel) ⟨Nat.le_of_ble_eq_true rfl, Nat.le_of_ble_eq_true rfl⟩) rfl hl.1 rfl rfl (Nat.le_of_ble_eq_true rfl) ⟨Nat.zero_le _, Nat.zero_le _⟩ dX3_load_54 (fun H locs hf => ?_)
          refine lv_if_eq (tgt := 81) hx hb dX3_load_57 (by decide) (fun c15 => ?_) (fun c15 => ?_)
          · replace hF := (if_pos c15).symm.trans hF
            refine lv_iload_n hx hb dX3_load_81 rfl (lv_at hl 2 rfl) ?_
            have hE := Option.some.inj hF
            have hV := congrArg (fun z : Int32 × K3 => z.1) hE
            have hW := congrArg (fun z : Int32 × K3 => wX G ad z.2) hE
            exact g_iret S hr hlocks hf hV hW dX3_load_82
          · replace hF := (if_neg c15).symm.trans hF
            refine lv_aload_n hx hb dX3_load_60 rfl (lv_at hl 0 rfl) ?_
            refine g_get (ci := 3) (C := RX3) (T := TX3) (N := 7) (v := .ref (ad 0 0)) S hf hinX3 0 rfl rfl 0 (by decide) k10 rfl rfl dX3_load_61 ?_
            refine g_get (ci := 0) (C := RX0) (T := TX0) (N := 16) (v := .ref (ad 0 1)) S hf hinX0 16 rfl rfl 4 (by decide) k52 rfl rfl dX3_load_64 ?_
            refine lv_iload_n hx hb dX3_load_67 rfl (lv_at hl 2 rfl) ?_
            refine lv_aload_n hx hb dX3_load_68 rfl (lv_at hl 1 rfl) ?_
            refine g_get (ci := 1) (C := RX1) (T := TX1) (N := 3) (v := .ref (ad (4 + j2) 1)) S hf hinX1 (44 + 2 * j2) (wX_so hj_j2) rfl 2 (by decide) k221 rfl rfl dX3_load_69 ?_
            refine lv_iload_n hx hb dX3_load_72 rfl (lv_at hl 2 rfl) ?_
            refine g_ald (v := ((X (4 + j2)) 0) x3.toNatClampNeg) S hf (45 + 2 * j2) (wX_sn hj_j2) g12 rfl dX3_load_73 ?_
            obtain ⟨g16, hF⟩ := gd_some hF
            refine g_ast (ww' := wX G ad (va_up X 0 (va_up (X 0) 9 (upd ((X 0) 9) x3.toNatClampNeg (((X (4 + j2)) 0) x3.toNatClampNeg))))) S hf 17 rfl g16 rfl dX3_load_74 (fun H locs hf => ?_)
            refine lv_iinc (v := x3 + 1) (lv' := [(3, .int (x3 + 1)), (0, .ref (ad 8 0)), (2, .ref (ad (4 + j2) 0))]) hx hb dX3_load_75 hl (k := 2) rfl rfl (by decide) rfl (fun ls hl => ?_)
            refine lv_goto (tgt := 31) hx hb dX3_load_78 (by decide) ?_
            exact ih31 (va_up X 0 (va_up (X 0) 9 (upd ((X 0) 9) x3.toNatClampNeg (((X (4 + j2)) 0) x3.toNatClampNeg)))) j2 (x3 + 1) hj_j2 _ _ _ hF hf (lv_sub hl [1, 2, 0] rfl)
  unfold f_X3_load at hF
  refine lv_aload_n hx hb dX3_load_0 rfl (lv_at hl 0 rfl) ?_
  refine lv_iload_n hx hb dX3_load_1 rfl (lv_at hl 1 rfl) ?_
  obtain ⟨q1, h2, hF⟩ := Option.bind_eq_some_iff.mp hF
  refine g_cv0 (o := some (va_rf (Option.map (fun j => ad (4 + j) 0) q1))) (As := [.int a1]) (rest := []) (st1 := [va_rf (Option.map (fun j => ad (4 + j) 0) q1)]) (ci := 3) S hf (c_X3_sheetOf l G ad X0 a1 q1 h2) (cwV 1 hts gX3_load_X3_sheetOf rfl rfl rfl (by decide +kernel) ⟨Nat.le_of_ble_eq_true rfl, Nat.le_of_ble_eq_true rfl⟩) rfl rfl rfl 0 rfl rfl hl.1 rfl rfl (Nat.le_of_ble_eq_true rfl) ⟨Nat.zero_le _, Nat.zero_le _⟩ dX3_load_2 (fun H locs hf => ?_)
  have hf : Fr G (va_A (wX G ad X0) s.heap.size) s (wX G ad X0) H locs := hf
  cases q1 with
  | none =>
    replace hF := shc_none.symm.trans hF
    refine W.eq (g2 := F0 m 5 ls [.null]) rfl ?_
    refine lv_astore_nN (lv' := [(2, .null), (0, .ref (ad 8 0)), (1, .int a1)]) hx hb dX3_load_5 rfl hl (by decide) rfl (fun ls hl => ?_)
    refine lv_aload_nN hx hb dX3_load_6 rfl (lv_at hl 0 rfl) ?_
    refine lv_ifnonnullN hx hb dX3_load_7 ?_
    refine lv_aload_n hx hb dX3_load_10 rfl (lv_at hl 1 rfl) ?_
    refine lv_iconst (v := 0) hx hb dX3_load_11 (by decide) ?_
    obtain ⟨q5, h6, hF⟩ := Option.bind_eq_some_iff.mp hF
    refine g_cv0 (o := some (.int q5.1)) (As := [.int 0]) (rest := []) (st1 := [.int q5.1]) (ci := 3) S hf (c_X3_finding l G ad X0 0 q5 h6) (cwV 1 hts gX3_load_X3_finding rfl rfl rfl (by decide +kernel) ⟨Nat.le_of_ble_eq_true rfl, Nat.le_of_ble_eq_true rfl⟩) rfl rfl rfl 0 rfl rfl hl.1 rfl rfl (Nat.le_of_ble_eq_true rfl) ⟨Nat.zero_le _, Nat.zero_le _⟩ dX3_load_12 (fun H locs hf => ?_)
    have hf : Fr G (va_A (wX G ad X0) s.heap.size) s (wX G ad q5.2) H locs := hf
    have hE := Option.some.inj hF
    have hV := congrArg (fun z : Int32 × K3 => z.1) hE
    have hW := congrArg (fun z : Int32 × K3 => wX G ad z.2) hE
    exact g_iret S hr hlocks hf hV hW dX3_load_15
  | some j3 =>
    replace hF := shc_some.symm.trans hF
    obtain ⟨hj4, hF⟩ := gd_some hF
    refine W.eq (g2 := F0 m 5 ls [.ref (ad (4 + j3) 0)]) rfl ?_
    refine lv_astore_n (lv' := [(2, .ref (ad (4 + j3) 0)), (0, .ref (ad 8 0)), (1, .int a1)]) hx hb dX3_load_5 rfl hl (by decide) rfl (fun ls hl => ?_)
    refine lv_aload_n hx hb dX3_load_6 rfl (lv_at hl 0 rfl) ?_
    refine lv_ifnonnull (tgt := 16) hx hb dX3_load_7 (by decide) ?_
    refine lv_aload_n hx hb dX3_load_16 rfl (lv_at hl 0 rfl) ?_
    obtain ⟨q7, h8, hF⟩ := Option.bind_eq_some_iff.mp hF
    refine g_cv (o := some (.int q7)) (As := []) (rest := []) (st1 := [.int q7]) (ci := 1) (a := List.take (44 + 2 * j3) (wX G ad X0)) (b := List.drop (46 + 2 * j3) (wX G ad X0)) S hf (c_X1_isMissing l G (ad (4 + j3)) (X0 (4 + j3)) q7 h8) (cwV 0 hts gX3_load_X1_isMissing rfl rfl rfl (by decide +kernel) ⟨Nat.le_of_ble_eq_true rfl, Nat.le_of_ble_eq_true rfl⟩) (wX_sw hj4) rfl rfl rfl 0 rfl rfl hl.1 rfl rfl (Nat.le_of_ble_eq_true rfl) ⟨Nat.zero_le _, Nat.zero_le _⟩ dX3_load_17 (fun H locs hf => ?_)
    rw [← wX_sw hj4] at hf
    refine lv_if_eq (tgt := 29) hx hb dX3_load_20 (by decide) (fun c9 => ?_) (fun c9 => ?_)
    · replace hF := (if_pos c9).symm.trans hF
      refine lv_iconst (v := 0) hx hb dX3_load_29 (by decide) ?_
      refine lv_istore_n (lv' := [(3, .int 0), (2, .ref (ad (4 + j3) 0)), (0, .ref (ad 8 0)), (1, .int a1)]) hx hb dX3_load_30 rfl hl (by decide) rfl (fun ls hl => ?_)
      exact hL31 1000 X0 j3 0 hj4 _ _ _ hF hf (lv_sub hl [2, 1, 0] rfl)
    · replace hF := (if_neg c9).symm.trans hF
      refine lv_aload_n hx hb dX3_load_23 rfl (lv_at hl 1 rfl) ?_
      refine lv_iconst (v := 5) hx hb dX3_load_24 (by decide) ?_
      obtain ⟨q17, h18, hF⟩ := Option.bind_eq_some_iff.mp hF
      refine g_cv0 (o := some (.int q17.1)) (As := [.int 5]) (rest := []) (st1 := [.int q17.1]) (ci := 3) S hf (c_X3_finding l G ad X0 5 q17 h18) (cwV 1 hts gX3_load_X3_finding rfl rfl rfl (by decide +kernel) ⟨Nat.le_of_ble_eq_true rfl, Nat.le_of_ble_eq_true rfl⟩) rfl rfl rfl 0 rfl rfl hl.1 rfl rfl (Nat.le_of_ble_eq_true rfl) ⟨Nat.zero_le _, Nat.zero_le _⟩ dX3_load_25 (fun H locs hf => ?_)
      have hf : Fr G (va_A (wX G ad X0) s.heap.size) s (wX G ad q17.2) H locs := hf
      have hE := Option.some.inj hF
      have hV := congrArg (fun z : Int32 × K3 => z.1) hE
      have hW := congrArg (fun z : Int32 × K3 => wX G ad z.2) hE
      exact g_iret S hr hlocks hf hV hW dX3_load_28
def f_X3_judge_L31 : Nat → K3 → Nat → Int32 → Option (Int32 × K3)
  | 0, _, _, _ => none
  | n + 1, X, j2, x3 => if ((X (4 + j2)) 1 1) ≤ x3 then (some (0, X)) else (Option.bind (f_X0_has (X 0) x3) (fun q11 => if q11 = 0 then (some (1 + x3, X)) else (if ix x3 8 then (if ix x3 40 then (if (((X 0) 7) x3.toNatClampNeg) = (((X (4 + j2)) 0) x3.toNatClampNeg) then (f_X3_judge_L31 n X j2 (x3 + 1)) else (some (1 + x3, X))) else none) else none)))
def f_X3_judge (X0 : K3) (a1 : Int32) : Option (Int32 × K3) := Option.bind (f_X3_sheetOf X0 a1) (fun q1 => shc q1 (Option.bind (f_X3_finding X0 0) (fun q5 => some (q5.1, q5.2))) (fun j3 => if j3 < 4 then (Option.bind (f_X1_isMissing (X0 (4 + j3))) (fun q7 => if q7 = 0 then (f_X3_judge_L31 1000 X0 j3 0) else (Option.bind (f_X3_finding X0 5) (fun q17 => some (q17.1, q17.2))))) else none))
set_option maxHeartbeats 4000000 in
set_option maxRecDepth 100000 in
theorem c_X3_judge (l : Launch) (G : GT) (ad : Nat → Nat → Nat) (X0 : K3) (a1 : Int32) (q : Int32 × K3) (hF : f_X3_judge X0 a1 = some q) : Ct l G yX3_judge wsX3_judge ({ frames := 2, cells := 0, slots := 0, locals := 43 } : Room) ([.ref (ad 8 0), .int a1] : List Value) (wX G ad X0) (some (.int q.1)) (wX G ad q.2) := by
  have k211 : Cond.fieldLink RX3 211 "PigeonRolls$Sheet" "length" "I" ∈ wsX3_judge := by decide +kernel
  have k10 : Cond.fieldLink RX3 10 "PigeonRolls" "realm" "LPigeonRolls$Kingdom;" ∈ wsX3_judge := by decide +kernel
  have k178 : Cond.fieldLink RX3 178 "PigeonRolls$Kingdom" "owed" "[I" ∈ wsX3_judge := by decide +kernel
  have k221 : Cond.fieldLink RX3 221 "PigeonRolls$Sheet" "numbers" "[I" ∈ wsX3_judge := by decide +kernel
  have hinX0 : ∀ w ∈ u_ws RX0 TX0 16, w ∈ wsX3_judge := by decide +kernel
  have hinX1 : ∀ w ∈ u_ws RX1 TX1 3, w ∈ wsX3_judge := by decide +kernel
  have hinX3 : ∀ w ∈ u_ws RX3 TX3 7, w ∈ wsX3_judge := by decide +kernel
  refine Ct.of cX3_judge 4 (some .int) (by decide) rfl (Nat.le_of_ble_eq_true rfl) ?_
  intro p e s m below meth c ls S hr hlocks hf hl
  have S : CallFix p m c cX3_judge 4 s ([.ref (ad 8 0), .int a1] : List Value).toArray wsX3_judge RX3 := S
  obtain ⟨hx, hb, hml, hown, hts⟩ := id S
  have hl : lv_has ls 4 [(0, .ref (ad 8 0)), (1, .int a1)] := hl
  have hL31 : ∀ (n : Nat) (X : K3) (j2 : Nat) (x3 : Int32) (hj_j2 : j2 < 4) (H : Heap) (locs : List Loc) (ls : Array Slot), f_X3_judge_L31 n X j2 x3 = some q → Fr G (va_A (wX G ad X0) s.heap.size) s (wX G ad X) H locs → lv_has ls 4 [(0, .ref (ad 8 0)), (2, .ref (ad (4 + j2) 0)), (3, .int x3)] → W p l e ({ frames := 2, cells := 0, slots := 0, locals := 43 } : Room) s m ([.ref (ad 8 0), .int a1] : List Value).toArray below meth c H locs 0 0 (MQ below (CPost G (wX G ad X0) s.heap.size (some (.int q.1)) (wX G ad q.2)) ([.ref (ad 8 0), .int a1] : List Value).toArray s 0 0 (va_A (wX G ad X0) s.heap.size)) (F0 m 31 ls []) := by
    intro n
    induction n with
    | zero =>
      intro X j2 x3 hj_j2 H locs ls hF hf hl
      exact absurd hF (by simp [f_X3_judge_L31])
    | succ n ih31 =>
      intro X j2 x3 hj_j2 H locs ls hF hf hl
      rw [f_X3_judge_L31] at hF
      refine lv_iload_n hx hb dX3_judge_31 rfl (lv_at hl 2 rfl) ?_
      refine lv_aload_n hx hb dX3_judge_32 rfl (lv_at hl 1 rfl) ?_
      refine g_get (ci := 1) (C := RX1) (T := TX1) (N := 3) (v := .int ((X (4 + j2)) 1 1)) S hf hinX1 (44 + 2 * j2) (wX_so hj_j2) rfl 1 (by decide) k211 rfl rfl dX3_judge_33 ?_
      refine lv_icmp_ge (tgt := 78) hx hb dX3_judge_36 (by decide) (fun c10 => ?_) (fun c10 => ?_)
      · replace hF := (if_pos c10).symm.trans hF
        refine lv_iconst (v := 0) hx hb dX3_judge_78 (by decide) ?_
        have hE := Option.some.inj hF
        have hV := congrArg (fun z : Int32 × K3 => z.1) hE
        have hW := congrArg (fun z : Int32 × K3 => wX G ad z.2) hE
        exact g_iret S hr hlocks hf hV hW dX3_judge_79
      · replace hF := (if_neg c10).symm.trans hF
        refine lv_aload_n hx hb dX3_judge_39 rfl (lv_at hl 0 rfl) ?_
        refine g_get (ci := 3) (C := RX3) (T := TX3) (N := 7) (v := .ref (ad 0 0)) S hf hinX3 0 rfl rfl 0 (by decide) k10 rfl rfl dX3_judge_40 ?_
        refine lv_iload_n hx hb dX3_judge_43 rfl (lv_at hl 2 rfl) ?_
        obtain ⟨q11, h12, hF⟩ := Option.bind_eq_some_iff.mp hF
        refine g_cv (o := some (.int q11)) (As := [.int x3]) (rest := []) (st1 := [.int q11]) (ci := 0) (a := List.take 16 (wX G ad X)) (b := List.drop 29 (wX G ad X)) S hf (c_X0_has l G (ad 0) (X 0) x3 q11 h12) (cwV 1 hts gX3_judge_X0_has rfl rfl rfl (by decide +kernel) ⟨Nat.le_of_ble_eq_true rfl, Nat.le_of_ble_eq_true rfl⟩) rfl rfl rfl rfl 0 rfl rfl hl.1 rfl rfl (Nat.le_of_ble_eq_true rfl) ⟨Nat.zero_le _, Nat.zero_le _⟩ dX3_judge_44 (fun H locs hf => ?_)
        have hf : Fr G (va_A (wX G ad X0) s.heap.size) s (wX G ad X) H locs := hf
        refine lv_if_eq (tgt := 68) hx hb dX3_judge_47 (by decide) (fun c13 => ?_) (fun c13 => ?_)
        · replace hF := (if_pos c13).symm.trans hF
          refine lv_iconst (v := 1) hx hb dX3_judge_68 (by decide) ?_
          refine lv_iload_n hx hb dX3_judge_69 rfl (lv_at hl 2 rfl) ?_
          refine lv_iadd hx hb dX3_judge_70 ?_
          have hE := Option.some.inj hF
          have hV := congrArg (fun z : Int32 × K3 => z.1) hE
          have hW := congrArg (fun z : Int32 × K3 => wX G ad z.2) hE
          exact g_iret S hr hlocks hf hV hW dX3_judge_71
        · replace hF := (if_neg c13).symm.trans hF
          refine lv_aload_n hx hb dX3_judge_50 rfl (lv_at hl 0 rfl) ?_
          refine g_get (ci := 3) (C := RX3) (T := TX3) (N := 7) (v := .ref (ad 0 0)) S hf hinX3 0 rfl rfl 0 (by decide) k10 rfl rfl dX3_judge_51 ?_
          refine g_get (ci := 0) (C := RX0) (T := TX0) (N := 16) (v := .ref (ad 0 11)) S hf hinX0 16 rfl rfl 14 (by decide) k178 rfl rfl dX3_judge_54 ?_
          refine lv_iload_n hx hb dX3_judge_57 rfl (lv_at hl 2 rfl) ?_
          obtain ⟨g14, hF⟩ := gd_some hF
          refine g_ald (v := ((X 0) 7) x3.toNatClampNeg) S hf 27 rfl g14 rfl dX3_judge_58 ?_
          refine lv_aload_n hx hb dX3_judge_59 rfl (lv_at hl 1 rfl) ?_
          refine g_get (ci := 1) (C := RX1) (T := TX1) (N := 3) (v := .ref (ad (4 + j2) 1)) S hf hinX1 (44 + 2 * j2) (wX_so hj_j2) rfl 2 (by decide) k221 rfl rfl dX3_judge_60 ?_
          refine lv_iload_n hx hb dX3_judge_63 rfl (lv_at hl 2 rfl) ?_
          obtain ⟨g15, hF⟩ := gd_some hF
          refine g_ald (v := ((X (4 + j2)) 0) x3.toNatClampNeg) S hf (45 + 2 * j2) (wX_sn hj_j2) g15 rfl dX3_judge_64 ?_
          refine lv_icmp_eq (tgt := 72) hx hb dX3_judge_65 (by decide) (fun c16 => ?_) (fun c16 => ?_)
          · replace hF := (if_pos c16).symm.trans hF
            refine lv_iinc (v := x3 + 1) (lv' := [(3, .int (x3 + 1)), (0, .ref (ad 8 0)), (2, .ref (ad (4 + j2) 0))]) hx hb dX3_judge_72 hl (k := 2) rfl rfl (by decide) rfl (fun ls hl => ?_)
            refine lv_goto (tgt := 31) hx hb dX3_judge_75 (by decide) ?_
            exact ih31 X j2 (x3 + 1) hj_j2 _ _ _ hF hf (lv_sub hl [1, 2, 0] rfl)
          · replace hF := (if_neg c16).symm.trans hF
            refine lv_iconst (v := 1) hx hb dX3_judge_68 (by decide) ?_
            refine lv_iload_n hx hb dX3_judge_69 rfl (lv_at hl 2 rfl) ?_
            refine lv_iadd hx hb dX3_judge_70 ?_
            have hE := Option.some.inj hF
            have hV := congrArg (fun z : Int32 × K3 => z.1) hE
            have hW := congrArg (fun z : Int32 × K3 => wX G ad z.2) hE
            exact g_iret S hr hlocks hf hV hW dX3_judge_71
  unfold f_X3_judge at hF
  refine lv_aload_n hx hb dX3_judge_0 rfl (lv_at hl 0 rfl) ?_
  refine lv_iload_n hx hb dX3_judge_1 rfl (lv_at hl 1 rfl) ?_
  obtain ⟨q1, h2, hF⟩ := Option.bind_eq_some_iff.mp hF
  refine g_cv0 (o := some (va_rf (Option.map (fun j => ad (4 + j) 0) q1))) (As := [.int a1]) (rest := []) (st1 := [va_rf (Option.map (fun j => ad (4 + j) 0) q1)]) (ci := 3) S hf (c_X3_sheetOf l G ad X0 a1 q1 h2) (cwV 1 hts gX3_judge_X3_sheetOf rfl rfl rfl (by decide +kernel) ⟨Nat.le_of_ble_eq_true rfl, Nat.le_of_ble_eq_true rfl⟩) rfl rfl rfl 0 rfl rfl hl.1 rfl rfl (Nat.le_of_ble_eq_true rfl) ⟨Nat.zero_le _, Nat.zero_le _⟩ dX3_judge_2 (fun H locs hf => ?_)
  have hf : Fr G (va_A (wX G ad X0) s.heap.size) s (wX G ad X0) H locs := hf
  cases q1 with
  | none =>
    replace hF := shc_none.symm.trans hF
    refine W.eq (g2 := F0 m 5 ls [.null]) rfl ?_
    refine lv_astore_nN (lv' := [(2, .null), (0, .ref (ad 8 0)), (1, .int a1)]) hx hb dX3_judge_5 rfl hl (by decide) rfl (fun ls hl => ?_)
    refine lv_aload_nN hx hb dX3_judge_6 rfl (lv_at hl 0 rfl) ?_
    refine lv_ifnonnullN hx hb dX3_judge_7 ?_
    refine lv_aload_n hx hb dX3_judge_10 rfl (lv_at hl 1 rfl) ?_
    refine lv_iconst (v := 0) hx hb dX3_judge_11 (by decide) ?_
    obtain ⟨q5, h6, hF⟩ := Option.bind_eq_some_iff.mp hF
    refine g_cv0 (o := some (.int q5.1)) (As := [.int 0]) (rest := []) (st1 := [.int q5.1]) (ci := 3) S hf (c_X3_finding l G ad X0 0 q5 h6) (cwV 1 hts gX3_judge_X3_finding rfl rfl rfl (by decide +kernel) ⟨Nat.le_of_ble_eq_true rfl, Nat.le_of_ble_eq_true rfl⟩) rfl rfl rfl 0 rfl rfl hl.1 rfl rfl (Nat.le_of_ble_eq_true rfl) ⟨Nat.zero_le _, Nat.zero_le _⟩ dX3_judge_12 (fun H locs hf => ?_)
    have hf : Fr G (va_A (wX G ad X0) s.heap.size) s (wX G ad q5.2) H locs := hf
    have hE := Option.some.inj hF
    have hV := congrArg (fun z : Int32 × K3 => z.1) hE
    have hW := congrArg (fun z : Int32 × K3 => wX G ad z.2) hE
    exact g_iret S hr hlocks hf hV hW dX3_judge_15
  | some j3 =>
    replace hF := shc_some.symm.trans hF
    obtain ⟨hj4, hF⟩ := gd_some hF
    refine W.eq (g2 := F0 m 5 ls [.ref (ad (4 + j3) 0)]) rfl ?_
    refine lv_astore_n (lv' := [(2, .ref (ad (4 + j3) 0)), (0, .ref (ad 8 0)), (1, .int a1)]) hx hb dX3_judge_5 rfl hl (by decide) rfl (fun ls hl => ?_)
    refine lv_aload_n hx hb dX3_judge_6 rfl (lv_at hl 0 rfl) ?_
    refine lv_ifnonnull (tgt := 16) hx hb dX3_judge_7 (by decide) ?_
    refine lv_aload_n hx hb dX3_judge_16 rfl (lv_at hl 0 rfl) ?_
    obtain ⟨q7, h8, hF⟩ := Option.bind_eq_some_iff.mp hF
    refine g_cv (o := some (.int q7)) (As := []) (rest := []) (st1 := [.int q7]) (ci := 1) (a := List.take (44 + 2 * j3) (wX G ad X0)) (b := List.drop (46 + 2 * j3) (wX G ad X0)) S hf (c_X1_isMissing l G (ad (4 + j3)) (X0 (4 + j3)) q7 h8) (cwV 0 hts gX3_judge_X1_isMissing rfl rfl rfl (by decide +kernel) ⟨Nat.le_of_ble_eq_true rfl, Nat.le_of_ble_eq_true rfl⟩) (wX_sw hj4) rfl rfl rfl 0 rfl rfl hl.1 rfl rfl (Nat.le_of_ble_eq_true rfl) ⟨Nat.zero_le _, Nat.zero_le _⟩ dX3_judge_17 (fun H locs hf => ?_)
    rw [← wX_sw hj4] at hf
    refine lv_if_eq (tgt := 29) hx hb dX3_judge_20 (by decide) (fun c9 => ?_) (fun c9 => ?_)
    · replace hF := (if_pos c9).symm.trans hF
      refine lv_iconst (v := 0) hx hb dX3_judge_29 (by decide) ?_
      refine lv_istore_n (lv' := [(3, .int 0), (2, .ref (ad (4 + j3) 0)), (0, .ref (ad 8 0)), (1, .int a1)]) hx hb dX3_judge_30 rfl hl (by decide) rfl (fun ls hl => ?_)
      exact hL31 1000 X0 j3 0 hj4 _ _ _ hF hf (lv_sub hl [2, 1, 0] rfl)
    · replace hF := (if_neg c9).symm.trans hF
      refine lv_aload_n hx hb dX3_judge_23 rfl (lv_at hl 1 rfl) ?_
      refine lv_iconst (v := 5) hx hb dX3_judge_24 (by decide) ?_
      obtain ⟨q17, h18, hF⟩ := Option.bind_eq_some_iff.mp hF
      refine g_cv0 (o := some (.int q17.1)) (As := [.int 5]) (rest := []) (st1 := [.int q17.1]) (ci := 3) S hf (c_X3_finding l G ad X0 5 q17 h18) (cwV 1 hts gX3_judge_X3_finding rfl rfl rfl (by decide +kernel) ⟨Nat.le_of_ble_eq_true rfl, Nat.le_of_ble_eq_true rfl⟩) rfl rfl rfl 0 rfl rfl hl.1 rfl rfl (Nat.le_of_ble_eq_true rfl) ⟨Nat.zero_le _, Nat.zero_le _⟩ dX3_judge_25 (fun H locs hf => ?_)
      have hf : Fr G (va_A (wX G ad X0) s.heap.size) s (wX G ad q17.2) H locs := hf
      have hE := Option.some.inj hF
      have hV := congrArg (fun z : Int32 × K3 => z.1) hE
      have hW := congrArg (fun z : Int32 × K3 => wX G ad z.2) hE
      exact g_iret S hr hlocks hf hV hW dX3_judge_28
def f_X3_image (X0 : K3) : Option (Int32 × K3) := Option.bind (f_X0_become (X0 1) (X0 0)) (fun q1 => some (1, va_up (va_up X0 8 (va_up (X0 8) 1 (upd ((X0 8) 1) 0 1))) 1 q1))
set_option maxHeartbeats 4000000 in
set_option maxRecDepth 100000 in
theorem c_X3_image (l : Launch) (G : GT) (ad : Nat → Nat → Nat) (X0 : K3) (q : Int32 × K3) (hF : f_X3_image X0 = some q) : Ct l G yX3_image wsX3_image ({ frames := 2, cells := 0, slots := 0, locals := 82 } : Room) ([.ref (ad 8 0)] : List Value) (wX G ad X0) (some (.int q.1)) (wX G ad q.2) := by
  have k16 : Cond.fieldLink RX3 16 "PigeonRolls" "kept" "LPigeonRolls$Kingdom;" ∈ wsX3_image := by decide +kernel
  have k10 : Cond.fieldLink RX3 10 "PigeonRolls" "realm" "LPigeonRolls$Kingdom;" ∈ wsX3_image := by decide +kernel
  have k39 : Cond.fieldLink RX3 39 "PigeonRolls" "keeps" "Z" ∈ wsX3_image := by decide +kernel
  have hinX3 : ∀ w ∈ u_ws RX3 TX3 7, w ∈ wsX3_image := by decide +kernel
  refine Ct.of cX3_image 1 (some .int) (by decide) rfl (Nat.le_of_ble_eq_true rfl) ?_
  intro p e s m below meth c ls S hr hlocks hf hl
  have S : CallFix p m c cX3_image 1 s ([.ref (ad 8 0)] : List Value).toArray wsX3_image RX3 := S
  obtain ⟨hx, hb, hml, hown, hts⟩ := id S
  have hl : lv_has ls 1 [(0, .ref (ad 8 0))] := hl
  unfold f_X3_image at hF
  refine lv_aload_n hx hb dX3_image_0 rfl (lv_at hl 0 rfl) ?_
  refine g_get (ci := 3) (C := RX3) (T := TX3) (N := 7) (v := .ref (ad 1 0)) S hf hinX3 0 rfl rfl 1 (by decide) k16 rfl rfl dX3_image_1 ?_
  refine lv_aload_n hx hb dX3_image_4 rfl (lv_at hl 0 rfl) ?_
  refine g_get (ci := 3) (C := RX3) (T := TX3) (N := 7) (v := .ref (ad 0 0)) S hf hinX3 0 rfl rfl 0 (by decide) k10 rfl rfl dX3_image_5 ?_
  obtain ⟨q1, h2, hF⟩ := Option.bind_eq_some_iff.mp hF
  refine g_cv (o := none) (As := [.ref (ad 0 0)]) (rest := []) (st1 := []) (ci := 0) (a := List.take 3 (wX G ad X0)) (b := List.drop 29 (wX G ad X0)) S hf (c_X0_become l G (ad 1) (ad 0) (X0 1) (X0 0) q1 h2) (cwV 1 hts gX3_image_X0_become rfl rfl rfl (by decide +kernel) ⟨Nat.le_of_ble_eq_true rfl, Nat.le_of_ble_eq_true rfl⟩) rfl rfl rfl rfl 0 rfl rfl hl.1 rfl rfl (Nat.le_of_ble_eq_true rfl) ⟨Nat.zero_le _, Nat.zero_le _⟩ dX3_image_8 (fun H locs hf => ?_)
  have hf : Fr G (va_A (wX G ad X0) s.heap.size) s (wX G ad (va_up X0 1 q1)) H locs := hf
  refine lv_aload_n hx hb dX3_image_11 rfl (lv_at hl 0 rfl) ?_
  refine lv_iconst (v := 1) hx hb dX3_image_12 (by decide) ?_
  refine g_put (ci := 3) (C := RX3) (T := TX3) (N := 7) (ww' := wX G ad (va_up (va_up X0 8 (va_up (X0 8) 1 (upd ((X0 8) 1) 0 1))) 1 q1)) S hf hinX3 tyX3 tyX3_ok nmX3 0 rfl rfl 6 (by decide) k39 rfl rfl (by decide) (by decide) (Nat.le_of_ble_eq_true rfl) rfl dX3_image_13 (fun H locs hf => ?_)
  refine lv_iconst (v := 1) hx hb dX3_image_16 (by decide) ?_
  have hE := Option.some.inj hF
  have hV := congrArg (fun z : Int32 × K3 => z.1) hE
  have hW := congrArg (fun z : Int32 × K3 => wX G ad z.2) hE
  exact g_iret S hr hlocks hf hV hW dX3_image_17
def f_X3_undo (X0 : K3) : Option (Int32 × K3) := if ((X0 8) 1 0) = 0 then (Option.bind (f_X3_finding X0 3) (fun q4 => some (q4.1, q4.2))) else (Option.bind (f_X0_become2 (X0 0) (X0 1)) (fun q2 => some (q2 11 0, va_up X0 0 q2)))
set_option maxHeartbeats 4000000 in
set_option maxRecDepth 100000 in
theorem c_X3_undo (l : Launch) (G : GT) (ad : Nat → Nat → Nat) (X0 : K3) (q : Int32 × K3) (hF : f_X3_undo X0 = some q) : Ct l G yX3_undo wsX3_undo ({ frames := 2, cells := 0, slots := 0, locals := 82 } : Room) ([.ref (ad 8 0)] : List Value) (wX G ad X0) (some (.int q.1)) (wX G ad q.2) := by
  have k39 : Cond.fieldLink RX3 39 "PigeonRolls" "keeps" "Z" ∈ wsX3_undo := by decide +kernel
  have k10 : Cond.fieldLink RX3 10 "PigeonRolls" "realm" "LPigeonRolls$Kingdom;" ∈ wsX3_undo := by decide +kernel
  have k16 : Cond.fieldLink RX3 16 "PigeonRolls" "kept" "LPigeonRolls$Kingdom;" ∈ wsX3_undo := by decide +kernel
  have k95 : Cond.fieldLink RX3 95 "PigeonRolls$Kingdom" "day" "I" ∈ wsX3_undo := by decide +kernel
  have hinX0 : ∀ w ∈ u_ws RX0 TX0 16, w ∈ wsX3_undo := by decide +kernel
  have hinX3 : ∀ w ∈ u_ws RX3 TX3 7, w ∈ wsX3_undo := by decide +kernel
  refine Ct.of cX3_undo 1 (some .int) (by decide) rfl (Nat.le_of_ble_eq_true rfl) ?_
  intro p e s m below meth c ls S hr hlocks hf hl
  have S : CallFix p m c cX3_undo 1 s ([.ref (ad 8 0)] : List Value).toArray wsX3_undo RX3 := S
  obtain ⟨hx, hb, hml, hown, hts⟩ := id S
  have hl : lv_has ls 1 [(0, .ref (ad 8 0))] := hl
  unfold f_X3_undo at hF
  refine lv_aload_n hx hb dX3_undo_0 rfl (lv_at hl 0 rfl) ?_
  refine g_get (ci := 3) (C := RX3) (T := TX3) (N := 7) (v := .int ((X0 8) 1 0)) S hf hinX3 0 rfl rfl 6 (by decide) k39 rfl rfl dX3_undo_1 ?_
  refine lv_if_ne (tgt := 13) hx hb dX3_undo_4 (by decide) (fun c1 => ?_) (fun c1 => ?_)
  · replace hF := (if_neg c1).symm.trans hF
    refine lv_aload_n hx hb dX3_undo_13 rfl (lv_at hl 0 rfl) ?_
    refine g_get (ci := 3) (C := RX3) (T := TX3) (N := 7) (v := .ref (ad 0 0)) S hf hinX3 0 rfl rfl 0 (by decide) k10 rfl rfl dX3_undo_14 ?_
    refine lv_aload_n hx hb dX3_undo_17 rfl (lv_at hl 0 rfl) ?_
    refine g_get (ci := 3) (C := RX3) (T := TX3) (N := 7) (v := .ref (ad 1 0)) S hf hinX3 0 rfl rfl 1 (by decide) k16 rfl rfl dX3_undo_18 ?_
    obtain ⟨q2, h3, hF⟩ := Option.bind_eq_some_iff.mp hF
    refine g_cv (o := none) (As := [.ref (ad 1 0)]) (rest := []) (st1 := []) (ci := 0) (a := List.take 3 (wX G ad X0)) (b := List.drop 29 (wX G ad X0)) S hf (c_X0_become2 l G (ad 0) (ad 1) (X0 0) (X0 1) q2 h3) (cwV 1 hts gX3_undo_X0_become rfl rfl rfl (by decide +kernel) ⟨Nat.le_of_ble_eq_true rfl, Nat.le_of_ble_eq_true rfl⟩) rfl rfl rfl rfl 13 rfl rfl hl.1 rfl rfl (Nat.le_of_ble_eq_true rfl) ⟨Nat.zero_le _, Nat.zero_le _⟩ dX3_undo_21 (fun H locs hf => ?_)
    have hf : Fr G (va_A (wX G ad X0) s.heap.size) s (wX G ad (va_up X0 0 q2)) H locs := hf
    refine lv_aload_n hx hb dX3_undo_24 rfl (lv_at hl 0 rfl) ?_
    refine g_get (ci := 3) (C := RX3) (T := TX3) (N := 7) (v := .ref (ad 0 0)) S hf hinX3 0 rfl rfl 0 (by decide) k10 rfl rfl dX3_undo_25 ?_
    refine g_get (ci := 0) (C := RX0) (T := TX0) (N := 16) (v := .int (q2 11 0)) S hf hinX0 16 rfl rfl 0 (by decide) k95 rfl rfl dX3_undo_28 ?_
    have hE := Option.some.inj hF
    have hV := congrArg (fun z : Int32 × K3 => z.1) hE
    have hW := congrArg (fun z : Int32 × K3 => wX G ad z.2) hE
    exact g_iret S hr hlocks hf hV hW dX3_undo_31
  · replace hF := (if_pos c1).symm.trans hF
    refine lv_aload_n hx hb dX3_undo_7 rfl (lv_at hl 0 rfl) ?_
    refine lv_iconst (v := 3) hx hb dX3_undo_8 (by decide) ?_
    obtain ⟨q4, h5, hF⟩ := Option.bind_eq_some_iff.mp hF
    refine g_cv0 (o := some (.int q4.1)) (As := [.int 3]) (rest := []) (st1 := [.int q4.1]) (ci := 3) S hf (c_X3_finding l G ad X0 3 q4 h5) (cwV 1 hts gX3_undo_X3_finding rfl rfl rfl (by decide +kernel) ⟨Nat.le_of_ble_eq_true rfl, Nat.le_of_ble_eq_true rfl⟩) rfl rfl rfl 0 rfl rfl hl.1 rfl rfl (Nat.le_of_ble_eq_true rfl) ⟨Nat.zero_le _, Nat.zero_le _⟩ dX3_undo_9 (fun H locs hf => ?_)
    have hf : Fr G (va_A (wX G ad X0) s.heap.size) s (wX G ad q4.2) H locs := hf
    have hE := Option.some.inj hF
    have hV := congrArg (fun z : Int32 × K3 => z.1) hE
    have hW := congrArg (fun z : Int32 × K3 => wX G ad z.2) hE
    exact g_iret S hr hlocks hf hV hW dX3_undo_12
def f_X3_tear (X0 : K3) : Option (Int32 × K3) := if ((X0 8) 1 0) = 0 then (some (0, va_up X0 8 (va_up (X0 8) 1 (upd ((X0 8) 1) 0 0)))) else (some (1, va_up X0 8 (va_up (X0 8) 1 (upd ((X0 8) 1) 0 0))))
set_option maxHeartbeats 4000000 in
set_option maxRecDepth 100000 in
theorem c_X3_tear (l : Launch) (G : GT) (ad : Nat → Nat → Nat) (X0 : K3) (q : Int32 × K3) (hF : f_X3_tear X0 = some q) : Ct l G yX3_tear wsX3_tear ({ frames := 0, cells := 0, slots := 0, locals := 0 } : Room) ([.ref (ad 8 0)] : List Value) (wX G ad X0) (some (.int q.1)) (wX G ad q.2) := by
  have k39 : Cond.fieldLink RX3 39 "PigeonRolls" "keeps" "Z" ∈ wsX3_tear := by decide +kernel
  have hinX3 : ∀ w ∈ u_ws RX3 TX3 7, w ∈ wsX3_tear := by decide +kernel
  refine Ct.of cX3_tear 2 (some .int) (by decide) rfl (Nat.le_of_ble_eq_true rfl) ?_
  intro p e s m below meth c ls S hr hlocks hf hl
  have S : CallFix p m c cX3_tear 2 s ([.ref (ad 8 0)] : List Value).toArray wsX3_tear RX3 := S
  obtain ⟨hx, hb, hml, hown, hts⟩ := id S
  have hl : lv_has ls 2 [(0, .ref (ad 8 0))] := hl
  unfold f_X3_tear at hF
  refine lv_aload_n hx hb dX3_tear_0 rfl (lv_at hl 0 rfl) ?_
  refine g_get (ci := 3) (C := RX3) (T := TX3) (N := 7) (v := .int ((X0 8) 1 0)) S hf hinX3 0 rfl rfl 6 (by decide) k39 rfl rfl dX3_tear_1 ?_
  refine lv_if_eq (tgt := 11) hx hb dX3_tear_4 (by decide) (fun c1 => ?_) (fun c1 => ?_)
  · replace hF := (if_pos c1).symm.trans hF
    refine lv_iconst (v := 0) hx hb dX3_tear_11 (by decide) ?_
    refine lv_istore_n (lv' := [(1, .int 0), (0, .ref (ad 8 0))]) hx hb dX3_tear_12 rfl hl (by decide) rfl (fun ls hl => ?_)
    refine lv_aload_n hx hb dX3_tear_13 rfl (lv_at hl 1 rfl) ?_
    refine lv_iconst (v := 0) hx hb dX3_tear_14 (by decide) ?_
    refine g_put (ci := 3) (C := RX3) (T := TX3) (N := 7) (ww' := wX G ad (va_up X0 8 (va_up (X0 8) 1 (upd ((X0 8) 1) 0 0)))) S hf hinX3 tyX3 tyX3_ok nmX3 0 rfl rfl 6 (by decide) k39 rfl rfl (by decide) (by decide) (Nat.le_of_ble_eq_true rfl) rfl dX3_tear_15 (fun H locs hf => ?_)
    refine lv_iload_n hx hb dX3_tear_18 rfl (lv_at hl 0 rfl) ?_
    have hE := Option.some.inj hF
    have hV := congrArg (fun z : Int32 × K3 => z.1) hE
    have hW := congrArg (fun z : Int32 × K3 => wX G ad z.2) hE
    exact g_iret S hr hlocks hf hV hW dX3_tear_19
  · replace hF := (if_neg c1).symm.trans hF
    refine lv_iconst (v := 1) hx hb dX3_tear_7 (by decide) ?_
    refine lv_goto (tgt := 12) hx hb dX3_tear_8 (by decide) ?_
    refine lv_istore_n (lv' := [(1, .int 1), (0, .ref (ad 8 0))]) hx hb dX3_tear_12 rfl hl (by decide) rfl (fun ls hl => ?_)
    refine lv_aload_n hx hb dX3_tear_13 rfl (lv_at hl 1 rfl) ?_
    refine lv_iconst (v := 0) hx hb dX3_tear_14 (by decide) ?_
    refine g_put (ci := 3) (C := RX3) (T := TX3) (N := 7) (ww' := wX G ad (va_up X0 8 (va_up (X0 8) 1 (upd ((X0 8) 1) 0 0)))) S hf hinX3 tyX3 tyX3_ok nmX3 0 rfl rfl 6 (by decide) k39 rfl rfl (by decide) (by decide) (Nat.le_of_ble_eq_true rfl) rfl dX3_tear_15 (fun H locs hf => ?_)
    refine lv_iload_n hx hb dX3_tear_18 rfl (lv_at hl 0 rfl) ?_
    have hE := Option.some.inj hF
    have hV := congrArg (fun z : Int32 × K3 => z.1) hE
    have hW := congrArg (fun z : Int32 × K3 => wX G ad z.2) hE
    exact g_iret S hr hlocks hf hV hW dX3_tear_19
def f_X3_count (X0 : K3) (a1 : Int32) : Option (Int32 × K3) := if a1 = 0 then (some ((X0 0) 11 0, X0)) else (if a1 = 1 then (some ((X0 0) 11 3, X0)) else (if a1 = 2 then (some ((X0 0) 11 1, X0)) else (if a1 = 3 then (Option.bind (f_X0_together (X0 0) 7) (fun q5 => some (q5, X0))) else (if a1 = 4 then (Option.bind (f_X0_together (X0 0) 8) (fun q8 => some (q8, X0))) else (if a1 = 5 then (some ((X0 3) 1 0, X0)) else (if a1 = 6 then (some ((X0 0) 11 2, X0)) else (if a1 = 7 then (Option.bind (f_X0_spotsHeld (X0 0)) (fun q13 => some (q13, X0))) else (Option.bind (f_X3_finding X0 0) (fun q15 => some (q15.1, q15.2))))))))))
set_option maxHeartbeats 4000000 in
set_option maxRecDepth 100000 in
theorem c_X3_count (l : Launch) (G : GT) (ad : Nat → Nat → Nat) (X0 : K3) (a1 : Int32) (q : Int32 × K3) (hF : f_X3_count X0 a1 = some q) : Ct l G yX3_count wsX3_count ({ frames := 1, cells := 0, slots := 0, locals := 23 } : Room) ([.ref (ad 8 0), .int a1] : List Value) (wX G ad X0) (some (.int q.1)) (wX G ad q.2) := by
  have k10 : Cond.fieldLink RX3 10 "PigeonRolls" "realm" "LPigeonRolls$Kingdom;" ∈ wsX3_count := by decide +kernel
  have k95 : Cond.fieldLink RX3 95 "PigeonRolls$Kingdom" "day" "I" ∈ wsX3_count := by decide +kernel
  have k143 : Cond.fieldLink RX3 143 "PigeonRolls$Kingdom" "birds" "I" ∈ wsX3_count := by decide +kernel
  have k56 : Cond.fieldLink RX3 56 "PigeonRolls$Kingdom" "treasury" "I" ∈ wsX3_count := by decide +kernel
  have k25 : Cond.fieldLink RX3 25 "PigeonRolls" "tape" "LPigeonRolls$Tape;" ∈ wsX3_count := by decide +kernel
  have k191 : Cond.fieldLink RX3 191 "PigeonRolls$Tape" "length" "I" ∈ wsX3_count := by decide +kernel
  have k188 : Cond.fieldLink RX3 188 "PigeonRolls$Kingdom" "chance" "I" ∈ wsX3_count := by decide +kernel
  have hinX0 : ∀ w ∈ u_ws RX0 TX0 16, w ∈ wsX3_count := by decide +kernel
  have hinX2 : ∀ w ∈ u_ws RX2 TX2 6, w ∈ wsX3_count := by decide +kernel
  have hinX3 : ∀ w ∈ u_ws RX3 TX3 7, w ∈ wsX3_count := by decide +kernel
  refine Ct.of cX3_count 2 (some .int) (by decide) rfl (Nat.le_of_ble_eq_true rfl) ?_
  intro p e s m below meth c ls S hr hlocks hf hl
  have S : CallFix p m c cX3_count 2 s ([.ref (ad 8 0), .int a1] : List Value).toArray wsX3_count RX3 := S
  obtain ⟨hx, hb, hml, hown, hts⟩ := id S
  have hl : lv_has ls 2 [(0, .ref (ad 8 0)), (1, .int a1)] := hl
  unfold f_X3_count at hF
  refine lv_iload_n hx hb dX3_count_0 rfl (lv_at hl 1 rfl) ?_
  by_cases c1 : a1 = 0
  · replace hF := (if_pos c1).symm.trans hF
    refine lv_tableIn (tgt := 48) hx hb dX3_count_1 (by rw [c1]; decide) (by rw [c1]; decide) (by rw [c1]; rfl) (by decide) ?_
    refine lv_aload_n hx hb dX3_count_48 rfl (lv_at hl 0 rfl) ?_
    refine g_get (ci := 3) (C := RX3) (T := TX3) (N := 7) (v := .ref (ad 0 0)) S hf hinX3 0 rfl rfl 0 (by decide) k10 rfl rfl dX3_count_49 ?_
    refine g_get (ci := 0) (C := RX0) (T := TX0) (N := 16) (v := .int ((X0 0) 11 0)) S hf hinX0 16 rfl rfl 0 (by decide) k95 rfl rfl dX3_count_52 ?_
    have hE := Option.some.inj hF
    have hV := congrArg (fun z : Int32 × K3 => z.1) hE
    have hW := congrArg (fun z : Int32 × K3 => wX G ad z.2) hE
    exact g_iret S hr hlocks hf hV hW dX3_count_55
  replace hF := (if_neg c1).symm.trans hF
  by_cases c2 : a1 = 1
  · replace hF := (if_pos c2).symm.trans hF
    refine lv_tableIn (tgt := 56) hx hb dX3_count_1 (by rw [c2]; decide) (by rw [c2]; decide) (by rw [c2]; rfl) (by decide) ?_
    refine lv_aload_n hx hb dX3_count_56 rfl (lv_at hl 0 rfl) ?_
    refine g_get (ci := 3) (C := RX3) (T := TX3) (N := 7) (v := .ref (ad 0 0)) S hf hinX3 0 rfl rfl 0 (by decide) k10 rfl rfl dX3_count_57 ?_
    refine g_get (ci := 0) (C := RX0) (T := TX0) (N := 16) (v := .int ((X0 0) 11 3)) S hf hinX0 16 rfl rfl 3 (by decide) k143 rfl rfl dX3_count_60 ?_
    have hE := Option.some.inj hF
    have hV := congrArg (fun z : Int32 × K3 => z.1) hE
    have hW := congrArg (fun z : Int32 × K3 => wX G ad z.2) hE
    exact g_iret S hr hlocks hf hV hW dX3_count_63
  replace hF := (if_neg c2).symm.trans hF
  by_cases c3 : a1 = 2
  · replace hF := (if_pos c3).symm.trans hF
    refine lv_tableIn (tgt := 64) hx hb dX3_count_1 (by rw [c3]; decide) (by rw [c3]; decide) (by rw [c3]; rfl) (by decide) ?_
    refine lv_aload_n hx hb dX3_count_64 rfl (lv_at hl 0 rfl) ?_
    refine g_get (ci := 3) (C := RX3) (T := TX3) (N := 7) (v := .ref (ad 0 0)) S hf hinX3 0 rfl rfl 0 (by decide) k10 rfl rfl dX3_count_65 ?_
    refine g_get (ci := 0) (C := RX0) (T := TX0) (N := 16) (v := .int ((X0 0) 11 1)) S hf hinX0 16 rfl rfl 1 (by decide) k56 rfl rfl dX3_count_68 ?_
    have hE := Option.some.inj hF
    have hV := congrArg (fun z : Int32 × K3 => z.1) hE
    have hW := congrArg (fun z : Int32 × K3 => wX G ad z.2) hE
    exact g_iret S hr hlocks hf hV hW dX3_count_71
  replace hF := (if_neg c3).symm.trans hF
  by_cases c4 : a1 = 3
  · replace hF := (if_pos c4).symm.trans hF
    refine lv_tableIn (tgt := 72) hx hb dX3_count_1 (by rw [c4]; decide) (by rw [c4]; decide) (by rw [c4]; rfl) (by decide) ?_
    refine lv_aload_n hx hb dX3_count_72 rfl (lv_at hl 0 rfl) ?_
    refine g_get (ci := 3) (C := RX3) (T := TX3) (N := 7) (v := .ref (ad 0 0)) S hf hinX3 0 rfl rfl 0 (by decide) k10 rfl rfl dX3_count_73 ?_
    refine lv_bipush (v := 7) hx hb dX3_count_76 (by decide) ?_
    obtain ⟨q5, h6, hF⟩ := Option.bind_eq_some_iff.mp hF
    refine g_cv (o := some (.int q5)) (As := [.int 7]) (rest := []) (st1 := [.int q5]) (ci := 0) (a := List.take 16 (wX G ad X0)) (b := List.drop 29 (wX G ad X0)) S hf (c_X0_together l G (ad 0) (X0 0) 7 q5 h6) (cwV 1 hts gX3_count_X0_together rfl rfl rfl (by decide +kernel) ⟨Nat.le_of_ble_eq_true rfl, Nat.le_of_ble_eq_true rfl⟩) rfl rfl rfl rfl 0 rfl rfl hl.1 rfl rfl (Nat.le_of_ble_eq_true rfl) ⟨Nat.zero_le _, Nat.zero_le _⟩ dX3_count_78 (fun H locs hf => ?_)
    have hf : Fr G (va_A (wX G ad X0) s.heap.size) s (wX G ad X0) H locs := hf
    have hE := Option.some.inj hF
    have hV := congrArg (fun z : Int32 × K3 => z.1) hE
    have hW := congrArg (fun z : Int32 × K3 => wX G ad z.2) hE
    exact g_iret S hr hlocks hf hV hW dX3_count_81
  replace hF := (if_neg c4).symm.trans hF
  by_cases c7 : a1 = 4
  · replace hF := (if_pos c7).symm.trans hF
    refine lv_tableIn (tgt := 82) hx hb dX3_count_1 (by rw [c7]; decide) (by rw [c7]; decide) (by rw [c7]; rfl) (by decide) ?_
    refine lv_aload_n hx hb dX3_count_82 rfl (lv_at hl 0 rfl) ?_
    refine g_get (ci := 3) (C := RX3) (T := TX3) (N := 7) (v := .ref (ad 0 0)) S hf hinX3 0 rfl rfl 0 (by decide) k10 rfl rfl dX3_count_83 ?_
    refine lv_bipush (v := 8) hx hb dX3_count_86 (by decide) ?_
    obtain ⟨q8, h9, hF⟩ := Option.bind_eq_some_iff.mp hF
    refine g_cv (o := some (.int q8)) (As := [.int 8]) (rest := []) (st1 := [.int q8]) (ci := 0) (a := List.take 16 (wX G ad X0)) (b := List.drop 29 (wX G ad X0)) S hf (c_X0_together l G (ad 0) (X0 0) 8 q8 h9) (cwV 1 hts gX3_count_X0_together rfl rfl rfl (by decide +kernel) ⟨Nat.le_of_ble_eq_true rfl, Nat.le_of_ble_eq_true rfl⟩) rfl rfl rfl rfl 0 rfl rfl hl.1 rfl rfl (Nat.le_of_ble_eq_true rfl) ⟨Nat.zero_le _, Nat.zero_le _⟩ dX3_count_88 (fun H locs hf => ?_)
    have hf : Fr G (va_A (wX G ad X0) s.heap.size) s (wX G ad X0) H locs := hf
    have hE := Option.some.inj hF
    have hV := congrArg (fun z : Int32 × K3 => z.1) hE
    have hW := congrArg (fun z : Int32 × K3 => wX G ad z.2) hE
    exact g_iret S hr hlocks hf hV hW dX3_count_91
  replace hF := (if_neg c7).symm.trans hF
  by_cases c10 : a1 = 5
  · replace hF := (if_pos c10).symm.trans hF
    refine lv_tableIn (tgt := 92) hx hb dX3_count_1 (by rw [c10]; decide) (by rw [c10]; decide) (by rw [c10]; rfl) (by decide) ?_
    refine lv_aload_n hx hb dX3_count_92 rfl (lv_at hl 0 rfl) ?_
    refine g_get (ci := 3) (C := RX3) (T := TX3) (N := 7) (v := .ref (ad 3 0)) S hf hinX3 0 rfl rfl 3 (by decide) k25 rfl rfl dX3_count_93 ?_
    refine g_get (ci := 2) (C := RX2) (T := TX2) (N := 6) (v := .int ((X0 3) 1 0)) S hf hinX2 42 rfl rfl 1 (by decide) k191 rfl rfl dX3_count_96 ?_
    have hE := Option.some.inj hF
    have hV := congrArg (fun z : Int32 × K3 => z.1) hE
    have hW := congrArg (fun z : Int32 × K3 => wX G ad z.2) hE
    exact g_iret S hr hlocks hf hV hW dX3_count_99
  replace hF := (if_neg c10).symm.trans hF
  by_cases c11 : a1 = 6
  · replace hF := (if_pos c11).symm.trans hF
    refine lv_tableIn (tgt := 100) hx hb dX3_count_1 (by rw [c11]; decide) (by rw [c11]; decide) (by rw [c11]; rfl) (by decide) ?_
    refine lv_aload_n hx hb dX3_count_100 rfl (lv_at hl 0 rfl) ?_
    refine g_get (ci := 3) (C := RX3) (T := TX3) (N := 7) (v := .ref (ad 0 0)) S hf hinX3 0 rfl rfl 0 (by decide) k10 rfl rfl dX3_count_101 ?_
    refine g_get (ci := 0) (C := RX0) (T := TX0) (N := 16) (v := .int ((X0 0) 11 2)) S hf hinX0 16 rfl rfl 2 (by decide) k188 rfl rfl dX3_count_104 ?_
    have hE := Option.some.inj hF
    have hV := congrArg (fun z : Int32 × K3 => z.1) hE
    have hW := congrArg (fun z : Int32 × K3 => wX G ad z.2) hE
    exact g_iret S hr hlocks hf hV hW dX3_count_107
  replace hF := (if_neg c11).symm.trans hF
  by_cases c12 : a1 = 7
  · replace hF := (if_pos c12).symm.trans hF
    refine lv_tableIn (tgt := 108) hx hb dX3_count_1 (by rw [c12]; decide) (by rw [c12]; decide) (by rw [c12]; rfl) (by decide) ?_
    refine lv_aload_n hx hb dX3_count_108 rfl (lv_at hl 0 rfl) ?_
    refine g_get (ci := 3) (C := RX3) (T := TX3) (N := 7) (v := .ref (ad 0 0)) S hf hinX3 0 rfl rfl 0 (by decide) k10 rfl rfl dX3_count_109 ?_
    obtain ⟨q13, h14, hF⟩ := Option.bind_eq_some_iff.mp hF
    refine g_cv (o := some (.int q13)) (As := []) (rest := []) (st1 := [.int q13]) (ci := 0) (a := List.take 16 (wX G ad X0)) (b := List.drop 29 (wX G ad X0)) S hf (c_X0_spotsHeld l G (ad 0) (X0 0) q13 h14) (cwV 0 hts gX3_count_X0_spotsHeld rfl rfl rfl (by decide +kernel) ⟨Nat.le_of_ble_eq_true rfl, Nat.le_of_ble_eq_true rfl⟩) rfl rfl rfl rfl 0 rfl rfl hl.1 rfl rfl (Nat.le_of_ble_eq_true rfl) ⟨Nat.zero_le _, Nat.zero_le _⟩ dX3_count_112 (fun H locs hf => ?_)
    have hf : Fr G (va_A (wX G ad X0) s.heap.size) s (wX G ad X0) H locs := hf
    have hE := Option.some.inj hF
    have hV := congrArg (fun z : Int32 × K3 => z.1) hE
    have hW := congrArg (fun z : Int32 × K3 => wX G ad z.2) hE
    exact g_iret S hr hlocks hf hV hW dX3_count_115
  replace hF := (if_neg c12).symm.trans hF
  refine lv_tableOut (tgt := 116) hx hb dX3_count_1 (by have t0 := lv_neT (a := 0) c1 (by decide); have t1 := lv_neT (a := 1) c2 (by decide); have t2 := lv_neT (a := 2) c3 (by decide); have t3 := lv_neT (a := 3) c4 (by decide); have t4 := lv_neT (a := 4) c7 (by decide); have t5 := lv_neT (a := 5) c10 (by decide); have t6 := lv_neT (a := 6) c11 (by decide); have t7 := lv_neT (a := 7) c12 (by decide); omega) (by decide) ?_
  refine lv_aload_n hx hb dX3_count_116 rfl (lv_at hl 0 rfl) ?_
  refine lv_iconst (v := 0) hx hb dX3_count_117 (by decide) ?_
  obtain ⟨q15, h16, hF⟩ := Option.bind_eq_some_iff.mp hF
  refine g_cv0 (o := some (.int q15.1)) (As := [.int 0]) (rest := []) (st1 := [.int q15.1]) (ci := 3) S hf (c_X3_finding l G ad X0 0 q15 h16) (cwV 1 hts gX3_count_X3_finding rfl rfl rfl (by decide +kernel) ⟨Nat.le_of_ble_eq_true rfl, Nat.le_of_ble_eq_true rfl⟩) rfl rfl rfl 0 rfl rfl hl.1 rfl rfl (Nat.le_of_ble_eq_true rfl) ⟨Nat.zero_le _, Nat.zero_le _⟩ dX3_count_118 (fun H locs hf => ?_)
  have hf : Fr G (va_A (wX G ad X0) s.heap.size) s (wX G ad q15.2) H locs := hf
  have hE := Option.some.inj hF
  have hV := congrArg (fun z : Int32 × K3 => z.1) hE
  have hW := congrArg (fun z : Int32 × K3 => wX G ad z.2) hE
  exact g_iret S hr hlocks hf hV hW dX3_count_121
def f_X3_status_L31 : Nat → K3 → Int32 → Int32 → Option (Int32 × K3)
  | 0, _, _, _ => none
  | n + 1, X, x2, x3 => if 7 ≤ x3 then (some (x2, X)) else (if ix x3 7 then (f_X3_status_L31 n X (x2 + (((X 8) 0) x3.toNatClampNeg)) (x3 + 1)) else none)
def f_X3_status (X0 : K3) (a1 : Int32) : Option (Int32 × K3) := Option.bind (f_X3_within a1 (-1) 6) (fun q1 => if q1 = 0 then (Option.bind (f_X3_finding X0 0) (fun q8 => some (q8.1, q8.2))) else (if a1 < 0 then (f_X3_status_L31 1000 X0 0 0) else (if ix a1 7 then (some (((X0 8) 0) a1.toNatClampNeg, X0)) else none)))
set_option maxHeartbeats 4000000 in
set_option maxRecDepth 100000 in
theorem c_X3_status (l : Launch) (G : GT) (ad : Nat → Nat → Nat) (X0 : K3) (a1 : Int32) (q : Int32 × K3) (hF : f_X3_status X0 a1 = some q) : Ct l G yX3_status wsX3_status ({ frames := 1, cells := 0, slots := 0, locals := 22 } : Room) ([.ref (ad 8 0), .int a1] : List Value) (wX G ad X0) (some (.int q.1)) (wX G ad q.2) := by
  have k35 : Cond.fieldLink RX3 35 "PigeonRolls" "found" "[I" ∈ wsX3_status := by decide +kernel
  have hinX3 : ∀ w ∈ u_ws RX3 TX3 7, w ∈ wsX3_status := by decide +kernel
  refine Ct.of cX3_status 4 (some .int) (by decide) rfl (Nat.le_of_ble_eq_true rfl) ?_
  intro p e s m below meth c ls S hr hlocks hf hl
  have S : CallFix p m c cX3_status 4 s ([.ref (ad 8 0), .int a1] : List Value).toArray wsX3_status RX3 := S
  obtain ⟨hx, hb, hml, hown, hts⟩ := id S
  have hl : lv_has ls 4 [(0, .ref (ad 8 0)), (1, .int a1)] := hl
  have hL31 : ∀ (n : Nat) (X : K3) (x2 : Int32) (x3 : Int32)  (H : Heap) (locs : List Loc) (ls : Array Slot), f_X3_status_L31 n X x2 x3 = some q → Fr G (va_A (wX G ad X0) s.heap.size) s (wX G ad X) H locs → lv_has ls 4 [(0, .ref (ad 8 0)), (2, .int x2), (3, .int x3)] → W p l e ({ frames := 1, cells := 0, slots := 0, locals := 22 } : Room) s m ([.ref (ad 8 0), .int a1] : List Value).toArray below meth c H locs 0 0 (MQ below (CPost G (wX G ad X0) s.heap.size (some (.int q.1)) (wX G ad q.2)) ([.ref (ad 8 0), .int a1] : List Value).toArray s 0 0 (va_A (wX G ad X0) s.heap.size)) (F0 m 31 ls []) := by
    intro n
    induction n with
    | zero =>
      intro X x2 x3 H locs ls hF hf hl
      exact absurd hF (by simp [f_X3_status_L31])
    | succ n ih31 =>
      intro X x2 x3 H locs ls hF hf hl
      rw [f_X3_status_L31] at hF
      refine lv_iload_n hx hb dX3_status_31 rfl (lv_at hl 2 rfl) ?_
      refine lv_bipush (v := 7) hx hb dX3_status_32 (by decide) ?_
      refine lv_icmp_ge (tgt := 52) hx hb dX3_status_34 (by decide) (fun c5 => ?_) (fun c5 => ?_)
      · replace hF := (if_pos c5).symm.trans hF
        refine lv_iload_n hx hb dX3_status_52 rfl (lv_at hl 1 rfl) ?_
        have hE := Option.some.inj hF
        have hV := congrArg (fun z : Int32 × K3 => z.1) hE
        have hW := congrArg (fun z : Int32 × K3 => wX G ad z.2) hE
        exact g_iret S hr hlocks hf hV hW dX3_status_53
      · replace hF := (if_neg c5).symm.trans hF
        refine lv_iload_n hx hb dX3_status_37 rfl (lv_at hl 1 rfl) ?_
        refine lv_aload_n hx hb dX3_status_38 rfl (lv_at hl 0 rfl) ?_
        refine g_get (ci := 3) (C := RX3) (T := TX3) (N := 7) (v := .ref (ad 8 2)) S hf hinX3 0 rfl rfl 5 (by decide) k35 rfl rfl dX3_status_39 ?_
        refine lv_iload_n hx hb dX3_status_42 rfl (lv_at hl 2 rfl) ?_
        obtain ⟨g6, hF⟩ := gd_some hF
        refine g_ald (v := ((X 8) 0) x3.toNatClampNeg) S hf 2 rfl g6 rfl dX3_status_43 ?_
        refine lv_iadd hx hb dX3_status_44 ?_
        refine lv_istore_n (lv' := [(2, .int (x2 + (((X 8) 0) x3.toNatClampNeg))), (0, .ref (ad 8 0)), (3, .int x3)]) hx hb dX3_status_45 rfl hl (by decide) rfl (fun ls hl => ?_)
        refine lv_iinc (v := x3 + 1) (lv' := [(3, .int (x3 + 1)), (2, .int (x2 + (((X 8) 0) x3.toNatClampNeg))), (0, .ref (ad 8 0))]) hx hb dX3_status_46 hl (k := 2) rfl rfl (by decide) rfl (fun ls hl => ?_)
        refine lv_goto (tgt := 31) hx hb dX3_status_49 (by decide) ?_
        exact ih31 X (x2 + (((X 8) 0) x3.toNatClampNeg)) (x3 + 1) _ _ _ hF hf (lv_sub hl [2, 1, 0] rfl)
  unfold f_X3_status at hF
  refine lv_iload_n hx hb dX3_status_0 rfl (lv_at hl 1 rfl) ?_
  refine lv_iconst (v := -1) hx hb dX3_status_1 (by decide) ?_
  refine lv_bipush (v := 6) hx hb dX3_status_2 (by decide) ?_
  obtain ⟨q1, h2, hF⟩ := Option.bind_eq_some_iff.mp hF
  refine g_cs0 (o := some (.int q1)) (As := [.int a1, .int (-1), .int 6]) (rest := []) (st1 := [.int q1]) S hf (c_X3_within l G  a1 (-1) 6 q1 h2) (va_cwS 3 hts gX3_status_X3_within rfl rfl rfl (by decide +kernel) ⟨Nat.le_of_ble_eq_true rfl, Nat.le_of_ble_eq_true rfl⟩) rfl hl.1 rfl rfl (Nat.le_of_ble_eq_true rfl) ⟨Nat.zero_le _, Nat.zero_le _⟩ dX3_status_4 (fun H locs hf => ?_)
  refine lv_if_ne (tgt := 16) hx hb dX3_status_7 (by decide) (fun c3 => ?_) (fun c3 => ?_)
  · replace hF := (if_neg c3).symm.trans hF
    refine lv_iload_n hx hb dX3_status_16 rfl (lv_at hl 1 rfl) ?_
    refine lv_if_lt (tgt := 27) hx hb dX3_status_17 (by decide) (fun c4 => ?_) (fun c4 => ?_)
    · replace hF := (if_pos c4).symm.trans hF
      refine lv_iconst (v := 0) hx hb dX3_status_27 (by decide) ?_
      refine lv_istore_n (lv' := [(2, .int 0), (0, .ref (ad 8 0)), (1, .int a1)]) hx hb dX3_status_28 rfl hl (by decide) rfl (fun ls hl => ?_)
      refine lv_iconst (v := 0) hx hb dX3_status_29 (by decide) ?_
      refine lv_istore_n (lv' := [(3, .int 0), (2, .int 0), (0, .ref (ad 8 0)), (1, .int a1)]) hx hb dX3_status_30 rfl hl (by decide) rfl (fun ls hl => ?_)
      exact hL31 1000 X0 0 0 _ _ _ hF hf (lv_sub hl [2, 1, 0] rfl)
    · replace hF := (if_neg c4).symm.trans hF
      refine lv_aload_n hx hb dX3_status_20 rfl (lv_at hl 0 rfl) ?_
      refine g_get (ci := 3) (C := RX3) (T := TX3) (N := 7) (v := .ref (ad 8 2)) S hf hinX3 0 rfl rfl 5 (by decide) k35 rfl rfl dX3_status_21 ?_
      refine lv_iload_n hx hb dX3_status_24 rfl (lv_at hl 1 rfl) ?_
      obtain ⟨g7, hF⟩ := gd_some hF
      refine g_ald (v := ((X0 8) 0) a1.toNatClampNeg) S hf 2 rfl g7 rfl dX3_status_25 ?_
      have hE := Option.some.inj hF
      have hV := congrArg (fun z : Int32 × K3 => z.1) hE
      have hW := congrArg (fun z : Int32 × K3 => wX G ad z.2) hE
      exact g_iret S hr hlocks hf hV hW dX3_status_26
  · replace hF := (if_pos c3).symm.trans hF
    refine lv_aload_n hx hb dX3_status_10 rfl (lv_at hl 0 rfl) ?_
    refine lv_iconst (v := 0) hx hb dX3_status_11 (by decide) ?_
    obtain ⟨q8, h9, hF⟩ := Option.bind_eq_some_iff.mp hF
    refine g_cv0 (o := some (.int q8.1)) (As := [.int 0]) (rest := []) (st1 := [.int q8.1]) (ci := 3) S hf (c_X3_finding l G ad X0 0 q8 h9) (cwV 1 hts gX3_status_X3_finding rfl rfl rfl (by decide +kernel) ⟨Nat.le_of_ble_eq_true rfl, Nat.le_of_ble_eq_true rfl⟩) rfl rfl rfl 0 rfl rfl hl.1 rfl rfl (Nat.le_of_ble_eq_true rfl) ⟨Nat.zero_le _, Nat.zero_le _⟩ dX3_status_12 (fun H locs hf => ?_)
    have hf : Fr G (va_A (wX G ad X0) s.heap.size) s (wX G ad q8.2) H locs := hf
    have hE := Option.some.inj hF
    have hV := congrArg (fun z : Int32 × K3 => z.1) hE
    have hW := congrArg (fun z : Int32 × K3 => wX G ad z.2) hE
    exact g_iret S hr hlocks hf hV hW dX3_status_15
