def f_X3_arrearsAgree_L38 : Nat → K3 → Nat → Int32 → Int32 → Int32 → Option (Int32 × K3)
  | 0, _, _, _, _, _ => none
  | n + 1, X, j1, x2, x5, x6 => if x5 ≤ x6 then (some (1, X)) else (if x6 ≤ 0 then (if ix x6 40 then (if (((X (4 + j1)) 0) x6.toNatClampNeg) = (-1) then (f_X3_arrearsAgree_L38 n X j1 x2 x5 (x6 + 1)) else (if ix x2 8 then (if (((X (4 + j1)) 0) x6.toNatClampNeg) = (((X 2) 7) x2.toNatClampNeg) then (f_X3_arrearsAgree_L38 n X j1 x2 x5 (x6 + 1)) else (some (0, X))) else none)) else none) else (Option.bind (f_X0_passDays (X 2) 6) (fun q11 => if ix x6 40 then (if (((X (4 + j1)) 0) x6.toNatClampNeg) = (-1) then (f_X3_arrearsAgree_L38 n (va_up X 2 q11) j1 x2 x5 (x6 + 1)) else (if ix x2 8 then (if (((X (4 + j1)) 0) x6.toNatClampNeg) = ((q11 7) x2.toNatClampNeg) then (f_X3_arrearsAgree_L38 n (va_up X 2 q11) j1 x2 x5 (x6 + 1)) else (some (0, va_up X 2 q11))) else none)) else none)))
def f_X3_arrearsAgree (X0 : K3) (a1 : Nat) (a2 : Int32) (a3 : Int32) (a4 : Int32) : Option (Int32 × K3) := Option.bind (f_X0_become2 (X0 2) (X0 0)) (fun q1 => if ix a3 9 then (if ix a2 8 then (f_X3_arrearsAgree_L38 1000 (va_up X0 2 (va_up q1 a3.toNatClampNeg (upd (q1 a3.toNatClampNeg) a2.toNatClampNeg a4))) a1 a2 (imin ((X0 (4 + a1)) 1 1) 10) 0) else none) else none)
set_option maxHeartbeats 4000000 in
set_option maxRecDepth 100000 in
theorem c_X3_arrearsAgree (l : Launch) (G : GT) (ad : Nat → Nat → Nat) (X0 : K3) (a1 : Nat) (a2 : Int32) (a3 : Int32) (a4 : Int32) (q : Int32 × K3) (hF : f_X3_arrearsAgree X0 a1 a2 a3 a4 = some q) (h_a1 : a1 < 4) : Ct l G yX3_arrearsAgree wsX3_arrearsAgree ({ frames := 6, cells := 0, slots := 0, locals := 133 } : Room) ([.ref (ad 8 0), .ref (ad (4 + a1) 0), .int a2, .int a3, .int a4] : List Value) (wX G ad X0) (some (.int q.1)) (wX G ad q.2) := by
  have k19 : Cond.fieldLink RX3 19 "PigeonRolls" "trial" "LPigeonRolls$Kingdom;" ∈ wsX3_arrearsAgree := by decide +kernel
  have k10 : Cond.fieldLink RX3 10 "PigeonRolls" "realm" "LPigeonRolls$Kingdom;" ∈ wsX3_arrearsAgree := by decide +kernel
  have k85 : Cond.fieldLink RX3 85 "PigeonRolls$Kingdom" "traits" "[[I" ∈ wsX3_arrearsAgree := by decide +kernel
  have k211 : Cond.fieldLink RX3 211 "PigeonRolls$Sheet" "length" "I" ∈ wsX3_arrearsAgree := by decide +kernel
  have k237 : Cond.methodLink RX3 237 Lib.Math.min.name ∈ wsX3_arrearsAgree := by decide +kernel
  have ksmin : Cond.static Lib.Math.min.name ∈ wsX3_arrearsAgree := by decide +kernel
  have kiM : Cond.initialized "java/lang/Math" ∈ wsX3_arrearsAgree := by decide +kernel
  have komin : Cond.code Lib.Math.min.name Lib.Math.min.code 2 (some .int) ∈ wsX3_arrearsAgree := by decide +kernel
  have k221 : Cond.fieldLink RX3 221 "PigeonRolls$Sheet" "numbers" "[I" ∈ wsX3_arrearsAgree := by decide +kernel
  have k178 : Cond.fieldLink RX3 178 "PigeonRolls$Kingdom" "owed" "[I" ∈ wsX3_arrearsAgree := by decide +kernel
  have hinX0 : ∀ w ∈ u_ws RX0 TX0 16, w ∈ wsX3_arrearsAgree := by decide +kernel
  have hinX1 : ∀ w ∈ u_ws RX1 TX1 3, w ∈ wsX3_arrearsAgree := by decide +kernel
  have hinX3 : ∀ w ∈ u_ws RX3 TX3 7, w ∈ wsX3_arrearsAgree := by decide +kernel
  refine Ct.of cX3_arrearsAgree 8 (some .boolean) (by decide) rfl (Nat.le_of_ble_eq_true rfl) ?_
  intro p e s m below meth c ls S hr hlocks hf hl
  have S : CallFix p m c cX3_arrearsAgree 8 s ([.ref (ad 8 0), .ref (ad (4 + a1) 0), .int a2, .int a3, .int a4] : List Value).toArray wsX3_arrearsAgree RX3 := S
  obtain ⟨hx, hb, hml, hown, hts⟩ := id S
  have hl : lv_has ls 8 [(0, .ref (ad 8 0)), (1, .ref (ad (4 + a1) 0)), (2, .int a2), (3, .int a3), (4, .int a4)] := hl
  have hL38 : ∀ (n : Nat) (X : K3) (j1 : Nat) (x2 : Int32) (x5 : Int32) (x6 : Int32) (hj_j1 : j1 < 4) (H : Heap) (locs : List Loc) (ls : Array Slot), f_X3_arrearsAgree_L38 n X j1 x2 x5 x6 = some q → Fr G (va_A (wX G ad X0) s.heap.size) s (wX G ad X) H locs → lv_has ls 8 [(0, .ref (ad 8 0)), (1, .ref (ad (4 + j1) 0)), (2, .int x2), (5, .int x5), (6, .int x6)] → W p l e ({ frames := 6, cells := 0, slots := 0, locals := 133 } : Room) s m ([.ref (ad 8 0), .ref (ad (4 + a1) 0), .int a2, .int a3, .int a4] : List Value).toArray below meth c H locs 0 0 (MQ below (CPost G (wX G ad X0) s.heap.size (some (.int q.1)) (wX G ad q.2)) ([.ref (ad 8 0), .ref (ad (4 + a1) 0), .int a2, .int a3, .int a4] : List Value).toArray s 0 0 (va_A (wX G ad X0) s.heap.size)) (F0 m 38 ls []) := by
    intro n
    induction n with
    | zero =>
      intro X j1 x2 x5 x6 hj_j1 H locs ls hF hf hl
      exact absurd hF (by simp [f_X3_arrearsAgree_L38])
    | succ n ih38 =>
      intro X j1 x2 x5 x6 hj_j1 H locs ls hF hf hl
      rw [f_X3_arrearsAgree_L38] at hF
      refine lv_iload hx hb dX3_arrearsAgree_38 (lv_at hl 4 rfl) ?_
      refine lv_iload hx hb dX3_arrearsAgree_40 (lv_at hl 3 rfl) ?_
      refine lv_icmp_ge (tgt := 96) hx hb dX3_arrearsAgree_42 (by decide) (fun c5 => ?_) (fun c5 => ?_)
      · replace hF := (if_pos c5).symm.trans hF
        refine lv_iconst (v := 1) hx hb dX3_arrearsAgree_96 (by decide) ?_
        have hE := Option.some.inj hF
        have hV := congrArg (fun z : Int32 × K3 => z.1) hE
        have hW := congrArg (fun z : Int32 × K3 => wX G ad z.2) hE
        exact g_zret S hr hlocks hf (by decide) hV hW dX3_arrearsAgree_97
      · replace hF := (if_neg c5).symm.trans hF
        refine lv_iload hx hb dX3_arrearsAgree_45 (lv_at hl 4 rfl) ?_
        refine lv_if_le (tgt := 59) hx hb dX3_arrearsAgree_47 (by decide) (fun c6 => ?_) (fun c6 => ?_)
        · replace hF := (if_pos c6).symm.trans hF
          refine lv_aload_n hx hb dX3_arrearsAgree_59 rfl (lv_at hl 1 rfl) ?_
          refine g_get (ci := 1) (C := RX1) (T := TX1) (N := 3) (v := .ref (ad (4 + j1) 1)) S hf hinX1 (44 + 2 * j1) (wX_so hj_j1) rfl 2 (by decide) k221 rfl rfl dX3_arrearsAgree_60 ?_
          refine lv_iload hx hb dX3_arrearsAgree_63 (lv_at hl 4 rfl) ?_
          obtain ⟨g7, hF⟩ := gd_some hF
          refine g_ald (v := ((X (4 + j1)) 0) x6.toNatClampNeg) S hf (45 + 2 * j1) (wX_sn hj_j1) g7 rfl dX3_arrearsAgree_65 ?_
          refine lv_istore (lv' := [(7, .int (((X (4 + j1)) 0) x6.toNatClampNeg)), (0, .ref (ad 8 0)), (1, .ref (ad (4 + j1) 0)), (2, .int x2), (5, .int x5), (6, .int x6)]) hx hb dX3_arrearsAgree_66 hl (by decide) rfl (fun ls hl => ?_)
          refine lv_iload hx hb dX3_arrearsAgree_68 (lv_at hl 0 rfl) ?_
          refine lv_iconst (v := -1) hx hb dX3_arrearsAgree_70 (by decide) ?_
          refine lv_icmp_eq (tgt := 90) hx hb dX3_arrearsAgree_71 (by decide) (fun c8 => ?_) (fun c8 => ?_)
          · replace hF := (if_pos c8).symm.trans hF
            refine lv_iinc (v := x6 + 1) (lv' := [(6, .int (x6 + 1)), (7, .int (((X (4 + j1)) 0) x6.toNatClampNeg)), (0, .ref (ad 8 0)), (1, .ref (ad (4 + j1) 0)), (2, .int x2), (5, .int x5)]) hx hb dX3_arrearsAgree_90 hl (k := 5) rfl rfl (by decide) rfl (fun ls hl => ?_)
            refine lv_goto (tgt := 38) hx hb dX3_arrearsAgree_93 (by decide) ?_
            exact ih38 X j1 x2 x5 (x6 + 1) hj_j1 _ _ _ hF hf (lv_sub hl [2, 3, 4, 5, 0] rfl)
          · replace hF := (if_neg c8).symm.trans hF
            refine lv_iload hx hb dX3_arrearsAgree_74 (lv_at hl 0 rfl) ?_
            refine lv_aload_n hx hb dX3_arrearsAgree_76 rfl (lv_at hl 1 rfl) ?_
            refine g_get (ci := 3) (C := RX3) (T := TX3) (N := 7) (v := .ref (ad 2 0)) S hf hinX3 0 rfl rfl 2 (by decide) k19 rfl rfl dX3_arrearsAgree_77 ?_
            refine g_get (ci := 0) (C := RX0) (T := TX0) (N := 16) (v := .ref (ad 2 11)) S hf hinX0 29 rfl rfl 14 (by decide) k178 rfl rfl dX3_arrearsAgree_80 ?_
            refine lv_iload_n hx hb dX3_arrearsAgree_83 rfl (lv_at hl 3 rfl) ?_
            obtain ⟨g9, hF⟩ := gd_some hF
            refine g_ald (v := ((X 2) 7) x2.toNatClampNeg) S hf 40 rfl g9 rfl dX3_arrearsAgree_84 ?_
            refine lv_icmp_eq (tgt := 90) hx hb dX3_arrearsAgree_85 (by decide) (fun c10 => ?_) (fun c10 => ?_)
            · replace hF := (if_pos c10).symm.trans hF
              refine lv_iinc (v := x6 + 1) (lv' := [(6, .int (x6 + 1)), (7, .int (((X (4 + j1)) 0) x6.toNatClampNeg)), (0, .ref (ad 8 0)), (1, .ref (ad (4 + j1) 0)), (2, .int x2), (5, .int x5)]) hx hb dX3_arrearsAgree_90 hl (k := 5) rfl rfl (by decide) rfl (fun ls hl => ?_)
              refine lv_goto (tgt := 38) hx hb dX3_arrearsAgree_93 (by decide) ?_
              exact ih38 X j1 x2 x5 (x6 + 1) hj_j1 _ _ _ hF hf (lv_sub hl [2, 3, 4, 5, 0] rfl)
            · replace hF := (if_neg c10).symm.trans hF
              refine lv_iconst (v := 0) hx hb dX3_arrearsAgree_88 (by decide) ?_
              have hE := Option.some.inj hF
              have hV := congrArg (fun z : Int32 × K3 => z.1) hE
              have hW := congrArg (fun z : Int32 × K3 => wX G ad z.2) hE
              exact g_zret S hr hlocks hf (by decide) hV hW dX3_arrearsAgree_89
        · replace hF := (if_neg c6).symm.trans hF
          refine lv_aload_n hx hb dX3_arrearsAgree_50 rfl (lv_at hl 0 rfl) ?_
          refine g_get (ci := 3) (C := RX3) (T := TX3) (N := 7) (v := .ref (ad 2 0)) S hf hinX3 0 rfl rfl 2 (by decide) k19 rfl rfl dX3_arrearsAgree_51 ?_
          refine lv_bipush (v := 6) hx hb dX3_arrearsAgree_54 (by decide) ?_
          obtain ⟨q11, h12, hF⟩ := Option.bind_eq_some_iff.mp hF
          refine g_cv (o := none) (As := [.int 6]) (rest := []) (st1 := []) (ci := 0) (a := List.take 29 (wX G ad X)) (b := List.drop 42 (wX G ad X)) S hf (c_X0_passDays l G (ad 2) (X 2) 6 q11 h12) (cwV 1 hts gX3_arrearsAgree_X0_passDays rfl rfl rfl (by decide +kernel) ⟨Nat.le_of_ble_eq_true rfl, Nat.le_of_ble_eq_true rfl⟩) rfl rfl rfl rfl 0 rfl rfl hl.1 rfl rfl (Nat.le_of_ble_eq_true rfl) ⟨Nat.zero_le _, Nat.zero_le _⟩ dX3_arrearsAgree_56 (fun H locs hf => ?_)
          have hf : Fr G (va_A (wX G ad X0) s.heap.size) s (wX G ad (va_up X 2 q11)) H locs := hf
          refine lv_aload_n hx hb dX3_arrearsAgree_59 rfl (lv_at hl 1 rfl) ?_
          refine g_get (ci := 1) (C := RX1) (T := TX1) (N := 3) (v := .ref (ad (4 + j1) 1)) S hf hinX1 (44 + 2 * j1) (wX_sp hj_j1 (up24 (by decide))) rfl 2 (by decide) k221 rfl rfl dX3_arrearsAgree_60 ?_
          refine lv_iload hx hb dX3_arrearsAgree_63 (lv_at hl 4 rfl) ?_
          obtain ⟨g13, hF⟩ := gd_some hF
          refine g_ald (v := ((X (4 + j1)) 0) x6.toNatClampNeg) S hf (45 + 2 * j1) (wX_sm hj_j1 (up24 (by decide))) g13 rfl dX3_arrearsAgree_65 ?_
          refine lv_istore (lv' := [(7, .int (((X (4 + j1)) 0) x6.toNatClampNeg)), (0, .ref (ad 8 0)), (1, .ref (ad (4 + j1) 0)), (2, .int x2), (5, .int x5), (6, .int x6)]) hx hb dX3_arrearsAgree_66 hl (by decide) rfl (fun ls hl => ?_)
          refine lv_iload hx hb dX3_arrearsAgree_68 (lv_at hl 0 rfl) ?_
          refine lv_iconst (v := -1) hx hb dX3_arrearsAgree_70 (by decide) ?_
          refine lv_icmp_eq (tgt := 90) hx hb dX3_arrearsAgree_71 (by decide) (fun c14 => ?_) (fun c14 => ?_)
          · replace hF := (if_pos c14).symm.trans hF
            refine lv_iinc (v := x6 + 1) (lv' := [(6, .int (x6 + 1)), (7, .int (((X (4 + j1)) 0) x6.toNatClampNeg)), (0, .ref (ad 8 0)), (1, .ref (ad (4 + j1) 0)), (2, .int x2), (5, .int x5)]) hx hb dX3_arrearsAgree_90 hl (k := 5) rfl rfl (by decide) rfl (fun ls hl => ?_)
            refine lv_goto (tgt := 38) hx hb dX3_arrearsAgree_93 (by decide) ?_
            exact ih38 (va_up X 2 q11) j1 x2 x5 (x6 + 1) hj_j1 _ _ _ hF hf (lv_sub hl [2, 3, 4, 5, 0] rfl)
          · replace hF := (if_neg c14).symm.trans hF
            refine lv_iload hx hb dX3_arrearsAgree_74 (lv_at hl 0 rfl) ?_
            refine lv_aload_n hx hb dX3_arrearsAgree_76 rfl (lv_at hl 1 rfl) ?_
            refine g_get (ci := 3) (C := RX3) (T := TX3) (N := 7) (v := .ref (ad 2 0)) S hf hinX3 0 rfl rfl 2 (by decide) k19 rfl rfl dX3_arrearsAgree_77 ?_
            refine g_get (ci := 0) (C := RX0) (T := TX0) (N := 16) (v := .ref (ad 2 11)) S hf hinX0 29 rfl rfl 14 (by decide) k178 rfl rfl dX3_arrearsAgree_80 ?_
            refine lv_iload_n hx hb dX3_arrearsAgree_83 rfl (lv_at hl 3 rfl) ?_
            obtain ⟨g15, hF⟩ := gd_some hF
            refine g_ald (v := (q11 7) x2.toNatClampNeg) S hf 40 rfl g15 rfl dX3_arrearsAgree_84 ?_
            refine lv_icmp_eq (tgt := 90) hx hb dX3_arrearsAgree_85 (by decide) (fun c16 => ?_) (fun c16 => ?_)
            · replace hF := (if_pos c16).symm.trans hF
              refine lv_iinc (v := x6 + 1) (lv' := [(6, .int (x6 + 1)), (7, .int (((X (4 + j1)) 0) x6.toNatClampNeg)), (0, .ref (ad 8 0)), (1, .ref (ad (4 + j1) 0)), (2, .int x2), (5, .int x5)]) hx hb dX3_arrearsAgree_90 hl (k := 5) rfl rfl (by decide) rfl (fun ls hl => ?_)
              refine lv_goto (tgt := 38) hx hb dX3_arrearsAgree_93 (by decide) ?_
              exact ih38 (va_up X 2 q11) j1 x2 x5 (x6 + 1) hj_j1 _ _ _ hF hf (lv_sub hl [2, 3, 4, 5, 0] rfl)
            · replace hF := (if_neg c16).symm.trans hF
              refine lv_iconst (v := 0) hx hb dX3_arrearsAgree_88 (by decide) ?_
              have hE := Option.some.inj hF
              have hV := congrArg (fun z : Int32 × K3 => z.1) hE
              have hW := congrArg (fun z : Int32 × K3 => wX G ad z.2) hE
              exact g_zret S hr hlocks hf (by decide) hV hW dX3_arrearsAgree_89
  unfold f_X3_arrearsAgree at hF
  refine lv_aload_n hx hb dX3_arrearsAgree_0 rfl (lv_at hl 0 rfl) ?_
  refine g_get (ci := 3) (C := RX3) (T := TX3) (N := 7) (v := .ref (ad 2 0)) S hf hinX3 0 rfl rfl 2 (by decide) k19 rfl rfl dX3_arrearsAgree_1 ?_
  refine lv_aload_n hx hb dX3_arrearsAgree_4 rfl (lv_at hl 0 rfl) ?_
  refine g_get (ci := 3) (C := RX3) (T := TX3) (N := 7) (v := .ref (ad 0 0)) S hf hinX3 0 rfl rfl 0 (by decide) k10 rfl rfl dX3_arrearsAgree_5 ?_
  obtain ⟨q1, h2, hF⟩ := Option.bind_eq_some_iff.mp hF
  refine g_cv (o := none) (As := [.ref (ad 0 0)]) (rest := []) (st1 := []) (ci := 0) (a := List.take 16 (wX G ad X0)) (b := List.drop 42 (wX G ad X0)) S hf (c_X0_become2 l G (ad 2) (ad 0) (X0 2) (X0 0) q1 h2) (cwV 1 hts gX3_arrearsAgree_X0_become rfl rfl rfl (by decide +kernel) ⟨Nat.le_of_ble_eq_true rfl, Nat.le_of_ble_eq_true rfl⟩) rfl rfl rfl rfl 13 rfl rfl hl.1 rfl rfl (Nat.le_of_ble_eq_true rfl) ⟨Nat.zero_le _, Nat.zero_le _⟩ dX3_arrearsAgree_8 (fun H locs hf => ?_)
  have hf : Fr G (va_A (wX G ad X0) s.heap.size) s (wX G ad (va_up X0 2 q1)) H locs := hf
  refine lv_aload_n hx hb dX3_arrearsAgree_11 rfl (lv_at hl 0 rfl) ?_
  refine g_get (ci := 3) (C := RX3) (T := TX3) (N := 7) (v := .ref (ad 2 0)) S hf hinX3 0 rfl rfl 2 (by decide) k19 rfl rfl dX3_arrearsAgree_12 ?_
  refine g_get (ci := 0) (C := RX0) (T := TX0) (N := 16) (v := .ref (ad 2 3)) S hf hinX0 29 rfl rfl 6 (by decide) k85 rfl rfl dX3_arrearsAgree_15 ?_
  refine lv_iload_n hx hb dX3_arrearsAgree_18 rfl (lv_at hl 3 rfl) ?_
  obtain ⟨g3, hF⟩ := gd_some hF
  refine g_aald (v := ad 2 (4 + a3.toNatClampNeg)) (t0 := 1) S hf 32 rfl rfl rfl g3 (if_pos (ix_lt g3)) dX3_arrearsAgree_19 ?_
  refine lv_iload_n hx hb dX3_arrearsAgree_20 rfl (lv_at hl 2 rfl) ?_
  refine lv_iload hx hb dX3_arrearsAgree_21 (lv_at hl 4 rfl) ?_
  obtain ⟨g4, hF⟩ := gd_some hF
  refine g_ast (ww' := wX G ad (va_up X0 2 (va_up q1 a3.toNatClampNeg (upd (q1 a3.toNatClampNeg) a2.toNatClampNeg a4)))) S hf (33 + a3.toNatClampNeg) (wX_r2 (ix_lt g3)) g4 (wX_r2_set (ix_lt g3)) dX3_arrearsAgree_23 (fun H locs hf => ?_)
  refine lv_aload_n hx hb dX3_arrearsAgree_24 rfl (lv_at hl 1 rfl) ?_
  refine g_get (ci := 1) (C := RX1) (T := TX1) (N := 3) (v := .int ((X0 (4 + a1)) 1 1)) S hf hinX1 (44 + 2 * a1) (wX_sp h_a1 (up24 (by decide))) rfl 1 (by decide) k211 rfl rfl dX3_arrearsAgree_25 ?_
  refine lv_bipush (v := 10) hx hb dX3_arrearsAgree_28 (by decide) ?_
  refine va_mmin hx hb (hml.trans hl.1.symm) hown (hts _ k237) (hts _ ksmin) (hts _ kiM) (hts _ komin) (Nat.le_of_ble_eq_true rfl) (Nat.le_of_ble_eq_true rfl) (Nat.zero_le _) (Nat.zero_le _) dX3_arrearsAgree_30 ?_
  refine lv_istore (lv' := [(5, .int (imin ((X0 (4 + a1)) 1 1) 10)), (0, .ref (ad 8 0)), (1, .ref (ad (4 + a1) 0)), (2, .int a2), (3, .int a3), (4, .int a4)]) hx hb dX3_arrearsAgree_33 hl (by decide) rfl (fun ls hl => ?_)
  refine lv_iconst (v := 0) hx hb dX3_arrearsAgree_35 (by decide) ?_
  refine lv_istore (lv' := [(6, .int 0), (5, .int (imin ((X0 (4 + a1)) 1 1) 10)), (0, .ref (ad 8 0)), (1, .ref (ad (4 + a1) 0)), (2, .int a2), (3, .int a3), (4, .int a4)]) hx hb dX3_arrearsAgree_36 hl (by decide) rfl (fun ls hl => ?_)
  exact hL38 1000 (va_up X0 2 (va_up q1 a3.toNatClampNeg (upd (q1 a3.toNatClampNeg) a2.toNatClampNeg a4))) a1 a2 (imin ((X0 (4 + a1)) 1 1) 10) 0 h_a1 _ _ _ hF hf (lv_sub hl [2, 3, 4, 1, 0] rfl)
def f_X3_fits_L52 : Nat → K3 → Int32 → Nat → Int32 → Int32 → Option (Int32 × K3)
  | 0, _, _, _, _, _ => none
  | n + 1, X, x2, j3, x4, x5 => if 99 < x5 then (some (x4, X)) else (Option.bind (f_X3_arrearsAgree X j3 x2 3 x5) (fun q14 => if q14.1 = 0 then (f_X3_fits_L52 n q14.2 x2 j3 x4 (x5 + 1)) else (f_X3_fits_L52 n q14.2 x2 j3 (x4 + 1) (x5 + 1))))
def f_X3_fits (X0 : K3) (a1 : Int32) (a2 : Int32) : Option (Int32 × K3) := Option.bind (f_X3_sheetOf X0 a1) (fun q1 => shc q1 (Option.bind (f_X3_finding X0 0) (fun q5 => some (q5.1, q5.2))) (fun j3 => if j3 < 4 then (Option.bind (f_X1_isMissing (X0 (4 + j3))) (fun q7 => if q7 = 0 then (Option.bind (f_X0_has (X0 0) a2) (fun q10 => if q10 = 0 then (Option.bind (f_X3_finding X0 0) (fun q17 => some (q17.1, q17.2))) else (f_X3_fits_L52 1000 X0 a2 j3 0 0))) else (Option.bind (f_X3_finding X0 5) (fun q19 => some (q19.1, q19.2))))) else none))
set_option maxHeartbeats 4000000 in
set_option maxRecDepth 100000 in
theorem c_X3_fits (l : Launch) (G : GT) (ad : Nat → Nat → Nat) (X0 : K3) (a1 : Int32) (a2 : Int32) (q : Int32 × K3) (hF : f_X3_fits X0 a1 a2 = some q) : Ct l G yX3_fits wsX3_fits ({ frames := 7, cells := 0, slots := 0, locals := 160 } : Room) ([.ref (ad 8 0), .int a1, .int a2] : List Value) (wX G ad X0) (some (.int q.1)) (wX G ad q.2) := by
  have k10 : Cond.fieldLink RX3 10 "PigeonRolls" "realm" "LPigeonRolls$Kingdom;" ∈ wsX3_fits := by decide +kernel
  have hinX3 : ∀ w ∈ u_ws RX3 TX3 7, w ∈ wsX3_fits := by decide +kernel
  refine Ct.of cX3_fits 6 (some .int) (by decide) rfl (Nat.le_of_ble_eq_true rfl) ?_
  intro p e s m below meth c ls S hr hlocks hf hl
  have S : CallFix p m c cX3_fits 6 s ([.ref (ad 8 0), .int a1, .int a2] : List Value).toArray wsX3_fits RX3 := S
  obtain ⟨hx, hb, hml, hown, hts⟩ := id S
  have hl : lv_has ls 6 [(0, .ref (ad 8 0)), (1, .int a1), (2, .int a2)] := hl
  have hL52 : ∀ (n : Nat) (X : K3) (x2 : Int32) (j3 : Nat) (x4 : Int32) (x5 : Int32) (hj_j3 : j3 < 4) (H : Heap) (locs : List Loc) (ls : Array Slot), f_X3_fits_L52 n X x2 j3 x4 x5 = some q → Fr G (va_A (wX G ad X0) s.heap.size) s (wX G ad X) H locs → lv_has ls 6 [(0, .ref (ad 8 0)), (2, .int x2), (3, .ref (ad (4 + j3) 0)), (4, .int x4), (5, .int x5)] → W p l e ({ frames := 7, cells := 0, slots := 0, locals := 160 } : Room) s m ([.ref (ad 8 0), .int a1, .int a2] : List Value).toArray below meth c H locs 0 0 (MQ below (CPost G (wX G ad X0) s.heap.size (some (.int q.1)) (wX G ad q.2)) ([.ref (ad 8 0), .int a1, .int a2] : List Value).toArray s 0 0 (va_A (wX G ad X0) s.heap.size)) (F0 m 52 ls []) := by
    intro n
    induction n with
    | zero =>
      intro X x2 j3 x4 x5 hj_j3 H locs ls hF hf hl
      exact absurd hF (by simp [f_X3_fits_L52])
    | succ n ih52 =>
      intro X x2 j3 x4 x5 hj_j3 H locs ls hF hf hl
      rw [f_X3_fits_L52] at hF
      refine lv_iload hx hb dX3_fits_52 (lv_at hl 4 rfl) ?_
      refine lv_bipush (v := 99) hx hb dX3_fits_54 (by decide) ?_
      refine lv_icmp_gt (tgt := 80) hx hb dX3_fits_56 (by decide) (fun c13 => ?_) (fun c13 => ?_)
      · replace hF := (if_pos c13).symm.trans hF
        refine lv_iload hx hb dX3_fits_80 (lv_at hl 3 rfl) ?_
        have hE := Option.some.inj hF
        have hV := congrArg (fun z : Int32 × K3 => z.1) hE
        have hW := congrArg (fun z : Int32 × K3 => wX G ad z.2) hE
        exact g_iret S hr hlocks hf hV hW dX3_fits_82
      · replace hF := (if_neg c13).symm.trans hF
        refine lv_aload_n hx hb dX3_fits_59 rfl (lv_at hl 0 rfl) ?_
        refine lv_aload_n hx hb dX3_fits_60 rfl (lv_at hl 2 rfl) ?_
        refine lv_iload_n hx hb dX3_fits_61 rfl (lv_at hl 1 rfl) ?_
        refine lv_iconst (v := 3) hx hb dX3_fits_62 (by decide) ?_
        refine lv_iload hx hb dX3_fits_63 (lv_at hl 4 rfl) ?_
        obtain ⟨q14, h15, hF⟩ := Option.bind_eq_some_iff.mp hF
        refine g_cv0 (o := some (.int q14.1)) (As := [.ref (ad (4 + j3) 0), .int x2, .int 3, .int x5]) (rest := []) (st1 := [.int q14.1]) (ci := 3) S hf (c_X3_arrearsAgree l G ad X j3 x2 3 x5 q14 h15 hj_j3) (cwV 4 hts gX3_fits_X3_arrearsAgree rfl rfl rfl (by decide +kernel) ⟨Nat.le_of_ble_eq_true rfl, Nat.le_of_ble_eq_true rfl⟩) rfl rfl rfl 0 rfl rfl hl.1 rfl rfl (Nat.le_of_ble_eq_true rfl) ⟨Nat.zero_le _, Nat.zero_le _⟩ dX3_fits_65 (fun H locs hf => ?_)
        have hf : Fr G (va_A (wX G ad X0) s.heap.size) s (wX G ad q14.2) H locs := hf
        refine lv_if_eq (tgt := 74) hx hb dX3_fits_68 (by decide) (fun c16 => ?_) (fun c16 => ?_)
        · replace hF := (if_pos c16).symm.trans hF
          refine lv_iinc (v := x5 + 1) (lv' := [(5, .int (x5 + 1)), (0, .ref (ad 8 0)), (2, .int x2), (3, .ref (ad (4 + j3) 0)), (4, .int x4)]) hx hb dX3_fits_74 hl (k := 4) rfl rfl (by decide) rfl (fun ls hl => ?_)
          refine lv_goto (tgt := 52) hx hb dX3_fits_77 (by decide) ?_
          exact ih52 q14.2 x2 j3 x4 (x5 + 1) hj_j3 _ _ _ hF hf (lv_sub hl [1, 2, 3, 4, 0] rfl)
        · replace hF := (if_neg c16).symm.trans hF
          refine lv_iinc (v := x4 + 1) (lv' := [(4, .int (x4 + 1)), (0, .ref (ad 8 0)), (2, .int x2), (3, .ref (ad (4 + j3) 0)), (5, .int x5)]) hx hb dX3_fits_71 hl (k := 3) rfl rfl (by decide) rfl (fun ls hl => ?_)
          refine lv_iinc (v := x5 + 1) (lv' := [(5, .int (x5 + 1)), (4, .int (x4 + 1)), (0, .ref (ad 8 0)), (2, .int x2), (3, .ref (ad (4 + j3) 0))]) hx hb dX3_fits_74 hl (k := 4) rfl rfl (by decide) rfl (fun ls hl => ?_)
          refine lv_goto (tgt := 52) hx hb dX3_fits_77 (by decide) ?_
          exact ih52 q14.2 x2 j3 (x4 + 1) (x5 + 1) hj_j3 _ _ _ hF hf (lv_sub hl [2, 3, 4, 1, 0] rfl)
  unfold f_X3_fits at hF
  refine lv_aload_n hx hb dX3_fits_0 rfl (lv_at hl 0 rfl) ?_
  refine lv_iload_n hx hb dX3_fits_1 rfl (lv_at hl 1 rfl) ?_
  obtain ⟨q1, h2, hF⟩ := Option.bind_eq_some_iff.mp hF
  refine g_cv0 (o := some (va_rf (Option.map (fun j => ad (4 + j) 0) q1))) (As := [.int a1]) (rest := []) (st1 := [va_rf (Option.map (fun j => ad (4 + j) 0) q1)]) (ci := 3) S hf (c_X3_sheetOf l G ad X0 a1 q1 h2) (cwV 1 hts gX3_fits_X3_sheetOf rfl rfl rfl (by decide +kernel) ⟨Nat.le_of_ble_eq_true rfl, Nat.le_of_ble_eq_true rfl⟩) rfl rfl rfl 0 rfl rfl hl.1 rfl rfl (Nat.le_of_ble_eq_true rfl) ⟨Nat.zero_le _, Nat.zero_le _⟩ dX3_fits_2 (fun H locs hf => ?_)
  have hf : Fr G (va_A (wX G ad X0) s.heap.size) s (wX G ad X0) H locs := hf
  cases q1 with
  | none =>
    replace hF := shc_none.symm.trans hF
    refine W.eq (g2 := F0 m 5 ls [.null]) rfl ?_
    refine lv_astore_nN (lv' := [(3, .null), (0, .ref (ad 8 0)), (1, .int a1), (2, .int a2)]) hx hb dX3_fits_5 rfl hl (by decide) rfl (fun ls hl => ?_)
    refine lv_aload_nN hx hb dX3_fits_6 rfl (lv_at hl 0 rfl) ?_
    refine lv_ifnonnullN hx hb dX3_fits_7 ?_
    refine lv_aload_n hx hb dX3_fits_10 rfl (lv_at hl 1 rfl) ?_
    refine lv_iconst (v := 0) hx hb dX3_fits_11 (by decide) ?_
    obtain ⟨q5, h6, hF⟩ := Option.bind_eq_some_iff.mp hF
    refine g_cv0 (o := some (.int q5.1)) (As := [.int 0]) (rest := []) (st1 := [.int q5.1]) (ci := 3) S hf (c_X3_finding l G ad X0 0 q5 h6) (cwV 1 hts gX3_fits_X3_finding rfl rfl rfl (by decide +kernel) ⟨Nat.le_of_ble_eq_true rfl, Nat.le_of_ble_eq_true rfl⟩) rfl rfl rfl 0 rfl rfl hl.1 rfl rfl (Nat.le_of_ble_eq_true rfl) ⟨Nat.zero_le _, Nat.zero_le _⟩ dX3_fits_12 (fun H locs hf => ?_)
    have hf : Fr G (va_A (wX G ad X0) s.heap.size) s (wX G ad q5.2) H locs := hf
    have hE := Option.some.inj hF
    have hV := congrArg (fun z : Int32 × K3 => z.1) hE
    have hW := congrArg (fun z : Int32 × K3 => wX G ad z.2) hE
    exact g_iret S hr hlocks hf hV hW dX3_fits_15
  | some j3 =>
    replace hF := shc_some.symm.trans hF
    obtain ⟨hj4, hF⟩ := gd_some hF
    refine W.eq (g2 := F0 m 5 ls [.ref (ad (4 + j3) 0)]) rfl ?_
    refine lv_astore_n (lv' := [(3, .ref (ad (4 + j3) 0)), (0, .ref (ad 8 0)), (1, .int a1), (2, .int a2)]) hx hb dX3_fits_5 rfl hl (by decide) rfl (fun ls hl => ?_)
    refine lv_aload_n hx hb dX3_fits_6 rfl (lv_at hl 0 rfl) ?_
    refine lv_ifnonnull (tgt := 16) hx hb dX3_fits_7 (by decide) ?_
    refine lv_aload_n hx hb dX3_fits_16 rfl (lv_at hl 0 rfl) ?_
    obtain ⟨q7, h8, hF⟩ := Option.bind_eq_some_iff.mp hF
    refine g_cv (o := some (.int q7)) (As := []) (rest := []) (st1 := [.int q7]) (ci := 1) (a := List.take (44 + 2 * j3) (wX G ad X0)) (b := List.drop (46 + 2 * j3) (wX G ad X0)) S hf (c_X1_isMissing l G (ad (4 + j3)) (X0 (4 + j3)) q7 h8) (cwV 0 hts gX3_fits_X1_isMissing rfl rfl rfl (by decide +kernel) ⟨Nat.le_of_ble_eq_true rfl, Nat.le_of_ble_eq_true rfl⟩) (wX_sw hj4) rfl rfl rfl 0 rfl rfl hl.1 rfl rfl (Nat.le_of_ble_eq_true rfl) ⟨Nat.zero_le _, Nat.zero_le _⟩ dX3_fits_17 (fun H locs hf => ?_)
    rw [← wX_sw hj4] at hf
    refine lv_if_eq (tgt := 29) hx hb dX3_fits_20 (by decide) (fun c9 => ?_) (fun c9 => ?_)
    · replace hF := (if_pos c9).symm.trans hF
      refine lv_aload_n hx hb dX3_fits_29 rfl (lv_at hl 1 rfl) ?_
      refine g_get (ci := 3) (C := RX3) (T := TX3) (N := 7) (v := .ref (ad 0 0)) S hf hinX3 0 rfl rfl 0 (by decide) k10 rfl rfl dX3_fits_30 ?_
      refine lv_iload_n hx hb dX3_fits_33 rfl (lv_at hl 3 rfl) ?_
      obtain ⟨q10, h11, hF⟩ := Option.bind_eq_some_iff.mp hF
      refine g_cv (o := some (.int q10)) (As := [.int a2]) (rest := []) (st1 := [.int q10]) (ci := 0) (a := List.take 16 (wX G ad X0)) (b := List.drop 29 (wX G ad X0)) S hf (c_X0_has l G (ad 0) (X0 0) a2 q10 h11) (cwV 1 hts gX3_fits_X0_has rfl rfl rfl (by decide +kernel) ⟨Nat.le_of_ble_eq_true rfl, Nat.le_of_ble_eq_true rfl⟩) rfl rfl rfl rfl 0 rfl rfl hl.1 rfl rfl (Nat.le_of_ble_eq_true rfl) ⟨Nat.zero_le _, Nat.zero_le _⟩ dX3_fits_34 (fun H locs hf => ?_)
      have hf : Fr G (va_A (wX G ad X0) s.heap.size) s (wX G ad X0) H locs := hf
      refine lv_if_ne (tgt := 46) hx hb dX3_fits_37 (by decide) (fun c12 => ?_) (fun c12 => ?_)
      · replace hF := (if_neg c12).symm.trans hF
        refine lv_iconst (v := 0) hx hb dX3_fits_46 (by decide) ?_
        refine lv_istore (lv' := [(4, .int 0), (3, .ref (ad (4 + j3) 0)), (0, .ref (ad 8 0)), (1, .int a1), (2, .int a2)]) hx hb dX3_fits_47 hl (by decide) rfl (fun ls hl => ?_)
        refine lv_iconst (v := 0) hx hb dX3_fits_49 (by decide) ?_
        refine lv_istore (lv' := [(5, .int 0), (4, .int 0), (3, .ref (ad (4 + j3) 0)), (0, .ref (ad 8 0)), (1, .int a1), (2, .int a2)]) hx hb dX3_fits_50 hl (by decide) rfl (fun ls hl => ?_)
        exact hL52 1000 X0 a2 j3 0 0 hj4 _ _ _ hF hf (lv_sub hl [3, 5, 2, 1, 0] rfl)
      · replace hF := (if_pos c12).symm.trans hF
        refine lv_aload_n hx hb dX3_fits_40 rfl (lv_at hl 1 rfl) ?_
        refine lv_iconst (v := 0) hx hb dX3_fits_41 (by decide) ?_
        obtain ⟨q17, h18, hF⟩ := Option.bind_eq_some_iff.mp hF
        refine g_cv0 (o := some (.int q17.1)) (As := [.int 0]) (rest := []) (st1 := [.int q17.1]) (ci := 3) S hf (c_X3_finding l G ad X0 0 q17 h18) (cwV 1 hts gX3_fits_X3_finding rfl rfl rfl (by decide +kernel) ⟨Nat.le_of_ble_eq_true rfl, Nat.le_of_ble_eq_true rfl⟩) rfl rfl rfl 0 rfl rfl hl.1 rfl rfl (Nat.le_of_ble_eq_true rfl) ⟨Nat.zero_le _, Nat.zero_le _⟩ dX3_fits_42 (fun H locs hf => ?_)
        have hf : Fr G (va_A (wX G ad X0) s.heap.size) s (wX G ad q17.2) H locs := hf
        have hE := Option.some.inj hF
        have hV := congrArg (fun z : Int32 × K3 => z.1) hE
        have hW := congrArg (fun z : Int32 × K3 => wX G ad z.2) hE
        exact g_iret S hr hlocks hf hV hW dX3_fits_45
    · replace hF := (if_neg c9).symm.trans hF
      refine lv_aload_n hx hb dX3_fits_23 rfl (lv_at hl 1 rfl) ?_
      refine lv_iconst (v := 5) hx hb dX3_fits_24 (by decide) ?_
      obtain ⟨q19, h20, hF⟩ := Option.bind_eq_some_iff.mp hF
      refine g_cv0 (o := some (.int q19.1)) (As := [.int 5]) (rest := []) (st1 := [.int q19.1]) (ci := 3) S hf (c_X3_finding l G ad X0 5 q19 h20) (cwV 1 hts gX3_fits_X3_finding rfl rfl rfl (by decide +kernel) ⟨Nat.le_of_ble_eq_true rfl, Nat.le_of_ble_eq_true rfl⟩) rfl rfl rfl 0 rfl rfl hl.1 rfl rfl (Nat.le_of_ble_eq_true rfl) ⟨Nat.zero_le _, Nat.zero_le _⟩ dX3_fits_25 (fun H locs hf => ?_)
      have hf : Fr G (va_A (wX G ad X0) s.heap.size) s (wX G ad q19.2) H locs := hf
      have hE := Option.some.inj hF
      have hV := congrArg (fun z : Int32 × K3 => z.1) hE
      have hW := congrArg (fun z : Int32 × K3 => wX G ad z.2) hE
      exact g_iret S hr hlocks hf hV hW dX3_fits_28
def f_X3_kinds_L52 : Nat → K3 → Int32 → Nat → Int32 → Int32 → Option (Int32 × K3)
  | 0, _, _, _, _, _ => none
  | n + 1, X, x2, j3, x4, x5 => if 7 ≤ x5 then (some (x4, X)) else (Option.bind (f_X3_arrearsAgree X j3 x2 0 x5) (fun q14 => if q14.1 = 0 then (f_X3_kinds_L52 n q14.2 x2 j3 x4 (x5 + 1)) else (f_X3_kinds_L52 n q14.2 x2 j3 (x4 ||| (1 <<< (x5 &&& 31))) (x5 + 1))))
def f_X3_kinds (X0 : K3) (a1 : Int32) (a2 : Int32) : Option (Int32 × K3) := Option.bind (f_X3_sheetOf X0 a1) (fun q1 => shc q1 (Option.bind (f_X3_finding X0 0) (fun q5 => some (q5.1, q5.2))) (fun j3 => if j3 < 4 then (Option.bind (f_X1_isMissing (X0 (4 + j3))) (fun q7 => if q7 = 0 then (Option.bind (f_X0_has (X0 0) a2) (fun q10 => if q10 = 0 then (Option.bind (f_X3_finding X0 0) (fun q17 => some (q17.1, q17.2))) else (f_X3_kinds_L52 1000 X0 a2 j3 0 0))) else (Option.bind (f_X3_finding X0 5) (fun q19 => some (q19.1, q19.2))))) else none))
set_option maxHeartbeats 4000000 in
set_option maxRecDepth 100000 in
theorem c_X3_kinds (l : Launch) (G : GT) (ad : Nat → Nat → Nat) (X0 : K3) (a1 : Int32) (a2 : Int32) (q : Int32 × K3) (hF : f_X3_kinds X0 a1 a2 = some q) : Ct l G yX3_kinds wsX3_kinds ({ frames := 7, cells := 0, slots := 0, locals := 160 } : Room) ([.ref (ad 8 0), .int a1, .int a2] : List Value) (wX G ad X0) (some (.int q.1)) (wX G ad q.2) := by
  have k10 : Cond.fieldLink RX3 10 "PigeonRolls" "realm" "LPigeonRolls$Kingdom;" ∈ wsX3_kinds := by decide +kernel
  have hinX3 : ∀ w ∈ u_ws RX3 TX3 7, w ∈ wsX3_kinds := by decide +kernel
  refine Ct.of cX3_kinds 6 (some .int) (by decide) rfl (Nat.le_of_ble_eq_true rfl) ?_
  intro p e s m below meth c ls S hr hlocks hf hl
  have S : CallFix p m c cX3_kinds 6 s ([.ref (ad 8 0), .int a1, .int a2] : List Value).toArray wsX3_kinds RX3 := S
  obtain ⟨hx, hb, hml, hown, hts⟩ := id S
  have hl : lv_has ls 6 [(0, .ref (ad 8 0)), (1, .int a1), (2, .int a2)] := hl
  have hL52 : ∀ (n : Nat) (X : K3) (x2 : Int32) (j3 : Nat) (x4 : Int32) (x5 : Int32) (hj_j3 : j3 < 4) (H : Heap) (locs : List Loc) (ls : Array Slot), f_X3_kinds_L52 n X x2 j3 x4 x5 = some q → Fr G (va_A (wX G ad X0) s.heap.size) s (wX G ad X) H locs → lv_has ls 6 [(0, .ref (ad 8 0)), (2, .int x2), (3, .ref (ad (4 + j3) 0)), (4, .int x4), (5, .int x5)] → W p l e ({ frames := 7, cells := 0, slots := 0, locals := 160 } : Room) s m ([.ref (ad 8 0), .int a1, .int a2] : List Value).toArray below meth c H locs 0 0 (MQ below (CPost G (wX G ad X0) s.heap.size (some (.int q.1)) (wX G ad q.2)) ([.ref (ad 8 0), .int a1, .int a2] : List Value).toArray s 0 0 (va_A (wX G ad X0) s.heap.size)) (F0 m 52 ls []) := by
    intro n
    induction n with
    | zero =>
      intro X x2 j3 x4 x5 hj_j3 H locs ls hF hf hl
      exact absurd hF (by simp [f_X3_kinds_L52])
    | succ n ih52 =>
      intro X x2 j3 x4 x5 hj_j3 H locs ls hF hf hl
      rw [f_X3_kinds_L52] at hF
      refine lv_iload hx hb dX3_kinds_52 (lv_at hl 4 rfl) ?_
      refine lv_bipush (v := 7) hx hb dX3_kinds_54 (by decide) ?_
      refine lv_icmp_ge (tgt := 86) hx hb dX3_kinds_56 (by decide) (fun c13 => ?_) (fun c13 => ?_)
      · replace hF := (if_pos c13).symm.trans hF
        refine lv_iload hx hb dX3_kinds_86 (lv_at hl 3 rfl) ?_
        have hE := Option.some.inj hF
        have hV := congrArg (fun z : Int32 × K3 => z.1) hE
        have hW := congrArg (fun z : Int32 × K3 => wX G ad z.2) hE
        exact g_iret S hr hlocks hf hV hW dX3_kinds_88
      · replace hF := (if_neg c13).symm.trans hF
        refine lv_aload_n hx hb dX3_kinds_59 rfl (lv_at hl 0 rfl) ?_
        refine lv_aload_n hx hb dX3_kinds_60 rfl (lv_at hl 2 rfl) ?_
        refine lv_iload_n hx hb dX3_kinds_61 rfl (lv_at hl 1 rfl) ?_
        refine lv_iconst (v := 0) hx hb dX3_kinds_62 (by decide) ?_
        refine lv_iload hx hb dX3_kinds_63 (lv_at hl 4 rfl) ?_
        obtain ⟨q14, h15, hF⟩ := Option.bind_eq_some_iff.mp hF
        refine g_cv0 (o := some (.int q14.1)) (As := [.ref (ad (4 + j3) 0), .int x2, .int 0, .int x5]) (rest := []) (st1 := [.int q14.1]) (ci := 3) S hf (c_X3_arrearsAgree l G ad X j3 x2 0 x5 q14 h15 hj_j3) (cwV 4 hts gX3_kinds_X3_arrearsAgree rfl rfl rfl (by decide +kernel) ⟨Nat.le_of_ble_eq_true rfl, Nat.le_of_ble_eq_true rfl⟩) rfl rfl rfl 0 rfl rfl hl.1 rfl rfl (Nat.le_of_ble_eq_true rfl) ⟨Nat.zero_le _, Nat.zero_le _⟩ dX3_kinds_65 (fun H locs hf => ?_)
        have hf : Fr G (va_A (wX G ad X0) s.heap.size) s (wX G ad q14.2) H locs := hf
        refine lv_if_eq (tgt := 80) hx hb dX3_kinds_68 (by decide) (fun c16 => ?_) (fun c16 => ?_)
        · replace hF := (if_pos c16).symm.trans hF
          refine lv_iinc (v := x5 + 1) (lv' := [(5, .int (x5 + 1)), (0, .ref (ad 8 0)), (2, .int x2), (3, .ref (ad (4 + j3) 0)), (4, .int x4)]) hx hb dX3_kinds_80 hl (k := 4) rfl rfl (by decide) rfl (fun ls hl => ?_)
          refine lv_goto (tgt := 52) hx hb dX3_kinds_83 (by decide) ?_
          exact ih52 q14.2 x2 j3 x4 (x5 + 1) hj_j3 _ _ _ hF hf (lv_sub hl [1, 2, 3, 4, 0] rfl)
        · replace hF := (if_neg c16).symm.trans hF
          refine lv_iload hx hb dX3_kinds_71 (lv_at hl 3 rfl) ?_
          refine lv_iconst (v := 1) hx hb dX3_kinds_73 (by decide) ?_
          refine lv_iload hx hb dX3_kinds_74 (lv_at hl 4 rfl) ?_
          refine lv_ishl hx hb dX3_kinds_76 ?_
          refine lv_ior hx hb dX3_kinds_77 ?_
          refine lv_istore (lv' := [(4, .int (x4 ||| (1 <<< (x5 &&& 31)))), (0, .ref (ad 8 0)), (2, .int x2), (3, .ref (ad (4 + j3) 0)), (5, .int x5)]) hx hb dX3_kinds_78 hl (by decide) rfl (fun ls hl => ?_)
          refine lv_iinc (v := x5 + 1) (lv' := [(5, .int (x5 + 1)), (4, .int (x4 ||| (1 <<< (x5 &&& 31)))), (0, .ref (ad 8 0)), (2, .int x2), (3, .ref (ad (4 + j3) 0))]) hx hb dX3_kinds_80 hl (k := 4) rfl rfl (by decide) rfl (fun ls hl => ?_)
          refine lv_goto (tgt := 52) hx hb dX3_kinds_83 (by decide) ?_
          exact ih52 q14.2 x2 j3 (x4 ||| (1 <<< (x5 &&& 31))) (x5 + 1) hj_j3 _ _ _ hF hf (lv_sub hl [2, 3, 4, 1, 0] rfl)
  unfold f_X3_kinds at hF
  refine lv_aload_n hx hb dX3_kinds_0 rfl (lv_at hl 0 rfl) ?_
  refine lv_iload_n hx hb dX3_kinds_1 rfl (lv_at hl 1 rfl) ?_
  obtain ⟨q1, h2, hF⟩ := Option.bind_eq_some_iff.mp hF
  refine g_cv0 (o := some (va_rf (Option.map (fun j => ad (4 + j) 0) q1))) (As := [.int a1]) (rest := []) (st1 := [va_rf (Option.map (fun j => ad (4 + j) 0) q1)]) (ci := 3) S hf (c_X3_sheetOf l G ad X0 a1 q1 h2) (cwV 1 hts gX3_kinds_X3_sheetOf rfl rfl rfl (by decide +kernel) ⟨Nat.le_of_ble_eq_true rfl, Nat.le_of_ble_eq_true rfl⟩) rfl rfl rfl 0 rfl rfl hl.1 rfl rfl (Nat.le_of_ble_eq_true rfl) ⟨Nat.zero_le _, Nat.zero_le _⟩ dX3_kinds_2 (fun H locs hf => ?_)
  have hf : Fr G (va_A (wX G ad X0) s.heap.size) s (wX G ad X0) H locs := hf
  cases q1 with
  | none =>
    replace hF := shc_none.symm.trans hF
    refine W.eq (g2 := F0 m 5 ls [.null]) rfl ?_
    refine lv_astore_nN (lv' := [(3, .null), (0, .ref (ad 8 0)), (1, .int a1), (2, .int a2)]) hx hb dX3_kinds_5 rfl hl (by decide) rfl (fun ls hl => ?_)
    refine lv_aload_nN hx hb dX3_kinds_6 rfl (lv_at hl 0 rfl) ?_
    refine lv_ifnonnullN hx hb dX3_kinds_7 ?_
    refine lv_aload_n hx hb dX3_kinds_10 rfl (lv_at hl 1 rfl) ?_
    refine lv_iconst (v := 0) hx hb dX3_kinds_11 (by decide) ?_
    obtain ⟨q5, h6, hF⟩ := Option.bind_eq_some_iff.mp hF
    refine g_cv0 (o := some (.int q5.1)) (As := [.int 0]) (rest := []) (st1 := [.int q5.1]) (ci := 3) S hf (c_X3_finding l G ad X0 0 q5 h6) (cwV 1 hts gX3_kinds_X3_finding rfl rfl rfl (by decide +kernel) ⟨Nat.le_of_ble_eq_true rfl, Nat.le_of_ble_eq_true rfl⟩) rfl rfl rfl 0 rfl rfl hl.1 rfl rfl (Nat.le_of_ble_eq_true rfl) ⟨Nat.zero_le _, Nat.zero_le _⟩ dX3_kinds_12 (fun H locs hf => ?_)
    have hf : Fr G (va_A (wX G ad X0) s.heap.size) s (wX G ad q5.2) H locs := hf
    have hE := Option.some.inj hF
    have hV := congrArg (fun z : Int32 × K3 => z.1) hE
    have hW := congrArg (fun z : Int32 × K3 => wX G ad z.2) hE
    exact g_iret S hr hlocks hf hV hW dX3_kinds_15
  | some j3 =>
    replace hF := shc_some.symm.trans hF
    obtain ⟨hj4, hF⟩ := gd_some hF
    refine W.eq (g2 := F0 m 5 ls [.ref (ad (4 + j3) 0)]) rfl ?_
    refine lv_astore_n (lv' := [(3, .ref (ad (4 + j3) 0)), (0, .ref (ad 8 0)), (1, .int a1), (2, .int a2)]) hx hb dX3_kinds_5 rfl hl (by decide) rfl (fun ls hl => ?_)
    refine lv_aload_n hx hb dX3_kinds_6 rfl (lv_at hl 0 rfl) ?_
    refine lv_ifnonnull (tgt := 16) hx hb dX3_kinds_7 (by decide) ?_
    refine lv_aload_n hx hb dX3_kinds_16 rfl (lv_at hl 0 rfl) ?_
    obtain ⟨q7, h8, hF⟩ := Option.bind_eq_some_iff.mp hF
    refine g_cv (o := some (.int q7)) (As := []) (rest := []) (st1 := [.int q7]) (ci := 1) (a := List.take (44 + 2 * j3) (wX G ad X0)) (b := List.drop (46 + 2 * j3) (wX G ad X0)) S hf (c_X1_isMissing l G (ad (4 + j3)) (X0 (4 + j3)) q7 h8) (cwV 0 hts gX3_kinds_X1_isMissing rfl rfl rfl (by decide +kernel) ⟨Nat.le_of_ble_eq_true rfl, Nat.le_of_ble_eq_true rfl⟩) (wX_sw hj4) rfl rfl rfl 0 rfl rfl hl.1 rfl rfl (Nat.le_of_ble_eq_true rfl) ⟨Nat.zero_le _, Nat.zero_le _⟩ dX3_kinds_17 (fun H locs hf => ?_)
    rw [← wX_sw hj4] at hf
    refine lv_if_eq (tgt := 29) hx hb dX3_kinds_20 (by decide) (fun c9 => ?_) (fun c9 => ?_)
    · replace hF := (if_pos c9).symm.trans hF
      refine lv_aload_n hx hb dX3_kinds_29 rfl (lv_at hl 1 rfl) ?_
      refine g_get (ci := 3) (C := RX3) (T := TX3) (N := 7) (v := .ref (ad 0 0)) S hf hinX3 0 rfl rfl 0 (by decide) k10 rfl rfl dX3_kinds_30 ?_
      refine lv_iload_n hx hb dX3_kinds_33 rfl (lv_at hl 3 rfl) ?_
      obtain ⟨q10, h11, hF⟩ := Option.bind_eq_some_iff.mp hF
      refine g_cv (o := some (.int q10)) (As := [.int a2]) (rest := []) (st1 := [.int q10]) (ci := 0) (a := List.take 16 (wX G ad X0)) (b := List.drop 29 (wX G ad X0)) S hf (c_X0_has l G (ad 0) (X0 0) a2 q10 h11) (cwV 1 hts gX3_kinds_X0_has rfl rfl rfl (by decide +kernel) ⟨Nat.le_of_ble_eq_true rfl, Nat.le_of_ble_eq_true rfl⟩) rfl rfl rfl rfl 0 rfl rfl hl.1 rfl rfl (Nat.le_of_ble_eq_true rfl) ⟨Nat.zero_le _, Nat.zero_le _⟩ dX3_kinds_34 (fun H locs hf => ?_)
      have hf : Fr G (va_A (wX G ad X0) s.heap.size) s (wX G ad X0) H locs := hf
      refine lv_if_ne (tgt := 46) hx hb dX3_kinds_37 (by decide) (fun c12 => ?_) (fun c12 => ?_)
      · replace hF := (if_neg c12).symm.trans hF
        refine lv_iconst (v := 0) hx hb dX3_kinds_46 (by decide) ?_
        refine lv_istore (lv' := [(4, .int 0), (3, .ref (ad (4 + j3) 0)), (0, .ref (ad 8 0)), (1, .int a1), (2, .int a2)]) hx hb dX3_kinds_47 hl (by decide) rfl (fun ls hl => ?_)
        refine lv_iconst (v := 0) hx hb dX3_kinds_49 (by decide) ?_
        refine lv_istore (lv' := [(5, .int 0), (4, .int 0), (3, .ref (ad (4 + j3) 0)), (0, .ref (ad 8 0)), (1, .int a1), (2, .int a2)]) hx hb dX3_kinds_50 hl (by decide) rfl (fun ls hl => ?_)
        exact hL52 1000 X0 a2 j3 0 0 hj4 _ _ _ hF hf (lv_sub hl [3, 5, 2, 1, 0] rfl)
      · replace hF := (if_pos c12).symm.trans hF
        refine lv_aload_n hx hb dX3_kinds_40 rfl (lv_at hl 1 rfl) ?_
        refine lv_iconst (v := 0) hx hb dX3_kinds_41 (by decide) ?_
        obtain ⟨q17, h18, hF⟩ := Option.bind_eq_some_iff.mp hF
        refine g_cv0 (o := some (.int q17.1)) (As := [.int 0]) (rest := []) (st1 := [.int q17.1]) (ci := 3) S hf (c_X3_finding l G ad X0 0 q17 h18) (cwV 1 hts gX3_kinds_X3_finding rfl rfl rfl (by decide +kernel) ⟨Nat.le_of_ble_eq_true rfl, Nat.le_of_ble_eq_true rfl⟩) rfl rfl rfl 0 rfl rfl hl.1 rfl rfl (Nat.le_of_ble_eq_true rfl) ⟨Nat.zero_le _, Nat.zero_le _⟩ dX3_kinds_42 (fun H locs hf => ?_)
        have hf : Fr G (va_A (wX G ad X0) s.heap.size) s (wX G ad q17.2) H locs := hf
        have hE := Option.some.inj hF
        have hV := congrArg (fun z : Int32 × K3 => z.1) hE
        have hW := congrArg (fun z : Int32 × K3 => wX G ad z.2) hE
        exact g_iret S hr hlocks hf hV hW dX3_kinds_45
    · replace hF := (if_neg c9).symm.trans hF
      refine lv_aload_n hx hb dX3_kinds_23 rfl (lv_at hl 1 rfl) ?_
      refine lv_iconst (v := 5) hx hb dX3_kinds_24 (by decide) ?_
      obtain ⟨q19, h20, hF⟩ := Option.bind_eq_some_iff.mp hF
      refine g_cv0 (o := some (.int q19.1)) (As := [.int 5]) (rest := []) (st1 := [.int q19.1]) (ci := 3) S hf (c_X3_finding l G ad X0 5 q19 h20) (cwV 1 hts gX3_kinds_X3_finding rfl rfl rfl (by decide +kernel) ⟨Nat.le_of_ble_eq_true rfl, Nat.le_of_ble_eq_true rfl⟩) rfl rfl rfl 0 rfl rfl hl.1 rfl rfl (Nat.le_of_ble_eq_true rfl) ⟨Nat.zero_le _, Nat.zero_le _⟩ dX3_kinds_25 (fun H locs hf => ?_)
      have hf : Fr G (va_A (wX G ad X0) s.heap.size) s (wX G ad q19.2) H locs := hf
      have hE := Option.some.inj hF
      have hV := congrArg (fun z : Int32 × K3 => z.1) hE
      have hW := congrArg (fun z : Int32 × K3 => wX G ad z.2) hE
      exact g_iret S hr hlocks hf hV hW dX3_kinds_28
def f_X3_hatchings_B139 (X : K3) : Option (Int32 × K3) := some ((X 0) 11 1, X)
def f_X3_hatchings_L46 : Nat → K3 → Int32 → Int32 → Int32 → Option (Int32 × K3)
  | 0, _, _, _, _ => none
  | n + 1, X, x1, x2, x3 => if x1 ≤ x3 then (f_X3_hatchings_B139 X) else (Option.bind (f_X0_drawOfChance (X 0)) (fun q8 => if ix (irem ((X 0) 11 0) 6) 6 then (Option.bind (f_X0_drawOfChance (va_up q8.2 9 (upd (q8.2 9) ((irem ((X 0) 11 0) 6).toNatClampNeg) (irem q8.1 100)))) (fun q11 => Option.bind (f_X0_has q11.2 (irem q11.1 8)) (fun q13 => if q13 = 0 then (Option.bind (f_X0_passDay q11.2 x2) (fun q16 => f_X3_hatchings_L46 n (va_up X 0 q16) x1 x2 (x3 + 1))) else (if ix (irem q11.1 8) 8 then (Option.bind (f_X0_passDay (va_up q11.2 5 (upd (q11.2 5) ((irem q11.1 8).toNatClampNeg) (1 - ((q11.2 5) (irem q11.1 8).toNatClampNeg)))) x2) (fun q19 => f_X3_hatchings_L46 n (va_up X 0 q19) x1 x2 (x3 + 1))) else none)))) else none))
def f_X3_hatchings (X0 : K3) (a1 : Int32) : Option (Int32 × K3) := Option.bind (f_X3_within a1 1 20) (fun q1 => if q1 = 0 then (Option.bind (f_X3_finding X0 0) (fun q23 => some (q23.1, q23.2))) else (if (((X0 0) 11 0) + a1) ≤ 99999 then (Option.bind (f_X0_lineSet (X0 0)) (fun q5 => f_X3_hatchings_L46 1000 X0 a1 q5 0)) else (Option.bind (f_X3_finding X0 4) (fun q21 => some (q21.1, q21.2)))))
set_option maxHeartbeats 4000000 in
set_option maxRecDepth 100000 in
theorem c_X3_hatchings (l : Launch) (G : GT) (ad : Nat → Nat → Nat) (X0 : K3) (a1 : Int32) (q : Int32 × K3) (hF : f_X3_hatchings X0 a1 = some q) : Ct l G yX3_hatchings wsX3_hatchings ({ frames := 5, cells := 0, slots := 0, locals := 110 } : Room) ([.ref (ad 8 0), .int a1] : List Value) (wX G ad X0) (some (.int q.1)) (wX G ad q.2) := by
  have k10 : Cond.fieldLink RX3 10 "PigeonRolls" "realm" "LPigeonRolls$Kingdom;" ∈ wsX3_hatchings := by decide +kernel
  have k95 : Cond.fieldLink RX3 95 "PigeonRolls$Kingdom" "day" "I" ∈ wsX3_hatchings := by decide +kernel
  have kc55 : Cond.constant RX3 55 (99999) ∈ wsX3_hatchings := by decide +kernel
  have k56 : Cond.fieldLink RX3 56 "PigeonRolls$Kingdom" "treasury" "I" ∈ wsX3_hatchings := by decide +kernel
  have k52 : Cond.fieldLink RX3 52 "PigeonRolls$Kingdom" "list" "[I" ∈ wsX3_hatchings := by decide +kernel
  have k172 : Cond.fieldLink RX3 172 "PigeonRolls$Kingdom" "boy" "[I" ∈ wsX3_hatchings := by decide +kernel
  have hinX0 : ∀ w ∈ u_ws RX0 TX0 16, w ∈ wsX3_hatchings := by decide +kernel
  have hinX3 : ∀ w ∈ u_ws RX3 TX3 7, w ∈ wsX3_hatchings := by decide +kernel
  refine Ct.of cX3_hatchings 5 (some .int) (by decide) rfl (Nat.le_of_ble_eq_true rfl) ?_
  intro p e s m below meth c ls S hr hlocks hf hl
  have S : CallFix p m c cX3_hatchings 5 s ([.ref (ad 8 0), .int a1] : List Value).toArray wsX3_hatchings RX3 := S
  obtain ⟨hx, hb, hml, hown, hts⟩ := id S
  have hl : lv_has ls 5 [(0, .ref (ad 8 0)), (1, .int a1)] := hl
  have hL139 : ∀ (X : K3)  (H : Heap) (locs : List Loc) (ls : Array Slot), f_X3_hatchings_B139 X = some q → Fr G (va_A (wX G ad X0) s.heap.size) s (wX G ad X) H locs → lv_has ls 5 [(0, .ref (ad 8 0))] → W p l e ({ frames := 5, cells := 0, slots := 0, locals := 110 } : Room) s m ([.ref (ad 8 0), .int a1] : List Value).toArray below meth c H locs 0 0 (MQ below (CPost G (wX G ad X0) s.heap.size (some (.int q.1)) (wX G ad q.2)) ([.ref (ad 8 0), .int a1] : List Value).toArray s 0 0 (va_A (wX G ad X0) s.heap.size)) (F0 m 139 ls []) := by
    intro X H locs ls hF hf hl
    unfold f_X3_hatchings_B139 at hF
    refine lv_aload_n hx hb dX3_hatchings_139 rfl (lv_at hl 0 rfl) ?_
    refine g_get (ci := 3) (C := RX3) (T := TX3) (N := 7) (v := .ref (ad 0 0)) S hf hinX3 0 rfl rfl 0 (by decide) k10 rfl rfl dX3_hatchings_140 ?_
    refine g_get (ci := 0) (C := RX0) (T := TX0) (N := 16) (v := .int ((X 0) 11 1)) S hf hinX0 16 rfl rfl 1 (by decide) k56 rfl rfl dX3_hatchings_143 ?_
    have hE := Option.some.inj hF
    have hV := congrArg (fun z : Int32 × K3 => z.1) hE
    have hW := congrArg (fun z : Int32 × K3 => wX G ad z.2) hE
    exact g_iret S hr hlocks hf hV hW dX3_hatchings_146
  have hL46 : ∀ (n : Nat) (X : K3) (x1 : Int32) (x2 : Int32) (x3 : Int32)  (H : Heap) (locs : List Loc) (ls : Array Slot), f_X3_hatchings_L46 n X x1 x2 x3 = some q → Fr G (va_A (wX G ad X0) s.heap.size) s (wX G ad X) H locs → lv_has ls 5 [(0, .ref (ad 8 0)), (1, .int x1), (2, .int x2), (3, .int x3)] → W p l e ({ frames := 5, cells := 0, slots := 0, locals := 110 } : Room) s m ([.ref (ad 8 0), .int a1] : List Value).toArray below meth c H locs 0 0 (MQ below (CPost G (wX G ad X0) s.heap.size (some (.int q.1)) (wX G ad q.2)) ([.ref (ad 8 0), .int a1] : List Value).toArray s 0 0 (va_A (wX G ad X0) s.heap.size)) (F0 m 46 ls []) := by
    intro n
    induction n with
    | zero =>
      intro X x1 x2 x3 H locs ls hF hf hl
      exact absurd hF (by simp [f_X3_hatchings_L46])
    | succ n ih46 =>
      intro X x1 x2 x3 H locs ls hF hf hl
      rw [f_X3_hatchings_L46] at hF
      refine lv_iload_n hx hb dX3_hatchings_46 rfl (lv_at hl 3 rfl) ?_
      refine lv_iload_n hx hb dX3_hatchings_47 rfl (lv_at hl 1 rfl) ?_
      refine lv_icmp_ge (tgt := 139) hx hb dX3_hatchings_48 (by decide) (fun c7 => ?_) (fun c7 => ?_)
      · replace hF := (if_pos c7).symm.trans hF
        exact hL139 X _ _ _ hF hf (lv_sub hl [0] rfl)
      · replace hF := (if_neg c7).symm.trans hF
        refine lv_aload_n hx hb dX3_hatchings_51 rfl (lv_at hl 0 rfl) ?_
        refine g_get (ci := 3) (C := RX3) (T := TX3) (N := 7) (v := .ref (ad 0 0)) S hf hinX3 0 rfl rfl 0 (by decide) k10 rfl rfl dX3_hatchings_52 ?_
        refine g_get (ci := 0) (C := RX0) (T := TX0) (N := 16) (v := .ref (ad 0 1)) S hf hinX0 16 rfl rfl 4 (by decide) k52 rfl rfl dX3_hatchings_55 ?_
        refine lv_aload_n hx hb dX3_hatchings_58 rfl (lv_at hl 0 rfl) ?_
        refine g_get (ci := 3) (C := RX3) (T := TX3) (N := 7) (v := .ref (ad 0 0)) S hf hinX3 0 rfl rfl 0 (by decide) k10 rfl rfl dX3_hatchings_59 ?_
        refine g_get (ci := 0) (C := RX0) (T := TX0) (N := 16) (v := .int ((X 0) 11 0)) S hf hinX0 16 rfl rfl 0 (by decide) k95 rfl rfl dX3_hatchings_62 ?_
        refine lv_bipush (v := 6) hx hb dX3_hatchings_65 (by decide) ?_
        refine lv_irem hx hb dX3_hatchings_67 (by decide) ?_
        refine lv_aload_n hx hb dX3_hatchings_68 rfl (lv_at hl 0 rfl) ?_
        refine g_get (ci := 3) (C := RX3) (T := TX3) (N := 7) (v := .ref (ad 0 0)) S hf hinX3 0 rfl rfl 0 (by decide) k10 rfl rfl dX3_hatchings_69 ?_
        obtain ⟨q8, h9, hF⟩ := Option.bind_eq_some_iff.mp hF
        refine g_cv (o := some (.int q8.1)) (As := []) (rest := [.int (irem ((X 0) 11 0) 6), .ref (ad 0 1)]) (st1 := [.int q8.1, .int (irem ((X 0) 11 0) 6), .ref (ad 0 1)]) (ci := 0) (a := List.take 16 (wX G ad X)) (b := List.drop 29 (wX G ad X)) S hf (c_X0_drawOfChance l G (ad 0) (X 0) q8 h9) (cwV 0 hts gX3_hatchings_X0_drawOfChance rfl rfl rfl (by decide +kernel) ⟨Nat.le_of_ble_eq_true rfl, Nat.le_of_ble_eq_true rfl⟩) rfl rfl rfl rfl 0 rfl rfl hl.1 rfl rfl (Nat.le_of_ble_eq_true rfl) ⟨Nat.zero_le _, Nat.zero_le _⟩ dX3_hatchings_72 (fun H locs hf => ?_)
        have hf : Fr G (va_A (wX G ad X0) s.heap.size) s (wX G ad (va_up X 0 q8.2)) H locs := hf
        refine lv_bipush (v := 100) hx hb dX3_hatchings_75 (by decide) ?_
        refine lv_irem hx hb dX3_hatchings_77 (by decide) ?_
        obtain ⟨g10, hF⟩ := gd_some hF
        refine g_ast (ww' := wX G ad (va_up X 0 (va_up q8.2 9 (upd (q8.2 9) ((irem ((X 0) 11 0) 6).toNatClampNeg) (irem q8.1 100))))) S hf 17 rfl g10 rfl dX3_hatchings_78 (fun H locs hf => ?_)
        refine lv_aload_n hx hb dX3_hatchings_79 rfl (lv_at hl 0 rfl) ?_
        refine g_get (ci := 3) (C := RX3) (T := TX3) (N := 7) (v := .ref (ad 0 0)) S hf hinX3 0 rfl rfl 0 (by decide) k10 rfl rfl dX3_hatchings_80 ?_
        obtain ⟨q11, h12, hF⟩ := Option.bind_eq_some_iff.mp hF
        refine g_cv (o := some (.int q11.1)) (As := []) (rest := []) (st1 := [.int q11.1]) (ci := 0) (a := List.take 16 (wX G ad (va_up X 0 (va_up q8.2 9 (upd (q8.2 9) ((irem ((X 0) 11 0) 6).toNatClampNeg) (irem q8.1 100)))))) (b := List.drop 29 (wX G ad (va_up X 0 (va_up q8.2 9 (upd (q8.2 9) ((irem ((X 0) 11 0) 6).toNatClampNeg) (irem q8.1 100)))))) S hf (c_X0_drawOfChance l G (ad 0) (va_up q8.2 9 (upd (q8.2 9) ((irem ((X 0) 11 0) 6).toNatClampNeg) (irem q8.1 100))) q11 h12) (cwV 0 hts gX3_hatchings_X0_drawOfChance rfl rfl rfl (by decide +kernel) ⟨Nat.le_of_ble_eq_true rfl, Nat.le_of_ble_eq_true rfl⟩) rfl rfl rfl rfl 0 rfl rfl hl.1 rfl rfl (Nat.le_of_ble_eq_true rfl) ⟨Nat.zero_le _, Nat.zero_le _⟩ dX3_hatchings_83 (fun H locs hf => ?_)
        have hf : Fr G (va_A (wX G ad X0) s.heap.size) s (wX G ad (va_up X 0 q11.2)) H locs := hf
        refine lv_bipush (v := 8) hx hb dX3_hatchings_86 (by decide) ?_
        refine lv_irem hx hb dX3_hatchings_88 (by decide) ?_
        refine lv_istore (lv' := [(4, .int (irem q11.1 8)), (0, .ref (ad 8 0)), (1, .int x1), (2, .int x2), (3, .int x3)]) hx hb dX3_hatchings_89 hl (by decide) rfl (fun ls hl => ?_)
        refine lv_aload_n hx hb dX3_hatchings_91 rfl (lv_at hl 1 rfl) ?_
        refine g_get (ci := 3) (C := RX3) (T := TX3) (N := 7) (v := .ref (ad 0 0)) S hf hinX3 0 rfl rfl 0 (by decide) k10 rfl rfl dX3_hatchings_92 ?_
        refine lv_iload hx hb dX3_hatchings_95 (lv_at hl 0 rfl) ?_
        obtain ⟨q13, h14, hF⟩ := Option.bind_eq_some_iff.mp hF
        refine g_cv (o := some (.int q13)) (As := [.int (irem q11.1 8)]) (rest := []) (st1 := [.int q13]) (ci := 0) (a := List.take 16 (wX G ad (va_up X 0 q11.2))) (b := List.drop 29 (wX G ad (va_up X 0 q11.2))) S hf (c_X0_has l G (ad 0) q11.2 (irem q11.1 8) q13 h14) (cwV 1 hts gX3_hatchings_X0_has rfl rfl rfl (by decide +kernel) ⟨Nat.le_of_ble_eq_true rfl, Nat.le_of_ble_eq_true rfl⟩) rfl rfl rfl rfl 0 rfl rfl hl.1 rfl rfl (Nat.le_of_ble_eq_true rfl) ⟨Nat.zero_le _, Nat.zero_le _⟩ dX3_hatchings_97 (fun H locs hf => ?_)
        have hf : Fr G (va_A (wX G ad X0) s.heap.size) s (wX G ad (va_up X 0 q11.2)) H locs := hf
        refine lv_if_eq (tgt := 125) hx hb dX3_hatchings_100 (by decide) (fun c15 => ?_) (fun c15 => ?_)
        · replace hF := (if_pos c15).symm.trans hF
          refine lv_aload_n hx hb dX3_hatchings_125 rfl (lv_at hl 1 rfl) ?_
          refine g_get (ci := 3) (C := RX3) (T := TX3) (N := 7) (v := .ref (ad 0 0)) S hf hinX3 0 rfl rfl 0 (by decide) k10 rfl rfl dX3_hatchings_126 ?_
          refine lv_iload_n hx hb dX3_hatchings_129 rfl (lv_at hl 3 rfl) ?_
          obtain ⟨q16, h17, hF⟩ := Option.bind_eq_some_iff.mp hF
          refine g_cv (o := none) (As := [.int x2]) (rest := []) (st1 := []) (ci := 0) (a := List.take 16 (wX G ad (va_up X 0 q11.2))) (b := List.drop 29 (wX G ad (va_up X 0 q11.2))) S hf (c_X0_passDay l G (ad 0) q11.2 x2 q16 h17) (cwV 1 hts gX3_hatchings_X0_passDay rfl rfl rfl (by decide +kernel) ⟨Nat.le_of_ble_eq_true rfl, Nat.le_of_ble_eq_true rfl⟩) rfl rfl rfl rfl 0 rfl rfl hl.1 rfl rfl (Nat.le_of_ble_eq_true rfl) ⟨Nat.zero_le _, Nat.zero_le _⟩ dX3_hatchings_130 (fun H locs hf => ?_)
          have hf : Fr G (va_A (wX G ad X0) s.heap.size) s (wX G ad (va_up X 0 q16)) H locs := hf
          refine lv_iinc (v := x3 + 1) (lv' := [(3, .int (x3 + 1)), (4, .int (irem q11.1 8)), (0, .ref (ad 8 0)), (1, .int x1), (2, .int x2)]) hx hb dX3_hatchings_133 hl (k := 4) rfl rfl (by decide) rfl (fun ls hl => ?_)
          refine lv_goto (tgt := 46) hx hb dX3_hatchings_136 (by decide) ?_
          exact ih46 (va_up X 0 q16) x1 x2 (x3 + 1) _ _ _ hF hf (lv_sub hl [2, 3, 4, 0] rfl)
        · replace hF := (if_neg c15).symm.trans hF
          refine lv_aload_n hx hb dX3_hatchings_103 rfl (lv_at hl 1 rfl) ?_
          refine g_get (ci := 3) (C := RX3) (T := TX3) (N := 7) (v := .ref (ad 0 0)) S hf hinX3 0 rfl rfl 0 (by decide) k10 rfl rfl dX3_hatchings_104 ?_
          refine g_get (ci := 0) (C := RX0) (T := TX0) (N := 16) (v := .ref (ad 0 9)) S hf hinX0 16 rfl rfl 12 (by decide) k172 rfl rfl dX3_hatchings_107 ?_
          refine lv_iload hx hb dX3_hatchings_110 (lv_at hl 0 rfl) ?_
          refine lv_iconst (v := 1) hx hb dX3_hatchings_112 (by decide) ?_
          refine lv_aload_n hx hb dX3_hatchings_113 rfl (lv_at hl 1 rfl) ?_
          refine g_get (ci := 3) (C := RX3) (T := TX3) (N := 7) (v := .ref (ad 0 0)) S hf hinX3 0 rfl rfl 0 (by decide) k10 rfl rfl dX3_hatchings_114 ?_
          refine g_get (ci := 0) (C := RX0) (T := TX0) (N := 16) (v := .ref (ad 0 9)) S hf hinX0 16 rfl rfl 12 (by decide) k172 rfl rfl dX3_hatchings_117 ?_
          refine lv_iload hx hb dX3_hatchings_120 (lv_at hl 0 rfl) ?_
          obtain ⟨g18, hF⟩ := gd_some hF
          refine g_ald (v := (q11.2 5) (irem q11.1 8).toNatClampNeg) S hf 25 rfl g18 rfl dX3_hatchings_122 ?_
          refine lv_isub hx hb dX3_hatchings_123 ?_
          refine g_ast (ww' := wX G ad (va_up X 0 (va_up q11.2 5 (upd (q11.2 5) ((irem q11.1 8).toNatClampNeg) (1 - ((q11.2 5) (irem q11.1 8).toNatClampNeg)))))) S hf 25 rfl g18 rfl dX3_hatchings_124 (fun H locs hf => ?_)
          refine lv_aload_n hx hb dX3_hatchings_125 rfl (lv_at hl 1 rfl) ?_
          refine g_get (ci := 3) (C := RX3) (T := TX3) (N := 7) (v := .ref (ad 0 0)) S hf hinX3 0 rfl rfl 0 (by decide) k10 rfl rfl dX3_hatchings_126 ?_
          refine lv_iload_n hx hb dX3_hatchings_129 rfl (lv_at hl 3 rfl) ?_
          obtain ⟨q19, h20, hF⟩ := Option.bind_eq_some_iff.mp hF
          refine g_cv (o := none) (As := [.int x2]) (rest := []) (st1 := []) (ci := 0) (a := List.take 16 (wX G ad (va_up X 0 (va_up q11.2 5 (upd (q11.2 5) ((irem q11.1 8).toNatClampNeg) (1 - ((q11.2 5) (irem q11.1 8).toNatClampNeg))))))) (b := List.drop 29 (wX G ad (va_up X 0 (va_up q11.2 5 (upd (q11.2 5) ((irem q11.1 8).toNatClampNeg) (1 - ((q11.2 5) (irem q11.1 8).toNatClampNeg))))))) S hf (c_X0_passDay l G (ad 0) (va_up q11.2 5 (upd (q11.2 5) ((irem q11.1 8).toNatClampNeg) (1 - ((q11.2 5) (irem q11.1 8).toNatClampNeg)))) x2 q19 h20) (cwV 1 hts gX3_hatchings_X0_passDay rfl rfl rfl (by decide +kernel) ⟨Nat.le_of_ble_eq_true rfl, Nat.le_of_ble_eq_true rfl⟩) rfl rfl rfl rfl 0 rfl rfl hl.1 rfl rfl (Nat.le_of_ble_eq_true rfl) ⟨Nat.zero_le _, Nat.zero_le _⟩ dX3_hatchings_130 (fun H locs hf => ?_)
          have hf : Fr G (va_A (wX G ad X0) s.heap.size) s (wX G ad (va_up X 0 q19)) H locs := hf
          refine lv_iinc (v := x3 + 1) (lv' := [(3, .int (x3 + 1)), (4, .int (irem q11.1 8)), (0, .ref (ad 8 0)), (1, .int x1), (2, .int x2)]) hx hb dX3_hatchings_133 hl (k := 4) rfl rfl (by decide) rfl (fun ls hl => ?_)
          refine lv_goto (tgt := 46) hx hb dX3_hatchings_136 (by decide) ?_
          exact ih46 (va_up X 0 q19) x1 x2 (x3 + 1) _ _ _ hF hf (lv_sub hl [2, 3, 4, 0] rfl)
  unfold f_X3_hatchings at hF
  refine lv_iload_n hx hb dX3_hatchings_0 rfl (lv_at hl 1 rfl) ?_
  refine lv_iconst (v := 1) hx hb dX3_hatchings_1 (by decide) ?_
  refine lv_bipush (v := 20) hx hb dX3_hatchings_2 (by decide) ?_
  obtain ⟨q1, h2, hF⟩ := Option.bind_eq_some_iff.mp hF
  refine g_cs0 (o := some (.int q1)) (As := [.int a1, .int 1, .int 20]) (rest := []) (st1 := [.int q1]) S hf (c_X3_within l G  a1 1 20 q1 h2) (va_cwS 3 hts gX3_hatchings_X3_within rfl rfl rfl (by decide +kernel) ⟨Nat.le_of_ble_eq_true rfl, Nat.le_of_ble_eq_true rfl⟩) rfl hl.1 rfl rfl (Nat.le_of_ble_eq_true rfl) ⟨Nat.zero_le _, Nat.zero_le _⟩ dX3_hatchings_4 (fun H locs hf => ?_)
  refine lv_if_ne (tgt := 16) hx hb dX3_hatchings_7 (by decide) (fun c3 => ?_) (fun c3 => ?_)
  · replace hF := (if_neg c3).symm.trans hF
    refine lv_aload_n hx hb dX3_hatchings_16 rfl (lv_at hl 0 rfl) ?_
    refine g_get (ci := 3) (C := RX3) (T := TX3) (N := 7) (v := .ref (ad 0 0)) S hf hinX3 0 rfl rfl 0 (by decide) k10 rfl rfl dX3_hatchings_17 ?_
    refine g_get (ci := 0) (C := RX0) (T := TX0) (N := 16) (v := .int ((X0 0) 11 0)) S hf hinX0 16 rfl rfl 0 (by decide) k95 rfl rfl dX3_hatchings_20 ?_
    refine lv_iload_n hx hb dX3_hatchings_23 rfl (lv_at hl 1 rfl) ?_
    refine lv_iadd hx hb dX3_hatchings_24 ?_
    refine lv_ldc (v := 99999) hx hb hown (hts _ kc55) dX3_hatchings_25 ?_
    refine lv_icmp_le (tgt := 36) hx hb dX3_hatchings_27 (by decide) (fun c4 => ?_) (fun c4 => ?_)
    · replace hF := (if_pos c4).symm.trans hF
      refine lv_aload_n hx hb dX3_hatchings_36 rfl (lv_at hl 0 rfl) ?_
      refine g_get (ci := 3) (C := RX3) (T := TX3) (N := 7) (v := .ref (ad 0 0)) S hf hinX3 0 rfl rfl 0 (by decide) k10 rfl rfl dX3_hatchings_37 ?_
      obtain ⟨q5, h6, hF⟩ := Option.bind_eq_some_iff.mp hF
      refine g_cv (o := some (.int q5)) (As := []) (rest := []) (st1 := [.int q5]) (ci := 0) (a := List.take 16 (wX G ad X0)) (b := List.drop 29 (wX G ad X0)) S hf (c_X0_lineSet l G (ad 0) (X0 0) q5 h6) (cwV 0 hts gX3_hatchings_X0_lineSet rfl rfl rfl (by decide +kernel) ⟨Nat.le_of_ble_eq_true rfl, Nat.le_of_ble_eq_true rfl⟩) rfl rfl rfl rfl 0 rfl rfl hl.1 rfl rfl (Nat.le_of_ble_eq_true rfl) ⟨Nat.zero_le _, Nat.zero_le _⟩ dX3_hatchings_40 (fun H locs hf => ?_)
      have hf : Fr G (va_A (wX G ad X0) s.heap.size) s (wX G ad X0) H locs := hf
      refine lv_istore_n (lv' := [(2, .int q5), (0, .ref (ad 8 0)), (1, .int a1)]) hx hb dX3_hatchings_43 rfl hl (by decide) rfl (fun ls hl => ?_)
      refine lv_iconst (v := 0) hx hb dX3_hatchings_44 (by decide) ?_
      refine lv_istore_n (lv' := [(3, .int 0), (2, .int q5), (0, .ref (ad 8 0)), (1, .int a1)]) hx hb dX3_hatchings_45 rfl hl (by decide) rfl (fun ls hl => ?_)
      exact hL46 1000 X0 a1 q5 0 _ _ _ hF hf (lv_sub hl [2, 3, 1, 0] rfl)
    · replace hF := (if_neg c4).symm.trans hF
      refine lv_aload_n hx hb dX3_hatchings_30 rfl (lv_at hl 0 rfl) ?_
      refine lv_iconst (v := 4) hx hb dX3_hatchings_31 (by decide) ?_
      obtain ⟨q21, h22, hF⟩ := Option.bind_eq_some_iff.mp hF
      refine g_cv0 (o := some (.int q21.1)) (As := [.int 4]) (rest := []) (st1 := [.int q21.1]) (ci := 3) S hf (c_X3_finding l G ad X0 4 q21 h22) (cwV 1 hts gX3_hatchings_X3_finding rfl rfl rfl (by decide +kernel) ⟨Nat.le_of_ble_eq_true rfl, Nat.le_of_ble_eq_true rfl⟩) rfl rfl rfl 0 rfl rfl hl.1 rfl rfl (Nat.le_of_ble_eq_true rfl) ⟨Nat.zero_le _, Nat.zero_le _⟩ dX3_hatchings_32 (fun H locs hf => ?_)
      have hf : Fr G (va_A (wX G ad X0) s.heap.size) s (wX G ad q21.2) H locs := hf
      have hE := Option.some.inj hF
      have hV := congrArg (fun z : Int32 × K3 => z.1) hE
      have hW := congrArg (fun z : Int32 × K3 => wX G ad z.2) hE
      exact g_iret S hr hlocks hf hV hW dX3_hatchings_35
  · replace hF := (if_pos c3).symm.trans hF
    refine lv_aload_n hx hb dX3_hatchings_10 rfl (lv_at hl 0 rfl) ?_
    refine lv_iconst (v := 0) hx hb dX3_hatchings_11 (by decide) ?_
    obtain ⟨q23, h24, hF⟩ := Option.bind_eq_some_iff.mp hF
    refine g_cv0 (o := some (.int q23.1)) (As := [.int 0]) (rest := []) (st1 := [.int q23.1]) (ci := 3) S hf (c_X3_finding l G ad X0 0 q23 h24) (cwV 1 hts gX3_hatchings_X3_finding rfl rfl rfl (by decide +kernel) ⟨Nat.le_of_ble_eq_true rfl, Nat.le_of_ble_eq_true rfl⟩) rfl rfl rfl 0 rfl rfl hl.1 rfl rfl (Nat.le_of_ble_eq_true rfl) ⟨Nat.zero_le _, Nat.zero_le _⟩ dX3_hatchings_12 (fun H locs hf => ?_)
    have hf : Fr G (va_A (wX G ad X0) s.heap.size) s (wX G ad q23.2) H locs := hf
    have hE := Option.some.inj hF
    have hV := congrArg (fun z : Int32 × K3 => z.1) hE
    have hW := congrArg (fun z : Int32 × K3 => wX G ad z.2) hE
    exact g_iret S hr hlocks hf hV hW dX3_hatchings_15
def f_X3_commonDivisor_B34 (x2 : Int32) : Option (Int32) := some (imax 1 x2)
def f_X3_commonDivisor_L7 : Nat → Int32 → Int32 → Int32 → Option (Int32)
  | 0, _, _, _ => none
  | n + 1, x2, x3, x4 => if 64 ≤ x4 then (f_X3_commonDivisor_B34 x2) else (if x3 = 0 then (f_X3_commonDivisor_B34 x2) else (if ¬ x3 = 0 then (f_X3_commonDivisor_L7 n x3 (irem x2 x3) (x4 + 1)) else none))
def f_X3_commonDivisor (a0 : Int32) (a1 : Int32) : Option (Int32) := f_X3_commonDivisor_L7 1000 a1 a0 0
set_option maxHeartbeats 4000000 in
set_option maxRecDepth 100000 in
theorem c_X3_commonDivisor (l : Launch) (G : GT)  (a0 : Int32) (a1 : Int32) (q : Int32) (hF : f_X3_commonDivisor a0 a1 = some q) : Ct l G yX3_commonDivisor wsX3_commonDivisor ({ frames := 1, cells := 0, slots := 0, locals := 21 } : Room) ([.int a0, .int a1] : List Value) (([] : va_W)) (some (.int q)) (([] : va_W)) := by
  have k125 : Cond.methodLink RX3 125 Lib.Math.max.name ∈ wsX3_commonDivisor := by decide +kernel
  have ksmax : Cond.static Lib.Math.max.name ∈ wsX3_commonDivisor := by decide +kernel
  have kiM : Cond.initialized "java/lang/Math" ∈ wsX3_commonDivisor := by decide +kernel
  have komax : Cond.code Lib.Math.max.name Lib.Math.max.code 2 (some .int) ∈ wsX3_commonDivisor := by decide +kernel
  refine Ct.of cX3_commonDivisor 6 (some .int) (by decide) rfl (Nat.le_of_ble_eq_true rfl) ?_
  intro p e s m below meth c ls S hr hlocks hf hl
  have S : CallFix p m c cX3_commonDivisor 6 s ([.int a0, .int a1] : List Value).toArray wsX3_commonDivisor RX3 := S
  obtain ⟨hx, hb, hml, hown, hts⟩ := id S
  have hl : lv_has ls 6 [(0, .int a0), (1, .int a1)] := hl
  have hL34 : ∀ (x2 : Int32)  (H : Heap) (locs : List Loc) (ls : Array Slot), f_X3_commonDivisor_B34 x2 = some q → Fr G (va_A (([] : va_W)) s.heap.size) s (([] : va_W)) H locs → lv_has ls 6 [(2, .int x2)] → W p l e ({ frames := 1, cells := 0, slots := 0, locals := 21 } : Room) s m ([.int a0, .int a1] : List Value).toArray below meth c H locs 0 0 (MQ below (CPost G (([] : va_W)) s.heap.size (some (.int q)) (([] : va_W))) ([.int a0, .int a1] : List Value).toArray s 0 0 (va_A (([] : va_W)) s.heap.size)) (F0 m 34 ls []) := by
    intro x2 H locs ls hF hf hl
    unfold f_X3_commonDivisor_B34 at hF
    refine lv_iconst (v := 1) hx hb dX3_commonDivisor_34 (by decide) ?_
    refine lv_iload_n hx hb dX3_commonDivisor_35 rfl (lv_at hl 0 rfl) ?_
    refine va_mmax hx hb (hml.trans hl.1.symm) hown (hts _ k125) (hts _ ksmax) (hts _ kiM) (hts _ komax) (Nat.le_of_ble_eq_true rfl) (Nat.le_of_ble_eq_true rfl) (Nat.zero_le _) (Nat.zero_le _) dX3_commonDivisor_36 ?_
    have hE := Option.some.inj hF
    have hV := congrArg (fun z : Int32 => z) hE
    exact g_iret S hr hlocks hf hV rfl dX3_commonDivisor_39
  have hL7 : ∀ (n : Nat) (x2 : Int32) (x3 : Int32) (x4 : Int32)  (H : Heap) (locs : List Loc) (ls : Array Slot), f_X3_commonDivisor_L7 n x2 x3 x4 = some q → Fr G (va_A (([] : va_W)) s.heap.size) s (([] : va_W)) H locs → lv_has ls 6 [(2, .int x2), (3, .int x3), (4, .int x4)] → W p l e ({ frames := 1, cells := 0, slots := 0, locals := 21 } : Room) s m ([.int a0, .int a1] : List Value).toArray below meth c H locs 0 0 (MQ below (CPost G (([] : va_W)) s.heap.size (some (.int q)) (([] : va_W))) ([.int a0, .int a1] : List Value).toArray s 0 0 (va_A (([] : va_W)) s.heap.size)) (F0 m 7 ls []) := by
    intro n
    induction n with
    | zero =>
      intro x2 x3 x4 H locs ls hF hf hl
      exact absurd hF (by simp [f_X3_commonDivisor_L7])
    | succ n ih7 =>
      intro x2 x3 x4 H locs ls hF hf hl
      rw [f_X3_commonDivisor_L7] at hF
      refine lv_iload hx hb dX3_commonDivisor_7 (lv_at hl 2 rfl) ?_
      refine lv_bipush (v := 64) hx hb dX3_commonDivisor_9 (by decide) ?_
      refine lv_icmp_ge (tgt := 34) hx hb dX3_commonDivisor_11 (by decide) (fun c1 => ?_) (fun c1 => ?_)
      · replace hF := (if_pos c1).symm.trans hF
        exact hL34 x2 _ _ _ hF hf (lv_sub hl [0] rfl)
      · replace hF := (if_neg c1).symm.trans hF
        refine lv_iload_n hx hb dX3_commonDivisor_14 rfl (lv_at hl 1 rfl) ?_
        refine lv_if_eq (tgt := 34) hx hb dX3_commonDivisor_15 (by decide) (fun c2 => ?_) (fun c2 => ?_)
        · replace hF := (if_pos c2).symm.trans hF
          exact hL34 x2 _ _ _ hF hf (lv_sub hl [0] rfl)
        · replace hF := (if_neg c2).symm.trans hF
          refine lv_iload_n hx hb dX3_commonDivisor_18 rfl (lv_at hl 0 rfl) ?_
          refine lv_iload_n hx hb dX3_commonDivisor_19 rfl (lv_at hl 1 rfl) ?_
          obtain ⟨g3, hF⟩ := gd_some hF
          refine lv_irem hx hb dX3_commonDivisor_20 g3 ?_
          refine lv_istore (lv' := [(5, .int (irem x2 x3)), (2, .int x2), (3, .int x3), (4, .int x4)]) hx hb dX3_commonDivisor_21 hl (by decide) rfl (fun ls hl => ?_)
          refine lv_iload_n hx hb dX3_commonDivisor_23 rfl (lv_at hl 2 rfl) ?_
          refine lv_istore_n (lv' := [(2, .int x3), (5, .int (irem x2 x3)), (3, .int x3), (4, .int x4)]) hx hb dX3_commonDivisor_24 rfl hl (by decide) rfl (fun ls hl => ?_)
          refine lv_iload hx hb dX3_commonDivisor_25 (lv_at hl 1 rfl) ?_
          refine lv_istore_n (lv' := [(3, .int (irem x2 x3)), (2, .int x3), (5, .int (irem x2 x3)), (4, .int x4)]) hx hb dX3_commonDivisor_27 rfl hl (by decide) rfl (fun ls hl => ?_)
          refine lv_iinc (v := x4 + 1) (lv' := [(4, .int (x4 + 1)), (3, .int (irem x2 x3)), (2, .int x3), (5, .int (irem x2 x3))]) hx hb dX3_commonDivisor_28 hl (k := 3) rfl rfl (by decide) rfl (fun ls hl => ?_)
          refine lv_goto (tgt := 7) hx hb dX3_commonDivisor_31 (by decide) ?_
          exact ih7 x3 (irem x2 x3) (x4 + 1) _ _ _ hF hf (lv_sub hl [2, 1, 0] rfl)
  unfold f_X3_commonDivisor at hF
  refine lv_iload_n hx hb dX3_commonDivisor_0 rfl (lv_at hl 1 rfl) ?_
  refine lv_istore_n (lv' := [(2, .int a1), (0, .int a0), (1, .int a1)]) hx hb dX3_commonDivisor_1 rfl hl (by decide) rfl (fun ls hl => ?_)
  refine lv_iload_n hx hb dX3_commonDivisor_2 rfl (lv_at hl 1 rfl) ?_
  refine lv_istore_n (lv' := [(3, .int a0), (2, .int a1), (0, .int a0), (1, .int a1)]) hx hb dX3_commonDivisor_3 rfl hl (by decide) rfl (fun ls hl => ?_)
  refine lv_iconst (v := 0) hx hb dX3_commonDivisor_4 (by decide) ?_
  refine lv_istore (lv' := [(4, .int 0), (3, .int a0), (2, .int a1), (0, .int a0), (1, .int a1)]) hx hb dX3_commonDivisor_5 hl (by decide) rfl (fun ls hl => ?_)
  exact hL7 1000 a1 a0 0 _ _ _ hF hf (lv_sub hl [2, 1, 0] rfl)
def f_X3_power_L5 : Nat → Int64 → Int32 → Int64 → Int32 → Option (Int64)
  | 0, _, _, _, _ => none
  | n + 1, x0, x2, x3, x5 => if x2 ≤ x5 then (some (x3)) else (f_X3_power_L5 n x0 x2 (x3 * x0) (x5 + 1))
def f_X3_power (a0 : Int64) (a2 : Int32) : Option (Int64) := f_X3_power_L5 1000 a0 a2 1 0
set_option maxHeartbeats 4000000 in
set_option maxRecDepth 100000 in
theorem c_X3_power (l : Launch) (G : GT)  (a0 : Int64) (a2 : Int32) (q : Int64) (hF : f_X3_power a0 a2 = some q) : Ct l G yX3_power wsX3_power ({ frames := 0, cells := 0, slots := 0, locals := 0 } : Room) ([.long a0, .int a2] : List Value) (([] : va_W)) (some (.long q)) (([] : va_W)) := by
  refine Ct.of cX3_power 6 (some .long) (by decide) rfl (Nat.le_of_ble_eq_true rfl) ?_
  intro p e s m below meth c ls S hr hlocks hf hl
  have S : CallFix p m c cX3_power 6 s ([.long a0, .int a2] : List Value).toArray wsX3_power RX3 := S
  obtain ⟨hx, hb, hml, hown, hts⟩ := id S
  have hl : lv_has ls 6 [(0, .long a0), (2, .int a2)] := hl
  have hL5 : ∀ (n : Nat) (x0 : Int64) (x2 : Int32) (x3 : Int64) (x5 : Int32)  (H : Heap) (locs : List Loc) (ls : Array Slot), f_X3_power_L5 n x0 x2 x3 x5 = some q → Fr G (va_A (([] : va_W)) s.heap.size) s (([] : va_W)) H locs → lv_has ls 6 [(0, .long x0), (2, .int x2), (3, .long x3), (5, .int x5)] → W p l e ({ frames := 0, cells := 0, slots := 0, locals := 0 } : Room) s m ([.long a0, .int a2] : List Value).toArray below meth c H locs 0 0 (MQ below (CPost G (([] : va_W)) s.heap.size (some (.long q)) (([] : va_W))) ([.long a0, .int a2] : List Value).toArray s 0 0 (va_A (([] : va_W)) s.heap.size)) (F0 m 5 ls []) := by
    intro n
    induction n with
    | zero =>
      intro x0 x2 x3 x5 H locs ls hF hf hl
      exact absurd hF (by simp [f_X3_power_L5])
    | succ n ih5 =>
      intro x0 x2 x3 x5 H locs ls hF hf hl
      rw [f_X3_power_L5] at hF
      refine lv_iload hx hb dX3_power_5 (lv_at hl 3 rfl) ?_
      refine lv_iload_n hx hb dX3_power_7 rfl (lv_at hl 1 rfl) ?_
      refine lv_icmp_ge (tgt := 21) hx hb dX3_power_8 (by decide) (fun c1 => ?_) (fun c1 => ?_)
      · replace hF := (if_pos c1).symm.trans hF
        refine lv_lload_n hx hb dX3_power_21 rfl (lv_at hl 2 rfl) ?_
        have hE := Option.some.inj hF
        have hV := congrArg (fun z : Int64 => z) hE
        exact g_lret S hr hlocks hf hV rfl dX3_power_22
      · replace hF := (if_neg c1).symm.trans hF
        refine lv_lload_n hx hb dX3_power_11 rfl (lv_at hl 2 rfl) ?_
        refine lv_lload_n hx hb dX3_power_12 rfl (lv_at hl 0 rfl) ?_
        refine lv_lmul hx hb dX3_power_13 ?_
        refine lv_lstore_n (lv' := [(3, .long (x3 * x0)), (0, .long x0), (2, .int x2), (5, .int x5)]) hx hb dX3_power_14 rfl hl (by decide) rfl (fun ls hl => ?_)
        refine lv_iinc (v := x5 + 1) (lv' := [(5, .int (x5 + 1)), (3, .long (x3 * x0)), (0, .long x0), (2, .int x2)]) hx hb dX3_power_15 hl (k := 3) rfl rfl (by decide) rfl (fun ls hl => ?_)
        refine lv_goto (tgt := 5) hx hb dX3_power_18 (by decide) ?_
        exact ih5 x0 x2 (x3 * x0) (x5 + 1) _ _ _ hF hf (lv_sub hl [2, 3, 1, 0] rfl)
  unfold f_X3_power at hF
  refine lv_lconst (v := 1) hx hb dX3_power_0 (by decide) ?_
  refine lv_lstore_n (lv' := [(3, .long 1), (0, .long a0), (2, .int a2)]) hx hb dX3_power_1 rfl hl (by decide) rfl (fun ls hl => ?_)
  refine lv_iconst (v := 0) hx hb dX3_power_2 (by decide) ?_
  refine lv_istore (lv' := [(5, .int 0), (3, .long 1), (0, .long a0), (2, .int a2)]) hx hb dX3_power_3 hl (by decide) rfl (fun ls hl => ?_)
  exact hL5 1000 a0 a2 1 0 _ _ _ hF hf (lv_sub hl [2, 3, 1, 0] rfl)
def f_X3_odds (X0 : K3) (a1 : Int32) (a2 : Int32) (a3 : Int32) : Option (Int64 × K3) := Option.bind (f_X0_has (X0 0) a1) (fun q1 => if q1 = 0 then (Option.bind (f_X3_finding X0 0) (fun q4 => some (q4.1.toInt64, q4.2))) else (Option.bind (f_X3_within a2 0 9) (fun q6 => if q6 = 0 then (Option.bind (f_X3_finding X0 0) (fun q9 => some (q9.1.toInt64, q9.2))) else (Option.bind (f_X3_within a3 0 1) (fun q11 => if q11 = 0 then (Option.bind (f_X3_finding X0 0) (fun q26 => some (q26.1.toInt64, q26.2))) else (Option.bind (f_X0_rateOf (X0 0) a1) (fun q14 => if ix a1 8 then (Option.bind (f_X3_commonDivisor (imax 0 ((100 - q14) - (((X0 0) 7) a1.toNatClampNeg))) 100) (fun q17 => if a3 = 0 then (if ¬ q17 = 0 then (Option.bind (f_X3_power (((imax 0 ((100 - q14) - (((X0 0) 7) a1.toNatClampNeg))) / q17).toInt64) a2) (fun q24 => some (q24, X0))) else none) else (if ¬ q17 = 0 then (Option.bind (f_X3_power ((100 / q17).toInt64) a2) (fun q21 => some (q21, X0))) else none))) else none)))))))
set_option maxHeartbeats 4000000 in
set_option maxRecDepth 100000 in
theorem c_X3_odds (l : Launch) (G : GT) (ad : Nat → Nat → Nat) (X0 : K3) (a1 : Int32) (a2 : Int32) (a3 : Int32) (q : Int64 × K3) (hF : f_X3_odds X0 a1 a2 a3 = some q) : Ct l G yX3_odds wsX3_odds ({ frames := 3, cells := 0, slots := 0, locals := 65 } : Room) ([.ref (ad 8 0), .int a1, .int a2, .int a3] : List Value) (wX G ad X0) (some (.long q.1)) (wX G ad q.2) := by
  have k10 : Cond.fieldLink RX3 10 "PigeonRolls" "realm" "LPigeonRolls$Kingdom;" ∈ wsX3_odds := by decide +kernel
  have k178 : Cond.fieldLink RX3 178 "PigeonRolls$Kingdom" "owed" "[I" ∈ wsX3_odds := by decide +kernel
  have k125 : Cond.methodLink RX3 125 Lib.Math.max.name ∈ wsX3_odds := by decide +kernel
  have ksmax : Cond.static Lib.Math.max.name ∈ wsX3_odds := by decide +kernel
  have kiM : Cond.initialized "java/lang/Math" ∈ wsX3_odds := by decide +kernel
  have komax : Cond.code Lib.Math.max.name Lib.Math.max.code 2 (some .int) ∈ wsX3_odds := by decide +kernel
  have hinX0 : ∀ w ∈ u_ws RX0 TX0 16, w ∈ wsX3_odds := by decide +kernel
  have hinX3 : ∀ w ∈ u_ws RX3 TX3 7, w ∈ wsX3_odds := by decide +kernel
  refine Ct.of cX3_odds 6 (some .long) (by decide) rfl (Nat.le_of_ble_eq_true rfl) ?_
  intro p e s m below meth c ls S hr hlocks hf hl
  have S : CallFix p m c cX3_odds 6 s ([.ref (ad 8 0), .int a1, .int a2, .int a3] : List Value).toArray wsX3_odds RX3 := S
  obtain ⟨hx, hb, hml, hown, hts⟩ := id S
  have hl : lv_has ls 6 [(0, .ref (ad 8 0)), (1, .int a1), (2, .int a2), (3, .int a3)] := hl
  unfold f_X3_odds at hF
  refine lv_aload_n hx hb dX3_odds_0 rfl (lv_at hl 0 rfl) ?_
  refine g_get (ci := 3) (C := RX3) (T := TX3) (N := 7) (v := .ref (ad 0 0)) S hf hinX3 0 rfl rfl 0 (by decide) k10 rfl rfl dX3_odds_1 ?_
  refine lv_iload_n hx hb dX3_odds_4 rfl (lv_at hl 1 rfl) ?_
  obtain ⟨q1, h2, hF⟩ := Option.bind_eq_some_iff.mp hF
  refine g_cv (o := some (.int q1)) (As := [.int a1]) (rest := []) (st1 := [.int q1]) (ci := 0) (a := List.take 16 (wX G ad X0)) (b := List.drop 29 (wX G ad X0)) S hf (c_X0_has l G (ad 0) (X0 0) a1 q1 h2) (cwV 1 hts gX3_odds_X0_has rfl rfl rfl (by decide +kernel) ⟨Nat.le_of_ble_eq_true rfl, Nat.le_of_ble_eq_true rfl⟩) rfl rfl rfl rfl 0 rfl rfl hl.1 rfl rfl (Nat.le_of_ble_eq_true rfl) ⟨Nat.zero_le _, Nat.zero_le _⟩ dX3_odds_5 (fun H locs hf => ?_)
  have hf : Fr G (va_A (wX G ad X0) s.heap.size) s (wX G ad X0) H locs := hf
  refine lv_if_eq (tgt := 30) hx hb dX3_odds_8 (by decide) (fun c3 => ?_) (fun c3 => ?_)
  · replace hF := (if_pos c3).symm.trans hF
    refine lv_aload_n hx hb dX3_odds_30 rfl (lv_at hl 0 rfl) ?_
    refine lv_iconst (v := 0) hx hb dX3_odds_31 (by decide) ?_
    obtain ⟨q4, h5, hF⟩ := Option.bind_eq_some_iff.mp hF
    refine g_cv0 (o := some (.int q4.1)) (As := [.int 0]) (rest := []) (st1 := [.int q4.1]) (ci := 3) S hf (c_X3_finding l G ad X0 0 q4 h5) (cwV 1 hts gX3_odds_X3_finding rfl rfl rfl (by decide +kernel) ⟨Nat.le_of_ble_eq_true rfl, Nat.le_of_ble_eq_true rfl⟩) rfl rfl rfl 0 rfl rfl hl.1 rfl rfl (Nat.le_of_ble_eq_true rfl) ⟨Nat.zero_le _, Nat.zero_le _⟩ dX3_odds_32 (fun H locs hf => ?_)
    have hf : Fr G (va_A (wX G ad X0) s.heap.size) s (wX G ad q4.2) H locs := hf
    refine lv_i2l (v := q4.1.toInt64) hx hb dX3_odds_35 rfl ?_
    have hE := Option.some.inj hF
    have hV := congrArg (fun z : Int64 × K3 => z.1) hE
    have hW := congrArg (fun z : Int64 × K3 => wX G ad z.2) hE
    exact g_lret S hr hlocks hf hV hW dX3_odds_36
  · replace hF := (if_neg c3).symm.trans hF
    refine lv_iload_n hx hb dX3_odds_11 rfl (lv_at hl 2 rfl) ?_
    refine lv_iconst (v := 0) hx hb dX3_odds_12 (by decide) ?_
    refine lv_bipush (v := 9) hx hb dX3_odds_13 (by decide) ?_
    obtain ⟨q6, h7, hF⟩ := Option.bind_eq_some_iff.mp hF
    refine g_cs0 (o := some (.int q6)) (As := [.int a2, .int 0, .int 9]) (rest := []) (st1 := [.int q6]) S hf (c_X3_within l G  a2 0 9 q6 h7) (va_cwS 3 hts gX3_odds_X3_within rfl rfl rfl (by decide +kernel) ⟨Nat.le_of_ble_eq_true rfl, Nat.le_of_ble_eq_true rfl⟩) rfl hl.1 rfl rfl (Nat.le_of_ble_eq_true rfl) ⟨Nat.zero_le _, Nat.zero_le _⟩ dX3_odds_15 (fun H locs hf => ?_)
    refine lv_if_eq (tgt := 30) hx hb dX3_odds_18 (by decide) (fun c8 => ?_) (fun c8 => ?_)
    · replace hF := (if_pos c8).symm.trans hF
      refine lv_aload_n hx hb dX3_odds_30 rfl (lv_at hl 0 rfl) ?_
      refine lv_iconst (v := 0) hx hb dX3_odds_31 (by decide) ?_
      obtain ⟨q9, h10, hF⟩ := Option.bind_eq_some_iff.mp hF
      refine g_cv0 (o := some (.int q9.1)) (As := [.int 0]) (rest := []) (st1 := [.int q9.1]) (ci := 3) S hf (c_X3_finding l G ad X0 0 q9 h10) (cwV 1 hts gX3_odds_X3_finding rfl rfl rfl (by decide +kernel) ⟨Nat.le_of_ble_eq_true rfl, Nat.le_of_ble_eq_true rfl⟩) rfl rfl rfl 0 rfl rfl hl.1 rfl rfl (Nat.le_of_ble_eq_true rfl) ⟨Nat.zero_le _, Nat.zero_le _⟩ dX3_odds_32 (fun H locs hf => ?_)
      have hf : Fr G (va_A (wX G ad X0) s.heap.size) s (wX G ad q9.2) H locs := hf
      refine lv_i2l (v := q9.1.toInt64) hx hb dX3_odds_35 rfl ?_
      have hE := Option.some.inj hF
      have hV := congrArg (fun z : Int64 × K3 => z.1) hE
      have hW := congrArg (fun z : Int64 × K3 => wX G ad z.2) hE
      exact g_lret S hr hlocks hf hV hW dX3_odds_36
    · replace hF := (if_neg c8).symm.trans hF
      refine lv_iload_n hx hb dX3_odds_21 rfl (lv_at hl 3 rfl) ?_
      refine lv_iconst (v := 0) hx hb dX3_odds_22 (by decide) ?_
      refine lv_iconst (v := 1) hx hb dX3_odds_23 (by decide) ?_
      obtain ⟨q11, h12, hF⟩ := Option.bind_eq_some_iff.mp hF
      refine g_cs0 (o := some (.int q11)) (As := [.int a3, .int 0, .int 1]) (rest := []) (st1 := [.int q11]) S hf (c_X3_within l G  a3 0 1 q11 h12) (va_cwS 3 hts gX3_odds_X3_within rfl rfl rfl (by decide +kernel) ⟨Nat.le_of_ble_eq_true rfl, Nat.le_of_ble_eq_true rfl⟩) rfl hl.1 rfl rfl (Nat.le_of_ble_eq_true rfl) ⟨Nat.zero_le _, Nat.zero_le _⟩ dX3_odds_24 (fun H locs hf => ?_)
      refine lv_if_ne (tgt := 37) hx hb dX3_odds_27 (by decide) (fun c13 => ?_) (fun c13 => ?_)
      · replace hF := (if_neg c13).symm.trans hF
        refine lv_iconst (v := 0) hx hb dX3_odds_37 (by decide) ?_
        refine lv_bipush (v := 100) hx hb dX3_odds_38 (by decide) ?_
        refine lv_aload_n hx hb dX3_odds_40 rfl (lv_at hl 0 rfl) ?_
        refine g_get (ci := 3) (C := RX3) (T := TX3) (N := 7) (v := .ref (ad 0 0)) S hf hinX3 0 rfl rfl 0 (by decide) k10 rfl rfl dX3_odds_41 ?_
        refine lv_iload_n hx hb dX3_odds_44 rfl (lv_at hl 1 rfl) ?_
        obtain ⟨q14, h15, hF⟩ := Option.bind_eq_some_iff.mp hF
        refine g_cv (o := some (.int q14)) (As := [.int a1]) (rest := [.int 100, .int 0]) (st1 := [.int q14, .int 100, .int 0]) (ci := 0) (a := List.take 16 (wX G ad X0)) (b := List.drop 29 (wX G ad X0)) S hf (c_X0_rateOf l G (ad 0) (X0 0) a1 q14 h15) (cwV 1 hts gX3_odds_X0_rateOf rfl rfl rfl (by decide +kernel) ⟨Nat.le_of_ble_eq_true rfl, Nat.le_of_ble_eq_true rfl⟩) rfl rfl rfl rfl 0 rfl rfl hl.1 rfl rfl (Nat.le_of_ble_eq_true rfl) ⟨Nat.zero_le _, Nat.zero_le _⟩ dX3_odds_45 (fun H locs hf => ?_)
        have hf : Fr G (va_A (wX G ad X0) s.heap.size) s (wX G ad X0) H locs := hf
        refine lv_isub hx hb dX3_odds_48 ?_
        refine lv_aload_n hx hb dX3_odds_49 rfl (lv_at hl 0 rfl) ?_
        refine g_get (ci := 3) (C := RX3) (T := TX3) (N := 7) (v := .ref (ad 0 0)) S hf hinX3 0 rfl rfl 0 (by decide) k10 rfl rfl dX3_odds_50 ?_
        refine g_get (ci := 0) (C := RX0) (T := TX0) (N := 16) (v := .ref (ad 0 11)) S hf hinX0 16 rfl rfl 14 (by decide) k178 rfl rfl dX3_odds_53 ?_
        refine lv_iload_n hx hb dX3_odds_56 rfl (lv_at hl 1 rfl) ?_
        obtain ⟨g16, hF⟩ := gd_some hF
        refine g_ald (v := ((X0 0) 7) a1.toNatClampNeg) S hf 27 rfl g16 rfl dX3_odds_57 ?_
        refine lv_isub hx hb dX3_odds_58 ?_
        refine va_mmax hx hb (hml.trans hl.1.symm) hown (hts _ k125) (hts _ ksmax) (hts _ kiM) (hts _ komax) (Nat.le_of_ble_eq_true rfl) (Nat.le_of_ble_eq_true rfl) (Nat.zero_le _) (Nat.zero_le _) dX3_odds_59 ?_
        refine lv_istore (lv' := [(4, .int (imax 0 ((100 - q14) - (((X0 0) 7) a1.toNatClampNeg)))), (0, .ref (ad 8 0)), (1, .int a1), (2, .int a2), (3, .int a3)]) hx hb dX3_odds_62 hl (by decide) rfl (fun ls hl => ?_)
        refine lv_iload hx hb dX3_odds_64 (lv_at hl 0 rfl) ?_
        refine lv_bipush (v := 100) hx hb dX3_odds_66 (by decide) ?_
        obtain ⟨q17, h18, hF⟩ := Option.bind_eq_some_iff.mp hF
        refine g_cs0 (o := some (.int q17)) (As := [.int (imax 0 ((100 - q14) - (((X0 0) 7) a1.toNatClampNeg))), .int 100]) (rest := []) (st1 := [.int q17]) S hf (c_X3_commonDivisor l G  (imax 0 ((100 - q14) - (((X0 0) 7) a1.toNatClampNeg))) 100 q17 h18) (va_cwS 2 hts gX3_odds_X3_commonDivisor rfl rfl rfl (by decide +kernel) ⟨Nat.le_of_ble_eq_true rfl, Nat.le_of_ble_eq_true rfl⟩) rfl hl.1 rfl rfl (Nat.le_of_ble_eq_true rfl) ⟨Nat.zero_le _, Nat.zero_le _⟩ dX3_odds_68 (fun H locs hf => ?_)
        refine lv_istore (lv' := [(5, .int q17), (4, .int (imax 0 ((100 - q14) - (((X0 0) 7) a1.toNatClampNeg)))), (0, .ref (ad 8 0)), (1, .int a1), (2, .int a2), (3, .int a3)]) hx hb dX3_odds_71 hl (by decide) rfl (fun ls hl => ?_)
        refine lv_iload_n hx hb dX3_odds_73 rfl (lv_at hl 5 rfl) ?_
        refine lv_if_ne (tgt := 82) hx hb dX3_odds_74 (by decide) (fun c19 => ?_) (fun c19 => ?_)
        · replace hF := (if_neg c19).symm.trans hF
          refine lv_bipush (v := 100) hx hb dX3_odds_82 (by decide) ?_
          refine lv_iload hx hb dX3_odds_84 (lv_at hl 0 rfl) ?_
          obtain ⟨g20, hF⟩ := gd_some hF
          refine lv_idiv hx hb dX3_odds_86 g20 ?_
          refine lv_i2l (v := (100 / q17).toInt64) hx hb dX3_odds_87 rfl ?_
          refine lv_iload_n hx hb dX3_odds_88 rfl (lv_at hl 4 rfl) ?_
          obtain ⟨q21, h22, hF⟩ := Option.bind_eq_some_iff.mp hF
          refine g_cs0 (o := some (.long q21)) (As := [.long ((100 / q17).toInt64), .int a2]) (rest := []) (st1 := [.long q21]) S hf (c_X3_power l G  ((100 / q17).toInt64) a2 q21 h22) (va_cwS 2 hts gX3_odds_X3_power rfl rfl rfl (by decide +kernel) ⟨Nat.le_of_ble_eq_true rfl, Nat.le_of_ble_eq_true rfl⟩) rfl hl.1 rfl rfl (Nat.le_of_ble_eq_true rfl) ⟨Nat.zero_le _, Nat.zero_le _⟩ dX3_odds_89 (fun H locs hf => ?_)
          have hE := Option.some.inj hF
          have hV := congrArg (fun z : Int64 × K3 => z.1) hE
          have hW := congrArg (fun z : Int64 × K3 => wX G ad z.2) hE
          exact g_lret S hr hlocks hf hV hW dX3_odds_92
        · replace hF := (if_pos c19).symm.trans hF
          refine lv_iload hx hb dX3_odds_77 (lv_at hl 1 rfl) ?_
          refine lv_goto (tgt := 84) hx hb dX3_odds_79 (by decide) ?_
          refine lv_iload hx hb dX3_odds_84 (lv_at hl 0 rfl) ?_
          obtain ⟨g23, hF⟩ := gd_some hF
          refine lv_idiv hx hb dX3_odds_86 g23 ?_
          refine lv_i2l (v := ((imax 0 ((100 - q14) - (((X0 0) 7) a1.toNatClampNeg))) / q17).toInt64) hx hb dX3_odds_87 rfl ?_
          refine lv_iload_n hx hb dX3_odds_88 rfl (lv_at hl 4 rfl) ?_
          obtain ⟨q24, h25, hF⟩ := Option.bind_eq_some_iff.mp hF
          refine g_cs0 (o := some (.long q24)) (As := [.long (((imax 0 ((100 - q14) - (((X0 0) 7) a1.toNatClampNeg))) / q17).toInt64), .int a2]) (rest := []) (st1 := [.long q24]) S hf (c_X3_power l G  (((imax 0 ((100 - q14) - (((X0 0) 7) a1.toNatClampNeg))) / q17).toInt64) a2 q24 h25) (va_cwS 2 hts gX3_odds_X3_power rfl rfl rfl (by decide +kernel) ⟨Nat.le_of_ble_eq_true rfl, Nat.le_of_ble_eq_true rfl⟩) rfl hl.1 rfl rfl (Nat.le_of_ble_eq_true rfl) ⟨Nat.zero_le _, Nat.zero_le _⟩ dX3_odds_89 (fun H locs hf => ?_)
          have hE := Option.some.inj hF
          have hV := congrArg (fun z : Int64 × K3 => z.1) hE
          have hW := congrArg (fun z : Int64 × K3 => wX G ad z.2) hE
          exact g_lret S hr hlocks hf hV hW dX3_odds_92
      · replace hF := (if_pos c13).symm.trans hF
        refine lv_aload_n hx hb dX3_odds_30 rfl (lv_at hl 0 rfl) ?_
        refine lv_iconst (v := 0) hx hb dX3_odds_31 (by decide) ?_
        obtain ⟨q26, h27, hF⟩ := Option.bind_eq_some_iff.mp hF
        refine g_cv0 (o := some (.int q26.1)) (As := [.int 0]) (rest := []) (st1 := [.int q26.1]) (ci := 3) S hf (c_X3_finding l G ad X0 0 q26 h27) (cwV 1 hts gX3_odds_X3_finding rfl rfl rfl (by decide +kernel) ⟨Nat.le_of_ble_eq_true rfl, Nat.le_of_ble_eq_true rfl⟩) rfl rfl rfl 0 rfl rfl hl.1 rfl rfl (Nat.le_of_ble_eq_true rfl) ⟨Nat.zero_le _, Nat.zero_le _⟩ dX3_odds_32 (fun H locs hf => ?_)
        have hf : Fr G (va_A (wX G ad X0) s.heap.size) s (wX G ad q26.2) H locs := hf
        refine lv_i2l (v := q26.1.toInt64) hx hb dX3_odds_35 rfl ?_
        have hE := Option.some.inj hF
        have hV := congrArg (fun z : Int64 × K3 => z.1) hE
        have hW := congrArg (fun z : Int64 × K3 => wX G ad z.2) hE
        exact g_lret S hr hlocks hf hV hW dX3_odds_36
def f_X3_seed (X0 : K3) (a1 : Int32) : Option (Int32 × K3) := some ((X0 0) 11 2, va_up X0 0 (va_up (X0 0) 11 (upd ((X0 0) 11) 2 a1)))
set_option maxHeartbeats 4000000 in
set_option maxRecDepth 100000 in
theorem c_X3_seed (l : Launch) (G : GT) (ad : Nat → Nat → Nat) (X0 : K3) (a1 : Int32) (q : Int32 × K3) (hF : f_X3_seed X0 a1 = some q) : Ct l G yX3_seed wsX3_seed ({ frames := 0, cells := 0, slots := 0, locals := 0 } : Room) ([.ref (ad 8 0), .int a1] : List Value) (wX G ad X0) (some (.int q.1)) (wX G ad q.2) := by
  have k10 : Cond.fieldLink RX3 10 "PigeonRolls" "realm" "LPigeonRolls$Kingdom;" ∈ wsX3_seed := by decide +kernel
  have k188 : Cond.fieldLink RX3 188 "PigeonRolls$Kingdom" "chance" "I" ∈ wsX3_seed := by decide +kernel
  have hinX0 : ∀ w ∈ u_ws RX0 TX0 16, w ∈ wsX3_seed := by decide +kernel
  have hinX3 : ∀ w ∈ u_ws RX3 TX3 7, w ∈ wsX3_seed := by decide +kernel
  refine Ct.of cX3_seed 3 (some .int) (by decide) rfl (Nat.le_of_ble_eq_true rfl) ?_
  intro p e s m below meth c ls S hr hlocks hf hl
  have S : CallFix p m c cX3_seed 3 s ([.ref (ad 8 0), .int a1] : List Value).toArray wsX3_seed RX3 := S
  obtain ⟨hx, hb, hml, hown, hts⟩ := id S
  have hl : lv_has ls 3 [(0, .ref (ad 8 0)), (1, .int a1)] := hl
  unfold f_X3_seed at hF
  refine lv_aload_n hx hb dX3_seed_0 rfl (lv_at hl 0 rfl) ?_
  refine g_get (ci := 3) (C := RX3) (T := TX3) (N := 7) (v := .ref (ad 0 0)) S hf hinX3 0 rfl rfl 0 (by decide) k10 rfl rfl dX3_seed_1 ?_
  refine g_get (ci := 0) (C := RX0) (T := TX0) (N := 16) (v := .int ((X0 0) 11 2)) S hf hinX0 16 rfl rfl 2 (by decide) k188 rfl rfl dX3_seed_4 ?_
  refine lv_istore_n (lv' := [(2, .int ((X0 0) 11 2)), (0, .ref (ad 8 0)), (1, .int a1)]) hx hb dX3_seed_7 rfl hl (by decide) rfl (fun ls hl => ?_)
  refine lv_aload_n hx hb dX3_seed_8 rfl (lv_at hl 1 rfl) ?_
  refine g_get (ci := 3) (C := RX3) (T := TX3) (N := 7) (v := .ref (ad 0 0)) S hf hinX3 0 rfl rfl 0 (by decide) k10 rfl rfl dX3_seed_9 ?_
  refine lv_iload_n hx hb dX3_seed_12 rfl (lv_at hl 2 rfl) ?_
  refine g_put (ci := 0) (C := RX0) (T := TX0) (N := 16) (ww' := wX G ad (va_up X0 0 (va_up (X0 0) 11 (upd ((X0 0) 11) 2 a1)))) S hf hinX0 tyX0 tyX0_ok nmX0 16 rfl rfl 2 (by decide) k188 rfl rfl rfl rfl (Nat.le_of_ble_eq_true rfl) rfl dX3_seed_13 (fun H locs hf => ?_)
  refine lv_iload_n hx hb dX3_seed_16 rfl (lv_at hl 0 rfl) ?_
  have hE := Option.some.inj hF
  have hV := congrArg (fun z : Int32 × K3 => z.1) hE
  have hW := congrArg (fun z : Int32 × K3 => wX G ad z.2) hE
  exact g_iret S hr hlocks hf hV hW dX3_seed_17
