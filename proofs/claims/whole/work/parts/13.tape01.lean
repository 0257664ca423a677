def f_X2_readCorn (τ0 : K2) (σ0 : K2) : Option (Int32 × K2 × K2) := Option.bind (f_X2_takeNumber τ0 9999) (fun q1 => if q1.1 = (-2) then (some (0, q1.2, σ0)) else (some (1, q1.2, va_up σ0 11 (upd (σ0 11) 1 q1.1))))
set_option maxHeartbeats 4000000 in
set_option maxRecDepth 100000 in
theorem c_X2_readCorn (l : Launch) (G : GT) (ad ad2 : Nat → Nat) (τ0 : K2) (σ0 : K2) (q : Int32 × K2 × K2) (hF : f_X2_readCorn τ0 σ0 = some q) : Ct l G yX2_readCorn wsX2_readCorn ({ frames := 3, cells := 0, slots := 0, locals := 63 } : Room) ([.ref (ad 0), .ref (ad2 0)] : List Value) (wK G ad2 σ0 ++ wT G ad τ0) (some (.int q.1)) (wK G ad2 q.2.2 ++ wT G ad q.2.1) := by
  have k148 : Cond.fieldLink RX2 148 "PigeonRolls$Kingdom" "treasury" "I" ∈ wsX2_readCorn := by decide +kernel
  have hinX0 : ∀ w ∈ u_ws RX0 TX0 16, w ∈ wsX2_readCorn := by decide +kernel
  refine Ct.of cX2_readCorn 3 (some .boolean) (by decide) rfl (Nat.le_of_ble_eq_true rfl) ?_
  intro p e s m below meth c ls S hr hlocks hf hl
  have S : CallFix p m c cX2_readCorn 3 s ([.ref (ad 0), .ref (ad2 0)] : List Value).toArray wsX2_readCorn RX2 := S
  obtain ⟨hx, hb, hml, hown, hts⟩ := id S
  have hl : lv_has ls 3 [(0, .ref (ad 0)), (1, .ref (ad2 0))] := hl
  unfold f_X2_readCorn at hF
  refine lv_aload_n hx hb dX2_readCorn_0 rfl (lv_at hl 0 rfl) ?_
  refine lv_sipush (v := 9999) hx hb dX2_readCorn_1 (by decide) ?_
  obtain ⟨q1, h2, hF⟩ := Option.bind_eq_some_iff.mp hF
  refine g_cv (o := some (.int q1.1)) (As := [.int 9999]) (rest := []) (st1 := [.int q1.1]) (ci := 2) (a := List.take 13 (wK G ad2 σ0 ++ wT G ad τ0)) (b := List.drop 15 (wK G ad2 σ0 ++ wT G ad τ0)) S hf (c_X2_takeNumber l G ad τ0 9999 q1 h2) (cwV 1 hts gX2_readCorn_X2_takeNumber rfl rfl rfl (by decide +kernel) ⟨Nat.le_of_ble_eq_true rfl, Nat.le_of_ble_eq_true rfl⟩) rfl rfl rfl rfl 0 rfl rfl hl.1 rfl rfl (Nat.le_of_ble_eq_true rfl) ⟨Nat.zero_le _, Nat.zero_le _⟩ dX2_readCorn_4 (fun H locs hf => ?_)
  have hf : Fr G (va_A (wK G ad2 σ0 ++ wT G ad τ0) s.heap.size) s (wK G ad2 σ0 ++ wT G ad q1.2) H locs := hf
  refine lv_istore_n (lv' := [(2, .int q1.1), (0, .ref (ad 0)), (1, .ref (ad2 0))]) hx hb dX2_readCorn_7 rfl hl (by decide) rfl (fun ls hl => ?_)
  refine lv_iload_n hx hb dX2_readCorn_8 rfl (lv_at hl 0 rfl) ?_
  refine lv_bipush (v := -2) hx hb dX2_readCorn_9 (by decide) ?_
  refine lv_icmp_ne (tgt := 16) hx hb dX2_readCorn_11 (by decide) (fun c3 => ?_) (fun c3 => ?_)
  · replace hF := (if_neg c3).symm.trans hF
    refine lv_aload_n hx hb dX2_readCorn_16 rfl (lv_at hl 2 rfl) ?_
    refine lv_iload_n hx hb dX2_readCorn_17 rfl (lv_at hl 0 rfl) ?_
    refine g_put (ci := 0) (C := RX0) (T := TX0) (N := 16) (ww' := wK G ad2 (va_up σ0 11 (upd (σ0 11) 1 q1.1)) ++ wT G ad q1.2) S hf hinX0 tyX0 tyX0_ok nmX0 0 rfl rfl 1 (by decide) k148 rfl rfl rfl rfl (Nat.le_of_ble_eq_true rfl) rfl dX2_readCorn_18 (fun H locs hf => ?_)
    refine lv_iconst (v := 1) hx hb dX2_readCorn_21 (by decide) ?_
    have hE := Option.some.inj hF
    have hV := congrArg (fun z : Int32 × K2 × K2 => z.1) hE
    have hW := congrArg (fun z : Int32 × K2 × K2 => wK G ad2 z.2.2 ++ wT G ad z.2.1) hE
    exact g_zret S hr hlocks hf (by decide) hV hW dX2_readCorn_22
  · replace hF := (if_pos c3).symm.trans hF
    refine lv_iconst (v := 0) hx hb dX2_readCorn_14 (by decide) ?_
    have hE := Option.some.inj hF
    have hV := congrArg (fun z : Int32 × K2 × K2 => z.1) hE
    have hW := congrArg (fun z : Int32 × K2 × K2 => wK G ad2 z.2.2 ++ wT G ad z.2.1) hE
    exact g_zret S hr hlocks hf (by decide) hV hW dX2_readCorn_15
def f_X2_readStrike (τ0 : K2) (σ0 : K2) : Option (Int32 × K2 × K2) := Option.bind (f_X2_takeNumber τ0 ((σ0 11 3) - 1)) (fun q1 => if q1.1 = (-2) then (some (0, q1.2, σ0)) else (if ix q1.1 8 then (some (1, q1.2, va_up σ0 6 (upd (σ0 6) q1.1.toNatClampNeg 1))) else none))
set_option maxHeartbeats 4000000 in
set_option maxRecDepth 100000 in
theorem c_X2_readStrike (l : Launch) (G : GT) (ad ad2 : Nat → Nat) (τ0 : K2) (σ0 : K2) (q : Int32 × K2 × K2) (hF : f_X2_readStrike τ0 σ0 = some q) : Ct l G yX2_readStrike wsX2_readStrike ({ frames := 3, cells := 0, slots := 0, locals := 63 } : Room) ([.ref (ad 0), .ref (ad2 0)] : List Value) (wK G ad2 σ0 ++ wT G ad τ0) (some (.int q.1)) (wK G ad2 q.2.2 ++ wT G ad q.2.1) := by
  have k125 : Cond.fieldLink RX2 125 "PigeonRolls$Kingdom" "birds" "I" ∈ wsX2_readStrike := by decide +kernel
  have k151 : Cond.fieldLink RX2 151 "PigeonRolls$Kingdom" "off" "[I" ∈ wsX2_readStrike := by decide +kernel
  have hinX0 : ∀ w ∈ u_ws RX0 TX0 16, w ∈ wsX2_readStrike := by decide +kernel
  refine Ct.of cX2_readStrike 3 (some .boolean) (by decide) rfl (Nat.le_of_ble_eq_true rfl) ?_
  intro p e s m below meth c ls S hr hlocks hf hl
  have S : CallFix p m c cX2_readStrike 3 s ([.ref (ad 0), .ref (ad2 0)] : List Value).toArray wsX2_readStrike RX2 := S
  obtain ⟨hx, hb, hml, hown, hts⟩ := id S
  have hl : lv_has ls 3 [(0, .ref (ad 0)), (1, .ref (ad2 0))] := hl
  unfold f_X2_readStrike at hF
  refine lv_aload_n hx hb dX2_readStrike_0 rfl (lv_at hl 0 rfl) ?_
  refine lv_aload_n hx hb dX2_readStrike_1 rfl (lv_at hl 1 rfl) ?_
  refine g_get (ci := 0) (C := RX0) (T := TX0) (N := 16) (v := .int (σ0 11 3)) S hf hinX0 0 rfl rfl 3 (by decide) k125 rfl rfl dX2_readStrike_2 ?_
  refine lv_iconst (v := 1) hx hb dX2_readStrike_5 (by decide) ?_
  refine lv_isub hx hb dX2_readStrike_6 ?_
  obtain ⟨q1, h2, hF⟩ := Option.bind_eq_some_iff.mp hF
  refine g_cv (o := some (.int q1.1)) (As := [.int ((σ0 11 3) - 1)]) (rest := []) (st1 := [.int q1.1]) (ci := 2) (a := List.take 13 (wK G ad2 σ0 ++ wT G ad τ0)) (b := List.drop 15 (wK G ad2 σ0 ++ wT G ad τ0)) S hf (c_X2_takeNumber l G ad τ0 ((σ0 11 3) - 1) q1 h2) (cwV 1 hts gX2_readStrike_X2_takeNumber rfl rfl rfl (by decide +kernel) ⟨Nat.le_of_ble_eq_true rfl, Nat.le_of_ble_eq_true rfl⟩) rfl rfl rfl rfl 0 rfl rfl hl.1 rfl rfl (Nat.le_of_ble_eq_true rfl) ⟨Nat.zero_le _, Nat.zero_le _⟩ dX2_readStrike_7 (fun H locs hf => ?_)
  have hf : Fr G (va_A (wK G ad2 σ0 ++ wT G ad τ0) s.heap.size) s (wK G ad2 σ0 ++ wT G ad q1.2) H locs := hf
  refine lv_istore_n (lv' := [(2, .int q1.1), (0, .ref (ad 0)), (1, .ref (ad2 0))]) hx hb dX2_readStrike_10 rfl hl (by decide) rfl (fun ls hl => ?_)
  refine lv_iload_n hx hb dX2_readStrike_11 rfl (lv_at hl 0 rfl) ?_
  refine lv_bipush (v := -2) hx hb dX2_readStrike_12 (by decide) ?_
  refine lv_icmp_ne (tgt := 19) hx hb dX2_readStrike_14 (by decide) (fun c3 => ?_) (fun c3 => ?_)
  · replace hF := (if_neg c3).symm.trans hF
    refine lv_aload_n hx hb dX2_readStrike_19 rfl (lv_at hl 2 rfl) ?_
    refine g_get (ci := 0) (C := RX0) (T := TX0) (N := 16) (v := .ref (ad2 10)) S hf hinX0 0 rfl rfl 13 (by decide) k151 rfl rfl dX2_readStrike_20 ?_
    refine lv_iload_n hx hb dX2_readStrike_23 rfl (lv_at hl 0 rfl) ?_
    refine lv_iconst (v := 1) hx hb dX2_readStrike_24 (by decide) ?_
    obtain ⟨g4, hF⟩ := gd_some hF
    refine g_ast (ww' := wK G ad2 (va_up σ0 6 (upd (σ0 6) q1.1.toNatClampNeg 1)) ++ wT G ad q1.2) S hf 10 rfl g4 rfl dX2_readStrike_25 (fun H locs hf => ?_)
    refine lv_iconst (v := 1) hx hb dX2_readStrike_26 (by decide) ?_
    have hE := Option.some.inj hF
    have hV := congrArg (fun z : Int32 × K2 × K2 => z.1) hE
    have hW := congrArg (fun z : Int32 × K2 × K2 => wK G ad2 z.2.2 ++ wT G ad z.2.1) hE
    exact g_zret S hr hlocks hf (by decide) hV hW dX2_readStrike_27
  · replace hF := (if_pos c3).symm.trans hF
    refine lv_iconst (v := 0) hx hb dX2_readStrike_17 (by decide) ?_
    have hE := Option.some.inj hF
    have hV := congrArg (fun z : Int32 × K2 × K2 => z.1) hE
    have hW := congrArg (fun z : Int32 × K2 × K2 => wK G ad2 z.2.2 ++ wT G ad z.2.1) hE
    exact g_zret S hr hlocks hf (by decide) hV hW dX2_readStrike_18
def f_X2_readItem (τ0 : K2) (σ0 : K2) : Option (Int32 × K2 × K2) := Option.bind (f_X2_kindAtHand τ0) (fun q1 => if q1 < 0 then (Option.bind (f_X2_tookWord τ0 12) (fun q4 => if q4.1 = 0 then (Option.bind (f_X2_tookWord q4.2 13) (fun q7 => if q7.1 = 0 then (Option.bind (f_X2_tookWord q7.2 14) (fun q10 => if q10.1 = 0 then (some (0, q10.2, σ0)) else (Option.bind (f_X2_readStrike q10.2 σ0) (fun q13 => if q13.1 = 0 ∨ q13.1 = 1 then some (q13.1, q13.2.1, q13.2.2) else none)))) else (Option.bind (f_X2_readCorn q7.2 σ0) (fun q16 => if q16.1 = 0 ∨ q16.1 = 1 then some (q16.1, q16.2.1, q16.2.2) else none)))) else (Option.bind (f_X2_readHarvest q4.2 σ0) (fun q19 => if q19.1 = 0 ∨ q19.1 = 1 then some (q19.1, q19.2.1, q19.2.2) else none)))) else (Option.bind (f_X2_readBird τ0 σ0 q1) (fun q22 => if q22.1 = 0 ∨ q22.1 = 1 then some (q22.1, q22.2.1, q22.2.2) else none)))
set_option maxHeartbeats 4000000 in
set_option maxRecDepth 100000 in
theorem c_X2_readItem (l : Launch) (G : GT) (ad ad2 : Nat → Nat) (τ0 : K2) (σ0 : K2) (q : Int32 × K2 × K2) (hF : f_X2_readItem τ0 σ0 = some q) : Ct l G yX2_readItem wsX2_readItem ({ frames := 8, cells := 0, slots := 0, locals := 177 } : Room) ([.ref (ad 0), .ref (ad2 0)] : List Value) (wK G ad2 σ0 ++ wT G ad τ0) (some (.int q.1)) (wK G ad2 q.2.2 ++ wT G ad q.2.1) := by
  refine Ct.of cX2_readItem 3 (some .boolean) (by decide) rfl (Nat.le_of_ble_eq_true rfl) ?_
  intro p e s m below meth c ls S hr hlocks hf hl
  have S : CallFix p m c cX2_readItem 3 s ([.ref (ad 0), .ref (ad2 0)] : List Value).toArray wsX2_readItem RX2 := S
  obtain ⟨hx, hb, hml, hown, hts⟩ := id S
  have hl : lv_has ls 3 [(0, .ref (ad 0)), (1, .ref (ad2 0))] := hl
  unfold f_X2_readItem at hF
  refine lv_aload_n hx hb dX2_readItem_0 rfl (lv_at hl 0 rfl) ?_
  obtain ⟨q1, h2, hF⟩ := Option.bind_eq_some_iff.mp hF
  refine g_cv (o := some (.int q1)) (As := []) (rest := []) (st1 := [.int q1]) (ci := 2) (a := List.take 13 (wK G ad2 σ0 ++ wT G ad τ0)) (b := List.drop 15 (wK G ad2 σ0 ++ wT G ad τ0)) S hf (c_X2_kindAtHand l G ad τ0 q1 h2) (cwV 0 hts gX2_readItem_X2_kindAtHand rfl rfl rfl (by decide +kernel) ⟨Nat.le_of_ble_eq_true rfl, Nat.le_of_ble_eq_true rfl⟩) rfl rfl rfl rfl 0 rfl rfl hl.1 rfl rfl (Nat.le_of_ble_eq_true rfl) ⟨Nat.zero_le _, Nat.zero_le _⟩ dX2_readItem_1 (fun H locs hf => ?_)
  have hf : Fr G (va_A (wK G ad2 σ0 ++ wT G ad τ0) s.heap.size) s (wK G ad2 σ0 ++ wT G ad τ0) H locs := hf
  refine lv_istore_n (lv' := [(2, .int q1), (0, .ref (ad 0)), (1, .ref (ad2 0))]) hx hb dX2_readItem_4 rfl hl (by decide) rfl (fun ls hl => ?_)
  refine lv_iload_n hx hb dX2_readItem_5 rfl (lv_at hl 0 rfl) ?_
  refine lv_if_lt (tgt := 16) hx hb dX2_readItem_6 (by decide) (fun c3 => ?_) (fun c3 => ?_)
  · replace hF := (if_pos c3).symm.trans hF
    refine lv_aload_n hx hb dX2_readItem_16 rfl (lv_at hl 1 rfl) ?_
    refine va_ldcS (q := gk G 12) (tx := "harvest") (own := RX2) (index := 78) hx hb hown (hf.2.2.2.2.2.2.2.2.2.2 ("PigeonRolls$Tape", 78, "harvest", 12) (by decide)) dX2_readItem_17 ?_
    obtain ⟨q4, h5, hF⟩ := Option.bind_eq_some_iff.mp hF
    refine g_cv (o := some (.int q4.1)) (As := [.ref (gk G 12)]) (rest := []) (st1 := [.int q4.1]) (ci := 2) (a := List.take 13 (wK G ad2 σ0 ++ wT G ad τ0)) (b := List.drop 15 (wK G ad2 σ0 ++ wT G ad τ0)) S hf (c_X2_tookWord l G ad τ0 12 q4 h5 (by decide)) (cwV 1 hts gX2_readItem_X2_tookWord rfl rfl rfl (by decide +kernel) ⟨Nat.le_of_ble_eq_true rfl, Nat.le_of_ble_eq_true rfl⟩) rfl rfl rfl rfl 0 rfl rfl hl.1 rfl rfl (Nat.le_of_ble_eq_true rfl) ⟨Nat.zero_le _, Nat.zero_le _⟩ dX2_readItem_19 (fun H locs hf => ?_)
    have hf : Fr G (va_A (wK G ad2 σ0 ++ wT G ad τ0) s.heap.size) s (wK G ad2 σ0 ++ wT G ad q4.2) H locs := hf
    refine lv_if_eq (tgt := 31) hx hb dX2_readItem_22 (by decide) (fun c6 => ?_) (fun c6 => ?_)
    · replace hF := (if_pos c6).symm.trans hF
      refine lv_aload_n hx hb dX2_readItem_31 rfl (lv_at hl 1 rfl) ?_
      refine va_ldcS (q := gk G 13) (tx := "corn") (own := RX2) (index := 83) hx hb hown (hf.2.2.2.2.2.2.2.2.2.2 ("PigeonRolls$Tape", 83, "corn", 13) (by decide)) dX2_readItem_32 ?_
      obtain ⟨q7, h8, hF⟩ := Option.bind_eq_some_iff.mp hF
      refine g_cv (o := some (.int q7.1)) (As := [.ref (gk G 13)]) (rest := []) (st1 := [.int q7.1]) (ci := 2) (a := List.take 13 (wK G ad2 σ0 ++ wT G ad q4.2)) (b := List.drop 15 (wK G ad2 σ0 ++ wT G ad q4.2)) S hf (c_X2_tookWord l G ad q4.2 13 q7 h8 (by decide)) (cwV 1 hts gX2_readItem_X2_tookWord rfl rfl rfl (by decide +kernel) ⟨Nat.le_of_ble_eq_true rfl, Nat.le_of_ble_eq_true rfl⟩) rfl rfl rfl rfl 0 rfl rfl hl.1 rfl rfl (Nat.le_of_ble_eq_true rfl) ⟨Nat.zero_le _, Nat.zero_le _⟩ dX2_readItem_34 (fun H locs hf => ?_)
      have hf : Fr G (va_A (wK G ad2 σ0 ++ wT G ad τ0) s.heap.size) s (wK G ad2 σ0 ++ wT G ad q7.2) H locs := hf
      refine lv_if_eq (tgt := 46) hx hb dX2_readItem_37 (by decide) (fun c9 => ?_) (fun c9 => ?_)
      · replace hF := (if_pos c9).symm.trans hF
        refine lv_aload_n hx hb dX2_readItem_46 rfl (lv_at hl 1 rfl) ?_
        refine va_ldcS (q := gk G 14) (tx := "strike") (own := RX2) (index := 88) hx hb hown (hf.2.2.2.2.2.2.2.2.2.2 ("PigeonRolls$Tape", 88, "strike", 14) (by decide)) dX2_readItem_47 ?_
        obtain ⟨q10, h11, hF⟩ := Option.bind_eq_some_iff.mp hF
        refine g_cv (o := some (.int q10.1)) (As := [.ref (gk G 14)]) (rest := []) (st1 := [.int q10.1]) (ci := 2) (a := List.take 13 (wK G ad2 σ0 ++ wT G ad q7.2)) (b := List.drop 15 (wK G ad2 σ0 ++ wT G ad q7.2)) S hf (c_X2_tookWord l G ad q7.2 14 q10 h11 (by decide)) (cwV 1 hts gX2_readItem_X2_tookWord rfl rfl rfl (by decide +kernel) ⟨Nat.le_of_ble_eq_true rfl, Nat.le_of_ble_eq_true rfl⟩) rfl rfl rfl rfl 0 rfl rfl hl.1 rfl rfl (Nat.le_of_ble_eq_true rfl) ⟨Nat.zero_le _, Nat.zero_le _⟩ dX2_readItem_49 (fun H locs hf => ?_)
        have hf : Fr G (va_A (wK G ad2 σ0 ++ wT G ad τ0) s.heap.size) s (wK G ad2 σ0 ++ wT G ad q10.2) H locs := hf
        refine lv_if_eq (tgt := 61) hx hb dX2_readItem_52 (by decide) (fun c12 => ?_) (fun c12 => ?_)
        · replace hF := (if_pos c12).symm.trans hF
          refine lv_iconst (v := 0) hx hb dX2_readItem_61 (by decide) ?_
          have hE := Option.some.inj hF
          have hV := congrArg (fun z : Int32 × K2 × K2 => z.1) hE
          have hW := congrArg (fun z : Int32 × K2 × K2 => wK G ad2 z.2.2 ++ wT G ad z.2.1) hE
          exact g_zret S hr hlocks hf (by decide) hV hW dX2_readItem_62
        · replace hF := (if_neg c12).symm.trans hF
          refine lv_aload_n hx hb dX2_readItem_55 rfl (lv_at hl 1 rfl) ?_
          refine lv_aload_n hx hb dX2_readItem_56 rfl (lv_at hl 2 rfl) ?_
          obtain ⟨q13, h14, hF⟩ := Option.bind_eq_some_iff.mp hF
          refine g_cv0 (o := some (.int q13.1)) (As := [.ref (ad2 0)]) (rest := []) (st1 := [.int q13.1]) (ci := 2) S hf (c_X2_readStrike l G ad ad2 q10.2 σ0 q13 h14) (cwV 1 hts gX2_readItem_X2_readStrike rfl rfl rfl (by decide +kernel) ⟨Nat.le_of_ble_eq_true rfl, Nat.le_of_ble_eq_true rfl⟩) rfl rfl rfl 13 rfl rfl hl.1 rfl rfl (Nat.le_of_ble_eq_true rfl) ⟨Nat.zero_le _, Nat.zero_le _⟩ dX2_readItem_57 (fun H locs hf => ?_)
          have hf : Fr G (va_A (wK G ad2 σ0 ++ wT G ad τ0) s.heap.size) s (wK G ad2 q13.2.2 ++ wT G ad q13.2.1) H locs := hf
          obtain ⟨g15, hF⟩ := gd_some hF
          have hE := Option.some.inj hF
          have hV := congrArg (fun z : Int32 × K2 × K2 => z.1) hE
          have hW := congrArg (fun z : Int32 × K2 × K2 => wK G ad2 z.2.2 ++ wT G ad z.2.1) hE
          exact g_zret S hr hlocks hf (nz g15) hV hW dX2_readItem_60
      · replace hF := (if_neg c9).symm.trans hF
        refine lv_aload_n hx hb dX2_readItem_40 rfl (lv_at hl 1 rfl) ?_
        refine lv_aload_n hx hb dX2_readItem_41 rfl (lv_at hl 2 rfl) ?_
        obtain ⟨q16, h17, hF⟩ := Option.bind_eq_some_iff.mp hF
        refine g_cv0 (o := some (.int q16.1)) (As := [.ref (ad2 0)]) (rest := []) (st1 := [.int q16.1]) (ci := 2) S hf (c_X2_readCorn l G ad ad2 q7.2 σ0 q16 h17) (cwV 1 hts gX2_readItem_X2_readCorn rfl rfl rfl (by decide +kernel) ⟨Nat.le_of_ble_eq_true rfl, Nat.le_of_ble_eq_true rfl⟩) rfl rfl rfl 13 rfl rfl hl.1 rfl rfl (Nat.le_of_ble_eq_true rfl) ⟨Nat.zero_le _, Nat.zero_le _⟩ dX2_readItem_42 (fun H locs hf => ?_)
        have hf : Fr G (va_A (wK G ad2 σ0 ++ wT G ad τ0) s.heap.size) s (wK G ad2 q16.2.2 ++ wT G ad q16.2.1) H locs := hf
        obtain ⟨g18, hF⟩ := gd_some hF
        have hE := Option.some.inj hF
        have hV := congrArg (fun z : Int32 × K2 × K2 => z.1) hE
        have hW := congrArg (fun z : Int32 × K2 × K2 => wK G ad2 z.2.2 ++ wT G ad z.2.1) hE
        exact g_zret S hr hlocks hf (nz g18) hV hW dX2_readItem_45
    · replace hF := (if_neg c6).symm.trans hF
      refine lv_aload_n hx hb dX2_readItem_25 rfl (lv_at hl 1 rfl) ?_
      refine lv_aload_n hx hb dX2_readItem_26 rfl (lv_at hl 2 rfl) ?_
      obtain ⟨q19, h20, hF⟩ := Option.bind_eq_some_iff.mp hF
      refine g_cv0 (o := some (.int q19.1)) (As := [.ref (ad2 0)]) (rest := []) (st1 := [.int q19.1]) (ci := 2) S hf (c_X2_readHarvest l G ad ad2 q4.2 σ0 q19 h20) (cwV 1 hts gX2_readItem_X2_readHarvest rfl rfl rfl (by decide +kernel) ⟨Nat.le_of_ble_eq_true rfl, Nat.le_of_ble_eq_true rfl⟩) rfl rfl rfl 13 rfl rfl hl.1 rfl rfl (Nat.le_of_ble_eq_true rfl) ⟨Nat.zero_le _, Nat.zero_le _⟩ dX2_readItem_27 (fun H locs hf => ?_)
      have hf : Fr G (va_A (wK G ad2 σ0 ++ wT G ad τ0) s.heap.size) s (wK G ad2 q19.2.2 ++ wT G ad q19.2.1) H locs := hf
      obtain ⟨g21, hF⟩ := gd_some hF
      have hE := Option.some.inj hF
      have hV := congrArg (fun z : Int32 × K2 × K2 => z.1) hE
      have hW := congrArg (fun z : Int32 × K2 × K2 => wK G ad2 z.2.2 ++ wT G ad z.2.1) hE
      exact g_zret S hr hlocks hf (nz g21) hV hW dX2_readItem_30
  · replace hF := (if_neg c3).symm.trans hF
    refine lv_aload_n hx hb dX2_readItem_9 rfl (lv_at hl 1 rfl) ?_
    refine lv_aload_n hx hb dX2_readItem_10 rfl (lv_at hl 2 rfl) ?_
    refine lv_iload_n hx hb dX2_readItem_11 rfl (lv_at hl 0 rfl) ?_
    obtain ⟨q22, h23, hF⟩ := Option.bind_eq_some_iff.mp hF
    refine g_cv0 (o := some (.int q22.1)) (As := [.ref (ad2 0), .int q1]) (rest := []) (st1 := [.int q22.1]) (ci := 2) S hf (c_X2_readBird l G ad ad2 τ0 σ0 q1 q22 h23) (cwV 2 hts gX2_readItem_X2_readBird rfl rfl rfl (by decide +kernel) ⟨Nat.le_of_ble_eq_true rfl, Nat.le_of_ble_eq_true rfl⟩) rfl rfl rfl 13 rfl rfl hl.1 rfl rfl (Nat.le_of_ble_eq_true rfl) ⟨Nat.zero_le _, Nat.zero_le _⟩ dX2_readItem_12 (fun H locs hf => ?_)
    have hf : Fr G (va_A (wK G ad2 σ0 ++ wT G ad τ0) s.heap.size) s (wK G ad2 q22.2.2 ++ wT G ad q22.2.1) H locs := hf
    obtain ⟨g24, hF⟩ := gd_some hF
    have hE := Option.some.inj hF
    have hV := congrArg (fun z : Int32 × K2 × K2 => z.1) hE
    have hW := congrArg (fun z : Int32 × K2 × K2 => wK G ad2 z.2.2 ++ wT G ad z.2.1) hE
    exact g_zret S hr hlocks hf (nz g24) hV hW dX2_readItem_15
def f_X2_readInto_B66 (τ : K2) (σ : K2) : Option (Int32 × K2 × K2) := some ((-1) - (τ 1 2), τ, σ)
def f_X2_readInto_L11 : Nat → K2 → K2 → Int32 → Option (Int32 × K2 × K2)
  | 0, _, _, _ => none
  | n + 1, τ, σ, x2 => if 120 < x2 then (f_X2_readInto_B66 τ σ) else (Option.bind (f_X2_readItem τ σ) (fun q4 => if q4.1 = 0 then (some ((-1) - (q4.2.1 1 2), q4.2.1, q4.2.2)) else (if (q4.2.1 1 1) = 0 then (some (x2, q4.2.1, q4.2.2)) else (if (q4.2.1 1 1) = 3 then (Option.bind (f_X2_step q4.2.1) (fun q9 => f_X2_readInto_L11 n q9 q4.2.2 (x2 + 1))) else (some ((-1) - (q4.2.1 1 2), q4.2.1, q4.2.2))))))
def f_X2_readInto (τ0 : K2) (σ0 : K2) : Option (Int32 × K2 × K2) := Option.bind (f_X2_step (va_up τ0 1 (upd (τ0 1) 3 0))) (fun q1 => f_X2_readInto_L11 1000 q1 σ0 1)
set_option maxHeartbeats 4000000 in
set_option maxRecDepth 100000 in
theorem c_X2_readInto (l : Launch) (G : GT) (ad ad2 : Nat → Nat) (τ0 : K2) (σ0 : K2) (q : Int32 × K2 × K2) (hF : f_X2_readInto τ0 σ0 = some q) : Ct l G yX2_readInto wsX2_readInto ({ frames := 9, cells := 0, slots := 0, locals := 199 } : Room) ([.ref (ad 0), .ref (ad2 0)] : List Value) (wK G ad2 σ0 ++ wT G ad τ0) (some (.int q.1)) (wK G ad2 q.2.2 ++ wT G ad q.2.1) := by
  have k25 : Cond.fieldLink RX2 25 "PigeonRolls$Tape" "behind" "I" ∈ wsX2_readInto := by decide +kernel
  have k22 : Cond.fieldLink RX2 22 "PigeonRolls$Tape" "at" "I" ∈ wsX2_readInto := by decide +kernel
  have k19 : Cond.fieldLink RX2 19 "PigeonRolls$Tape" "token" "I" ∈ wsX2_readInto := by decide +kernel
  have hinX2 : ∀ w ∈ u_ws RX2 TX2 6, w ∈ wsX2_readInto := by decide +kernel
  refine Ct.of cX2_readInto 3 (some .int) (by decide) rfl (Nat.le_of_ble_eq_true rfl) ?_
  intro p e s m below meth c ls S hr hlocks hf hl
  have S : CallFix p m c cX2_readInto 3 s ([.ref (ad 0), .ref (ad2 0)] : List Value).toArray wsX2_readInto RX2 := S
  obtain ⟨hx, hb, hml, hown, hts⟩ := id S
  have hl : lv_has ls 3 [(0, .ref (ad 0)), (1, .ref (ad2 0))] := hl
  have hL66 : ∀ (τ : K2) (σ : K2)  (H : Heap) (locs : List Loc) (ls : Array Slot), f_X2_readInto_B66 τ σ = some q → Fr G (va_A (wK G ad2 σ0 ++ wT G ad τ0) s.heap.size) s (wK G ad2 σ ++ wT G ad τ) H locs → lv_has ls 3 [(0, .ref (ad 0))] → W p l e ({ frames := 9, cells := 0, slots := 0, locals := 199 } : Room) s m ([.ref (ad 0), .ref (ad2 0)] : List Value).toArray below meth c H locs 0 0 (MQ below (CPost G (wK G ad2 σ0 ++ wT G ad τ0) s.heap.size (some (.int q.1)) (wK G ad2 q.2.2 ++ wT G ad q.2.1)) ([.ref (ad 0), .ref (ad2 0)] : List Value).toArray s 0 0 (va_A (wK G ad2 σ0 ++ wT G ad τ0) s.heap.size)) (F0 m 66 ls []) := by
    intro τ σ H locs ls hF hf hl
    unfold f_X2_readInto_B66 at hF
    refine lv_iconst (v := -1) hx hb dX2_readInto_66 (by decide) ?_
    refine lv_aload_n hx hb dX2_readInto_67 rfl (lv_at hl 0 rfl) ?_
    refine g_get (ci := 2) (C := RX2) (T := TX2) (N := 6) (v := .int (τ 1 2)) S hf hinX2 13 rfl rfl 3 (by decide) k22 rfl rfl dX2_readInto_68 ?_
    refine lv_isub hx hb dX2_readInto_71 ?_
    have hE := Option.some.inj hF
    have hV := congrArg (fun z : Int32 × K2 × K2 => z.1) hE
    have hW := congrArg (fun z : Int32 × K2 × K2 => wK G ad2 z.2.2 ++ wT G ad z.2.1) hE
    exact g_iret S hr hlocks hf hV hW dX2_readInto_72
  have hL11 : ∀ (n : Nat) (τ : K2) (σ : K2) (x2 : Int32)  (H : Heap) (locs : List Loc) (ls : Array Slot), f_X2_readInto_L11 n τ σ x2 = some q → Fr G (va_A (wK G ad2 σ0 ++ wT G ad τ0) s.heap.size) s (wK G ad2 σ ++ wT G ad τ) H locs → lv_has ls 3 [(0, .ref (ad 0)), (1, .ref (ad2 0)), (2, .int x2)] → W p l e ({ frames := 9, cells := 0, slots := 0, locals := 199 } : Room) s m ([.ref (ad 0), .ref (ad2 0)] : List Value).toArray below meth c H locs 0 0 (MQ below (CPost G (wK G ad2 σ0 ++ wT G ad τ0) s.heap.size (some (.int q.1)) (wK G ad2 q.2.2 ++ wT G ad q.2.1)) ([.ref (ad 0), .ref (ad2 0)] : List Value).toArray s 0 0 (va_A (wK G ad2 σ0 ++ wT G ad τ0) s.heap.size)) (F0 m 11 ls []) := by
    intro n
    induction n with
    | zero =>
      intro τ σ x2 H locs ls hF hf hl
      exact absurd hF (by simp [f_X2_readInto_L11])
    | succ n ih11 =>
      intro τ σ x2 H locs ls hF hf hl
      rw [f_X2_readInto_L11] at hF
      refine lv_iload_n hx hb dX2_readInto_11 rfl (lv_at hl 2 rfl) ?_
      refine lv_bipush (v := 120) hx hb dX2_readInto_12 (by decide) ?_
      refine lv_icmp_gt (tgt := 66) hx hb dX2_readInto_14 (by decide) (fun c3 => ?_) (fun c3 => ?_)
      · replace hF := (if_pos c3).symm.trans hF
        exact hL66 τ σ _ _ _ hF hf (lv_sub hl [0] rfl)
      · replace hF := (if_neg c3).symm.trans hF
        refine lv_aload_n hx hb dX2_readInto_17 rfl (lv_at hl 0 rfl) ?_
        refine lv_aload_n hx hb dX2_readInto_18 rfl (lv_at hl 1 rfl) ?_
        obtain ⟨q4, h5, hF⟩ := Option.bind_eq_some_iff.mp hF
        refine g_cv0 (o := some (.int q4.1)) (As := [.ref (ad2 0)]) (rest := []) (st1 := [.int q4.1]) (ci := 2) S hf (c_X2_readItem l G ad ad2 τ σ q4 h5) (cwV 1 hts gX2_readInto_X2_readItem rfl rfl rfl (by decide +kernel) ⟨Nat.le_of_ble_eq_true rfl, Nat.le_of_ble_eq_true rfl⟩) rfl rfl rfl 13 rfl rfl hl.1 rfl rfl (Nat.le_of_ble_eq_true rfl) ⟨Nat.zero_le _, Nat.zero_le _⟩ dX2_readInto_19 (fun H locs hf => ?_)
        have hf : Fr G (va_A (wK G ad2 σ0 ++ wT G ad τ0) s.heap.size) s (wK G ad2 q4.2.2 ++ wT G ad q4.2.1) H locs := hf
        refine lv_if_ne (tgt := 32) hx hb dX2_readInto_22 (by decide) (fun c6 => ?_) (fun c6 => ?_)
        · replace hF := (if_neg c6).symm.trans hF
          refine lv_aload_n hx hb dX2_readInto_32 rfl (lv_at hl 0 rfl) ?_
          refine g_get (ci := 2) (C := RX2) (T := TX2) (N := 6) (v := .int (q4.2.1 1 1)) S hf hinX2 13 rfl rfl 2 (by decide) k19 rfl rfl dX2_readInto_33 ?_
          refine lv_if_ne (tgt := 41) hx hb dX2_readInto_36 (by decide) (fun c7 => ?_) (fun c7 => ?_)
          · replace hF := (if_neg c7).symm.trans hF
            refine lv_aload_n hx hb dX2_readInto_41 rfl (lv_at hl 0 rfl) ?_
            refine g_get (ci := 2) (C := RX2) (T := TX2) (N := 6) (v := .int (q4.2.1 1 1)) S hf hinX2 13 rfl rfl 2 (by decide) k19 rfl rfl dX2_readInto_42 ?_
            refine lv_iconst (v := 3) hx hb dX2_readInto_45 (by decide) ?_
            refine lv_icmp_eq (tgt := 56) hx hb dX2_readInto_46 (by decide) (fun c8 => ?_) (fun c8 => ?_)
            · replace hF := (if_pos c8).symm.trans hF
              refine lv_aload_n hx hb dX2_readInto_56 rfl (lv_at hl 0 rfl) ?_
              obtain ⟨q9, h10, hF⟩ := Option.bind_eq_some_iff.mp hF
              refine g_cv (o := none) (As := []) (rest := []) (st1 := []) (ci := 2) (a := List.take 13 (wK G ad2 q4.2.2 ++ wT G ad q4.2.1)) (b := List.drop 15 (wK G ad2 q4.2.2 ++ wT G ad q4.2.1)) S hf (c_X2_step l G ad q4.2.1 q9 h10) (cwV 0 hts gX2_readInto_X2_step rfl rfl rfl (by decide +kernel) ⟨Nat.le_of_ble_eq_true rfl, Nat.le_of_ble_eq_true rfl⟩) rfl rfl rfl rfl 0 rfl rfl hl.1 rfl rfl (Nat.le_of_ble_eq_true rfl) ⟨Nat.zero_le _, Nat.zero_le _⟩ dX2_readInto_57 (fun H locs hf => ?_)
              have hf : Fr G (va_A (wK G ad2 σ0 ++ wT G ad τ0) s.heap.size) s (wK G ad2 q4.2.2 ++ wT G ad q9) H locs := hf
              refine lv_iinc (v := x2 + 1) (lv' := [(2, .int (x2 + 1)), (0, .ref (ad 0)), (1, .ref (ad2 0))]) hx hb dX2_readInto_60 hl (k := 2) rfl rfl (by decide) rfl (fun ls hl => ?_)
              refine lv_goto (tgt := 11) hx hb dX2_readInto_63 (by decide) ?_
              exact ih11 q9 q4.2.2 (x2 + 1) _ _ _ hF hf (lv_sub hl [1, 2, 0] rfl)
            · replace hF := (if_neg c8).symm.trans hF
              refine lv_iconst (v := -1) hx hb dX2_readInto_49 (by decide) ?_
              refine lv_aload_n hx hb dX2_readInto_50 rfl (lv_at hl 0 rfl) ?_
              refine g_get (ci := 2) (C := RX2) (T := TX2) (N := 6) (v := .int (q4.2.1 1 2)) S hf hinX2 13 rfl rfl 3 (by decide) k22 rfl rfl dX2_readInto_51 ?_
              refine lv_isub hx hb dX2_readInto_54 ?_
              have hE := Option.some.inj hF
              have hV := congrArg (fun z : Int32 × K2 × K2 => z.1) hE
              have hW := congrArg (fun z : Int32 × K2 × K2 => wK G ad2 z.2.2 ++ wT G ad z.2.1) hE
              exact g_iret S hr hlocks hf hV hW dX2_readInto_55
          · replace hF := (if_pos c7).symm.trans hF
            refine lv_iload_n hx hb dX2_readInto_39 rfl (lv_at hl 2 rfl) ?_
            have hE := Option.some.inj hF
            have hV := congrArg (fun z : Int32 × K2 × K2 => z.1) hE
            have hW := congrArg (fun z : Int32 × K2 × K2 => wK G ad2 z.2.2 ++ wT G ad z.2.1) hE
            exact g_iret S hr hlocks hf hV hW dX2_readInto_40
        · replace hF := (if_pos c6).symm.trans hF
          refine lv_iconst (v := -1) hx hb dX2_readInto_25 (by decide) ?_
          refine lv_aload_n hx hb dX2_readInto_26 rfl (lv_at hl 0 rfl) ?_
          refine g_get (ci := 2) (C := RX2) (T := TX2) (N := 6) (v := .int (q4.2.1 1 2)) S hf hinX2 13 rfl rfl 3 (by decide) k22 rfl rfl dX2_readInto_27 ?_
          refine lv_isub hx hb dX2_readInto_30 ?_
          have hE := Option.some.inj hF
          have hV := congrArg (fun z : Int32 × K2 × K2 => z.1) hE
          have hW := congrArg (fun z : Int32 × K2 × K2 => wK G ad2 z.2.2 ++ wT G ad z.2.1) hE
          exact g_iret S hr hlocks hf hV hW dX2_readInto_31
  unfold f_X2_readInto at hF
  refine lv_aload_n hx hb dX2_readInto_0 rfl (lv_at hl 0 rfl) ?_
  refine lv_iconst (v := 0) hx hb dX2_readInto_1 (by decide) ?_
  refine g_put (ci := 2) (C := RX2) (T := TX2) (N := 6) (ww' := wK G ad2 σ0 ++ wT G ad (va_up τ0 1 (upd (τ0 1) 3 0))) S hf hinX2 tyX2 tyX2_ok nmX2 13 rfl rfl 4 (by decide) k25 rfl rfl rfl rfl (Nat.le_of_ble_eq_true rfl) rfl dX2_readInto_2 (fun H locs hf => ?_)
  refine lv_aload_n hx hb dX2_readInto_5 rfl (lv_at hl 0 rfl) ?_
  obtain ⟨q1, h2, hF⟩ := Option.bind_eq_some_iff.mp hF
  refine g_cv (o := none) (As := []) (rest := []) (st1 := []) (ci := 2) (a := List.take 13 (wK G ad2 σ0 ++ wT G ad (va_up τ0 1 (upd (τ0 1) 3 0)))) (b := List.drop 15 (wK G ad2 σ0 ++ wT G ad (va_up τ0 1 (upd (τ0 1) 3 0)))) S hf (c_X2_step l G ad (va_up τ0 1 (upd (τ0 1) 3 0)) q1 h2) (cwV 0 hts gX2_readInto_X2_step rfl rfl rfl (by decide +kernel) ⟨Nat.le_of_ble_eq_true rfl, Nat.le_of_ble_eq_true rfl⟩) rfl rfl rfl rfl 0 rfl rfl hl.1 rfl rfl (Nat.le_of_ble_eq_true rfl) ⟨Nat.zero_le _, Nat.zero_le _⟩ dX2_readInto_6 (fun H locs hf => ?_)
  have hf : Fr G (va_A (wK G ad2 σ0 ++ wT G ad τ0) s.heap.size) s (wK G ad2 σ0 ++ wT G ad q1) H locs := hf
  refine lv_iconst (v := 1) hx hb dX2_readInto_9 (by decide) ?_
  refine lv_istore_n (lv' := [(2, .int 1), (0, .ref (ad 0)), (1, .ref (ad2 0))]) hx hb dX2_readInto_10 rfl hl (by decide) rfl (fun ls hl => ?_)
  exact hL11 1000 q1 σ0 1 _ _ _ hF hf (lv_sub hl [1, 2, 0] rfl)
