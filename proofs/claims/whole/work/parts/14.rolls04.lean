def f_X3_feed_B66 (X : K3) : Option (Int32 × K3) := some ((X 3) 1 0, X)
def f_X3_feed_L39 : Nat → K3 → Int32 → Int32 → Option (Int32 × K3)
  | 0, _, _, _ => none
  | n + 1, X, x1, x3 => if x3 < 0 then (f_X3_feed_B66 X) else (Option.bind (f_X2_append (X 3) ((iushr x1 (8 * x3)) &&& 255)) (fun q6 => f_X3_feed_L39 n (va_up X 3 q6) x1 (x3 + (-1))))
def f_X3_feed (X0 : K3) (a1 : Int32) (a2 : Int32) : Option (Int32 × K3) := Option.bind (f_X3_within a2 1 4) (fun q1 => if q1 = 0 then (Option.bind (f_X3_finding X0 0) (fun q10 => some (q10.1, q10.2))) else (if (((X0 3) 1 0) + a2) ≤ 120 then (f_X3_feed_L39 1000 X0 a1 (a2 - 1)) else (Option.bind (f_X3_finding X0 1) (fun q8 => some (q8.1, q8.2)))))
set_option maxHeartbeats 4000000 in
set_option maxRecDepth 100000 in
theorem c_X3_feed (l : Launch) (G : GT) (ad : Nat → Nat → Nat) (X0 : K3) (a1 : Int32) (a2 : Int32) (q : Int32 × K3) (hF : f_X3_feed X0 a1 a2 = some q) : Ct l G yX3_feed wsX3_feed ({ frames := 1, cells := 0, slots := 0, locals := 22 } : Room) ([.ref (ad 8 0), .int a1, .int a2] : List Value) (wX G ad X0) (some (.int q.1)) (wX G ad q.2) := by
  have k25 : Cond.fieldLink RX3 25 "PigeonRolls" "tape" "LPigeonRolls$Tape;" ∈ wsX3_feed := by decide +kernel
  have k191 : Cond.fieldLink RX3 191 "PigeonRolls$Tape" "length" "I" ∈ wsX3_feed := by decide +kernel
  have hinX2 : ∀ w ∈ u_ws RX2 TX2 6, w ∈ wsX3_feed := by decide +kernel
  have hinX3 : ∀ w ∈ u_ws RX3 TX3 7, w ∈ wsX3_feed := by decide +kernel
  refine Ct.of cX3_feed 4 (some .int) (by decide) rfl (Nat.le_of_ble_eq_true rfl) ?_
  intro p e s m below meth c ls S hr hlocks hf hl
  have S : CallFix p m c cX3_feed 4 s ([.ref (ad 8 0), .int a1, .int a2] : List Value).toArray wsX3_feed RX3 := S
  obtain ⟨hx, hb, hml, hown, hts⟩ := id S
  have hl : lv_has ls 4 [(0, .ref (ad 8 0)), (1, .int a1), (2, .int a2)] := hl
  have hL66 : ∀ (X : K3)  (H : Heap) (locs : List Loc) (ls : Array Slot), f_X3_feed_B66 X = some q → Fr G (va_A (wX G ad X0) s.heap.size) s (wX G ad X) H locs → lv_has ls 4 [(0, .ref (ad 8 0))] → W p l e ({ frames := 1, cells := 0, slots := 0, locals := 22 } : Room) s m ([.ref (ad 8 0), .int a1, .int a2] : List Value).toArray below meth c H locs 0 0 (MQ below (CPost G (wX G ad X0) s.heap.size (some (.int q.1)) (wX G ad q.2)) ([.ref (ad 8 0), .int a1, .int a2] : List Value).toArray s 0 0 (va_A (wX G ad X0) s.heap.size)) (F0 m 66 ls []) := by
    intro X H locs ls hF hf hl
    unfold f_X3_feed_B66 at hF
    refine lv_aload_n hx hb dX3_feed_66 rfl (lv_at hl 0 rfl) ?_
    refine g_get (ci := 3) (C := RX3) (T := TX3) (N := 7) (v := .ref (ad 3 0)) S hf hinX3 0 rfl rfl 3 (by decide) k25 rfl rfl dX3_feed_67 ?_
    refine g_get (ci := 2) (C := RX2) (T := TX2) (N := 6) (v := .int ((X 3) 1 0)) S hf hinX2 42 rfl rfl 1 (by decide) k191 rfl rfl dX3_feed_70 ?_
    have hE := Option.some.inj hF
    have hV := congrArg (fun z : Int32 × K3 => z.1) hE
    have hW := congrArg (fun z : Int32 × K3 => wX G ad z.2) hE
    exact g_iret S hr hlocks hf hV hW dX3_feed_73
  have hL39 : ∀ (n : Nat) (X : K3) (x1 : Int32) (x3 : Int32)  (H : Heap) (locs : List Loc) (ls : Array Slot), f_X3_feed_L39 n X x1 x3 = some q → Fr G (va_A (wX G ad X0) s.heap.size) s (wX G ad X) H locs → lv_has ls 4 [(0, .ref (ad 8 0)), (1, .int x1), (3, .int x3)] → W p l e ({ frames := 1, cells := 0, slots := 0, locals := 22 } : Room) s m ([.ref (ad 8 0), .int a1, .int a2] : List Value).toArray below meth c H locs 0 0 (MQ below (CPost G (wX G ad X0) s.heap.size (some (.int q.1)) (wX G ad q.2)) ([.ref (ad 8 0), .int a1, .int a2] : List Value).toArray s 0 0 (va_A (wX G ad X0) s.heap.size)) (F0 m 39 ls []) := by
    intro n
    induction n with
    | zero =>
      intro X x1 x3 H locs ls hF hf hl
      exact absurd hF (by simp [f_X3_feed_L39])
    | succ n ih39 =>
      intro X x1 x3 H locs ls hF hf hl
      rw [f_X3_feed_L39] at hF
      refine lv_iload_n hx hb dX3_feed_39 rfl (lv_at hl 2 rfl) ?_
      refine lv_if_lt (tgt := 66) hx hb dX3_feed_40 (by decide) (fun c5 => ?_) (fun c5 => ?_)
      · replace hF := (if_pos c5).symm.trans hF
        exact hL66 X _ _ _ hF hf (lv_sub hl [0] rfl)
      · replace hF := (if_neg c5).symm.trans hF
        refine lv_aload_n hx hb dX3_feed_43 rfl (lv_at hl 0 rfl) ?_
        refine g_get (ci := 3) (C := RX3) (T := TX3) (N := 7) (v := .ref (ad 3 0)) S hf hinX3 0 rfl rfl 3 (by decide) k25 rfl rfl dX3_feed_44 ?_
        refine lv_iload_n hx hb dX3_feed_47 rfl (lv_at hl 1 rfl) ?_
        refine lv_bipush (v := 8) hx hb dX3_feed_48 (by decide) ?_
        refine lv_iload_n hx hb dX3_feed_50 rfl (lv_at hl 2 rfl) ?_
        refine lv_imul hx hb dX3_feed_51 ?_
        refine lv_iushr (v := iushr x1 (8 * x3)) hx hb dX3_feed_52 rfl ?_
        refine lv_sipush (v := 255) hx hb dX3_feed_53 (by decide) ?_
        refine lv_iand hx hb dX3_feed_56 ?_
        obtain ⟨q6, h7, hF⟩ := Option.bind_eq_some_iff.mp hF
        refine g_cv (o := none) (As := [.int ((iushr x1 (8 * x3)) &&& 255)]) (rest := []) (st1 := []) (ci := 2) (a := List.take 42 (wX G ad X)) (b := List.drop 44 (wX G ad X)) S hf (c_X2_append l G (ad 3) (X 3) ((iushr x1 (8 * x3)) &&& 255) q6 h7) (cwV 1 hts gX3_feed_X2_append rfl rfl rfl (by decide +kernel) ⟨Nat.le_of_ble_eq_true rfl, Nat.le_of_ble_eq_true rfl⟩) rfl rfl rfl rfl 0 rfl rfl hl.1 rfl rfl (Nat.le_of_ble_eq_true rfl) ⟨Nat.zero_le _, Nat.zero_le _⟩ dX3_feed_57 (fun H locs hf => ?_)
        have hf : Fr G (va_A (wX G ad X0) s.heap.size) s (wX G ad (va_up X 3 q6)) H locs := hf
        refine lv_iinc (v := x3 + (-1)) (lv' := [(3, .int (x3 + (-1))), (0, .ref (ad 8 0)), (1, .int x1)]) hx hb dX3_feed_60 hl (k := 2) rfl rfl (by decide) rfl (fun ls hl => ?_)
        refine lv_goto (tgt := 39) hx hb dX3_feed_63 (by decide) ?_
        exact ih39 (va_up X 3 q6) x1 (x3 + (-1)) _ _ _ hF hf (lv_sub hl [1, 2, 0] rfl)
  unfold f_X3_feed at hF
  refine lv_iload_n hx hb dX3_feed_0 rfl (lv_at hl 2 rfl) ?_
  refine lv_iconst (v := 1) hx hb dX3_feed_1 (by decide) ?_
  refine lv_iconst (v := 4) hx hb dX3_feed_2 (by decide) ?_
  obtain ⟨q1, h2, hF⟩ := Option.bind_eq_some_iff.mp hF
  refine g_cs0 (o := some (.int q1)) (As := [.int a2, .int 1, .int 4]) (rest := []) (st1 := [.int q1]) S hf (c_X3_within l G  a2 1 4 q1 h2) (va_cwS 3 hts gX3_feed_X3_within rfl rfl rfl (by decide +kernel) ⟨Nat.le_of_ble_eq_true rfl, Nat.le_of_ble_eq_true rfl⟩) rfl hl.1 rfl rfl (Nat.le_of_ble_eq_true rfl) ⟨Nat.zero_le _, Nat.zero_le _⟩ dX3_feed_3 (fun H locs hf => ?_)
  refine lv_if_ne (tgt := 15) hx hb dX3_feed_6 (by decide) (fun c3 => ?_) (fun c3 => ?_)
  · replace hF := (if_neg c3).symm.trans hF
    refine lv_aload_n hx hb dX3_feed_15 rfl (lv_at hl 0 rfl) ?_
    refine g_get (ci := 3) (C := RX3) (T := TX3) (N := 7) (v := .ref (ad 3 0)) S hf hinX3 0 rfl rfl 3 (by decide) k25 rfl rfl dX3_feed_16 ?_
    refine g_get (ci := 2) (C := RX2) (T := TX2) (N := 6) (v := .int ((X0 3) 1 0)) S hf hinX2 42 rfl rfl 1 (by decide) k191 rfl rfl dX3_feed_19 ?_
    refine lv_iload_n hx hb dX3_feed_22 rfl (lv_at hl 2 rfl) ?_
    refine lv_iadd hx hb dX3_feed_23 ?_
    refine lv_bipush (v := 120) hx hb dX3_feed_24 (by decide) ?_
    refine lv_icmp_le (tgt := 35) hx hb dX3_feed_26 (by decide) (fun c4 => ?_) (fun c4 => ?_)
    · replace hF := (if_pos c4).symm.trans hF
      refine lv_iload_n hx hb dX3_feed_35 rfl (lv_at hl 2 rfl) ?_
      refine lv_iconst (v := 1) hx hb dX3_feed_36 (by decide) ?_
      refine lv_isub hx hb dX3_feed_37 ?_
      refine lv_istore_n (lv' := [(3, .int (a2 - 1)), (0, .ref (ad 8 0)), (1, .int a1), (2, .int a2)]) hx hb dX3_feed_38 rfl hl (by decide) rfl (fun ls hl => ?_)
      exact hL39 1000 X0 a1 (a2 - 1) _ _ _ hF hf (lv_sub hl [1, 2, 0] rfl)
    · replace hF := (if_neg c4).symm.trans hF
      refine lv_aload_n hx hb dX3_feed_29 rfl (lv_at hl 0 rfl) ?_
      refine lv_iconst (v := 1) hx hb dX3_feed_30 (by decide) ?_
      obtain ⟨q8, h9, hF⟩ := Option.bind_eq_some_iff.mp hF
      refine g_cv0 (o := some (.int q8.1)) (As := [.int 1]) (rest := []) (st1 := [.int q8.1]) (ci := 3) S hf (c_X3_finding l G ad X0 1 q8 h9) (cwV 1 hts gX3_feed_X3_finding rfl rfl rfl (by decide +kernel) ⟨Nat.le_of_ble_eq_true rfl, Nat.le_of_ble_eq_true rfl⟩) rfl rfl rfl 0 rfl rfl hl.1 rfl rfl (Nat.le_of_ble_eq_true rfl) ⟨Nat.zero_le _, Nat.zero_le _⟩ dX3_feed_31 (fun H locs hf => ?_)
      have hf : Fr G (va_A (wX G ad X0) s.heap.size) s (wX G ad q8.2) H locs := hf
      have hE := Option.some.inj hF
      have hV := congrArg (fun z : Int32 × K3 => z.1) hE
      have hW := congrArg (fun z : Int32 × K3 => wX G ad z.2) hE
      exact g_iret S hr hlocks hf hV hW dX3_feed_34
  · replace hF := (if_pos c3).symm.trans hF
    refine lv_aload_n hx hb dX3_feed_9 rfl (lv_at hl 0 rfl) ?_
    refine lv_iconst (v := 0) hx hb dX3_feed_10 (by decide) ?_
    obtain ⟨q10, h11, hF⟩ := Option.bind_eq_some_iff.mp hF
    refine g_cv0 (o := some (.int q10.1)) (As := [.int 0]) (rest := []) (st1 := [.int q10.1]) (ci := 3) S hf (c_X3_finding l G ad X0 0 q10 h11) (cwV 1 hts gX3_feed_X3_finding rfl rfl rfl (by decide +kernel) ⟨Nat.le_of_ble_eq_true rfl, Nat.le_of_ble_eq_true rfl⟩) rfl rfl rfl 0 rfl rfl hl.1 rfl rfl (Nat.le_of_ble_eq_true rfl) ⟨Nat.zero_le _, Nat.zero_le _⟩ dX3_feed_11 (fun H locs hf => ?_)
    have hf : Fr G (va_A (wX G ad X0) s.heap.size) s (wX G ad q10.2) H locs := hf
    have hE := Option.some.inj hF
    have hV := congrArg (fun z : Int32 × K3 => z.1) hE
    have hW := congrArg (fun z : Int32 × K3 => wX G ad z.2) hE
    exact g_iret S hr hlocks hf hV hW dX3_feed_14
def f_X3_wipe (X0 : K3) : Option (Int32 × K3) := some ((X0 3) 1 0, va_up X0 3 (va_up (X0 3) 1 (upd ((X0 3) 1) 0 0)))
set_option maxHeartbeats 4000000 in
set_option maxRecDepth 100000 in
theorem c_X3_wipe (l : Launch) (G : GT) (ad : Nat → Nat → Nat) (X0 : K3) (q : Int32 × K3) (hF : f_X3_wipe X0 = some q) : Ct l G yX3_wipe wsX3_wipe ({ frames := 0, cells := 0, slots := 0, locals := 0 } : Room) ([.ref (ad 8 0)] : List Value) (wX G ad X0) (some (.int q.1)) (wX G ad q.2) := by
  have k25 : Cond.fieldLink RX3 25 "PigeonRolls" "tape" "LPigeonRolls$Tape;" ∈ wsX3_wipe := by decide +kernel
  have k191 : Cond.fieldLink RX3 191 "PigeonRolls$Tape" "length" "I" ∈ wsX3_wipe := by decide +kernel
  have hinX2 : ∀ w ∈ u_ws RX2 TX2 6, w ∈ wsX3_wipe := by decide +kernel
  have hinX3 : ∀ w ∈ u_ws RX3 TX3 7, w ∈ wsX3_wipe := by decide +kernel
  refine Ct.of cX3_wipe 2 (some .int) (by decide) rfl (Nat.le_of_ble_eq_true rfl) ?_
  intro p e s m below meth c ls S hr hlocks hf hl
  have S : CallFix p m c cX3_wipe 2 s ([.ref (ad 8 0)] : List Value).toArray wsX3_wipe RX3 := S
  obtain ⟨hx, hb, hml, hown, hts⟩ := id S
  have hl : lv_has ls 2 [(0, .ref (ad 8 0))] := hl
  unfold f_X3_wipe at hF
  refine lv_aload_n hx hb dX3_wipe_0 rfl (lv_at hl 0 rfl) ?_
  refine g_get (ci := 3) (C := RX3) (T := TX3) (N := 7) (v := .ref (ad 3 0)) S hf hinX3 0 rfl rfl 3 (by decide) k25 rfl rfl dX3_wipe_1 ?_
  refine g_get (ci := 2) (C := RX2) (T := TX2) (N := 6) (v := .int ((X0 3) 1 0)) S hf hinX2 42 rfl rfl 1 (by decide) k191 rfl rfl dX3_wipe_4 ?_
  refine lv_istore_n (lv' := [(1, .int ((X0 3) 1 0)), (0, .ref (ad 8 0))]) hx hb dX3_wipe_7 rfl hl (by decide) rfl (fun ls hl => ?_)
  refine lv_aload_n hx hb dX3_wipe_8 rfl (lv_at hl 1 rfl) ?_
  refine g_get (ci := 3) (C := RX3) (T := TX3) (N := 7) (v := .ref (ad 3 0)) S hf hinX3 0 rfl rfl 3 (by decide) k25 rfl rfl dX3_wipe_9 ?_
  refine lv_iconst (v := 0) hx hb dX3_wipe_12 (by decide) ?_
  refine g_put (ci := 2) (C := RX2) (T := TX2) (N := 6) (ww' := wX G ad (va_up X0 3 (va_up (X0 3) 1 (upd ((X0 3) 1) 0 0)))) S hf hinX2 tyX2 tyX2_ok nmX2 42 rfl rfl 1 (by decide) k191 rfl rfl rfl rfl (Nat.le_of_ble_eq_true rfl) rfl dX3_wipe_13 (fun H locs hf => ?_)
  refine lv_iload_n hx hb dX3_wipe_16 rfl (lv_at hl 0 rfl) ?_
  have hE := Option.some.inj hF
  have hV := congrArg (fun z : Int32 × K3 => z.1) hE
  have hW := congrArg (fun z : Int32 × K3 => wX G ad z.2) hE
  exact g_iret S hr hlocks hf hV hW dX3_wipe_17
def f_X3_text (X0 : K3) : Option (Int32 × K3) := Option.bind (f_X0_become2 (X0 2) (X0 0)) (fun q1 => Option.bind (f_X2_readInto (X0 3) q1) (fun q3 => if q3.1 < 0 then (some (q3.1, va_up (va_up X0 2 q3.2.2) 3 (va_up q3.2.1 1 (upd (q3.2.1 1) 0 0)))) else (Option.bind (f_X0_become (X0 0) q3.2.2) (fun q6 => some (q3.1, va_up (va_up (va_up X0 2 q3.2.2) 0 q6) 3 (va_up q3.2.1 1 (upd (q3.2.1 1) 0 0)))))))
set_option maxHeartbeats 4000000 in
set_option maxRecDepth 100000 in
theorem c_X3_text (l : Launch) (G : GT) (ad : Nat → Nat → Nat) (X0 : K3) (q : Int32 × K3) (hF : f_X3_text X0 = some q) : Ct l G yX3_text wsX3_text ({ frames := 10, cells := 0, slots := 0, locals := 221 } : Room) ([.ref (ad 8 0)] : List Value) (wX G ad X0) (some (.int q.1)) (wX G ad q.2) := by
  have k19 : Cond.fieldLink RX3 19 "PigeonRolls" "trial" "LPigeonRolls$Kingdom;" ∈ wsX3_text := by decide +kernel
  have k10 : Cond.fieldLink RX3 10 "PigeonRolls" "realm" "LPigeonRolls$Kingdom;" ∈ wsX3_text := by decide +kernel
  have k25 : Cond.fieldLink RX3 25 "PigeonRolls" "tape" "LPigeonRolls$Tape;" ∈ wsX3_text := by decide +kernel
  have k191 : Cond.fieldLink RX3 191 "PigeonRolls$Tape" "length" "I" ∈ wsX3_text := by decide +kernel
  have hinX2 : ∀ w ∈ u_ws RX2 TX2 6, w ∈ wsX3_text := by decide +kernel
  have hinX3 : ∀ w ∈ u_ws RX3 TX3 7, w ∈ wsX3_text := by decide +kernel
  refine Ct.of cX3_text 2 (some .int) (by decide) rfl (Nat.le_of_ble_eq_true rfl) ?_
  intro p e s m below meth c ls S hr hlocks hf hl
  have S : CallFix p m c cX3_text 2 s ([.ref (ad 8 0)] : List Value).toArray wsX3_text RX3 := S
  obtain ⟨hx, hb, hml, hown, hts⟩ := id S
  have hl : lv_has ls 2 [(0, .ref (ad 8 0))] := hl
  unfold f_X3_text at hF
  refine lv_aload_n hx hb dX3_text_0 rfl (lv_at hl 0 rfl) ?_
  refine g_get (ci := 3) (C := RX3) (T := TX3) (N := 7) (v := .ref (ad 2 0)) S hf hinX3 0 rfl rfl 2 (by decide) k19 rfl rfl dX3_text_1 ?_
  refine lv_aload_n hx hb dX3_text_4 rfl (lv_at hl 0 rfl) ?_
  refine g_get (ci := 3) (C := RX3) (T := TX3) (N := 7) (v := .ref (ad 0 0)) S hf hinX3 0 rfl rfl 0 (by decide) k10 rfl rfl dX3_text_5 ?_
  obtain ⟨q1, h2, hF⟩ := Option.bind_eq_some_iff.mp hF
  refine g_cv (o := none) (As := [.ref (ad 0 0)]) (rest := []) (st1 := []) (ci := 0) (a := List.take 16 (wX G ad X0)) (b := List.drop 42 (wX G ad X0)) S hf (c_X0_become2 l G (ad 2) (ad 0) (X0 2) (X0 0) q1 h2) (cwV 1 hts gX3_text_X0_become rfl rfl rfl (by decide +kernel) ⟨Nat.le_of_ble_eq_true rfl, Nat.le_of_ble_eq_true rfl⟩) rfl rfl rfl rfl 13 rfl rfl hl.1 rfl rfl (Nat.le_of_ble_eq_true rfl) ⟨Nat.zero_le _, Nat.zero_le _⟩ dX3_text_8 (fun H locs hf => ?_)
  have hf : Fr G (va_A (wX G ad X0) s.heap.size) s (wX G ad (va_up X0 2 q1)) H locs := hf
  refine lv_aload_n hx hb dX3_text_11 rfl (lv_at hl 0 rfl) ?_
  refine g_get (ci := 3) (C := RX3) (T := TX3) (N := 7) (v := .ref (ad 3 0)) S hf hinX3 0 rfl rfl 3 (by decide) k25 rfl rfl dX3_text_12 ?_
  refine lv_aload_n hx hb dX3_text_15 rfl (lv_at hl 0 rfl) ?_
  refine g_get (ci := 3) (C := RX3) (T := TX3) (N := 7) (v := .ref (ad 2 0)) S hf hinX3 0 rfl rfl 2 (by decide) k19 rfl rfl dX3_text_16 ?_
  obtain ⟨q3, h4, hF⟩ := Option.bind_eq_some_iff.mp hF
  refine g_cv (o := some (.int q3.1)) (As := [.ref (ad 2 0)]) (rest := []) (st1 := [.int q3.1]) (ci := 2) (a := List.take 29 (wX G ad (va_up X0 2 q1))) (b := List.drop 44 (wX G ad (va_up X0 2 q1))) S hf (c_X2_readInto l G (ad 3) (ad 2) (X0 3) q1 q3 h4) (cwV 1 hts gX3_text_X2_readInto rfl rfl rfl (by decide +kernel) ⟨Nat.le_of_ble_eq_true rfl, Nat.le_of_ble_eq_true rfl⟩) rfl rfl rfl rfl 13 rfl rfl hl.1 rfl rfl (Nat.le_of_ble_eq_true rfl) ⟨Nat.zero_le _, Nat.zero_le _⟩ dX3_text_19 (fun H locs hf => ?_)
  have hf : Fr G (va_A (wX G ad X0) s.heap.size) s (wX G ad (va_up (va_up X0 2 q3.2.2) 3 q3.2.1)) H locs := hf
  refine lv_istore_n (lv' := [(1, .int q3.1), (0, .ref (ad 8 0))]) hx hb dX3_text_22 rfl hl (by decide) rfl (fun ls hl => ?_)
  refine lv_iload_n hx hb dX3_text_23 rfl (lv_at hl 0 rfl) ?_
  refine lv_if_lt (tgt := 38) hx hb dX3_text_24 (by decide) (fun c5 => ?_) (fun c5 => ?_)
  · replace hF := (if_pos c5).symm.trans hF
    refine lv_aload_n hx hb dX3_text_38 rfl (lv_at hl 1 rfl) ?_
    refine g_get (ci := 3) (C := RX3) (T := TX3) (N := 7) (v := .ref (ad 3 0)) S hf hinX3 0 rfl rfl 3 (by decide) k25 rfl rfl dX3_text_39 ?_
    refine lv_iconst (v := 0) hx hb dX3_text_42 (by decide) ?_
    refine g_put (ci := 2) (C := RX2) (T := TX2) (N := 6) (ww' := wX G ad (va_up (va_up X0 2 q3.2.2) 3 (va_up q3.2.1 1 (upd (q3.2.1 1) 0 0)))) S hf hinX2 tyX2 tyX2_ok nmX2 42 rfl rfl 1 (by decide) k191 rfl rfl rfl rfl (Nat.le_of_ble_eq_true rfl) rfl dX3_text_43 (fun H locs hf => ?_)
    refine lv_iload_n hx hb dX3_text_46 rfl (lv_at hl 0 rfl) ?_
    have hE := Option.some.inj hF
    have hV := congrArg (fun z : Int32 × K3 => z.1) hE
    have hW := congrArg (fun z : Int32 × K3 => wX G ad z.2) hE
    exact g_iret S hr hlocks hf hV hW dX3_text_47
  · replace hF := (if_neg c5).symm.trans hF
    refine lv_aload_n hx hb dX3_text_27 rfl (lv_at hl 1 rfl) ?_
    refine g_get (ci := 3) (C := RX3) (T := TX3) (N := 7) (v := .ref (ad 0 0)) S hf hinX3 0 rfl rfl 0 (by decide) k10 rfl rfl dX3_text_28 ?_
    refine lv_aload_n hx hb dX3_text_31 rfl (lv_at hl 1 rfl) ?_
    refine g_get (ci := 3) (C := RX3) (T := TX3) (N := 7) (v := .ref (ad 2 0)) S hf hinX3 0 rfl rfl 2 (by decide) k19 rfl rfl dX3_text_32 ?_
    obtain ⟨q6, h7, hF⟩ := Option.bind_eq_some_iff.mp hF
    refine g_cv (o := none) (As := [.ref (ad 2 0)]) (rest := []) (st1 := []) (ci := 0) (a := List.take 16 (wX G ad (va_up (va_up X0 2 q3.2.2) 3 q3.2.1))) (b := List.drop 42 (wX G ad (va_up (va_up X0 2 q3.2.2) 3 q3.2.1))) S hf (c_X0_become l G (ad 0) (ad 2) (X0 0) q3.2.2 q6 h7) (cwV 1 hts gX3_text_X0_become rfl rfl rfl (by decide +kernel) ⟨Nat.le_of_ble_eq_true rfl, Nat.le_of_ble_eq_true rfl⟩) rfl rfl rfl rfl 0 rfl rfl hl.1 rfl rfl (Nat.le_of_ble_eq_true rfl) ⟨Nat.zero_le _, Nat.zero_le _⟩ dX3_text_35 (fun H locs hf => ?_)
    have hf : Fr G (va_A (wX G ad X0) s.heap.size) s (wX G ad (va_up (va_up (va_up X0 2 q3.2.2) 0 q6) 3 q3.2.1)) H locs := hf
    refine lv_aload_n hx hb dX3_text_38 rfl (lv_at hl 1 rfl) ?_
    refine g_get (ci := 3) (C := RX3) (T := TX3) (N := 7) (v := .ref (ad 3 0)) S hf hinX3 0 rfl rfl 3 (by decide) k25 rfl rfl dX3_text_39 ?_
    refine lv_iconst (v := 0) hx hb dX3_text_42 (by decide) ?_
    refine g_put (ci := 2) (C := RX2) (T := TX2) (N := 6) (ww' := wX G ad (va_up (va_up (va_up X0 2 q3.2.2) 0 q6) 3 (va_up q3.2.1 1 (upd (q3.2.1 1) 0 0)))) S hf hinX2 tyX2 tyX2_ok nmX2 42 rfl rfl 1 (by decide) k191 rfl rfl rfl rfl (Nat.le_of_ble_eq_true rfl) rfl dX3_text_43 (fun H locs hf => ?_)
    refine lv_iload_n hx hb dX3_text_46 rfl (lv_at hl 0 rfl) ?_
    have hE := Option.some.inj hF
    have hV := congrArg (fun z : Int32 × K3 => z.1) hE
    have hW := congrArg (fun z : Int32 × K3 => wX G ad z.2) hE
    exact g_iret S hr hlocks hf hV hW dX3_text_47
def f_X3_hold (X0 : K3) (a1 : Int32) (a2 : Int32) : Option (Int32 × K3) := Option.bind (f_X3_within a1 0 9) (fun q1 => if q1 = 0 then (Option.bind (f_X3_finding X0 0) (fun q4 => some (q4.1, q4.2))) else (if a2 = (-1) then (if ix a1 10 then (some (1, va_up X0 0 (va_up (X0 0) 10 (upd ((X0 0) 10) a1.toNatClampNeg a2)))) else none) else (Option.bind (f_X0_has (X0 0) a2) (fun q8 => if q8 = 0 then (Option.bind (f_X3_finding X0 0) (fun q12 => some (q12.1, q12.2))) else (if ix a1 10 then (some (1, va_up X0 0 (va_up (X0 0) 10 (upd ((X0 0) 10) a1.toNatClampNeg a2)))) else none)))))
set_option maxHeartbeats 4000000 in
set_option maxRecDepth 100000 in
theorem c_X3_hold (l : Launch) (G : GT) (ad : Nat → Nat → Nat) (X0 : K3) (a1 : Int32) (a2 : Int32) (q : Int32 × K3) (hF : f_X3_hold X0 a1 a2 = some q) : Ct l G yX3_hold wsX3_hold ({ frames := 1, cells := 0, slots := 0, locals := 22 } : Room) ([.ref (ad 8 0), .int a1, .int a2] : List Value) (wX G ad X0) (some (.int q.1)) (wX G ad q.2) := by
  have k10 : Cond.fieldLink RX3 10 "PigeonRolls" "realm" "LPigeonRolls$Kingdom;" ∈ wsX3_hold := by decide +kernel
  have k201 : Cond.fieldLink RX3 201 "PigeonRolls$Kingdom" "spots" "[I" ∈ wsX3_hold := by decide +kernel
  have hinX0 : ∀ w ∈ u_ws RX0 TX0 16, w ∈ wsX3_hold := by decide +kernel
  have hinX3 : ∀ w ∈ u_ws RX3 TX3 7, w ∈ wsX3_hold := by decide +kernel
  refine Ct.of cX3_hold 3 (some .int) (by decide) rfl (Nat.le_of_ble_eq_true rfl) ?_
  intro p e s m below meth c ls S hr hlocks hf hl
  have S : CallFix p m c cX3_hold 3 s ([.ref (ad 8 0), .int a1, .int a2] : List Value).toArray wsX3_hold RX3 := S
  obtain ⟨hx, hb, hml, hown, hts⟩ := id S
  have hl : lv_has ls 3 [(0, .ref (ad 8 0)), (1, .int a1), (2, .int a2)] := hl
  unfold f_X3_hold at hF
  refine lv_iload_n hx hb dX3_hold_0 rfl (lv_at hl 1 rfl) ?_
  refine lv_iconst (v := 0) hx hb dX3_hold_1 (by decide) ?_
  refine lv_bipush (v := 9) hx hb dX3_hold_2 (by decide) ?_
  obtain ⟨q1, h2, hF⟩ := Option.bind_eq_some_iff.mp hF
  refine g_cs0 (o := some (.int q1)) (As := [.int a1, .int 0, .int 9]) (rest := []) (st1 := [.int q1]) S hf (c_X3_within l G  a1 0 9 q1 h2) (va_cwS 3 hts gX3_hold_X3_within rfl rfl rfl (by decide +kernel) ⟨Nat.le_of_ble_eq_true rfl, Nat.le_of_ble_eq_true rfl⟩) rfl hl.1 rfl rfl (Nat.le_of_ble_eq_true rfl) ⟨Nat.zero_le _, Nat.zero_le _⟩ dX3_hold_4 (fun H locs hf => ?_)
  refine lv_if_eq (tgt := 26) hx hb dX3_hold_7 (by decide) (fun c3 => ?_) (fun c3 => ?_)
  · replace hF := (if_pos c3).symm.trans hF
    refine lv_aload_n hx hb dX3_hold_26 rfl (lv_at hl 0 rfl) ?_
    refine lv_iconst (v := 0) hx hb dX3_hold_27 (by decide) ?_
    obtain ⟨q4, h5, hF⟩ := Option.bind_eq_some_iff.mp hF
    refine g_cv0 (o := some (.int q4.1)) (As := [.int 0]) (rest := []) (st1 := [.int q4.1]) (ci := 3) S hf (c_X3_finding l G ad X0 0 q4 h5) (cwV 1 hts gX3_hold_X3_finding rfl rfl rfl (by decide +kernel) ⟨Nat.le_of_ble_eq_true rfl, Nat.le_of_ble_eq_true rfl⟩) rfl rfl rfl 0 rfl rfl hl.1 rfl rfl (Nat.le_of_ble_eq_true rfl) ⟨Nat.zero_le _, Nat.zero_le _⟩ dX3_hold_28 (fun H locs hf => ?_)
    have hf : Fr G (va_A (wX G ad X0) s.heap.size) s (wX G ad q4.2) H locs := hf
    have hE := Option.some.inj hF
    have hV := congrArg (fun z : Int32 × K3 => z.1) hE
    have hW := congrArg (fun z : Int32 × K3 => wX G ad z.2) hE
    exact g_iret S hr hlocks hf hV hW dX3_hold_31
  · replace hF := (if_neg c3).symm.trans hF
    refine lv_iload_n hx hb dX3_hold_10 rfl (lv_at hl 2 rfl) ?_
    refine lv_iconst (v := -1) hx hb dX3_hold_11 (by decide) ?_
    refine lv_icmp_eq (tgt := 32) hx hb dX3_hold_12 (by decide) (fun c6 => ?_) (fun c6 => ?_)
    · replace hF := (if_pos c6).symm.trans hF
      refine lv_aload_n hx hb dX3_hold_32 rfl (lv_at hl 0 rfl) ?_
      refine g_get (ci := 3) (C := RX3) (T := TX3) (N := 7) (v := .ref (ad 0 0)) S hf hinX3 0 rfl rfl 0 (by decide) k10 rfl rfl dX3_hold_33 ?_
      refine g_get (ci := 0) (C := RX0) (T := TX0) (N := 16) (v := .ref (ad 0 2)) S hf hinX0 16 rfl rfl 5 (by decide) k201 rfl rfl dX3_hold_36 ?_
      refine lv_iload_n hx hb dX3_hold_39 rfl (lv_at hl 1 rfl) ?_
      refine lv_iload_n hx hb dX3_hold_40 rfl (lv_at hl 2 rfl) ?_
      obtain ⟨g7, hF⟩ := gd_some hF
      refine g_ast (ww' := wX G ad (va_up X0 0 (va_up (X0 0) 10 (upd ((X0 0) 10) a1.toNatClampNeg a2)))) S hf 18 rfl g7 rfl dX3_hold_41 (fun H locs hf => ?_)
      refine lv_iconst (v := 1) hx hb dX3_hold_42 (by decide) ?_
      have hE := Option.some.inj hF
      have hV := congrArg (fun z : Int32 × K3 => z.1) hE
      have hW := congrArg (fun z : Int32 × K3 => wX G ad z.2) hE
      exact g_iret S hr hlocks hf hV hW dX3_hold_43
    · replace hF := (if_neg c6).symm.trans hF
      refine lv_aload_n hx hb dX3_hold_15 rfl (lv_at hl 0 rfl) ?_
      refine g_get (ci := 3) (C := RX3) (T := TX3) (N := 7) (v := .ref (ad 0 0)) S hf hinX3 0 rfl rfl 0 (by decide) k10 rfl rfl dX3_hold_16 ?_
      refine lv_iload_n hx hb dX3_hold_19 rfl (lv_at hl 2 rfl) ?_
      obtain ⟨q8, h9, hF⟩ := Option.bind_eq_some_iff.mp hF
      refine g_cv (o := some (.int q8)) (As := [.int a2]) (rest := []) (st1 := [.int q8]) (ci := 0) (a := List.take 16 (wX G ad X0)) (b := List.drop 29 (wX G ad X0)) S hf (c_X0_has l G (ad 0) (X0 0) a2 q8 h9) (cwV 1 hts gX3_hold_X0_has rfl rfl rfl (by decide +kernel) ⟨Nat.le_of_ble_eq_true rfl, Nat.le_of_ble_eq_true rfl⟩) rfl rfl rfl rfl 0 rfl rfl hl.1 rfl rfl (Nat.le_of_ble_eq_true rfl) ⟨Nat.zero_le _, Nat.zero_le _⟩ dX3_hold_20 (fun H locs hf => ?_)
      have hf : Fr G (va_A (wX G ad X0) s.heap.size) s (wX G ad X0) H locs := hf
      refine lv_if_ne (tgt := 32) hx hb dX3_hold_23 (by decide) (fun c10 => ?_) (fun c10 => ?_)
      · replace hF := (if_neg c10).symm.trans hF
        refine lv_aload_n hx hb dX3_hold_32 rfl (lv_at hl 0 rfl) ?_
        refine g_get (ci := 3) (C := RX3) (T := TX3) (N := 7) (v := .ref (ad 0 0)) S hf hinX3 0 rfl rfl 0 (by decide) k10 rfl rfl dX3_hold_33 ?_
        refine g_get (ci := 0) (C := RX0) (T := TX0) (N := 16) (v := .ref (ad 0 2)) S hf hinX0 16 rfl rfl 5 (by decide) k201 rfl rfl dX3_hold_36 ?_
        refine lv_iload_n hx hb dX3_hold_39 rfl (lv_at hl 1 rfl) ?_
        refine lv_iload_n hx hb dX3_hold_40 rfl (lv_at hl 2 rfl) ?_
        obtain ⟨g11, hF⟩ := gd_some hF
        refine g_ast (ww' := wX G ad (va_up X0 0 (va_up (X0 0) 10 (upd ((X0 0) 10) a1.toNatClampNeg a2)))) S hf 18 rfl g11 rfl dX3_hold_41 (fun H locs hf => ?_)
        refine lv_iconst (v := 1) hx hb dX3_hold_42 (by decide) ?_
        have hE := Option.some.inj hF
        have hV := congrArg (fun z : Int32 × K3 => z.1) hE
        have hW := congrArg (fun z : Int32 × K3 => wX G ad z.2) hE
        exact g_iret S hr hlocks hf hV hW dX3_hold_43
      · replace hF := (if_pos c10).symm.trans hF
        refine lv_aload_n hx hb dX3_hold_26 rfl (lv_at hl 0 rfl) ?_
        refine lv_iconst (v := 0) hx hb dX3_hold_27 (by decide) ?_
        obtain ⟨q12, h13, hF⟩ := Option.bind_eq_some_iff.mp hF
        refine g_cv0 (o := some (.int q12.1)) (As := [.int 0]) (rest := []) (st1 := [.int q12.1]) (ci := 3) S hf (c_X3_finding l G ad X0 0 q12 h13) (cwV 1 hts gX3_hold_X3_finding rfl rfl rfl (by decide +kernel) ⟨Nat.le_of_ble_eq_true rfl, Nat.le_of_ble_eq_true rfl⟩) rfl rfl rfl 0 rfl rfl hl.1 rfl rfl (Nat.le_of_ble_eq_true rfl) ⟨Nat.zero_le _, Nat.zero_le _⟩ dX3_hold_28 (fun H locs hf => ?_)
        have hf : Fr G (va_A (wX G ad X0) s.heap.size) s (wX G ad q12.2) H locs := hf
        have hE := Option.some.inj hF
        have hV := congrArg (fun z : Int32 × K3 => z.1) hE
        have hW := congrArg (fun z : Int32 × K3 => wX G ad z.2) hE
        exact g_iret S hr hlocks hf hV hW dX3_hold_31
def f_X3_as (X0 : K3) (a1 : Int32) (a2 : Int32) : Option (Int32 × K3) := Option.bind (f_X3_within a1 0 9) (fun q1 => if q1 = 0 then (Option.bind (f_X3_finding X0 0) (fun q4 => some (q4.1, q4.2))) else (Option.bind (f_X3_within a2 0 6) (fun q6 => if q6 = 0 then (Option.bind (f_X3_finding X0 0) (fun q20 => some (q20.1, q20.2))) else (if ix a1 10 then (Option.bind (f_X0_has (X0 0) (((X0 0) 10) a1.toNatClampNeg)) (fun q10 => if q10 = 0 then (Option.bind (f_X3_finding X0 5) (fun q18 => some (q18.1, q18.2))) else (Option.bind (f_X0_isOfKind (X0 0) (((X0 0) 10) a1.toNatClampNeg) a2) (fun q13 => if q13 = 0 then (Option.bind (f_X3_finding X0 2) (fun q16 => some (q16.1, q16.2))) else (some (((X0 0) 10) a1.toNatClampNeg, X0)))))) else none))))
set_option maxHeartbeats 4000000 in
set_option maxRecDepth 100000 in
theorem c_X3_as (l : Launch) (G : GT) (ad : Nat → Nat → Nat) (X0 : K3) (a1 : Int32) (a2 : Int32) (q : Int32 × K3) (hF : f_X3_as X0 a1 a2 = some q) : Ct l G yX3_as wsX3_as ({ frames := 1, cells := 0, slots := 0, locals := 24 } : Room) ([.ref (ad 8 0), .int a1, .int a2] : List Value) (wX G ad X0) (some (.int q.1)) (wX G ad q.2) := by
  have k10 : Cond.fieldLink RX3 10 "PigeonRolls" "realm" "LPigeonRolls$Kingdom;" ∈ wsX3_as := by decide +kernel
  have k201 : Cond.fieldLink RX3 201 "PigeonRolls$Kingdom" "spots" "[I" ∈ wsX3_as := by decide +kernel
  have hinX0 : ∀ w ∈ u_ws RX0 TX0 16, w ∈ wsX3_as := by decide +kernel
  have hinX3 : ∀ w ∈ u_ws RX3 TX3 7, w ∈ wsX3_as := by decide +kernel
  refine Ct.of cX3_as 4 (some .int) (by decide) rfl (Nat.le_of_ble_eq_true rfl) ?_
  intro p e s m below meth c ls S hr hlocks hf hl
  have S : CallFix p m c cX3_as 4 s ([.ref (ad 8 0), .int a1, .int a2] : List Value).toArray wsX3_as RX3 := S
  obtain ⟨hx, hb, hml, hown, hts⟩ := id S
  have hl : lv_has ls 4 [(0, .ref (ad 8 0)), (1, .int a1), (2, .int a2)] := hl
  unfold f_X3_as at hF
  refine lv_iload_n hx hb dX3_as_0 rfl (lv_at hl 1 rfl) ?_
  refine lv_iconst (v := 0) hx hb dX3_as_1 (by decide) ?_
  refine lv_bipush (v := 9) hx hb dX3_as_2 (by decide) ?_
  obtain ⟨q1, h2, hF⟩ := Option.bind_eq_some_iff.mp hF
  refine g_cs0 (o := some (.int q1)) (As := [.int a1, .int 0, .int 9]) (rest := []) (st1 := [.int q1]) S hf (c_X3_within l G  a1 0 9 q1 h2) (va_cwS 3 hts gX3_as_X3_within rfl rfl rfl (by decide +kernel) ⟨Nat.le_of_ble_eq_true rfl, Nat.le_of_ble_eq_true rfl⟩) rfl hl.1 rfl rfl (Nat.le_of_ble_eq_true rfl) ⟨Nat.zero_le _, Nat.zero_le _⟩ dX3_as_4 (fun H locs hf => ?_)
  refine lv_if_eq (tgt := 20) hx hb dX3_as_7 (by decide) (fun c3 => ?_) (fun c3 => ?_)
  · replace hF := (if_pos c3).symm.trans hF
    refine lv_aload_n hx hb dX3_as_20 rfl (lv_at hl 0 rfl) ?_
    refine lv_iconst (v := 0) hx hb dX3_as_21 (by decide) ?_
    obtain ⟨q4, h5, hF⟩ := Option.bind_eq_some_iff.mp hF
    refine g_cv0 (o := some (.int q4.1)) (As := [.int 0]) (rest := []) (st1 := [.int q4.1]) (ci := 3) S hf (c_X3_finding l G ad X0 0 q4 h5) (cwV 1 hts gX3_as_X3_finding rfl rfl rfl (by decide +kernel) ⟨Nat.le_of_ble_eq_true rfl, Nat.le_of_ble_eq_true rfl⟩) rfl rfl rfl 0 rfl rfl hl.1 rfl rfl (Nat.le_of_ble_eq_true rfl) ⟨Nat.zero_le _, Nat.zero_le _⟩ dX3_as_22 (fun H locs hf => ?_)
    have hf : Fr G (va_A (wX G ad X0) s.heap.size) s (wX G ad q4.2) H locs := hf
    have hE := Option.some.inj hF
    have hV := congrArg (fun z : Int32 × K3 => z.1) hE
    have hW := congrArg (fun z : Int32 × K3 => wX G ad z.2) hE
    exact g_iret S hr hlocks hf hV hW dX3_as_25
  · replace hF := (if_neg c3).symm.trans hF
    refine lv_iload_n hx hb dX3_as_10 rfl (lv_at hl 2 rfl) ?_
    refine lv_iconst (v := 0) hx hb dX3_as_11 (by decide) ?_
    refine lv_bipush (v := 6) hx hb dX3_as_12 (by decide) ?_
    obtain ⟨q6, h7, hF⟩ := Option.bind_eq_some_iff.mp hF
    refine g_cs0 (o := some (.int q6)) (As := [.int a2, .int 0, .int 6]) (rest := []) (st1 := [.int q6]) S hf (c_X3_within l G  a2 0 6 q6 h7) (va_cwS 3 hts gX3_as_X3_within rfl rfl rfl (by decide +kernel) ⟨Nat.le_of_ble_eq_true rfl, Nat.le_of_ble_eq_true rfl⟩) rfl hl.1 rfl rfl (Nat.le_of_ble_eq_true rfl) ⟨Nat.zero_le _, Nat.zero_le _⟩ dX3_as_14 (fun H locs hf => ?_)
    refine lv_if_ne (tgt := 26) hx hb dX3_as_17 (by decide) (fun c8 => ?_) (fun c8 => ?_)
    · replace hF := (if_neg c8).symm.trans hF
      refine lv_aload_n hx hb dX3_as_26 rfl (lv_at hl 0 rfl) ?_
      refine g_get (ci := 3) (C := RX3) (T := TX3) (N := 7) (v := .ref (ad 0 0)) S hf hinX3 0 rfl rfl 0 (by decide) k10 rfl rfl dX3_as_27 ?_
      refine g_get (ci := 0) (C := RX0) (T := TX0) (N := 16) (v := .ref (ad 0 2)) S hf hinX0 16 rfl rfl 5 (by decide) k201 rfl rfl dX3_as_30 ?_
      refine lv_iload_n hx hb dX3_as_33 rfl (lv_at hl 1 rfl) ?_
      obtain ⟨g9, hF⟩ := gd_some hF
      refine g_ald (v := ((X0 0) 10) a1.toNatClampNeg) S hf 18 rfl g9 rfl dX3_as_34 ?_
      refine lv_istore_n (lv' := [(3, .int (((X0 0) 10) a1.toNatClampNeg)), (0, .ref (ad 8 0)), (1, .int a1), (2, .int a2)]) hx hb dX3_as_35 rfl hl (by decide) rfl (fun ls hl => ?_)
      refine lv_aload_n hx hb dX3_as_36 rfl (lv_at hl 1 rfl) ?_
      refine g_get (ci := 3) (C := RX3) (T := TX3) (N := 7) (v := .ref (ad 0 0)) S hf hinX3 0 rfl rfl 0 (by decide) k10 rfl rfl dX3_as_37 ?_
      refine lv_iload_n hx hb dX3_as_40 rfl (lv_at hl 0 rfl) ?_
      obtain ⟨q10, h11, hF⟩ := Option.bind_eq_some_iff.mp hF
      refine g_cv (o := some (.int q10)) (As := [.int (((X0 0) 10) a1.toNatClampNeg)]) (rest := []) (st1 := [.int q10]) (ci := 0) (a := List.take 16 (wX G ad X0)) (b := List.drop 29 (wX G ad X0)) S hf (c_X0_has l G (ad 0) (X0 0) (((X0 0) 10) a1.toNatClampNeg) q10 h11) (cwV 1 hts gX3_as_X0_has rfl rfl rfl (by decide +kernel) ⟨Nat.le_of_ble_eq_true rfl, Nat.le_of_ble_eq_true rfl⟩) rfl rfl rfl rfl 0 rfl rfl hl.1 rfl rfl (Nat.le_of_ble_eq_true rfl) ⟨Nat.zero_le _, Nat.zero_le _⟩ dX3_as_41 (fun H locs hf => ?_)
      have hf : Fr G (va_A (wX G ad X0) s.heap.size) s (wX G ad X0) H locs := hf
      refine lv_if_ne (tgt := 53) hx hb dX3_as_44 (by decide) (fun c12 => ?_) (fun c12 => ?_)
      · replace hF := (if_neg c12).symm.trans hF
        refine lv_aload_n hx hb dX3_as_53 rfl (lv_at hl 1 rfl) ?_
        refine g_get (ci := 3) (C := RX3) (T := TX3) (N := 7) (v := .ref (ad 0 0)) S hf hinX3 0 rfl rfl 0 (by decide) k10 rfl rfl dX3_as_54 ?_
        refine lv_iload_n hx hb dX3_as_57 rfl (lv_at hl 0 rfl) ?_
        refine lv_iload_n hx hb dX3_as_58 rfl (lv_at hl 3 rfl) ?_
        obtain ⟨q13, h14, hF⟩ := Option.bind_eq_some_iff.mp hF
        refine g_cv (o := some (.int q13)) (As := [.int (((X0 0) 10) a1.toNatClampNeg), .int a2]) (rest := []) (st1 := [.int q13]) (ci := 0) (a := List.take 16 (wX G ad X0)) (b := List.drop 29 (wX G ad X0)) S hf (c_X0_isOfKind l G (ad 0) (X0 0) (((X0 0) 10) a1.toNatClampNeg) a2 q13 h14) (cwV 2 hts gX3_as_X0_isOfKind rfl rfl rfl (by decide +kernel) ⟨Nat.le_of_ble_eq_true rfl, Nat.le_of_ble_eq_true rfl⟩) rfl rfl rfl rfl 0 rfl rfl hl.1 rfl rfl (Nat.le_of_ble_eq_true rfl) ⟨Nat.zero_le _, Nat.zero_le _⟩ dX3_as_59 (fun H locs hf => ?_)
        have hf : Fr G (va_A (wX G ad X0) s.heap.size) s (wX G ad X0) H locs := hf
        refine lv_if_ne (tgt := 71) hx hb dX3_as_62 (by decide) (fun c15 => ?_) (fun c15 => ?_)
        · replace hF := (if_neg c15).symm.trans hF
          refine lv_iload_n hx hb dX3_as_71 rfl (lv_at hl 0 rfl) ?_
          have hE := Option.some.inj hF
          have hV := congrArg (fun z : Int32 × K3 => z.1) hE
          have hW := congrArg (fun z : Int32 × K3 => wX G ad z.2) hE
          exact g_iret S hr hlocks hf hV hW dX3_as_72
        · replace hF := (if_pos c15).symm.trans hF
          refine lv_aload_n hx hb dX3_as_65 rfl (lv_at hl 1 rfl) ?_
          refine lv_iconst (v := 2) hx hb dX3_as_66 (by decide) ?_
          obtain ⟨q16, h17, hF⟩ := Option.bind_eq_some_iff.mp hF
          refine g_cv0 (o := some (.int q16.1)) (As := [.int 2]) (rest := []) (st1 := [.int q16.1]) (ci := 3) S hf (c_X3_finding l G ad X0 2 q16 h17) (cwV 1 hts gX3_as_X3_finding rfl rfl rfl (by decide +kernel) ⟨Nat.le_of_ble_eq_true rfl, Nat.le_of_ble_eq_true rfl⟩) rfl rfl rfl 0 rfl rfl hl.1 rfl rfl (Nat.le_of_ble_eq_true rfl) ⟨Nat.zero_le _, Nat.zero_le _⟩ dX3_as_67 (fun H locs hf => ?_)
          have hf : Fr G (va_A (wX G ad X0) s.heap.size) s (wX G ad q16.2) H locs := hf
          have hE := Option.some.inj hF
          have hV := congrArg (fun z : Int32 × K3 => z.1) hE
          have hW := congrArg (fun z : Int32 × K3 => wX G ad z.2) hE
          exact g_iret S hr hlocks hf hV hW dX3_as_70
      · replace hF := (if_pos c12).symm.trans hF
        refine lv_aload_n hx hb dX3_as_47 rfl (lv_at hl 1 rfl) ?_
        refine lv_iconst (v := 5) hx hb dX3_as_48 (by decide) ?_
        obtain ⟨q18, h19, hF⟩ := Option.bind_eq_some_iff.mp hF
        refine g_cv0 (o := some (.int q18.1)) (As := [.int 5]) (rest := []) (st1 := [.int q18.1]) (ci := 3) S hf (c_X3_finding l G ad X0 5 q18 h19) (cwV 1 hts gX3_as_X3_finding rfl rfl rfl (by decide +kernel) ⟨Nat.le_of_ble_eq_true rfl, Nat.le_of_ble_eq_true rfl⟩) rfl rfl rfl 0 rfl rfl hl.1 rfl rfl (Nat.le_of_ble_eq_true rfl) ⟨Nat.zero_le _, Nat.zero_le _⟩ dX3_as_49 (fun H locs hf => ?_)
        have hf : Fr G (va_A (wX G ad X0) s.heap.size) s (wX G ad q18.2) H locs := hf
        have hE := Option.some.inj hF
        have hV := congrArg (fun z : Int32 × K3 => z.1) hE
        have hW := congrArg (fun z : Int32 × K3 => wX G ad z.2) hE
        exact g_iret S hr hlocks hf hV hW dX3_as_52
    · replace hF := (if_pos c8).symm.trans hF
      refine lv_aload_n hx hb dX3_as_20 rfl (lv_at hl 0 rfl) ?_
      refine lv_iconst (v := 0) hx hb dX3_as_21 (by decide) ?_
      obtain ⟨q20, h21, hF⟩ := Option.bind_eq_some_iff.mp hF
      refine g_cv0 (o := some (.int q20.1)) (As := [.int 0]) (rest := []) (st1 := [.int q20.1]) (ci := 3) S hf (c_X3_finding l G ad X0 0 q20 h21) (cwV 1 hts gX3_as_X3_finding rfl rfl rfl (by decide +kernel) ⟨Nat.le_of_ble_eq_true rfl, Nat.le_of_ble_eq_true rfl⟩) rfl rfl rfl 0 rfl rfl hl.1 rfl rfl (Nat.le_of_ble_eq_true rfl) ⟨Nat.zero_le _, Nat.zero_le _⟩ dX3_as_22 (fun H locs hf => ?_)
      have hf : Fr G (va_A (wX G ad X0) s.heap.size) s (wX G ad q20.2) H locs := hf
      have hE := Option.some.inj hF
      have hV := congrArg (fun z : Int32 × K3 => z.1) hE
      have hW := congrArg (fun z : Int32 × K3 => wX G ad z.2) hE
      exact g_iret S hr hlocks hf hV hW dX3_as_25
def f_X3_sheet (X0 : K3) (a1 : Int32) (a2 : Int32) (a3 : Int32) : Option (Int32 × K3) := Option.bind (f_X3_sheetOf X0 a1) (fun q1 => shc q1 (Option.bind (f_X3_finding X0 0) (fun q5 => some (q5.1, q5.2))) (fun j3 => if j3 < 4 then (if a2 = 0 then (if 0 ≤ a3 then (if a3 ≤ 40 then (if a2 = 0 then (Option.bind (f_X1_begin (X0 (4 + j3)) a2 0) (fun q13 => some (q13 1 1, va_up X0 (4 + j3) q13))) else (Option.bind (f_X1_begin (X0 (4 + j3)) a2 a3) (fun q11 => some (q11 1 1, va_up X0 (4 + j3) q11)))) else (Option.bind (f_X3_finding X0 0) (fun q15 => some (q15.1, q15.2)))) else (Option.bind (f_X3_finding X0 6) (fun q17 => some (q17.1, q17.2)))) else (if a2 = 8 then (if 0 ≤ a3 then (if a3 ≤ 40 then (if a2 = 0 then (Option.bind (f_X1_begin (X0 (4 + j3)) a2 0) (fun q25 => some (q25 1 1, va_up X0 (4 + j3) q25))) else (Option.bind (f_X1_begin (X0 (4 + j3)) a2 a3) (fun q23 => some (q23 1 1, va_up X0 (4 + j3) q23)))) else (Option.bind (f_X3_finding X0 0) (fun q27 => some (q27.1, q27.2)))) else (Option.bind (f_X3_finding X0 6) (fun q29 => some (q29.1, q29.2)))) else (if a2 = 16 then (if 0 ≤ a3 then (if a3 ≤ 40 then (if a2 = 0 then (Option.bind (f_X1_begin (X0 (4 + j3)) a2 0) (fun q37 => some (q37 1 1, va_up X0 (4 + j3) q37))) else (Option.bind (f_X1_begin (X0 (4 + j3)) a2 a3) (fun q35 => some (q35 1 1, va_up X0 (4 + j3) q35)))) else (Option.bind (f_X3_finding X0 0) (fun q39 => some (q39.1, q39.2)))) else (Option.bind (f_X3_finding X0 6) (fun q41 => some (q41.1, q41.2)))) else (if a2 = 32 then (if 0 ≤ a3 then (if a3 ≤ 40 then (if a2 = 0 then (Option.bind (f_X1_begin (X0 (4 + j3)) a2 0) (fun q49 => some (q49 1 1, va_up X0 (4 + j3) q49))) else (Option.bind (f_X1_begin (X0 (4 + j3)) a2 a3) (fun q47 => some (q47 1 1, va_up X0 (4 + j3) q47)))) else (Option.bind (f_X3_finding X0 0) (fun q51 => some (q51.1, q51.2)))) else (Option.bind (f_X3_finding X0 6) (fun q53 => some (q53.1, q53.2)))) else (Option.bind (f_X3_finding X0 0) (fun q55 => some (q55.1, q55.2))))))) else none))
set_option maxHeartbeats 4000000 in
set_option maxRecDepth 100000 in
theorem c_X3_sheet (l : Launch) (G : GT) (ad : Nat → Nat → Nat) (X0 : K3) (a1 : Int32) (a2 : Int32) (a3 : Int32) (q : Int32 × K3) (hF : f_X3_sheet X0 a1 a2 a3 = some q) : Ct l G yX3_sheet wsX3_sheet ({ frames := 2, cells := 0, slots := 0, locals := 43 } : Room) ([.ref (ad 8 0), .int a1, .int a2, .int a3] : List Value) (wX G ad X0) (some (.int q.1)) (wX G ad q.2) := by
  have k211 : Cond.fieldLink RX3 211 "PigeonRolls$Sheet" "length" "I" ∈ wsX3_sheet := by decide +kernel
  have hinX1 : ∀ w ∈ u_ws RX1 TX1 3, w ∈ wsX3_sheet := by decide +kernel
  refine Ct.of cX3_sheet 5 (some .int) (by decide) rfl (Nat.le_of_ble_eq_true rfl) ?_
  intro p e s m below meth c ls S hr hlocks hf hl
  have S : CallFix p m c cX3_sheet 5 s ([.ref (ad 8 0), .int a1, .int a2, .int a3] : List Value).toArray wsX3_sheet RX3 := S
  obtain ⟨hx, hb, hml, hown, hts⟩ := id S
  have hl : lv_has ls 5 [(0, .ref (ad 8 0)), (1, .int a1), (2, .int a2), (3, .int a3)] := hl
  unfold f_X3_sheet at hF
  refine lv_aload_n hx hb dX3_sheet_0 rfl (lv_at hl 0 rfl) ?_
  refine lv_iload_n hx hb dX3_sheet_1 rfl (lv_at hl 1 rfl) ?_
  obtain ⟨q1, h2, hF⟩ := Option.bind_eq_some_iff.mp hF
  refine g_cv0 (o := some (va_rf (Option.map (fun j => ad (4 + j) 0) q1))) (As := [.int a1]) (rest := []) (st1 := [va_rf (Option.map (fun j => ad (4 + j) 0) q1)]) (ci := 3) S hf (c_X3_sheetOf l G ad X0 a1 q1 h2) (cwV 1 hts gX3_sheet_X3_sheetOf rfl rfl rfl (by decide +kernel) ⟨Nat.le_of_ble_eq_true rfl, Nat.le_of_ble_eq_true rfl⟩) rfl rfl rfl 0 rfl rfl hl.1 rfl rfl (Nat.le_of_ble_eq_true rfl) ⟨Nat.zero_le _, Nat.zero_le _⟩ dX3_sheet_2 (fun H locs hf => ?_)
  have hf : Fr G (va_A (wX G ad X0) s.heap.size) s (wX G ad X0) H locs := hf
  cases q1 with
  | none =>
    replace hF := shc_none.symm.trans hF
    refine W.eq (g2 := F0 m 5 ls [.null]) rfl ?_
    refine lv_astoreN (lv' := [(4, .null), (0, .ref (ad 8 0)), (1, .int a1), (2, .int a2), (3, .int a3)]) hx hb dX3_sheet_5 hl (by decide) rfl (fun ls hl => ?_)
    refine lv_aloadN hx hb dX3_sheet_7 (lv_at hl 0 rfl) ?_
    refine lv_ifnullN (tgt := 34) hx hb dX3_sheet_9 (by decide) ?_
    refine lv_aload_n hx hb dX3_sheet_34 rfl (lv_at hl 1 rfl) ?_
    refine lv_iconst (v := 0) hx hb dX3_sheet_35 (by decide) ?_
    obtain ⟨q5, h6, hF⟩ := Option.bind_eq_some_iff.mp hF
    refine g_cv0 (o := some (.int q5.1)) (As := [.int 0]) (rest := []) (st1 := [.int q5.1]) (ci := 3) S hf (c_X3_finding l G ad X0 0 q5 h6) (cwV 1 hts gX3_sheet_X3_finding rfl rfl rfl (by decide +kernel) ⟨Nat.le_of_ble_eq_true rfl, Nat.le_of_ble_eq_true rfl⟩) rfl rfl rfl 0 rfl rfl hl.1 rfl rfl (Nat.le_of_ble_eq_true rfl) ⟨Nat.zero_le _, Nat.zero_le _⟩ dX3_sheet_36 (fun H locs hf => ?_)
    have hf : Fr G (va_A (wX G ad X0) s.heap.size) s (wX G ad q5.2) H locs := hf
    have hE := Option.some.inj hF
    have hV := congrArg (fun z : Int32 × K3 => z.1) hE
    have hW := congrArg (fun z : Int32 × K3 => wX G ad z.2) hE
    exact g_iret S hr hlocks hf hV hW dX3_sheet_39
  | some j3 =>
    replace hF := shc_some.symm.trans hF
    obtain ⟨hj4, hF⟩ := gd_some hF
    refine W.eq (g2 := F0 m 5 ls [.ref (ad (4 + j3) 0)]) rfl ?_
    refine lv_astore (lv' := [(4, .ref (ad (4 + j3) 0)), (0, .ref (ad 8 0)), (1, .int a1), (2, .int a2), (3, .int a3)]) hx hb dX3_sheet_5 hl (by decide) rfl (fun ls hl => ?_)
    refine lv_aload hx hb dX3_sheet_7 (lv_at hl 0 rfl) ?_
    refine lv_ifnull hx hb dX3_sheet_9 ?_
    refine lv_iload_n hx hb dX3_sheet_12 rfl (lv_at hl 3 rfl) ?_
    refine lv_if_eq (tgt := 40) hx hb dX3_sheet_13 (by decide) (fun c7 => ?_) (fun c7 => ?_)
    · replace hF := (if_pos c7).symm.trans hF
      refine lv_iload_n hx hb dX3_sheet_40 rfl (lv_at hl 4 rfl) ?_
      refine lv_if_ge (tgt := 51) hx hb dX3_sheet_41 (by decide) (fun c8 => ?_) (fun c8 => ?_)
      · replace hF := (if_pos c8).symm.trans hF
        refine lv_iload_n hx hb dX3_sheet_51 rfl (lv_at hl 4 rfl) ?_
        refine lv_bipush (v := 40) hx hb dX3_sheet_52 (by decide) ?_
        refine lv_icmp_le (tgt := 63) hx hb dX3_sheet_54 (by decide) (fun c9 => ?_) (fun c9 => ?_)
        · replace hF := (if_pos c9).symm.trans hF
          refine lv_aload hx hb dX3_sheet_63 (lv_at hl 0 rfl) ?_
          refine lv_iload_n hx hb dX3_sheet_65 rfl (lv_at hl 3 rfl) ?_
          refine lv_iload_n hx hb dX3_sheet_66 rfl (lv_at hl 3 rfl) ?_
          refine lv_if_ne (tgt := 74) hx hb dX3_sheet_67 (by decide) (fun c10 => ?_) (fun c10 => ?_)
          · replace hF := (if_neg c10).symm.trans hF
            refine lv_iload_n hx hb dX3_sheet_74 rfl (lv_at hl 4 rfl) ?_
            obtain ⟨q11, h12, hF⟩ := Option.bind_eq_some_iff.mp hF
            refine g_cv (o := none) (As := [.int a2, .int a3]) (rest := []) (st1 := []) (ci := 1) (a := List.take (44 + 2 * j3) (wX G ad X0)) (b := List.drop (46 + 2 * j3) (wX G ad X0)) S hf (c_X1_begin l G (ad (4 + j3)) (X0 (4 + j3)) a2 a3 q11 h12) (cwV 2 hts gX3_sheet_X1_begin rfl rfl rfl (by decide +kernel) ⟨Nat.le_of_ble_eq_true rfl, Nat.le_of_ble_eq_true rfl⟩) (wX_sw hj4) rfl rfl rfl 0 rfl rfl hl.1 rfl rfl (Nat.le_of_ble_eq_true rfl) ⟨Nat.zero_le _, Nat.zero_le _⟩ dX3_sheet_75 (fun H locs hf => ?_)
            rw [wX_sw_set hj4] at hf
            refine lv_aload hx hb dX3_sheet_78 (lv_at hl 0 rfl) ?_
            refine g_get (ci := 1) (C := RX1) (T := TX1) (N := 3) (v := .int (q11 1 1)) S hf hinX1 (44 + 2 * j3) (wX_sp hj4 (if_pos rfl)) rfl 1 (by decide) k211 rfl rfl dX3_sheet_80 ?_
            have hE := Option.some.inj hF
            have hV := congrArg (fun z : Int32 × K3 => z.1) hE
            have hW := congrArg (fun z : Int32 × K3 => wX G ad z.2) hE
            exact g_iret S hr hlocks hf hV hW dX3_sheet_83
          · replace hF := (if_pos c10).symm.trans hF
            refine lv_iconst (v := 0) hx hb dX3_sheet_70 (by decide) ?_
            refine lv_goto (tgt := 75) hx hb dX3_sheet_71 (by decide) ?_
            obtain ⟨q13, h14, hF⟩ := Option.bind_eq_some_iff.mp hF
            refine g_cv (o := none) (As := [.int a2, .int 0]) (rest := []) (st1 := []) (ci := 1) (a := List.take (44 + 2 * j3) (wX G ad X0)) (b := List.drop (46 + 2 * j3) (wX G ad X0)) S hf (c_X1_begin l G (ad (4 + j3)) (X0 (4 + j3)) a2 0 q13 h14) (cwV 2 hts gX3_sheet_X1_begin rfl rfl rfl (by decide +kernel) ⟨Nat.le_of_ble_eq_true rfl, Nat.le_of_ble_eq_true rfl⟩) (wX_sw hj4) rfl rfl rfl 0 rfl rfl hl.1 rfl rfl (Nat.le_of_ble_eq_true rfl) ⟨Nat.zero_le _, Nat.zero_le _⟩ dX3_sheet_75 (fun H locs hf => ?_)
            rw [wX_sw_set hj4] at hf
            refine lv_aload hx hb dX3_sheet_78 (lv_at hl 0 rfl) ?_
            refine g_get (ci := 1) (C := RX1) (T := TX1) (N := 3) (v := .int (q13 1 1)) S hf hinX1 (44 + 2 * j3) (wX_sp hj4 (if_pos rfl)) rfl 1 (by decide) k211 rfl rfl dX3_sheet_80 ?_
            have hE := Option.some.inj hF
            have hV := congrArg (fun z : Int32 × K3 => z.1) hE
            have hW := congrArg (fun z : Int32 × K3 => wX G ad z.2) hE
            exact g_iret S hr hlocks hf hV hW dX3_sheet_83
        · replace hF := (if_neg c9).symm.trans hF
          refine lv_aload_n hx hb dX3_sheet_57 rfl (lv_at hl 1 rfl) ?_
          refine lv_iconst (v := 0) hx hb dX3_sheet_58 (by decide) ?_
          obtain ⟨q15, h16, hF⟩ := Option.bind_eq_some_iff.mp hF
          refine g_cv0 (o := some (.int q15.1)) (As := [.int 0]) (rest := []) (st1 := [.int q15.1]) (ci := 3) S hf (c_X3_finding l G ad X0 0 q15 h16) (cwV 1 hts gX3_sheet_X3_finding rfl rfl rfl (by decide +kernel) ⟨Nat.le_of_ble_eq_true rfl, Nat.le_of_ble_eq_true rfl⟩) rfl rfl rfl 0 rfl rfl hl.1 rfl rfl (Nat.le_of_ble_eq_true rfl) ⟨Nat.zero_le _, Nat.zero_le _⟩ dX3_sheet_59 (fun H locs hf => ?_)
          have hf : Fr G (va_A (wX G ad X0) s.heap.size) s (wX G ad q15.2) H locs := hf
          have hE := Option.some.inj hF
          have hV := congrArg (fun z : Int32 × K3 => z.1) hE
          have hW := congrArg (fun z : Int32 × K3 => wX G ad z.2) hE
          exact g_iret S hr hlocks hf hV hW dX3_sheet_62
      · replace hF := (if_neg c8).symm.trans hF
        refine lv_aload_n hx hb dX3_sheet_44 rfl (lv_at hl 1 rfl) ?_
        refine lv_bipush (v := 6) hx hb dX3_sheet_45 (by decide) ?_
        obtain ⟨q17, h18, hF⟩ := Option.bind_eq_some_iff.mp hF
        refine g_cv0 (o := some (.int q17.1)) (As := [.int 6]) (rest := []) (st1 := [.int q17.1]) (ci := 3) S hf (c_X3_finding l G ad X0 6 q17 h18) (cwV 1 hts gX3_sheet_X3_finding rfl rfl rfl (by decide +kernel) ⟨Nat.le_of_ble_eq_true rfl, Nat.le_of_ble_eq_true rfl⟩) rfl rfl rfl 0 rfl rfl hl.1 rfl rfl (Nat.le_of_ble_eq_true rfl) ⟨Nat.zero_le _, Nat.zero_le _⟩ dX3_sheet_47 (fun H locs hf => ?_)
        have hf : Fr G (va_A (wX G ad X0) s.heap.size) s (wX G ad q17.2) H locs := hf
        have hE := Option.some.inj hF
        have hV := congrArg (fun z : Int32 × K3 => z.1) hE
        have hW := congrArg (fun z : Int32 × K3 => wX G ad z.2) hE
        exact g_iret S hr hlocks hf hV hW dX3_sheet_50
    · replace hF := (if_neg c7).symm.trans hF
      refine lv_iload_n hx hb dX3_sheet_16 rfl (lv_at hl 3 rfl) ?_
      refine lv_bipush (v := 8) hx hb dX3_sheet_17 (by decide) ?_
      refine lv_icmp_eq (tgt := 40) hx hb dX3_sheet_19 (by decide) (fun c19 => ?_) (fun c19 => ?_)
      · replace hF := (if_pos c19).symm.trans hF
        refine lv_iload_n hx hb dX3_sheet_40 rfl (lv_at hl 4 rfl) ?_
        refine lv_if_ge (tgt := 51) hx hb dX3_sheet_41 (by decide) (fun c20 => ?_) (fun c20 => ?_)
        · replace hF := (if_pos c20).symm.trans hF
          refine lv_iload_n hx hb dX3_sheet_51 rfl (lv_at hl 4 rfl) ?_
          refine lv_bipush (v := 40) hx hb dX3_sheet_52 (by decide) ?_
          refine lv_icmp_le (tgt := 63) hx hb dX3_sheet_54 (by decide) (fun c21 => ?_) (fun c21 => ?_)
          · replace hF := (if_pos c21).symm.trans hF
            refine lv_aload hx hb dX3_sheet_63 (lv_at hl 0 rfl) ?_
            refine lv_iload_n hx hb dX3_sheet_65 rfl (lv_at hl 3 rfl) ?_
            refine lv_iload_n hx hb dX3_sheet_66 rfl (lv_at hl 3 rfl) ?_
            refine lv_if_ne (tgt := 74) hx hb dX3_sheet_67 (by decide) (fun c22 => ?_) (fun c22 => ?_)
            · replace hF := (if_neg c22).symm.trans hF
              refine lv_iload_n hx hb dX3_sheet_74 rfl (lv_at hl 4 rfl) ?_
              obtain ⟨q23, h24, hF⟩ := Option.bind_eq_some_iff.mp hF
              refine g_cv (o := none) (As := [.int a2, .int a3]) (rest := []) (st1 := []) (ci := 1) (a := List.take (44 + 2 * j3) (wX G ad X0)) (b := List.drop (46 + 2 * j3) (wX G ad X0)) S hf (c_X1_begin l G (ad (4 + j3)) (X0 (4 + j3)) a2 a3 q23 h24) (cwV 2 hts gX3_sheet_X1_begin rfl rfl rfl (by decide +kernel) ⟨Nat.le_of_ble_eq_true rfl, Nat.le_of_ble_eq_true rfl⟩) (wX_sw hj4) rfl rfl rfl 0 rfl rfl hl.1 rfl rfl (Nat.le_of_ble_eq_true rfl) ⟨Nat.zero_le _, Nat.zero_le _⟩ dX3_sheet_75 (fun H locs hf => ?_)
              rw [wX_sw_set hj4] at hf
              refine lv_aload hx hb dX3_sheet_78 (lv_at hl 0 rfl) ?_
              refine g_get (ci := 1) (C := RX1) (T := TX1) (N := 3) (v := .int (q23 1 1)) S hf hinX1 (44 + 2 * j3) (wX_sp hj4 (if_pos rfl)) rfl 1 (by decide) k211 rfl rfl dX3_sheet_80 ?_
              have hE := Option.some.inj hF
              have hV := congrArg (fun z : Int32 × K3 => z.1) hE
              have hW := congrArg (fun z : Int32 × K3 => wX G ad z.2) hE
              exact g_iret S hr hlocks hf hV hW dX3_sheet_83
            · replace hF := (if_pos c22).symm.trans hF
              refine lv_iconst (v := 0) hx hb dX3_sheet_70 (by decide) ?_
              refine lv_goto (tgt := 75) hx hb dX3_sheet_71 (by decide) ?_
              obtain ⟨q25, h26, hF⟩ := Option.bind_eq_some_iff.mp hF
              refine g_cv (o := none) (As := [.int a2, .int 0]) (rest := []) (st1 := []) (ci := 1) (a := List.take (44 + 2 * j3) (wX G ad X0)) (b := List.drop (46 + 2 * j3) (wX G ad X0)) S hf (c_X1_begin l G (ad (4 + j3)) (X0 (4 + j3)) a2 0 q25 h26) (cwV 2 hts gX3_sheet_X1_begin rfl rfl rfl (by decide +kernel) ⟨Nat.le_of_ble_eq_true rfl, Nat.le_of_ble_eq_true rfl⟩) (wX_sw hj4) rfl rfl rfl 0 rfl rfl hl.1 rfl rfl (Nat.le_of_ble_eq_true rfl) ⟨Nat.zero_le _, Nat.zero_le _⟩ dX3_sheet_75 (fun H locs hf => ?_)
              rw [wX_sw_set hj4] at hf
              refine lv_aload hx hb dX3_sheet_78 (lv_at hl 0 rfl) ?_
              refine g_get (ci := 1) (C := RX1) (T := TX1) (N := 3) (v := .int (q25 1 1)) S hf hinX1 (44 + 2 * j3) (wX_sp hj4 (if_pos rfl)) rfl 1 (by decide) k211 rfl rfl dX3_sheet_80 ?_
              have hE := Option.some.inj hF
              have hV := congrArg (fun z : Int32 × K3 => z.1) hE
              have hW := congrArg (fun z : Int32 × K3 => wX G ad z.2) hE
              exact g_iret S hr hlocks hf hV hW dX3_sheet_83
          · replace hF := (if_neg c21).symm.trans hF
            refine lv_aload_n hx hb dX3_sheet_57 rfl (lv_at hl 1 rfl) ?_
            refine lv_iconst (v := 0) hx hb dX3_sheet_58 (by decide) ?_
            obtain ⟨q27, h28, hF⟩ := Option.bind_eq_some_iff.mp hF
            refine g_cv0 (o := some (.int q27.1)) (As := [.int 0]) (rest := []) (st1 := [.int q27.1]) (ci := 3) S hf (c_X3_finding l G ad X0 0 q27 h28) (cwV 1 hts gX3_sheet_X3_finding rfl rfl rfl (by decide +kernel) ⟨Nat.le_of_ble_eq_true rfl, Nat.le_of_ble_eq_true rfl⟩) rfl rfl rfl 0 rfl rfl hl.1 rfl rfl (Nat.le_of_ble_eq_true rfl) ⟨Nat.zero_le _, Nat.zero_le _⟩ dX3_sheet_59 (fun H locs hf => ?_)
            have hf : Fr G (va_A (wX G ad X0) s.heap.size) s (wX G ad q27.2) H locs := hf
            have hE := Option.some.inj hF
            have hV := congrArg (fun z : Int32 × K3 => z.1) hE
            have hW := congrArg (fun z : Int32 × K3 => wX G ad z.2) hE
            exact g_iret S hr hlocks hf hV hW dX3_sheet_62
        · replace hF := (if_neg c20).symm.trans hF
          refine lv_aload_n hx hb dX3_sheet_44 rfl (lv_at hl 1 rfl) ?_
          refine lv_bipush (v := 6) hx hb dX3_sheet_45 (by decide) ?_
          obtain ⟨q29, h30, hF⟩ := Option.bind_eq_some_iff.mp hF
          refine g_cv0 (o := some (.int q29.1)) (As := [.int 6]) (rest := []) (st1 := [.int q29.1]) (ci := 3) S hf (c_X3_finding l G ad X0 6 q29 h30) (cwV 1 hts gX3_sheet_X3_finding rfl rfl rfl (by decide +kernel) ⟨Nat.le_of_ble_eq_true rfl, Nat.le_of_ble_eq_true rfl⟩) rfl rfl rfl 0 rfl rfl hl.1 rfl rfl (Nat.le_of_ble_eq_true rfl) ⟨Nat.zero_le _, Nat.zero_le _⟩ dX3_sheet_47 (fun H locs hf => ?_)
          have hf : Fr G (va_A (wX G ad X0) s.heap.size) s (wX G ad q29.2) H locs := hf
          have hE := Option.some.inj hF
          have hV := congrArg (fun z : Int32 × K3 => z.1) hE
          have hW := congrArg (fun z : Int32 × K3 => wX G ad z.2) hE
          exact g_iret S hr hlocks hf hV hW dX3_sheet_50
      · replace hF := (if_neg c19).symm.trans hF
        refine lv_iload_n hx hb dX3_sheet_22 rfl (lv_at hl 3 rfl) ?_
        refine lv_bipush (v := 16) hx hb dX3_sheet_23 (by decide) ?_
        refine lv_icmp_eq (tgt := 40) hx hb dX3_sheet_25 (by decide) (fun c31 => ?_) (fun c31 => ?_)
        · replace hF := (if_pos c31).symm.trans hF
          refine lv_iload_n hx hb dX3_sheet_40 rfl (lv_at hl 4 rfl) ?_
          refine lv_if_ge (tgt := 51) hx hb dX3_sheet_41 (by decide) (fun c32 => ?_) (fun c32 => ?_)
          · replace hF := (if_pos c32).symm.trans hF
            refine lv_iload_n hx hb dX3_sheet_51 rfl (lv_at hl 4 rfl) ?_
            refine lv_bipush (v := 40) hx hb dX3_sheet_52 (by decide) ?_
            refine lv_icmp_le (tgt := 63) hx hb dX3_sheet_54 (by decide) (fun c33 => ?_) (fun c33 => ?_)
            · replace hF := (if_pos c33).symm.trans hF
              refine lv_aload hx hb dX3_sheet_63 (lv_at hl 0 rfl) ?_
              refine lv_iload_n hx hb dX3_sheet_65 rfl (lv_at hl 3 rfl) ?_
              refine lv_iload_n hx hb dX3_sheet_66 rfl (lv_at hl 3 rfl) ?_
              refine lv_if_ne (tgt := 74) hx hb dX3_sheet_67 (by decide) (fun c34 => ?_) (fun c34 => ?_)
              · replace hF := (if_neg c34).symm.trans hF
                refine lv_iload_n hx hb dX3_sheet_74 rfl (lv_at hl 4 rfl) ?_
                obtain ⟨q35, h36, hF⟩ := Option.bind_eq_some_iff.mp hF
                refine g_cv (o := none) (As := [.int a2, .int a3]) (rest := []) (st1 := []) (ci := 1) (a := List.take (44 + 2 * j3) (wX G ad X0)) (b := List.drop (46 + 2 * j3) (wX G ad X0)) S hf (c_X1_begin l G (ad (4 + j3)) (X0 (4 + j3)) a2 a3 q35 h36) (cwV 2 hts gX3_sheet_X1_begin rfl rfl rfl (by decide +kernel) ⟨Nat.le_of_ble_eq_true rfl, Nat.le_of_ble_eq_true rfl⟩) (wX_sw hj4) rfl rfl rfl 0 rfl rfl hl.1 rfl rfl (Nat.le_of_ble_eq_true rfl) ⟨Nat.zero_le _, Nat.zero_le _⟩ dX3_sheet_75 (fun H locs hf => ?_)
                rw [wX_sw_set hj4] at hf
                refine lv_aload hx hb dX3_sheet_78 (lv_at hl 0 rfl) ?_
                refine g_get (ci := 1) (C := RX1) (T := TX1) (N := 3) (v := .int (q35 1 1)) S hf hinX1 (44 + 2 * j3) (wX_sp hj4 (if_pos rfl)) rfl 1 (by decide) k211 rfl rfl dX3_sheet_80 ?_
                have hE := Option.some.inj hF
                have hV := congrArg (fun z : Int32 × K3 => z.1) hE
                have hW := congrArg (fun z : Int32 × K3 => wX G ad z.2) hE
                exact g_iret S hr hlocks hf hV hW dX3_sheet_83
              · replace hF := (if_pos c34).symm.trans hF
                refine lv_iconst (v := 0) hx hb dX3_sheet_70 (by decide) ?_
                refine lv_goto (tgt := 75) hx hb dX3_sheet_71 (by decide) ?_
                obtain ⟨q37, h38, hF⟩ := Option.bind_eq_some_iff.mp hF
                refine g_cv (o := none) (As := [.int a2, .int 0]) (rest := []) (st1 := []) (ci := 1) (a := List.take (44 + 2 * j3) (wX G ad X0)) (b := List.drop (46 + 2 * j3) (wX G ad X0)) S hf (c_X1_begin l G (ad (4 + j3)) (X0 (4 + j3)) a2 0 q37 h38) (cwV 2 hts gX3_sheet_X1_begin rfl rfl rfl (by decide +kernel) ⟨Nat.le_of_ble_eq_true rfl, Nat.le_of_ble_eq_true rfl⟩) (wX_sw hj4) rfl rfl rfl 0 rfl rfl hl.1 rfl rfl (Nat.le_of_ble_eq_true rfl) ⟨Nat.zero_le _, Nat.zero_le _⟩ dX3_sheet_75 (fun H locs hf => ?_)
                rw [wX_sw_set hj4] at hf
                refine lv_aload hx hb dX3_sheet_78 (lv_at hl 0 rfl) ?_
                refine g_get (ci := 1) (C := RX1) (T := TX1) (N := 3) (v := .int (q37 1 1)) S hf hinX1 (44 + 2 * j3) (wX_sp hj4 (if_pos rfl)) rfl 1 (by decide) k211 rfl rfl dX3_sheet_80 ?_
                have hE := Option.some.inj hF
                have hV := congrArg (fun z : Int32 × K3 => z.1) hE
                have hW := congrArg (fun z : Int32 × K3 => wX G ad z.2) hE
                exact g_iret S hr hlocks hf hV hW dX3_sheet_83
            · replace hF := (if_neg c33).symm.trans hF
              refine lv_aload_n hx hb dX3_sheet_57 rfl (lv_at hl 1 rfl) ?_
              refine lv_iconst (v := 0) hx hb dX3_sheet_58 (by decide) ?_
              obtain ⟨q39, h40, hF⟩ := Option.bind_eq_some_iff.mp hF
              refine g_cv0 (o := some (.int q39.1)) (As := [.int 0]) (rest := []) (st1 := [.int q39.1]) (ci := 3) S hf (c_X3_finding l G ad X0 0 q39 h40) (cwV 1 hts gX3_sheet_X3_finding rfl rfl rfl (by decide +kernel) ⟨Nat.le_of_ble_eq_true rfl, Nat.le_of_ble_eq_true rfl⟩) rfl rfl rfl 0 rfl rfl hl.1 rfl rfl (Nat.le_of_ble_eq_true rfl) ⟨Nat.zero_le _, Nat.zero_le _⟩ dX3_sheet_59 (fun H locs hf => ?_)
              have hf : Fr G (va_A (wX G ad X0) s.heap.size) s (wX G ad q39.2) H locs := hf
              have hE := Option.some.inj hF
              have hV := congrArg (fun z : Int32 × K3 => z.1) hE
              have hW := congrArg (fun z : Int32 × K3 => wX G ad z.2) hE
              exact g_iret S hr hlocks hf hV hW dX3_sheet_62
          · replace hF := (if_neg c32).symm.trans hF
            refine lv_aload_n hx hb dX3_sheet_44 rfl (lv_at hl 1 rfl) ?_
            refine lv_bipush (v := 6) hx hb dX3_sheet_45 (by decide) ?_
            obtain ⟨q41, h42, hF⟩ := Option.bind_eq_some_iff.mp hF
            refine g_cv0 (o := some (.int q41.1)) (As := [.int 6]) (rest := []) (st1 := [.int q41.1]) (ci := 3) S hf (c_X3_finding l G ad X0 6 q41 h42) (cwV 1 hts gX3_sheet_X3_finding rfl rfl rfl (by decide +kernel) ⟨Nat.le_of_ble_eq_true rfl, Nat.le_of_ble_eq_true rfl⟩) rfl rfl rfl 0 rfl rfl hl.1 rfl rfl (Nat.le_of_ble_eq_true rfl) ⟨Nat.zero_le _, Nat.zero_le _⟩ dX3_sheet_47 (fun H locs hf => ?_)
            have hf : Fr G (va_A (wX G ad X0) s.heap.size) s (wX G ad q41.2) H locs := hf
            have hE := Option.some.inj hF
            have hV := congrArg (fun z : Int32 × K3 => z.1) hE
            have hW := congrArg (fun z : Int32 × K3 => wX G ad z.2) hE
            exact g_iret S hr hlocks hf hV hW dX3_sheet_50
        · replace hF := (if_neg c31).symm.trans hF
          refine lv_iload_n hx hb dX3_sheet_28 rfl (lv_at hl 3 rfl) ?_
          refine lv_bipush (v := 32) hx hb dX3_sheet_29 (by decide) ?_
          refine lv_icmp_eq (tgt := 40) hx hb dX3_sheet_31 (by decide) (fun c43 => ?_) (fun c43 => ?_)
          · replace hF := (if_pos c43).symm.trans hF
            refine lv_iload_n hx hb dX3_sheet_40 rfl (lv_at hl 4 rfl) ?_
            refine lv_if_ge (tgt := 51) hx hb dX3_sheet_41 (by decide) (fun c44 => ?_) (fun c44 => ?_)
            · replace hF := (if_pos c44).symm.trans hF
              refine lv_iload_n hx hb dX3_sheet_51 rfl (lv_at hl 4 rfl) ?_
              refine lv_bipush (v := 40) hx hb dX3_sheet_52 (by decide) ?_
              refine lv_icmp_le (tgt := 63) hx hb dX3_sheet_54 (by decide) (fun c45 => ?_) (fun c45 => ?_)
              · replace hF := (if_pos c45).symm.trans hF
                refine lv_aload hx hb dX3_sheet_63 (lv_at hl 0 rfl) ?_
                refine lv_iload_n hx hb dX3_sheet_65 rfl (lv_at hl 3 rfl) ?_
                refine lv_iload_n hx hb dX3_sheet_66 rfl (lv_at hl 3 rfl) ?_
                refine lv_if_ne (tgt := 74) hx hb dX3_sheet_67 (by decide) (fun c46 => ?_) (fun c46 => ?_)
                · replace hF := (if_neg c46).symm.trans hF
                  refine lv_iload_n hx hb dX3_sheet_74 rfl (lv_at hl 4 rfl) ?_
                  obtain ⟨q47, h48, hF⟩ := Option.bind_eq_some_iff.mp hF
                  refine g_cv (o := none) (As := [.int a2, .int a3]) (rest := []) (st1 := []) (ci := 1) (a := List.take (44 + 2 * j3) (wX G ad X0)) (b := List.drop (46 + 2 * j3) (wX G ad X0)) S hf (c_X1_begin l G (ad (4 + j3)) (X0 (4 + j3)) a2 a3 q47 h48) (cwV 2 hts gX3_sheet_X1_begin rfl rfl rfl (by decide +kernel) ⟨Nat.le_of_ble_eq_true rfl, Nat.le_of_ble_eq_true rfl⟩) (wX_sw hj4) rfl rfl rfl 0 rfl rfl hl.1 rfl rfl (Nat.le_of_ble_eq_true rfl) ⟨Nat.zero_le _, Nat.zero_le _⟩ dX3_sheet_75 (fun H locs hf => ?_)
                  rw [wX_sw_set hj4] at hf
                  refine lv_aload hx hb dX3_sheet_78 (lv_at hl 0 rfl) ?_
                  refine g_get (ci := 1) (C := RX1) (T := TX1) (N := 3) (v := .int (q47 1 1)) S hf hinX1 (44 + 2 * j3) (wX_sp hj4 (if_pos rfl)) rfl 1 (by decide) k211 rfl rfl dX3_sheet_80 ?_
                  have hE := Option.some.inj hF
                  have hV := congrArg (fun z : Int32 × K3 => z.1) hE
                  have hW := congrArg (fun z : Int32 × K3 => wX G ad z.2) hE
                  exact g_iret S hr hlocks hf hV hW dX3_sheet_83
                · replace hF := (if_pos c46).symm.trans hF
                  refine lv_iconst (v := 0) hx hb dX3_sheet_70 (by decide) ?_
                  refine lv_goto (tgt := 75) hx hb dX3_sheet_71 (by decide) ?_
                  obtain ⟨q49, h50, hF⟩ := Option.bind_eq_some_iff.mp hF
                  refine g_cv (o := none) (As := [.int a2, .int 0]) (rest := []) (st1 := []) (ci := 1) (a := List.take (44 + 2 * j3) (wX G ad X0)) (b := List.drop (46 + 2 * j3) (wX G ad X0)) S hf (c_X1_begin l G (ad (4 + j3)) (X0 (4 + j3)) a2 0 q49 h50) (cwV 2 hts gX3_sheet_X1_begin rfl rfl rfl (by decide +kernel) ⟨Nat.le_of_ble_eq_true rfl, Nat.le_of_ble_eq_true rfl⟩) (wX_sw hj4) rfl rfl rfl 0 rfl rfl hl.1 rfl rfl (Nat.le_of_ble_eq_true rfl) ⟨Nat.zero_le _, Nat.zero_le _⟩ dX3_sheet_75 (fun H locs hf => ?_)
                  rw [wX_sw_set hj4] at hf
                  refine lv_aload hx hb dX3_sheet_78 (lv_at hl 0 rfl) ?_
                  refine g_get (ci := 1) (C := RX1) (T := TX1) (N := 3) (v := .int (q49 1 1)) S hf hinX1 (44 + 2 * j3) (wX_sp hj4 (if_pos rfl)) rfl 1 (by decide) k211 rfl rfl dX3_sheet_80 ?_
                  have hE := Option.some.inj hF
                  have hV := congrArg (fun z : Int32 × K3 => z.1) hE
                  have hW := congrArg (fun z : Int32 × K3 => wX G ad z.2) hE
                  exact g_iret S hr hlocks hf hV hW dX3_sheet_83
              · replace hF := (if_neg c45).symm.trans hF
                refine lv_aload_n hx hb dX3_sheet_57 rfl (lv_at hl 1 rfl) ?_
                refine lv_iconst (v := 0) hx hb dX3_sheet_58 (by decide) ?_
                obtain ⟨q51, h52, hF⟩ := Option.bind_eq_some_iff.mp hF
                refine g_cv0 (o := some (.int q51.1)) (As := [.int 0]) (rest := []) (st1 := [.int q51.1]) (ci := 3) S hf (c_X3_finding l G ad X0 0 q51 h52) (cwV 1 hts gX3_sheet_X3_finding rfl rfl rfl (by decide +kernel) ⟨Nat.le_of_ble_eq_true rfl, Nat.le_of_ble_eq_true rfl⟩) rfl rfl rfl 0 rfl rfl hl.1 rfl rfl (Nat.le_of_ble_eq_true rfl) ⟨Nat.zero_le _, Nat.zero_le _⟩ dX3_sheet_59 (fun H locs hf => ?_)
                have hf : Fr G (va_A (wX G ad X0) s.heap.size) s (wX G ad q51.2) H locs := hf
                have hE := Option.some.inj hF
                have hV := congrArg (fun z : Int32 × K3 => z.1) hE
                have hW := congrArg (fun z : Int32 × K3 => wX G ad z.2) hE
                exact g_iret S hr hlocks hf hV hW dX3_sheet_62
            · replace hF := (if_neg c44).symm.trans hF
              refine lv_aload_n hx hb dX3_sheet_44 rfl (lv_at hl 1 rfl) ?_
              refine lv_bipush (v := 6) hx hb dX3_sheet_45 (by decide) ?_
              obtain ⟨q53, h54, hF⟩ := Option.bind_eq_some_iff.mp hF
              refine g_cv0 (o := some (.int q53.1)) (As := [.int 6]) (rest := []) (st1 := [.int q53.1]) (ci := 3) S hf (c_X3_finding l G ad X0 6 q53 h54) (cwV 1 hts gX3_sheet_X3_finding rfl rfl rfl (by decide +kernel) ⟨Nat.le_of_ble_eq_true rfl, Nat.le_of_ble_eq_true rfl⟩) rfl rfl rfl 0 rfl rfl hl.1 rfl rfl (Nat.le_of_ble_eq_true rfl) ⟨Nat.zero_le _, Nat.zero_le _⟩ dX3_sheet_47 (fun H locs hf => ?_)
              have hf : Fr G (va_A (wX G ad X0) s.heap.size) s (wX G ad q53.2) H locs := hf
              have hE := Option.some.inj hF
              have hV := congrArg (fun z : Int32 × K3 => z.1) hE
              have hW := congrArg (fun z : Int32 × K3 => wX G ad z.2) hE
              exact g_iret S hr hlocks hf hV hW dX3_sheet_50
          · replace hF := (if_neg c43).symm.trans hF
            refine lv_aload_n hx hb dX3_sheet_34 rfl (lv_at hl 1 rfl) ?_
            refine lv_iconst (v := 0) hx hb dX3_sheet_35 (by decide) ?_
            obtain ⟨q55, h56, hF⟩ := Option.bind_eq_some_iff.mp hF
            refine g_cv0 (o := some (.int q55.1)) (As := [.int 0]) (rest := []) (st1 := [.int q55.1]) (ci := 3) S hf (c_X3_finding l G ad X0 0 q55 h56) (cwV 1 hts gX3_sheet_X3_finding rfl rfl rfl (by decide +kernel) ⟨Nat.le_of_ble_eq_true rfl, Nat.le_of_ble_eq_true rfl⟩) rfl rfl rfl 0 rfl rfl hl.1 rfl rfl (Nat.le_of_ble_eq_true rfl) ⟨Nat.zero_le _, Nat.zero_le _⟩ dX3_sheet_36 (fun H locs hf => ?_)
            have hf : Fr G (va_A (wX G ad X0) s.heap.size) s (wX G ad q55.2) H locs := hf
            have hE := Option.some.inj hF
            have hV := congrArg (fun z : Int32 × K3 => z.1) hE
            have hW := congrArg (fun z : Int32 × K3 => wX G ad z.2) hE
            exact g_iret S hr hlocks hf hV hW dX3_sheet_39
def f_X3_write (X0 : K3) (a1 : Int32) (a2 : Int32) (a3 : Int32) : Option (Int32 × K3) := Option.bind (f_X3_sheetOf X0 a1) (fun q1 => shc q1 (Option.bind (f_X3_finding X0 0) (fun q5 => some (q5.1, q5.2))) (fun j3 => if j3 < 4 then (Option.bind (f_X1_isMissing (X0 (4 + j3))) (fun q7 => if q7 = 0 then (Option.bind (f_X3_within a2 0 (((X0 (4 + j3)) 1 1) - 1)) (fun q10 => if q10 = 0 then (Option.bind (f_X3_finding X0 0) (fun q15 => some (q15.1, q15.2))) else (Option.bind (f_X1_put (X0 (4 + j3)) a2 a3) (fun q13 => some (1, va_up X0 (4 + j3) q13))))) else (Option.bind (f_X3_finding X0 5) (fun q17 => some (q17.1, q17.2))))) else none))
set_option maxHeartbeats 4000000 in
set_option maxRecDepth 100000 in
theorem c_X3_write (l : Launch) (G : GT) (ad : Nat → Nat → Nat) (X0 : K3) (a1 : Int32) (a2 : Int32) (a3 : Int32) (q : Int32 × K3) (hF : f_X3_write X0 a1 a2 a3 = some q) : Ct l G yX3_write wsX3_write ({ frames := 2, cells := 0, slots := 0, locals := 43 } : Room) ([.ref (ad 8 0), .int a1, .int a2, .int a3] : List Value) (wX G ad X0) (some (.int q.1)) (wX G ad q.2) := by
  have k211 : Cond.fieldLink RX3 211 "PigeonRolls$Sheet" "length" "I" ∈ wsX3_write := by decide +kernel
  have hinX1 : ∀ w ∈ u_ws RX1 TX1 3, w ∈ wsX3_write := by decide +kernel
  refine Ct.of cX3_write 5 (some .int) (by decide) rfl (Nat.le_of_ble_eq_true rfl) ?_
  intro p e s m below meth c ls S hr hlocks hf hl
  have S : CallFix p m c cX3_write 5 s ([.ref (ad 8 0), .int a1, .int a2, .int a3] : List Value).toArray wsX3_write RX3 := S
  obtain ⟨hx, hb, hml, hown, hts⟩ := id S
  have hl : lv_has ls 5 [(0, .ref (ad 8 0)), (1, .int a1), (2, .int a2), (3, .int a3)] := hl
  unfold f_X3_write at hF
  refine lv_aload_n hx hb dX3_write_0 rfl (lv_at hl 0 rfl) ?_
  refine lv_iload_n hx hb dX3_write_1 rfl (lv_at hl 1 rfl) ?_
  obtain ⟨q1, h2, hF⟩ := Option.bind_eq_some_iff.mp hF
  refine g_cv0 (o := some (va_rf (Option.map (fun j => ad (4 + j) 0) q1))) (As := [.int a1]) (rest := []) (st1 := [va_rf (Option.map (fun j => ad (4 + j) 0) q1)]) (ci := 3) S hf (c_X3_sheetOf l G ad X0 a1 q1 h2) (cwV 1 hts gX3_write_X3_sheetOf rfl rfl rfl (by decide +kernel) ⟨Nat.le_of_ble_eq_true rfl, Nat.le_of_ble_eq_true rfl⟩) rfl rfl rfl 0 rfl rfl hl.1 rfl rfl (Nat.le_of_ble_eq_true rfl) ⟨Nat.zero_le _, Nat.zero_le _⟩ dX3_write_2 (fun H locs hf => ?_)
  have hf : Fr G (va_A (wX G ad X0) s.heap.size) s (wX G ad X0) H locs := hf
  cases q1 with
  | none =>
    replace hF := shc_none.symm.trans hF
    refine W.eq (g2 := F0 m 5 ls [.null]) rfl ?_
    refine lv_astoreN (lv' := [(4, .null), (0, .ref (ad 8 0)), (1, .int a1), (2, .int a2), (3, .int a3)]) hx hb dX3_write_5 hl (by decide) rfl (fun ls hl => ?_)
    refine lv_aloadN hx hb dX3_write_7 (lv_at hl 0 rfl) ?_
    refine lv_ifnonnullN hx hb dX3_write_9 ?_
    refine lv_aload_n hx hb dX3_write_12 rfl (lv_at hl 1 rfl) ?_
    refine lv_iconst (v := 0) hx hb dX3_write_13 (by decide) ?_
    obtain ⟨q5, h6, hF⟩ := Option.bind_eq_some_iff.mp hF
    refine g_cv0 (o := some (.int q5.1)) (As := [.int 0]) (rest := []) (st1 := [.int q5.1]) (ci := 3) S hf (c_X3_finding l G ad X0 0 q5 h6) (cwV 1 hts gX3_write_X3_finding rfl rfl rfl (by decide +kernel) ⟨Nat.le_of_ble_eq_true rfl, Nat.le_of_ble_eq_true rfl⟩) rfl rfl rfl 0 rfl rfl hl.1 rfl rfl (Nat.le_of_ble_eq_true rfl) ⟨Nat.zero_le _, Nat.zero_le _⟩ dX3_write_14 (fun H locs hf => ?_)
    have hf : Fr G (va_A (wX G ad X0) s.heap.size) s (wX G ad q5.2) H locs := hf
    have hE := Option.some.inj hF
    have hV := congrArg (fun z : Int32 × K3 => z.1) hE
    have hW := congrArg (fun z : Int32 × K3 => wX G ad z.2) hE
    exact g_iret S hr hlocks hf hV hW dX3_write_17
  | some j3 =>
    replace hF := shc_some.symm.trans hF
    obtain ⟨hj4, hF⟩ := gd_some hF
    refine W.eq (g2 := F0 m 5 ls [.ref (ad (4 + j3) 0)]) rfl ?_
    refine lv_astore (lv' := [(4, .ref (ad (4 + j3) 0)), (0, .ref (ad 8 0)), (1, .int a1), (2, .int a2), (3, .int a3)]) hx hb dX3_write_5 hl (by decide) rfl (fun ls hl => ?_)
    refine lv_aload hx hb dX3_write_7 (lv_at hl 0 rfl) ?_
    refine lv_ifnonnull (tgt := 18) hx hb dX3_write_9 (by decide) ?_
    refine lv_aload hx hb dX3_write_18 (lv_at hl 0 rfl) ?_
    obtain ⟨q7, h8, hF⟩ := Option.bind_eq_some_iff.mp hF
    refine g_cv (o := some (.int q7)) (As := []) (rest := []) (st1 := [.int q7]) (ci := 1) (a := List.take (44 + 2 * j3) (wX G ad X0)) (b := List.drop (46 + 2 * j3) (wX G ad X0)) S hf (c_X1_isMissing l G (ad (4 + j3)) (X0 (4 + j3)) q7 h8) (cwV 0 hts gX3_write_X1_isMissing rfl rfl rfl (by decide +kernel) ⟨Nat.le_of_ble_eq_true rfl, Nat.le_of_ble_eq_true rfl⟩) (wX_sw hj4) rfl rfl rfl 0 rfl rfl hl.1 rfl rfl (Nat.le_of_ble_eq_true rfl) ⟨Nat.zero_le _, Nat.zero_le _⟩ dX3_write_20 (fun H locs hf => ?_)
    rw [← wX_sw hj4] at hf
    refine lv_if_eq (tgt := 32) hx hb dX3_write_23 (by decide) (fun c9 => ?_) (fun c9 => ?_)
    · replace hF := (if_pos c9).symm.trans hF
      refine lv_iload_n hx hb dX3_write_32 rfl (lv_at hl 3 rfl) ?_
      refine lv_iconst (v := 0) hx hb dX3_write_33 (by decide) ?_
      refine lv_aload hx hb dX3_write_34 (lv_at hl 0 rfl) ?_
      refine g_get (ci := 1) (C := RX1) (T := TX1) (N := 3) (v := .int ((X0 (4 + j3)) 1 1)) S hf hinX1 (44 + 2 * j3) (wX_so hj4) rfl 1 (by decide) k211 rfl rfl dX3_write_36 ?_
      refine lv_iconst (v := 1) hx hb dX3_write_39 (by decide) ?_
      refine lv_isub hx hb dX3_write_40 ?_
      obtain ⟨q10, h11, hF⟩ := Option.bind_eq_some_iff.mp hF
      refine g_cs0 (o := some (.int q10)) (As := [.int a2, .int 0, .int (((X0 (4 + j3)) 1 1) - 1)]) (rest := []) (st1 := [.int q10]) S hf (c_X3_within l G  a2 0 (((X0 (4 + j3)) 1 1) - 1) q10 h11) (va_cwS 3 hts gX3_write_X3_within rfl rfl rfl (by decide +kernel) ⟨Nat.le_of_ble_eq_true rfl, Nat.le_of_ble_eq_true rfl⟩) rfl hl.1 rfl rfl (Nat.le_of_ble_eq_true rfl) ⟨Nat.zero_le _, Nat.zero_le _⟩ dX3_write_41 (fun H locs hf => ?_)
      refine lv_if_ne (tgt := 53) hx hb dX3_write_44 (by decide) (fun c12 => ?_) (fun c12 => ?_)
      · replace hF := (if_neg c12).symm.trans hF
        refine lv_aload hx hb dX3_write_53 (lv_at hl 0 rfl) ?_
        refine lv_iload_n hx hb dX3_write_55 rfl (lv_at hl 3 rfl) ?_
        refine lv_iload_n hx hb dX3_write_56 rfl (lv_at hl 4 rfl) ?_
        obtain ⟨q13, h14, hF⟩ := Option.bind_eq_some_iff.mp hF
        refine g_cv (o := none) (As := [.int a2, .int a3]) (rest := []) (st1 := []) (ci := 1) (a := List.take (44 + 2 * j3) (wX G ad X0)) (b := List.drop (46 + 2 * j3) (wX G ad X0)) S hf (c_X1_put l G (ad (4 + j3)) (X0 (4 + j3)) a2 a3 q13 h14) (cwV 2 hts gX3_write_X1_put rfl rfl rfl (by decide +kernel) ⟨Nat.le_of_ble_eq_true rfl, Nat.le_of_ble_eq_true rfl⟩) (wX_sw hj4) rfl rfl rfl 0 rfl rfl hl.1 rfl rfl (Nat.le_of_ble_eq_true rfl) ⟨Nat.zero_le _, Nat.zero_le _⟩ dX3_write_57 (fun H locs hf => ?_)
        rw [wX_sw_set hj4] at hf
        refine lv_iconst (v := 1) hx hb dX3_write_60 (by decide) ?_
        have hE := Option.some.inj hF
        have hV := congrArg (fun z : Int32 × K3 => z.1) hE
        have hW := congrArg (fun z : Int32 × K3 => wX G ad z.2) hE
        exact g_iret S hr hlocks hf hV hW dX3_write_61
      · replace hF := (if_pos c12).symm.trans hF
        refine lv_aload_n hx hb dX3_write_47 rfl (lv_at hl 1 rfl) ?_
        refine lv_iconst (v := 0) hx hb dX3_write_48 (by decide) ?_
        obtain ⟨q15, h16, hF⟩ := Option.bind_eq_some_iff.mp hF
        refine g_cv0 (o := some (.int q15.1)) (As := [.int 0]) (rest := []) (st1 := [.int q15.1]) (ci := 3) S hf (c_X3_finding l G ad X0 0 q15 h16) (cwV 1 hts gX3_write_X3_finding rfl rfl rfl (by decide +kernel) ⟨Nat.le_of_ble_eq_true rfl, Nat.le_of_ble_eq_true rfl⟩) rfl rfl rfl 0 rfl rfl hl.1 rfl rfl (Nat.le_of_ble_eq_true rfl) ⟨Nat.zero_le _, Nat.zero_le _⟩ dX3_write_49 (fun H locs hf => ?_)
        have hf : Fr G (va_A (wX G ad X0) s.heap.size) s (wX G ad q15.2) H locs := hf
        have hE := Option.some.inj hF
        have hV := congrArg (fun z : Int32 × K3 => z.1) hE
        have hW := congrArg (fun z : Int32 × K3 => wX G ad z.2) hE
        exact g_iret S hr hlocks hf hV hW dX3_write_52
    · replace hF := (if_neg c9).symm.trans hF
      refine lv_aload_n hx hb dX3_write_26 rfl (lv_at hl 1 rfl) ?_
      refine lv_iconst (v := 5) hx hb dX3_write_27 (by decide) ?_
      obtain ⟨q17, h18, hF⟩ := Option.bind_eq_some_iff.mp hF
      refine g_cv0 (o := some (.int q17.1)) (As := [.int 5]) (rest := []) (st1 := [.int q17.1]) (ci := 3) S hf (c_X3_finding l G ad X0 5 q17 h18) (cwV 1 hts gX3_write_X3_finding rfl rfl rfl (by decide +kernel) ⟨Nat.le_of_ble_eq_true rfl, Nat.le_of_ble_eq_true rfl⟩) rfl rfl rfl 0 rfl rfl hl.1 rfl rfl (Nat.le_of_ble_eq_true rfl) ⟨Nat.zero_le _, Nat.zero_le _⟩ dX3_write_28 (fun H locs hf => ?_)
      have hf : Fr G (va_A (wX G ad X0) s.heap.size) s (wX G ad q17.2) H locs := hf
      have hE := Option.some.inj hF
      have hV := congrArg (fun z : Int32 × K3 => z.1) hE
      have hW := congrArg (fun z : Int32 × K3 => wX G ad z.2) hE
      exact g_iret S hr hlocks hf hV hW dX3_write_31
