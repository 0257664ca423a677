def f_X1_isMissing (σ0 : K2) : Option (Int32) := if (σ0 1 0) = 0 then (some (1)) else (some (0))
set_option maxHeartbeats 4000000 in
set_option maxRecDepth 100000 in
theorem c_X1_isMissing (l : Launch) (G : GT) (ad : Nat → Nat) (σ0 : K2) (q : Int32) (hF : f_X1_isMissing σ0 = some q) : Ct l G yX1_isMissing wsX1_isMissing ({ frames := 0, cells := 0, slots := 0, locals := 0 } : Room) ([.ref (ad 0)] : List Value) (wS G ad σ0) (some (.int q)) (wS G ad σ0) := by
  have k9 : Cond.fieldLink RX1 9 "PigeonRolls$Sheet" "bits" "I" ∈ wsX1_isMissing := by decide +kernel
  have hinX1 : ∀ w ∈ u_ws RX1 TX1 3, w ∈ wsX1_isMissing := by decide +kernel
  refine Ct.of cX1_isMissing 1 (some .boolean) (by decide) rfl (Nat.le_of_ble_eq_true rfl) ?_
  intro p e s m below meth c ls S hr hlocks hf hl
  have S : CallFix p m c cX1_isMissing 1 s ([.ref (ad 0)] : List Value).toArray wsX1_isMissing RX1 := S
  obtain ⟨hx, hb, hml, hown, hts⟩ := id S
  have hl : lv_has ls 1 [(0, .ref (ad 0))] := hl
  unfold f_X1_isMissing at hF
  refine lv_aload_n hx hb dX1_isMissing_0 rfl (lv_at hl 0 rfl) ?_
  refine g_get (ci := 1) (C := RX1) (T := TX1) (N := 3) (v := .int (σ0 1 0)) S hf hinX1 0 rfl rfl 0 (by decide) k9 rfl rfl dX1_isMissing_1 ?_
  refine lv_if_ne (tgt := 11) hx hb dX1_isMissing_4 (by decide) (fun c1 => ?_) (fun c1 => ?_)
  · replace hF := (if_neg c1).symm.trans hF
    refine lv_iconst (v := 0) hx hb dX1_isMissing_11 (by decide) ?_
    exact g_zret S hr hlocks hf (by decide) (congrArg (fun z : Int32 => z) (Option.some.inj hF)) rfl dX1_isMissing_12
  · replace hF := (if_pos c1).symm.trans hF
    refine lv_iconst (v := 1) hx hb dX1_isMissing_7 (by decide) ?_
    refine lv_goto (tgt := 12) hx hb dX1_isMissing_8 (by decide) ?_
    exact g_zret S hr hlocks hf (by decide) (congrArg (fun z : Int32 => z) (Option.some.inj hF)) rfl dX1_isMissing_12
def f_X1_begin_L12 : Nat → K2 → Int32 → Option (K2)
  | 0, _, _ => none
  | n + 1, σ, x3 => if 40 ≤ x3 then (some (σ)) else (if ix x3 40 then (f_X1_begin_L12 n (va_up σ 0 (upd (σ 0) x3.toNatClampNeg 0)) (x3 + 1)) else none)
def f_X1_begin (σ0 : K2) (a1 : Int32) (a2 : Int32) : Option (K2) := f_X1_begin_L12 1000 (va_up σ0 1 (upd (upd (σ0 1) 0 a1) 1 a2)) 0
set_option maxHeartbeats 4000000 in
set_option maxRecDepth 100000 in
theorem c_X1_begin (l : Launch) (G : GT) (ad : Nat → Nat) (σ0 : K2) (a1 : Int32) (a2 : Int32) (q : K2) (hF : f_X1_begin σ0 a1 a2 = some q) : Ct l G yX1_begin wsX1_begin ({ frames := 0, cells := 0, slots := 0, locals := 0 } : Room) ([.ref (ad 0), .int a1, .int a2] : List Value) (wS G ad σ0) (none) (wS G ad q) := by
  have k9 : Cond.fieldLink RX1 9 "PigeonRolls$Sheet" "bits" "I" ∈ wsX1_begin := by decide +kernel
  have k15 : Cond.fieldLink RX1 15 "PigeonRolls$Sheet" "length" "I" ∈ wsX1_begin := by decide +kernel
  have k18 : Cond.fieldLink RX1 18 "PigeonRolls$Sheet" "numbers" "[I" ∈ wsX1_begin := by decide +kernel
  have hinX1 : ∀ w ∈ u_ws RX1 TX1 3, w ∈ wsX1_begin := by decide +kernel
  refine Ct.of cX1_begin 4 none (by decide) rfl (Nat.le_of_ble_eq_true rfl) ?_
  intro p e s m below meth c ls S hr hlocks hf hl
  have S : CallFix p m c cX1_begin 4 s ([.ref (ad 0), .int a1, .int a2] : List Value).toArray wsX1_begin RX1 := S
  obtain ⟨hx, hb, hml, hown, hts⟩ := id S
  have hl : lv_has ls 4 [(0, .ref (ad 0)), (1, .int a1), (2, .int a2)] := hl
  have hL12 : ∀ (n : Nat) (σ : K2) (x3 : Int32)  (H : Heap) (locs : List Loc) (ls : Array Slot), f_X1_begin_L12 n σ x3 = some q → Fr G (va_A (wS G ad σ0) s.heap.size) s (wS G ad σ) H locs → lv_has ls 4 [(0, .ref (ad 0)), (3, .int x3)] → W p l e ({ frames := 0, cells := 0, slots := 0, locals := 0 } : Room) s m ([.ref (ad 0), .int a1, .int a2] : List Value).toArray below meth c H locs 0 0 (MQ below (CPost G (wS G ad σ0) s.heap.size (none) (wS G ad q)) ([.ref (ad 0), .int a1, .int a2] : List Value).toArray s 0 0 (va_A (wS G ad σ0) s.heap.size)) (F0 m 12 ls []) := by
    intro n
    induction n with
    | zero =>
      intro σ x3 H locs ls hF hf hl
      exact absurd hF (by simp [f_X1_begin_L12])
    | succ n ih12 =>
      intro σ x3 H locs ls hF hf hl
      rw [f_X1_begin_L12] at hF
      refine lv_iload_n hx hb dX1_begin_12 rfl (lv_at hl 1 rfl) ?_
      refine lv_bipush (v := 40) hx hb dX1_begin_13 (by decide) ?_
      refine lv_icmp_ge (tgt := 31) hx hb dX1_begin_15 (by decide) (fun c1 => ?_) (fun c1 => ?_)
      · replace hF := (if_pos c1).symm.trans hF
        exact g_vret S hr hlocks hf (congrArg (fun z : K2 => wS G ad z) (Option.some.inj hF)) dX1_begin_31
      · replace hF := (if_neg c1).symm.trans hF
        refine lv_aload_n hx hb dX1_begin_18 rfl (lv_at hl 0 rfl) ?_
        refine g_get (ci := 1) (C := RX1) (T := TX1) (N := 3) (v := .ref (ad 1)) S hf hinX1 0 rfl rfl 2 (by decide) k18 rfl rfl dX1_begin_19 ?_
        refine lv_iload_n hx hb dX1_begin_22 rfl (lv_at hl 1 rfl) ?_
        refine lv_iconst (v := 0) hx hb dX1_begin_23 (by decide) ?_
        obtain ⟨g2, hF⟩ := gd_some hF
        refine g_ast (ww' := wS G ad (va_up σ 0 (upd (σ 0) x3.toNatClampNeg 0))) S hf 1 rfl g2 rfl dX1_begin_24 (fun H locs hf => ?_)
        refine lv_iinc (v := x3 + 1) (lv' := [(3, .int (x3 + 1)), (0, .ref (ad 0))]) hx hb dX1_begin_25 hl (k := 1) rfl rfl (by decide) rfl (fun ls hl => ?_)
        refine lv_goto (tgt := 12) hx hb dX1_begin_28 (by decide) ?_
        exact ih12 (va_up σ 0 (upd (σ 0) x3.toNatClampNeg 0)) (x3 + 1) _ _ _ hF hf (lv_sub hl [1, 0] rfl)
  unfold f_X1_begin at hF
  refine lv_aload_n hx hb dX1_begin_0 rfl (lv_at hl 0 rfl) ?_
  refine lv_iload_n hx hb dX1_begin_1 rfl (lv_at hl 1 rfl) ?_
  refine g_put (ci := 1) (C := RX1) (T := TX1) (N := 3) (ww' := wS G ad (va_up σ0 1 (upd (σ0 1) 0 a1))) S hf hinX1 tyX1 tyX1_ok nmX1 0 rfl rfl 0 (by decide) k9 rfl rfl rfl rfl (Nat.le_of_ble_eq_true rfl) rfl dX1_begin_2 (fun H locs hf => ?_)
  refine lv_aload_n hx hb dX1_begin_5 rfl (lv_at hl 0 rfl) ?_
  refine lv_iload_n hx hb dX1_begin_6 rfl (lv_at hl 2 rfl) ?_
  refine g_put (ci := 1) (C := RX1) (T := TX1) (N := 3) (ww' := wS G ad (va_up σ0 1 (upd (upd (σ0 1) 0 a1) 1 a2))) S hf hinX1 tyX1 tyX1_ok nmX1 0 rfl rfl 1 (by decide) k15 rfl rfl rfl rfl (Nat.le_of_ble_eq_true rfl) rfl dX1_begin_7 (fun H locs hf => ?_)
  refine lv_iconst (v := 0) hx hb dX1_begin_10 (by decide) ?_
  refine lv_istore_n (lv' := [(3, .int 0), (0, .ref (ad 0)), (1, .int a1), (2, .int a2)]) hx hb dX1_begin_11 rfl hl (by decide) rfl (fun ls hl => ?_)
  exact hL12 1000 (va_up σ0 1 (upd (upd (σ0 1) 0 a1) 1 a2)) 0 _ _ _ hF hf (lv_sub hl [1, 0] rfl)
def f_X1_put (σ0 : K2) (a1 : Int32) (a2 : Int32) : Option (K2) := if (σ0 1 0) = 8 then (if ix a1 40 then (some (va_up σ0 0 (upd (σ0 0) a1.toNatClampNeg a2.toInt8.toInt32))) else none) else (if (σ0 1 0) = 16 then (if ix a1 40 then (some (va_up σ0 0 (upd (σ0 0) a1.toNatClampNeg a2.toInt16.toInt32))) else none) else (if ix a1 40 then (some (va_up σ0 0 (upd (σ0 0) a1.toNatClampNeg a2))) else none))
set_option maxHeartbeats 4000000 in
set_option maxRecDepth 100000 in
theorem c_X1_put (l : Launch) (G : GT) (ad : Nat → Nat) (σ0 : K2) (a1 : Int32) (a2 : Int32) (q : K2) (hF : f_X1_put σ0 a1 a2 = some q) : Ct l G yX1_put wsX1_put ({ frames := 0, cells := 0, slots := 0, locals := 0 } : Room) ([.ref (ad 0), .int a1, .int a2] : List Value) (wS G ad σ0) (none) (wS G ad q) := by
  have k18 : Cond.fieldLink RX1 18 "PigeonRolls$Sheet" "numbers" "[I" ∈ wsX1_put := by decide +kernel
  have k9 : Cond.fieldLink RX1 9 "PigeonRolls$Sheet" "bits" "I" ∈ wsX1_put := by decide +kernel
  have hinX1 : ∀ w ∈ u_ws RX1 TX1 3, w ∈ wsX1_put := by decide +kernel
  refine Ct.of cX1_put 3 none (by decide) rfl (Nat.le_of_ble_eq_true rfl) ?_
  intro p e s m below meth c ls S hr hlocks hf hl
  have S : CallFix p m c cX1_put 3 s ([.ref (ad 0), .int a1, .int a2] : List Value).toArray wsX1_put RX1 := S
  obtain ⟨hx, hb, hml, hown, hts⟩ := id S
  have hl : lv_has ls 3 [(0, .ref (ad 0)), (1, .int a1), (2, .int a2)] := hl
  unfold f_X1_put at hF
  refine lv_aload_n hx hb dX1_put_0 rfl (lv_at hl 0 rfl) ?_
  refine g_get (ci := 1) (C := RX1) (T := TX1) (N := 3) (v := .ref (ad 1)) S hf hinX1 0 rfl rfl 2 (by decide) k18 rfl rfl dX1_put_1 ?_
  refine lv_iload_n hx hb dX1_put_4 rfl (lv_at hl 1 rfl) ?_
  refine lv_aload_n hx hb dX1_put_5 rfl (lv_at hl 0 rfl) ?_
  refine g_get (ci := 1) (C := RX1) (T := TX1) (N := 3) (v := .int (σ0 1 0)) S hf hinX1 0 rfl rfl 0 (by decide) k9 rfl rfl dX1_put_6 ?_
  refine lv_bipush (v := 8) hx hb dX1_put_9 (by decide) ?_
  refine lv_icmp_ne (tgt := 19) hx hb dX1_put_11 (by decide) (fun c1 => ?_) (fun c1 => ?_)
  · replace hF := (if_neg c1).symm.trans hF
    refine lv_aload_n hx hb dX1_put_19 rfl (lv_at hl 0 rfl) ?_
    refine g_get (ci := 1) (C := RX1) (T := TX1) (N := 3) (v := .int (σ0 1 0)) S hf hinX1 0 rfl rfl 0 (by decide) k9 rfl rfl dX1_put_20 ?_
    refine lv_bipush (v := 16) hx hb dX1_put_23 (by decide) ?_
    refine lv_icmp_ne (tgt := 33) hx hb dX1_put_25 (by decide) (fun c2 => ?_) (fun c2 => ?_)
    · replace hF := (if_neg c2).symm.trans hF
      refine lv_iload_n hx hb dX1_put_33 rfl (lv_at hl 2 rfl) ?_
      obtain ⟨g3, hF⟩ := gd_some hF
      refine g_ast (ww' := wS G ad (va_up σ0 0 (upd (σ0 0) a1.toNatClampNeg a2))) S hf 1 rfl g3 rfl dX1_put_34 (fun H locs hf => ?_)
      exact g_vret S hr hlocks hf (congrArg (fun z : K2 => wS G ad z) (Option.some.inj hF)) dX1_put_35
    · replace hF := (if_pos c2).symm.trans hF
      refine lv_iload_n hx hb dX1_put_28 rfl (lv_at hl 2 rfl) ?_
      refine lv_i2s (v := a2.toInt16.toInt32) hx hb dX1_put_29 rfl ?_
      refine lv_goto (tgt := 34) hx hb dX1_put_30 (by decide) ?_
      obtain ⟨g4, hF⟩ := gd_some hF
      refine g_ast (ww' := wS G ad (va_up σ0 0 (upd (σ0 0) a1.toNatClampNeg a2.toInt16.toInt32))) S hf 1 rfl g4 rfl dX1_put_34 (fun H locs hf => ?_)
      exact g_vret S hr hlocks hf (congrArg (fun z : K2 => wS G ad z) (Option.some.inj hF)) dX1_put_35
  · replace hF := (if_pos c1).symm.trans hF
    refine lv_iload_n hx hb dX1_put_14 rfl (lv_at hl 2 rfl) ?_
    refine lv_i2b (v := a2.toInt8.toInt32) hx hb dX1_put_15 rfl ?_
    refine lv_goto (tgt := 34) hx hb dX1_put_16 (by decide) ?_
    obtain ⟨g5, hF⟩ := gd_some hF
    refine g_ast (ww' := wS G ad (va_up σ0 0 (upd (σ0 0) a1.toNatClampNeg a2.toInt8.toInt32))) S hf 1 rfl g5 rfl dX1_put_34 (fun H locs hf => ?_)
    exact g_vret S hr hlocks hf (congrArg (fun z : K2 => wS G ad z) (Option.some.inj hF)) dX1_put_35
def f_X1_hasRow (σ0 : K2) (a1 : Int32) (a2 : Int32) : Option (Int32) := if a1 < 0 then (some (0)) else (if a2 < 0 then (some (0)) else (if (σ0 1 1) < a2 then (some (0)) else (if ((σ0 1 1) - a2) < a1 then (some (0)) else (some (1)))))
set_option maxHeartbeats 4000000 in
set_option maxRecDepth 100000 in
theorem c_X1_hasRow (l : Launch) (G : GT) (ad : Nat → Nat) (σ0 : K2) (a1 : Int32) (a2 : Int32) (q : Int32) (hF : f_X1_hasRow σ0 a1 a2 = some q) : Ct l G yX1_hasRow wsX1_hasRow ({ frames := 0, cells := 0, slots := 0, locals := 0 } : Room) ([.ref (ad 0), .int a1, .int a2] : List Value) (wS G ad σ0) (some (.int q)) (wS G ad σ0) := by
  have k15 : Cond.fieldLink RX1 15 "PigeonRolls$Sheet" "length" "I" ∈ wsX1_hasRow := by decide +kernel
  have hinX1 : ∀ w ∈ u_ws RX1 TX1 3, w ∈ wsX1_hasRow := by decide +kernel
  refine Ct.of cX1_hasRow 3 (some .boolean) (by decide) rfl (Nat.le_of_ble_eq_true rfl) ?_
  intro p e s m below meth c ls S hr hlocks hf hl
  have S : CallFix p m c cX1_hasRow 3 s ([.ref (ad 0), .int a1, .int a2] : List Value).toArray wsX1_hasRow RX1 := S
  obtain ⟨hx, hb, hml, hown, hts⟩ := id S
  have hl : lv_has ls 3 [(0, .ref (ad 0)), (1, .int a1), (2, .int a2)] := hl
  unfold f_X1_hasRow at hF
  refine lv_iload_n hx hb dX1_hasRow_0 rfl (lv_at hl 1 rfl) ?_
  refine lv_if_lt (tgt := 30) hx hb dX1_hasRow_1 (by decide) (fun c1 => ?_) (fun c1 => ?_)
  · replace hF := (if_pos c1).symm.trans hF
    refine lv_iconst (v := 0) hx hb dX1_hasRow_30 (by decide) ?_
    exact g_zret S hr hlocks hf (by decide) (congrArg (fun z : Int32 => z) (Option.some.inj hF)) rfl dX1_hasRow_31
  · replace hF := (if_neg c1).symm.trans hF
    refine lv_iload_n hx hb dX1_hasRow_4 rfl (lv_at hl 2 rfl) ?_
    refine lv_if_lt (tgt := 30) hx hb dX1_hasRow_5 (by decide) (fun c2 => ?_) (fun c2 => ?_)
    · replace hF := (if_pos c2).symm.trans hF
      refine lv_iconst (v := 0) hx hb dX1_hasRow_30 (by decide) ?_
      exact g_zret S hr hlocks hf (by decide) (congrArg (fun z : Int32 => z) (Option.some.inj hF)) rfl dX1_hasRow_31
    · replace hF := (if_neg c2).symm.trans hF
      refine lv_iload_n hx hb dX1_hasRow_8 rfl (lv_at hl 2 rfl) ?_
      refine lv_aload_n hx hb dX1_hasRow_9 rfl (lv_at hl 0 rfl) ?_
      refine g_get (ci := 1) (C := RX1) (T := TX1) (N := 3) (v := .int (σ0 1 1)) S hf hinX1 0 rfl rfl 1 (by decide) k15 rfl rfl dX1_hasRow_10 ?_
      refine lv_icmp_gt (tgt := 30) hx hb dX1_hasRow_13 (by decide) (fun c3 => ?_) (fun c3 => ?_)
      · replace hF := (if_pos c3).symm.trans hF
        refine lv_iconst (v := 0) hx hb dX1_hasRow_30 (by decide) ?_
        exact g_zret S hr hlocks hf (by decide) (congrArg (fun z : Int32 => z) (Option.some.inj hF)) rfl dX1_hasRow_31
      · replace hF := (if_neg c3).symm.trans hF
        refine lv_iload_n hx hb dX1_hasRow_16 rfl (lv_at hl 1 rfl) ?_
        refine lv_aload_n hx hb dX1_hasRow_17 rfl (lv_at hl 0 rfl) ?_
        refine g_get (ci := 1) (C := RX1) (T := TX1) (N := 3) (v := .int (σ0 1 1)) S hf hinX1 0 rfl rfl 1 (by decide) k15 rfl rfl dX1_hasRow_18 ?_
        refine lv_iload_n hx hb dX1_hasRow_21 rfl (lv_at hl 2 rfl) ?_
        refine lv_isub hx hb dX1_hasRow_22 ?_
        refine lv_icmp_gt (tgt := 30) hx hb dX1_hasRow_23 (by decide) (fun c4 => ?_) (fun c4 => ?_)
        · replace hF := (if_pos c4).symm.trans hF
          refine lv_iconst (v := 0) hx hb dX1_hasRow_30 (by decide) ?_
          exact g_zret S hr hlocks hf (by decide) (congrArg (fun z : Int32 => z) (Option.some.inj hF)) rfl dX1_hasRow_31
        · replace hF := (if_neg c4).symm.trans hF
          refine lv_iconst (v := 1) hx hb dX1_hasRow_26 (by decide) ?_
          refine lv_goto (tgt := 31) hx hb dX1_hasRow_27 (by decide) ?_
          exact g_zret S hr hlocks hf (by decide) (congrArg (fun z : Int32 => z) (Option.some.inj hF)) rfl dX1_hasRow_31
