def f_X0_isOfKind_L10 (σ0 : K2) : Nat → Int32 → Int32 → Int32 → Option (Int32)
  | 0, _, _, _ => none
  | n + 1, x2, x3, x4 => if 7 ≤ x4 then (some (0)) else (if x3 < 0 then (some (0)) else (if x3 = x2 then (some (1)) else (if ix x3 7 then (f_X0_isOfKind_L10 σ0 n x2 (tbUnder x3.toNatClampNeg) (x4 + 1)) else none)))
def f_X0_isOfKind (σ0 : K2) (a1 : Int32) (a2 : Int32) : Option (Int32) := if ix a1 8 then (f_X0_isOfKind_L10 σ0 1000 a2 ((σ0 0) a1.toNatClampNeg) 0) else none
set_option maxHeartbeats 4000000 in
set_option maxRecDepth 100000 in
theorem c_X0_isOfKind (l : Launch) (G : GT) (ad : Nat → Nat) (σ0 : K2) (a1 : Int32) (a2 : Int32) (q : Int32) (hF : f_X0_isOfKind σ0 a1 a2 = some q) : Ct l G yX0_isOfKind wsX0_isOfKind ({ frames := 0, cells := 0, slots := 0, locals := 0 } : Room) ([.ref (ad 0), .int a1, .int a2] : List Value) (wK G ad σ0) (some (.int q)) (wK G ad σ0) := by
  have k36 : Cond.fieldLink RX0 36 "PigeonRolls$Kingdom" "kind" "[I" ∈ wsX0_isOfKind := by decide +kernel
  have k93 : Cond.fieldLink RX0 93 "PigeonRolls$Kingdom" "UNDER" "[I" ∈ wsX0_isOfKind := by decide +kernel
  have hinX0 : ∀ w ∈ u_ws RX0 TX0 16, w ∈ wsX0_isOfKind := by decide +kernel
  refine Ct.of cX0_isOfKind 5 (some .boolean) (by decide) rfl (Nat.le_of_ble_eq_true rfl) ?_
  intro p e s m below meth c ls S hr hlocks hf hl
  have S : CallFix p m c cX0_isOfKind 5 s ([.ref (ad 0), .int a1, .int a2] : List Value).toArray wsX0_isOfKind RX0 := S
  obtain ⟨hx, hb, hml, hown, hts⟩ := id S
  have hl : lv_has ls 5 [(0, .ref (ad 0)), (1, .int a1), (2, .int a2)] := hl
  have hL10 : ∀ (n : Nat) (x2 : Int32) (x3 : Int32) (x4 : Int32)  (H : Heap) (locs : List Loc) (ls : Array Slot), f_X0_isOfKind_L10 σ0 n x2 x3 x4 = some q → Fr G (va_A (wK G ad σ0) s.heap.size) s (wK G ad σ0) H locs → lv_has ls 5 [(2, .int x2), (3, .int x3), (4, .int x4)] → W p l e ({ frames := 0, cells := 0, slots := 0, locals := 0 } : Room) s m ([.ref (ad 0), .int a1, .int a2] : List Value).toArray below meth c H locs 0 0 (MQ below (CPost G (wK G ad σ0) s.heap.size (some (.int q)) (wK G ad σ0)) ([.ref (ad 0), .int a1, .int a2] : List Value).toArray s 0 0 (va_A (wK G ad σ0) s.heap.size)) (F0 m 10 ls []) := by
    intro n
    induction n with
    | zero =>
      intro x2 x3 x4 H locs ls hF hf hl
      exact absurd hF (by simp [f_X0_isOfKind_L10])
    | succ n ih10 =>
      intro x2 x3 x4 H locs ls hF hf hl
      rw [f_X0_isOfKind_L10] at hF
      refine lv_iload hx hb dX0_isOfKind_10 (lv_at hl 2 rfl) ?_
      refine lv_bipush (v := 7) hx hb dX0_isOfKind_12 (by decide) ?_
      refine lv_icmp_ge (tgt := 40) hx hb dX0_isOfKind_14 (by decide) (fun c2 => ?_) (fun c2 => ?_)
      · replace hF := (if_pos c2).symm.trans hF
        refine lv_iconst (v := 0) hx hb dX0_isOfKind_40 (by decide) ?_
        exact g_zret S hr hlocks hf (by decide) (congrArg (fun z : Int32 => z) (Option.some.inj hF)) rfl dX0_isOfKind_41
      · replace hF := (if_neg c2).symm.trans hF
        refine lv_iload_n hx hb dX0_isOfKind_17 rfl (lv_at hl 1 rfl) ?_
        refine lv_if_lt (tgt := 40) hx hb dX0_isOfKind_18 (by decide) (fun c3 => ?_) (fun c3 => ?_)
        · replace hF := (if_pos c3).symm.trans hF
          refine lv_iconst (v := 0) hx hb dX0_isOfKind_40 (by decide) ?_
          exact g_zret S hr hlocks hf (by decide) (congrArg (fun z : Int32 => z) (Option.some.inj hF)) rfl dX0_isOfKind_41
        · replace hF := (if_neg c3).symm.trans hF
          refine lv_iload_n hx hb dX0_isOfKind_21 rfl (lv_at hl 1 rfl) ?_
          refine lv_iload_n hx hb dX0_isOfKind_22 rfl (lv_at hl 0 rfl) ?_
          refine lv_icmp_ne (tgt := 28) hx hb dX0_isOfKind_23 (by decide) (fun c4 => ?_) (fun c4 => ?_)
          · replace hF := (if_neg c4).symm.trans hF
            refine g_gets S hf hf.2.2.2.2.2.2.1 k93 dX0_isOfKind_28 ?_
            refine lv_iload_n hx hb dX0_isOfKind_31 rfl (lv_at hl 1 rfl) ?_
            obtain ⟨g5, hF⟩ := gd_some hF
            refine g_tald S hf hf.2.2.2.2.2.2.1 g5 dX0_isOfKind_32 ?_
            refine lv_istore_n (lv' := [(3, .int (tbUnder x3.toNatClampNeg)), (2, .int x2), (4, .int x4)]) hx hb dX0_isOfKind_33 rfl hl (by decide) rfl (fun ls hl => ?_)
            refine lv_iinc (v := x4 + 1) (lv' := [(4, .int (x4 + 1)), (3, .int (tbUnder x3.toNatClampNeg)), (2, .int x2)]) hx hb dX0_isOfKind_34 hl (k := 2) rfl rfl (by decide) rfl (fun ls hl => ?_)
            refine lv_goto (tgt := 10) hx hb dX0_isOfKind_37 (by decide) ?_
            exact ih10 x2 (tbUnder x3.toNatClampNeg) (x4 + 1) _ _ _ hF hf (lv_sub hl [2, 1, 0] rfl)
          · replace hF := (if_pos c4).symm.trans hF
            refine lv_iconst (v := 1) hx hb dX0_isOfKind_26 (by decide) ?_
            exact g_zret S hr hlocks hf (by decide) (congrArg (fun z : Int32 => z) (Option.some.inj hF)) rfl dX0_isOfKind_27
  unfold f_X0_isOfKind at hF
  refine lv_aload_n hx hb dX0_isOfKind_0 rfl (lv_at hl 0 rfl) ?_
  refine g_get (ci := 0) (C := RX0) (T := TX0) (N := 16) (v := .ref (ad 4)) S hf hinX0 0 rfl rfl 7 (by decide) k36 rfl rfl dX0_isOfKind_1 ?_
  refine lv_iload_n hx hb dX0_isOfKind_4 rfl (lv_at hl 1 rfl) ?_
  obtain ⟨g1, hF⟩ := gd_some hF
  refine g_ald (v := (σ0 0) a1.toNatClampNeg) S hf 4 rfl g1 rfl dX0_isOfKind_5 ?_
  refine lv_istore_n (lv' := [(3, .int ((σ0 0) a1.toNatClampNeg)), (0, .ref (ad 0)), (1, .int a1), (2, .int a2)]) hx hb dX0_isOfKind_6 rfl hl (by decide) rfl (fun ls hl => ?_)
  refine lv_iconst (v := 0) hx hb dX0_isOfKind_7 (by decide) ?_
  refine lv_istore (lv' := [(4, .int 0), (3, .int ((σ0 0) a1.toNatClampNeg)), (0, .ref (ad 0)), (1, .int a1), (2, .int a2)]) hx hb dX0_isOfKind_8 hl (by decide) rfl (fun ls hl => ?_)
  exact hL10 1000 a2 ((σ0 0) a1.toNatClampNeg) 0 _ _ _ hF hf (lv_sub hl [4, 1, 0] rfl)
def f_X0_deadSet_L4 (σ0 : K2) : Nat → Int32 → Int32 → Option (Int32)
  | 0, _, _ => none
  | n + 1, x1, x2 => if (σ0 11 3) ≤ x2 then (some (x1)) else (Option.bind (f_X0_isDead σ0 x2) (fun q2 => if q2 = 0 then (f_X0_deadSet_L4 σ0 n x1 (x2 + 1)) else (f_X0_deadSet_L4 σ0 n (x1 ||| (1 <<< (x2 &&& 31))) (x2 + 1))))
def f_X0_deadSet (σ0 : K2) : Option (Int32) := f_X0_deadSet_L4 σ0 1000 0 0
set_option maxHeartbeats 4000000 in
set_option maxRecDepth 100000 in
theorem c_X0_deadSet (l : Launch) (G : GT) (ad : Nat → Nat) (σ0 : K2) (q : Int32) (hF : f_X0_deadSet σ0 = some q) : Ct l G yX0_deadSet wsX0_deadSet ({ frames := 1, cells := 0, slots := 0, locals := 21 } : Room) ([.ref (ad 0)] : List Value) (wK G ad σ0) (some (.int q)) (wK G ad σ0) := by
  have k21 : Cond.fieldLink RX0 21 "PigeonRolls$Kingdom" "birds" "I" ∈ wsX0_deadSet := by decide +kernel
  have hinX0 : ∀ w ∈ u_ws RX0 TX0 16, w ∈ wsX0_deadSet := by decide +kernel
  refine Ct.of cX0_deadSet 3 (some .int) (by decide) rfl (Nat.le_of_ble_eq_true rfl) ?_
  intro p e s m below meth c ls S hr hlocks hf hl
  have S : CallFix p m c cX0_deadSet 3 s ([.ref (ad 0)] : List Value).toArray wsX0_deadSet RX0 := S
  obtain ⟨hx, hb, hml, hown, hts⟩ := id S
  have hl : lv_has ls 3 [(0, .ref (ad 0))] := hl
  have hL4 : ∀ (n : Nat) (x1 : Int32) (x2 : Int32)  (H : Heap) (locs : List Loc) (ls : Array Slot), f_X0_deadSet_L4 σ0 n x1 x2 = some q → Fr G (va_A (wK G ad σ0) s.heap.size) s (wK G ad σ0) H locs → lv_has ls 3 [(0, .ref (ad 0)), (1, .int x1), (2, .int x2)] → W p l e ({ frames := 1, cells := 0, slots := 0, locals := 21 } : Room) s m ([.ref (ad 0)] : List Value).toArray below meth c H locs 0 0 (MQ below (CPost G (wK G ad σ0) s.heap.size (some (.int q)) (wK G ad σ0)) ([.ref (ad 0)] : List Value).toArray s 0 0 (va_A (wK G ad σ0) s.heap.size)) (F0 m 4 ls []) := by
    intro n
    induction n with
    | zero =>
      intro x1 x2 H locs ls hF hf hl
      exact absurd hF (by simp [f_X0_deadSet_L4])
    | succ n ih4 =>
      intro x1 x2 H locs ls hF hf hl
      rw [f_X0_deadSet_L4] at hF
      refine lv_iload_n hx hb dX0_deadSet_4 rfl (lv_at hl 2 rfl) ?_
      refine lv_aload_n hx hb dX0_deadSet_5 rfl (lv_at hl 0 rfl) ?_
      refine g_get (ci := 0) (C := RX0) (T := TX0) (N := 16) (v := .int (σ0 11 3)) S hf hinX0 0 rfl rfl 3 (by decide) k21 rfl rfl dX0_deadSet_6 ?_
      refine lv_icmp_ge (tgt := 32) hx hb dX0_deadSet_9 (by decide) (fun c1 => ?_) (fun c1 => ?_)
      · replace hF := (if_pos c1).symm.trans hF
        refine lv_iload_n hx hb dX0_deadSet_32 rfl (lv_at hl 1 rfl) ?_
        exact g_iret S hr hlocks hf (congrArg (fun z : Int32 => z) (Option.some.inj hF)) rfl dX0_deadSet_33
      · replace hF := (if_neg c1).symm.trans hF
        refine lv_aload_n hx hb dX0_deadSet_12 rfl (lv_at hl 0 rfl) ?_
        refine lv_iload_n hx hb dX0_deadSet_13 rfl (lv_at hl 2 rfl) ?_
        obtain ⟨q2, h3, hF⟩ := Option.bind_eq_some_iff.mp hF
        refine g_cv0 (o := some (.int q2)) (As := [.int x2]) (rest := []) (st1 := [.int q2]) (ci := 0) S hf (c_X0_isDead l G ad σ0 x2 q2 h3) (cwV 1 hts gX0_deadSet_X0_isDead rfl rfl rfl (by decide +kernel) ⟨Nat.le_of_ble_eq_true rfl, Nat.le_of_ble_eq_true rfl⟩) rfl rfl rfl 0 rfl rfl hl.1 rfl rfl (Nat.le_of_ble_eq_true rfl) ⟨Nat.zero_le _, Nat.zero_le _⟩ dX0_deadSet_14 (fun H locs hf => ?_)
        have hf : Fr G (va_A (wK G ad σ0) s.heap.size) s (wK G ad σ0) H locs := hf
        refine lv_if_eq (tgt := 26) hx hb dX0_deadSet_17 (by decide) (fun c4 => ?_) (fun c4 => ?_)
        · replace hF := (if_pos c4).symm.trans hF
          refine lv_iinc (v := x2 + 1) (lv' := [(2, .int (x2 + 1)), (0, .ref (ad 0)), (1, .int x1)]) hx hb dX0_deadSet_26 hl (k := 2) rfl rfl (by decide) rfl (fun ls hl => ?_)
          refine lv_goto (tgt := 4) hx hb dX0_deadSet_29 (by decide) ?_
          exact ih4 x1 (x2 + 1) _ _ _ hF hf (lv_sub hl [1, 2, 0] rfl)
        · replace hF := (if_neg c4).symm.trans hF
          refine lv_iload_n hx hb dX0_deadSet_20 rfl (lv_at hl 1 rfl) ?_
          refine lv_iconst (v := 1) hx hb dX0_deadSet_21 (by decide) ?_
          refine lv_iload_n hx hb dX0_deadSet_22 rfl (lv_at hl 2 rfl) ?_
          refine lv_ishl hx hb dX0_deadSet_23 ?_
          refine lv_ior hx hb dX0_deadSet_24 ?_
          refine lv_istore_n (lv' := [(1, .int (x1 ||| (1 <<< (x2 &&& 31)))), (0, .ref (ad 0)), (2, .int x2)]) hx hb dX0_deadSet_25 rfl hl (by decide) rfl (fun ls hl => ?_)
          refine lv_iinc (v := x2 + 1) (lv' := [(2, .int (x2 + 1)), (1, .int (x1 ||| (1 <<< (x2 &&& 31)))), (0, .ref (ad 0))]) hx hb dX0_deadSet_26 hl (k := 2) rfl rfl (by decide) rfl (fun ls hl => ?_)
          refine lv_goto (tgt := 4) hx hb dX0_deadSet_29 (by decide) ?_
          exact ih4 (x1 ||| (1 <<< (x2 &&& 31))) (x2 + 1) _ _ _ hF hf (lv_sub hl [2, 1, 0] rfl)
  unfold f_X0_deadSet at hF
  refine lv_iconst (v := 0) hx hb dX0_deadSet_0 (by decide) ?_
  refine lv_istore_n (lv' := [(1, .int 0), (0, .ref (ad 0))]) hx hb dX0_deadSet_1 rfl hl (by decide) rfl (fun ls hl => ?_)
  refine lv_iconst (v := 0) hx hb dX0_deadSet_2 (by decide) ?_
  refine lv_istore_n (lv' := [(2, .int 0), (1, .int 0), (0, .ref (ad 0))]) hx hb dX0_deadSet_3 rfl hl (by decide) rfl (fun ls hl => ?_)
  exact hL4 1000 0 0 _ _ _ hF hf (lv_sub hl [2, 1, 0] rfl)
def f_X0_loftSet_L4 (σ0 : K2) : Nat → Int32 → Int32 → Int32 → Option (Int32)
  | 0, _, _, _ => none
  | n + 1, x1, x2, x3 => if (σ0 11 3) ≤ x3 then (some (x2)) else (if ix x3 8 then (if ((σ0 1) x3.toNatClampNeg) = x1 then (f_X0_loftSet_L4 σ0 n x1 (x2 ||| (1 <<< (x3 &&& 31))) (x3 + 1)) else (f_X0_loftSet_L4 σ0 n x1 x2 (x3 + 1))) else none)
def f_X0_loftSet (σ0 : K2) (a1 : Int32) : Option (Int32) := f_X0_loftSet_L4 σ0 1000 a1 0 0
set_option maxHeartbeats 4000000 in
set_option maxRecDepth 100000 in
theorem c_X0_loftSet (l : Launch) (G : GT) (ad : Nat → Nat) (σ0 : K2) (a1 : Int32) (q : Int32) (hF : f_X0_loftSet σ0 a1 = some q) : Ct l G yX0_loftSet wsX0_loftSet ({ frames := 0, cells := 0, slots := 0, locals := 0 } : Room) ([.ref (ad 0), .int a1] : List Value) (wK G ad σ0) (some (.int q)) (wK G ad σ0) := by
  have k21 : Cond.fieldLink RX0 21 "PigeonRolls$Kingdom" "birds" "I" ∈ wsX0_loftSet := by decide +kernel
  have k39 : Cond.fieldLink RX0 39 "PigeonRolls$Kingdom" "loft" "[I" ∈ wsX0_loftSet := by decide +kernel
  have hinX0 : ∀ w ∈ u_ws RX0 TX0 16, w ∈ wsX0_loftSet := by decide +kernel
  refine Ct.of cX0_loftSet 4 (some .int) (by decide) rfl (Nat.le_of_ble_eq_true rfl) ?_
  intro p e s m below meth c ls S hr hlocks hf hl
  have S : CallFix p m c cX0_loftSet 4 s ([.ref (ad 0), .int a1] : List Value).toArray wsX0_loftSet RX0 := S
  obtain ⟨hx, hb, hml, hown, hts⟩ := id S
  have hl : lv_has ls 4 [(0, .ref (ad 0)), (1, .int a1)] := hl
  have hL4 : ∀ (n : Nat) (x1 : Int32) (x2 : Int32) (x3 : Int32)  (H : Heap) (locs : List Loc) (ls : Array Slot), f_X0_loftSet_L4 σ0 n x1 x2 x3 = some q → Fr G (va_A (wK G ad σ0) s.heap.size) s (wK G ad σ0) H locs → lv_has ls 4 [(0, .ref (ad 0)), (1, .int x1), (2, .int x2), (3, .int x3)] → W p l e ({ frames := 0, cells := 0, slots := 0, locals := 0 } : Room) s m ([.ref (ad 0), .int a1] : List Value).toArray below meth c H locs 0 0 (MQ below (CPost G (wK G ad σ0) s.heap.size (some (.int q)) (wK G ad σ0)) ([.ref (ad 0), .int a1] : List Value).toArray s 0 0 (va_A (wK G ad σ0) s.heap.size)) (F0 m 4 ls []) := by
    intro n
    induction n with
    | zero =>
      intro x1 x2 x3 H locs ls hF hf hl
      exact absurd hF (by simp [f_X0_loftSet_L4])
    | succ n ih4 =>
      intro x1 x2 x3 H locs ls hF hf hl
      rw [f_X0_loftSet_L4] at hF
      refine lv_iload_n hx hb dX0_loftSet_4 rfl (lv_at hl 3 rfl) ?_
      refine lv_aload_n hx hb dX0_loftSet_5 rfl (lv_at hl 0 rfl) ?_
      refine g_get (ci := 0) (C := RX0) (T := TX0) (N := 16) (v := .int (σ0 11 3)) S hf hinX0 0 rfl rfl 3 (by decide) k21 rfl rfl dX0_loftSet_6 ?_
      refine lv_icmp_ge (tgt := 34) hx hb dX0_loftSet_9 (by decide) (fun c1 => ?_) (fun c1 => ?_)
      · replace hF := (if_pos c1).symm.trans hF
        refine lv_iload_n hx hb dX0_loftSet_34 rfl (lv_at hl 2 rfl) ?_
        exact g_iret S hr hlocks hf (congrArg (fun z : Int32 => z) (Option.some.inj hF)) rfl dX0_loftSet_35
      · replace hF := (if_neg c1).symm.trans hF
        refine lv_aload_n hx hb dX0_loftSet_12 rfl (lv_at hl 0 rfl) ?_
        refine g_get (ci := 0) (C := RX0) (T := TX0) (N := 16) (v := .ref (ad 5)) S hf hinX0 0 rfl rfl 8 (by decide) k39 rfl rfl dX0_loftSet_13 ?_
        refine lv_iload_n hx hb dX0_loftSet_16 rfl (lv_at hl 3 rfl) ?_
        obtain ⟨g2, hF⟩ := gd_some hF
        refine g_ald (v := (σ0 1) x3.toNatClampNeg) S hf 5 rfl g2 rfl dX0_loftSet_17 ?_
        refine lv_iload_n hx hb dX0_loftSet_18 rfl (lv_at hl 1 rfl) ?_
        refine lv_icmp_ne (tgt := 28) hx hb dX0_loftSet_19 (by decide) (fun c3 => ?_) (fun c3 => ?_)
        · replace hF := (if_neg c3).symm.trans hF
          refine lv_iinc (v := x3 + 1) (lv' := [(3, .int (x3 + 1)), (0, .ref (ad 0)), (1, .int x1), (2, .int x2)]) hx hb dX0_loftSet_28 hl (k := 3) rfl rfl (by decide) rfl (fun ls hl => ?_)
          refine lv_goto (tgt := 4) hx hb dX0_loftSet_31 (by decide) ?_
          exact ih4 x1 x2 (x3 + 1) _ _ _ hF hf (lv_sub hl [1, 2, 3, 0] rfl)
        · replace hF := (if_pos c3).symm.trans hF
          refine lv_iload_n hx hb dX0_loftSet_22 rfl (lv_at hl 2 rfl) ?_
          refine lv_iconst (v := 1) hx hb dX0_loftSet_23 (by decide) ?_
          refine lv_iload_n hx hb dX0_loftSet_24 rfl (lv_at hl 3 rfl) ?_
          refine lv_ishl hx hb dX0_loftSet_25 ?_
          refine lv_ior hx hb dX0_loftSet_26 ?_
          refine lv_istore_n (lv' := [(2, .int (x2 ||| (1 <<< (x3 &&& 31)))), (0, .ref (ad 0)), (1, .int x1), (3, .int x3)]) hx hb dX0_loftSet_27 rfl hl (by decide) rfl (fun ls hl => ?_)
          refine lv_iinc (v := x3 + 1) (lv' := [(3, .int (x3 + 1)), (2, .int (x2 ||| (1 <<< (x3 &&& 31)))), (0, .ref (ad 0)), (1, .int x1)]) hx hb dX0_loftSet_28 hl (k := 3) rfl rfl (by decide) rfl (fun ls hl => ?_)
          refine lv_goto (tgt := 4) hx hb dX0_loftSet_31 (by decide) ?_
          exact ih4 x1 (x2 ||| (1 <<< (x3 &&& 31))) (x3 + 1) _ _ _ hF hf (lv_sub hl [2, 3, 1, 0] rfl)
  unfold f_X0_loftSet at hF
  refine lv_iconst (v := 0) hx hb dX0_loftSet_0 (by decide) ?_
  refine lv_istore_n (lv' := [(2, .int 0), (0, .ref (ad 0)), (1, .int a1)]) hx hb dX0_loftSet_1 rfl hl (by decide) rfl (fun ls hl => ?_)
  refine lv_iconst (v := 0) hx hb dX0_loftSet_2 (by decide) ?_
  refine lv_istore_n (lv' := [(3, .int 0), (2, .int 0), (0, .ref (ad 0)), (1, .int a1)]) hx hb dX0_loftSet_3 rfl hl (by decide) rfl (fun ls hl => ?_)
  exact hL4 1000 a1 0 0 _ _ _ hF hf (lv_sub hl [2, 3, 1, 0] rfl)
def f_X0_owedSet_L4 (σ0 : K2) : Nat → Int32 → Int32 → Option (Int32)
  | 0, _, _ => none
  | n + 1, x1, x2 => if (σ0 11 3) ≤ x2 then (some (x1)) else (if ix x2 8 then (if ((σ0 7) x2.toNatClampNeg) ≤ 0 then (f_X0_owedSet_L4 σ0 n x1 (x2 + 1)) else (f_X0_owedSet_L4 σ0 n (x1 ||| (1 <<< (x2 &&& 31))) (x2 + 1))) else none)
def f_X0_owedSet (σ0 : K2) : Option (Int32) := f_X0_owedSet_L4 σ0 1000 0 0
set_option maxHeartbeats 4000000 in
set_option maxRecDepth 100000 in
theorem c_X0_owedSet (l : Launch) (G : GT) (ad : Nat → Nat) (σ0 : K2) (q : Int32) (hF : f_X0_owedSet σ0 = some q) : Ct l G yX0_owedSet wsX0_owedSet ({ frames := 0, cells := 0, slots := 0, locals := 0 } : Room) ([.ref (ad 0)] : List Value) (wK G ad σ0) (some (.int q)) (wK G ad σ0) := by
  have k21 : Cond.fieldLink RX0 21 "PigeonRolls$Kingdom" "birds" "I" ∈ wsX0_owedSet := by decide +kernel
  have k57 : Cond.fieldLink RX0 57 "PigeonRolls$Kingdom" "owed" "[I" ∈ wsX0_owedSet := by decide +kernel
  have hinX0 : ∀ w ∈ u_ws RX0 TX0 16, w ∈ wsX0_owedSet := by decide +kernel
  refine Ct.of cX0_owedSet 3 (some .int) (by decide) rfl (Nat.le_of_ble_eq_true rfl) ?_
  intro p e s m below meth c ls S hr hlocks hf hl
  have S : CallFix p m c cX0_owedSet 3 s ([.ref (ad 0)] : List Value).toArray wsX0_owedSet RX0 := S
  obtain ⟨hx, hb, hml, hown, hts⟩ := id S
  have hl : lv_has ls 3 [(0, .ref (ad 0))] := hl
  have hL4 : ∀ (n : Nat) (x1 : Int32) (x2 : Int32)  (H : Heap) (locs : List Loc) (ls : Array Slot), f_X0_owedSet_L4 σ0 n x1 x2 = some q → Fr G (va_A (wK G ad σ0) s.heap.size) s (wK G ad σ0) H locs → lv_has ls 3 [(0, .ref (ad 0)), (1, .int x1), (2, .int x2)] → W p l e ({ frames := 0, cells := 0, slots := 0, locals := 0 } : Room) s m ([.ref (ad 0)] : List Value).toArray below meth c H locs 0 0 (MQ below (CPost G (wK G ad σ0) s.heap.size (some (.int q)) (wK G ad σ0)) ([.ref (ad 0)] : List Value).toArray s 0 0 (va_A (wK G ad σ0) s.heap.size)) (F0 m 4 ls []) := by
    intro n
    induction n with
    | zero =>
      intro x1 x2 H locs ls hF hf hl
      exact absurd hF (by simp [f_X0_owedSet_L4])
    | succ n ih4 =>
      intro x1 x2 H locs ls hF hf hl
      rw [f_X0_owedSet_L4] at hF
      refine lv_iload_n hx hb dX0_owedSet_4 rfl (lv_at hl 2 rfl) ?_
      refine lv_aload_n hx hb dX0_owedSet_5 rfl (lv_at hl 0 rfl) ?_
      refine g_get (ci := 0) (C := RX0) (T := TX0) (N := 16) (v := .int (σ0 11 3)) S hf hinX0 0 rfl rfl 3 (by decide) k21 rfl rfl dX0_owedSet_6 ?_
      refine lv_icmp_ge (tgt := 33) hx hb dX0_owedSet_9 (by decide) (fun c1 => ?_) (fun c1 => ?_)
      · replace hF := (if_pos c1).symm.trans hF
        refine lv_iload_n hx hb dX0_owedSet_33 rfl (lv_at hl 1 rfl) ?_
        exact g_iret S hr hlocks hf (congrArg (fun z : Int32 => z) (Option.some.inj hF)) rfl dX0_owedSet_34
      · replace hF := (if_neg c1).symm.trans hF
        refine lv_aload_n hx hb dX0_owedSet_12 rfl (lv_at hl 0 rfl) ?_
        refine g_get (ci := 0) (C := RX0) (T := TX0) (N := 16) (v := .ref (ad 11)) S hf hinX0 0 rfl rfl 14 (by decide) k57 rfl rfl dX0_owedSet_13 ?_
        refine lv_iload_n hx hb dX0_owedSet_16 rfl (lv_at hl 2 rfl) ?_
        obtain ⟨g2, hF⟩ := gd_some hF
        refine g_ald (v := (σ0 7) x2.toNatClampNeg) S hf 11 rfl g2 rfl dX0_owedSet_17 ?_
        refine lv_if_le (tgt := 27) hx hb dX0_owedSet_18 (by decide) (fun c3 => ?_) (fun c3 => ?_)
        · replace hF := (if_pos c3).symm.trans hF
          refine lv_iinc (v := x2 + 1) (lv' := [(2, .int (x2 + 1)), (0, .ref (ad 0)), (1, .int x1)]) hx hb dX0_owedSet_27 hl (k := 2) rfl rfl (by decide) rfl (fun ls hl => ?_)
          refine lv_goto (tgt := 4) hx hb dX0_owedSet_30 (by decide) ?_
          exact ih4 x1 (x2 + 1) _ _ _ hF hf (lv_sub hl [1, 2, 0] rfl)
        · replace hF := (if_neg c3).symm.trans hF
          refine lv_iload_n hx hb dX0_owedSet_21 rfl (lv_at hl 1 rfl) ?_
          refine lv_iconst (v := 1) hx hb dX0_owedSet_22 (by decide) ?_
          refine lv_iload_n hx hb dX0_owedSet_23 rfl (lv_at hl 2 rfl) ?_
          refine lv_ishl hx hb dX0_owedSet_24 ?_
          refine lv_ior hx hb dX0_owedSet_25 ?_
          refine lv_istore_n (lv' := [(1, .int (x1 ||| (1 <<< (x2 &&& 31)))), (0, .ref (ad 0)), (2, .int x2)]) hx hb dX0_owedSet_26 rfl hl (by decide) rfl (fun ls hl => ?_)
          refine lv_iinc (v := x2 + 1) (lv' := [(2, .int (x2 + 1)), (1, .int (x1 ||| (1 <<< (x2 &&& 31)))), (0, .ref (ad 0))]) hx hb dX0_owedSet_27 hl (k := 2) rfl rfl (by decide) rfl (fun ls hl => ?_)
          refine lv_goto (tgt := 4) hx hb dX0_owedSet_30 (by decide) ?_
          exact ih4 (x1 ||| (1 <<< (x2 &&& 31))) (x2 + 1) _ _ _ hF hf (lv_sub hl [2, 1, 0] rfl)
  unfold f_X0_owedSet at hF
  refine lv_iconst (v := 0) hx hb dX0_owedSet_0 (by decide) ?_
  refine lv_istore_n (lv' := [(1, .int 0), (0, .ref (ad 0))]) hx hb dX0_owedSet_1 rfl hl (by decide) rfl (fun ls hl => ?_)
  refine lv_iconst (v := 0) hx hb dX0_owedSet_2 (by decide) ?_
  refine lv_istore_n (lv' := [(2, .int 0), (1, .int 0), (0, .ref (ad 0))]) hx hb dX0_owedSet_3 rfl hl (by decide) rfl (fun ls hl => ?_)
  exact hL4 1000 0 0 _ _ _ hF hf (lv_sub hl [2, 1, 0] rfl)
def f_X0_issueSet_L8 (σ0 : K2) : Nat → Int32 → Int32 → Option (Int32)
  | 0, _, _ => none
  | n + 1, x2, x3 => if (σ0 11 3) ≤ x3 then (some (x2)) else (if ix x3 8 then (if ((σ0 2) x3.toNatClampNeg) < 0 then (f_X0_issueSet_L8 σ0 n x2 (x3 + 1)) else (if ((x2 >>> (((σ0 2) x3.toNatClampNeg) &&& 31)) &&& 1) = 1 then (f_X0_issueSet_L8 σ0 n (x2 ||| (1 <<< (x3 &&& 31))) (x3 + 1)) else (f_X0_issueSet_L8 σ0 n x2 (x3 + 1)))) else none)
def f_X0_issueSet (σ0 : K2) (a1 : Int32) : Option (Int32) := f_X0_issueSet_L8 σ0 1000 (1 <<< (a1 &&& 31)) (a1 + 1)
set_option maxHeartbeats 4000000 in
set_option maxRecDepth 100000 in
theorem c_X0_issueSet (l : Launch) (G : GT) (ad : Nat → Nat) (σ0 : K2) (a1 : Int32) (q : Int32) (hF : f_X0_issueSet σ0 a1 = some q) : Ct l G yX0_issueSet wsX0_issueSet ({ frames := 0, cells := 0, slots := 0, locals := 0 } : Room) ([.ref (ad 0), .int a1] : List Value) (wK G ad σ0) (some (.int q)) (wK G ad σ0) := by
  have k21 : Cond.fieldLink RX0 21 "PigeonRolls$Kingdom" "birds" "I" ∈ wsX0_issueSet := by decide +kernel
  have k42 : Cond.fieldLink RX0 42 "PigeonRolls$Kingdom" "from" "[I" ∈ wsX0_issueSet := by decide +kernel
  have hinX0 : ∀ w ∈ u_ws RX0 TX0 16, w ∈ wsX0_issueSet := by decide +kernel
  refine Ct.of cX0_issueSet 5 (some .int) (by decide) rfl (Nat.le_of_ble_eq_true rfl) ?_
  intro p e s m below meth c ls S hr hlocks hf hl
  have S : CallFix p m c cX0_issueSet 5 s ([.ref (ad 0), .int a1] : List Value).toArray wsX0_issueSet RX0 := S
  obtain ⟨hx, hb, hml, hown, hts⟩ := id S
  have hl : lv_has ls 5 [(0, .ref (ad 0)), (1, .int a1)] := hl
  have hL8 : ∀ (n : Nat) (x2 : Int32) (x3 : Int32)  (H : Heap) (locs : List Loc) (ls : Array Slot), f_X0_issueSet_L8 σ0 n x2 x3 = some q → Fr G (va_A (wK G ad σ0) s.heap.size) s (wK G ad σ0) H locs → lv_has ls 5 [(0, .ref (ad 0)), (2, .int x2), (3, .int x3)] → W p l e ({ frames := 0, cells := 0, slots := 0, locals := 0 } : Room) s m ([.ref (ad 0), .int a1] : List Value).toArray below meth c H locs 0 0 (MQ below (CPost G (wK G ad σ0) s.heap.size (some (.int q)) (wK G ad σ0)) ([.ref (ad 0), .int a1] : List Value).toArray s 0 0 (va_A (wK G ad σ0) s.heap.size)) (F0 m 8 ls []) := by
    intro n
    induction n with
    | zero =>
      intro x2 x3 H locs ls hF hf hl
      exact absurd hF (by simp [f_X0_issueSet_L8])
    | succ n ih8 =>
      intro x2 x3 H locs ls hF hf hl
      rw [f_X0_issueSet_L8] at hF
      refine lv_iload_n hx hb dX0_issueSet_8 rfl (lv_at hl 2 rfl) ?_
      refine lv_aload_n hx hb dX0_issueSet_9 rfl (lv_at hl 0 rfl) ?_
      refine g_get (ci := 0) (C := RX0) (T := TX0) (N := 16) (v := .int (σ0 11 3)) S hf hinX0 0 rfl rfl 3 (by decide) k21 rfl rfl dX0_issueSet_10 ?_
      refine lv_icmp_ge (tgt := 51) hx hb dX0_issueSet_13 (by decide) (fun c1 => ?_) (fun c1 => ?_)
      · replace hF := (if_pos c1).symm.trans hF
        refine lv_iload_n hx hb dX0_issueSet_51 rfl (lv_at hl 1 rfl) ?_
        exact g_iret S hr hlocks hf (congrArg (fun z : Int32 => z) (Option.some.inj hF)) rfl dX0_issueSet_52
      · replace hF := (if_neg c1).symm.trans hF
        refine lv_aload_n hx hb dX0_issueSet_16 rfl (lv_at hl 0 rfl) ?_
        refine g_get (ci := 0) (C := RX0) (T := TX0) (N := 16) (v := .ref (ad 6)) S hf hinX0 0 rfl rfl 9 (by decide) k42 rfl rfl dX0_issueSet_17 ?_
        refine lv_iload_n hx hb dX0_issueSet_20 rfl (lv_at hl 2 rfl) ?_
        obtain ⟨g2, hF⟩ := gd_some hF
        refine g_ald (v := (σ0 2) x3.toNatClampNeg) S hf 6 rfl g2 rfl dX0_issueSet_21 ?_
        refine lv_istore (lv' := [(4, .int ((σ0 2) x3.toNatClampNeg)), (0, .ref (ad 0)), (2, .int x2), (3, .int x3)]) hx hb dX0_issueSet_22 hl (by decide) rfl (fun ls hl => ?_)
        refine lv_iload hx hb dX0_issueSet_24 (lv_at hl 0 rfl) ?_
        refine lv_if_lt (tgt := 45) hx hb dX0_issueSet_26 (by decide) (fun c3 => ?_) (fun c3 => ?_)
        · replace hF := (if_pos c3).symm.trans hF
          refine lv_iinc (v := x3 + 1) (lv' := [(3, .int (x3 + 1)), (4, .int ((σ0 2) x3.toNatClampNeg)), (0, .ref (ad 0)), (2, .int x2)]) hx hb dX0_issueSet_45 hl (k := 3) rfl rfl (by decide) rfl (fun ls hl => ?_)
          refine lv_goto (tgt := 8) hx hb dX0_issueSet_48 (by decide) ?_
          exact ih8 x2 (x3 + 1) _ _ _ hF hf (lv_sub hl [2, 3, 0] rfl)
        · replace hF := (if_neg c3).symm.trans hF
          refine lv_iload_n hx hb dX0_issueSet_29 rfl (lv_at hl 2 rfl) ?_
          refine lv_iload hx hb dX0_issueSet_30 (lv_at hl 0 rfl) ?_
          refine lv_ishr hx hb dX0_issueSet_32 ?_
          refine lv_iconst (v := 1) hx hb dX0_issueSet_33 (by decide) ?_
          refine lv_iand hx hb dX0_issueSet_34 ?_
          refine lv_iconst (v := 1) hx hb dX0_issueSet_35 (by decide) ?_
          refine lv_icmp_ne (tgt := 45) hx hb dX0_issueSet_36 (by decide) (fun c4 => ?_) (fun c4 => ?_)
          · replace hF := (if_neg c4).symm.trans hF
            refine lv_iinc (v := x3 + 1) (lv' := [(3, .int (x3 + 1)), (4, .int ((σ0 2) x3.toNatClampNeg)), (0, .ref (ad 0)), (2, .int x2)]) hx hb dX0_issueSet_45 hl (k := 3) rfl rfl (by decide) rfl (fun ls hl => ?_)
            refine lv_goto (tgt := 8) hx hb dX0_issueSet_48 (by decide) ?_
            exact ih8 x2 (x3 + 1) _ _ _ hF hf (lv_sub hl [2, 3, 0] rfl)
          · replace hF := (if_pos c4).symm.trans hF
            refine lv_iload_n hx hb dX0_issueSet_39 rfl (lv_at hl 2 rfl) ?_
            refine lv_iconst (v := 1) hx hb dX0_issueSet_40 (by decide) ?_
            refine lv_iload_n hx hb dX0_issueSet_41 rfl (lv_at hl 3 rfl) ?_
            refine lv_ishl hx hb dX0_issueSet_42 ?_
            refine lv_ior hx hb dX0_issueSet_43 ?_
            refine lv_istore_n (lv' := [(2, .int (x2 ||| (1 <<< (x3 &&& 31)))), (4, .int ((σ0 2) x3.toNatClampNeg)), (0, .ref (ad 0)), (3, .int x3)]) hx hb dX0_issueSet_44 rfl hl (by decide) rfl (fun ls hl => ?_)
            refine lv_iinc (v := x3 + 1) (lv' := [(3, .int (x3 + 1)), (2, .int (x2 ||| (1 <<< (x3 &&& 31)))), (4, .int ((σ0 2) x3.toNatClampNeg)), (0, .ref (ad 0))]) hx hb dX0_issueSet_45 hl (k := 3) rfl rfl (by decide) rfl (fun ls hl => ?_)
            refine lv_goto (tgt := 8) hx hb dX0_issueSet_48 (by decide) ?_
            exact ih8 (x2 ||| (1 <<< (x3 &&& 31))) (x3 + 1) _ _ _ hF hf (lv_sub hl [3, 1, 0] rfl)
  unfold f_X0_issueSet at hF
  refine lv_iconst (v := 1) hx hb dX0_issueSet_0 (by decide) ?_
  refine lv_iload_n hx hb dX0_issueSet_1 rfl (lv_at hl 1 rfl) ?_
  refine lv_ishl hx hb dX0_issueSet_2 ?_
  refine lv_istore_n (lv' := [(2, .int (1 <<< (a1 &&& 31))), (0, .ref (ad 0)), (1, .int a1)]) hx hb dX0_issueSet_3 rfl hl (by decide) rfl (fun ls hl => ?_)
  refine lv_iload_n hx hb dX0_issueSet_4 rfl (lv_at hl 2 rfl) ?_
  refine lv_iconst (v := 1) hx hb dX0_issueSet_5 (by decide) ?_
  refine lv_iadd hx hb dX0_issueSet_6 ?_
  refine lv_istore_n (lv' := [(3, .int (a1 + 1)), (2, .int (1 <<< (a1 &&& 31))), (0, .ref (ad 0)), (1, .int a1)]) hx hb dX0_issueSet_7 rfl hl (by decide) rfl (fun ls hl => ?_)
  exact hL8 1000 (1 <<< (a1 &&& 31)) (a1 + 1) _ _ _ hF hf (lv_sub hl [2, 1, 0] rfl)
def f_X0_carriersAbove_L7 (σ0 : K2) : Nat → Int32 → Int32 → Int32 → Option (Int32)
  | 0, _, _, _ => none
  | n + 1, x2, x3, x4 => if 8 ≤ x4 then (some (x2)) else (if x3 < 0 then (some (x2)) else (if ix x3 8 then (if ((σ0 4) x3.toNatClampNeg) = 1 then (f_X0_carriersAbove_L7 σ0 n (x2 ||| (1 <<< (x3 &&& 31))) ((σ0 2) x3.toNatClampNeg) (x4 + 1)) else (f_X0_carriersAbove_L7 σ0 n x2 ((σ0 2) x3.toNatClampNeg) (x4 + 1))) else none))
def f_X0_carriersAbove (σ0 : K2) (a1 : Int32) : Option (Int32) := f_X0_carriersAbove_L7 σ0 1000 0 a1 0
set_option maxHeartbeats 4000000 in
set_option maxRecDepth 100000 in
theorem c_X0_carriersAbove (l : Launch) (G : GT) (ad : Nat → Nat) (σ0 : K2) (a1 : Int32) (q : Int32) (hF : f_X0_carriersAbove σ0 a1 = some q) : Ct l G yX0_carriersAbove wsX0_carriersAbove ({ frames := 0, cells := 0, slots := 0, locals := 0 } : Room) ([.ref (ad 0), .int a1] : List Value) (wK G ad σ0) (some (.int q)) (wK G ad σ0) := by
  have k48 : Cond.fieldLink RX0 48 "PigeonRolls$Kingdom" "carried" "[I" ∈ wsX0_carriersAbove := by decide +kernel
  have k42 : Cond.fieldLink RX0 42 "PigeonRolls$Kingdom" "from" "[I" ∈ wsX0_carriersAbove := by decide +kernel
  have hinX0 : ∀ w ∈ u_ws RX0 TX0 16, w ∈ wsX0_carriersAbove := by decide +kernel
  refine Ct.of cX0_carriersAbove 5 (some .int) (by decide) rfl (Nat.le_of_ble_eq_true rfl) ?_
  intro p e s m below meth c ls S hr hlocks hf hl
  have S : CallFix p m c cX0_carriersAbove 5 s ([.ref (ad 0), .int a1] : List Value).toArray wsX0_carriersAbove RX0 := S
  obtain ⟨hx, hb, hml, hown, hts⟩ := id S
  have hl : lv_has ls 5 [(0, .ref (ad 0)), (1, .int a1)] := hl
  have hL7 : ∀ (n : Nat) (x2 : Int32) (x3 : Int32) (x4 : Int32)  (H : Heap) (locs : List Loc) (ls : Array Slot), f_X0_carriersAbove_L7 σ0 n x2 x3 x4 = some q → Fr G (va_A (wK G ad σ0) s.heap.size) s (wK G ad σ0) H locs → lv_has ls 5 [(0, .ref (ad 0)), (2, .int x2), (3, .int x3), (4, .int x4)] → W p l e ({ frames := 0, cells := 0, slots := 0, locals := 0 } : Room) s m ([.ref (ad 0), .int a1] : List Value).toArray below meth c H locs 0 0 (MQ below (CPost G (wK G ad σ0) s.heap.size (some (.int q)) (wK G ad σ0)) ([.ref (ad 0), .int a1] : List Value).toArray s 0 0 (va_A (wK G ad σ0) s.heap.size)) (F0 m 7 ls []) := by
    intro n
    induction n with
    | zero =>
      intro x2 x3 x4 H locs ls hF hf hl
      exact absurd hF (by simp [f_X0_carriersAbove_L7])
    | succ n ih7 =>
      intro x2 x3 x4 H locs ls hF hf hl
      rw [f_X0_carriersAbove_L7] at hF
      refine lv_iload hx hb dX0_carriersAbove_7 (lv_at hl 3 rfl) ?_
      refine lv_bipush (v := 8) hx hb dX0_carriersAbove_9 (by decide) ?_
      refine lv_icmp_ge (tgt := 47) hx hb dX0_carriersAbove_11 (by decide) (fun c1 => ?_) (fun c1 => ?_)
      · replace hF := (if_pos c1).symm.trans hF
        refine lv_iload_n hx hb dX0_carriersAbove_47 rfl (lv_at hl 1 rfl) ?_
        exact g_iret S hr hlocks hf (congrArg (fun z : Int32 => z) (Option.some.inj hF)) rfl dX0_carriersAbove_48
      · replace hF := (if_neg c1).symm.trans hF
        refine lv_iload_n hx hb dX0_carriersAbove_14 rfl (lv_at hl 2 rfl) ?_
        refine lv_if_lt (tgt := 47) hx hb dX0_carriersAbove_15 (by decide) (fun c2 => ?_) (fun c2 => ?_)
        · replace hF := (if_pos c2).symm.trans hF
          refine lv_iload_n hx hb dX0_carriersAbove_47 rfl (lv_at hl 1 rfl) ?_
          exact g_iret S hr hlocks hf (congrArg (fun z : Int32 => z) (Option.some.inj hF)) rfl dX0_carriersAbove_48
        · replace hF := (if_neg c2).symm.trans hF
          refine lv_aload_n hx hb dX0_carriersAbove_18 rfl (lv_at hl 0 rfl) ?_
          refine g_get (ci := 0) (C := RX0) (T := TX0) (N := 16) (v := .ref (ad 8)) S hf hinX0 0 rfl rfl 11 (by decide) k48 rfl rfl dX0_carriersAbove_19 ?_
          refine lv_iload_n hx hb dX0_carriersAbove_22 rfl (lv_at hl 2 rfl) ?_
          obtain ⟨g3, hF⟩ := gd_some hF
          refine g_ald (v := (σ0 4) x3.toNatClampNeg) S hf 8 rfl g3 rfl dX0_carriersAbove_23 ?_
          refine lv_iconst (v := 1) hx hb dX0_carriersAbove_24 (by decide) ?_
          refine lv_icmp_ne (tgt := 34) hx hb dX0_carriersAbove_25 (by decide) (fun c4 => ?_) (fun c4 => ?_)
          · replace hF := (if_neg c4).symm.trans hF
            refine lv_aload_n hx hb dX0_carriersAbove_34 rfl (lv_at hl 0 rfl) ?_
            refine g_get (ci := 0) (C := RX0) (T := TX0) (N := 16) (v := .ref (ad 6)) S hf hinX0 0 rfl rfl 9 (by decide) k42 rfl rfl dX0_carriersAbove_35 ?_
            refine lv_iload_n hx hb dX0_carriersAbove_38 rfl (lv_at hl 2 rfl) ?_
            refine g_ald (v := (σ0 2) x3.toNatClampNeg) S hf 6 rfl g3 rfl dX0_carriersAbove_39 ?_
            refine lv_istore_n (lv' := [(3, .int ((σ0 2) x3.toNatClampNeg)), (0, .ref (ad 0)), (2, .int x2), (4, .int x4)]) hx hb dX0_carriersAbove_40 rfl hl (by decide) rfl (fun ls hl => ?_)
            refine lv_iinc (v := x4 + 1) (lv' := [(4, .int (x4 + 1)), (3, .int ((σ0 2) x3.toNatClampNeg)), (0, .ref (ad 0)), (2, .int x2)]) hx hb dX0_carriersAbove_41 hl (k := 3) rfl rfl (by decide) rfl (fun ls hl => ?_)
            refine lv_goto (tgt := 7) hx hb dX0_carriersAbove_44 (by decide) ?_
            exact ih7 x2 ((σ0 2) x3.toNatClampNeg) (x4 + 1) _ _ _ hF hf (lv_sub hl [2, 3, 1, 0] rfl)
          · replace hF := (if_pos c4).symm.trans hF
            refine lv_iload_n hx hb dX0_carriersAbove_28 rfl (lv_at hl 1 rfl) ?_
            refine lv_iconst (v := 1) hx hb dX0_carriersAbove_29 (by decide) ?_
            refine lv_iload_n hx hb dX0_carriersAbove_30 rfl (lv_at hl 2 rfl) ?_
            refine lv_ishl hx hb dX0_carriersAbove_31 ?_
            refine lv_ior hx hb dX0_carriersAbove_32 ?_
            refine lv_istore_n (lv' := [(2, .int (x2 ||| (1 <<< (x3 &&& 31)))), (0, .ref (ad 0)), (3, .int x3), (4, .int x4)]) hx hb dX0_carriersAbove_33 rfl hl (by decide) rfl (fun ls hl => ?_)
            refine lv_aload_n hx hb dX0_carriersAbove_34 rfl (lv_at hl 1 rfl) ?_
            refine g_get (ci := 0) (C := RX0) (T := TX0) (N := 16) (v := .ref (ad 6)) S hf hinX0 0 rfl rfl 9 (by decide) k42 rfl rfl dX0_carriersAbove_35 ?_
            refine lv_iload_n hx hb dX0_carriersAbove_38 rfl (lv_at hl 2 rfl) ?_
            refine g_ald (v := (σ0 2) x3.toNatClampNeg) S hf 6 rfl g3 rfl dX0_carriersAbove_39 ?_
            refine lv_istore_n (lv' := [(3, .int ((σ0 2) x3.toNatClampNeg)), (2, .int (x2 ||| (1 <<< (x3 &&& 31)))), (0, .ref (ad 0)), (4, .int x4)]) hx hb dX0_carriersAbove_40 rfl hl (by decide) rfl (fun ls hl => ?_)
            refine lv_iinc (v := x4 + 1) (lv' := [(4, .int (x4 + 1)), (3, .int ((σ0 2) x3.toNatClampNeg)), (2, .int (x2 ||| (1 <<< (x3 &&& 31)))), (0, .ref (ad 0))]) hx hb dX0_carriersAbove_41 hl (k := 3) rfl rfl (by decide) rfl (fun ls hl => ?_)
            refine lv_goto (tgt := 7) hx hb dX0_carriersAbove_44 (by decide) ?_
            exact ih7 (x2 ||| (1 <<< (x3 &&& 31))) ((σ0 2) x3.toNatClampNeg) (x4 + 1) _ _ _ hF hf (lv_sub hl [3, 2, 1, 0] rfl)
  unfold f_X0_carriersAbove at hF
  refine lv_iconst (v := 0) hx hb dX0_carriersAbove_0 (by decide) ?_
  refine lv_istore_n (lv' := [(2, .int 0), (0, .ref (ad 0)), (1, .int a1)]) hx hb dX0_carriersAbove_1 rfl hl (by decide) rfl (fun ls hl => ?_)
  refine lv_iload_n hx hb dX0_carriersAbove_2 rfl (lv_at hl 2 rfl) ?_
  refine lv_istore_n (lv' := [(3, .int a1), (2, .int 0), (0, .ref (ad 0)), (1, .int a1)]) hx hb dX0_carriersAbove_3 rfl hl (by decide) rfl (fun ls hl => ?_)
  refine lv_iconst (v := 0) hx hb dX0_carriersAbove_4 (by decide) ?_
  refine lv_istore (lv' := [(4, .int 0), (3, .int a1), (2, .int 0), (0, .ref (ad 0)), (1, .int a1)]) hx hb dX0_carriersAbove_5 hl (by decide) rfl (fun ls hl => ?_)
  exact hL7 1000 0 a1 0 _ _ _ hF hf (lv_sub hl [3, 2, 1, 0] rfl)
def f_X0_together_L4 (σ0 : K2) : Nat → Int32 → Int32 → Int32 → Option (Int32)
  | 0, _, _, _ => none
  | n + 1, x1, x2, x3 => if (σ0 11 3) ≤ x3 then (some (x2)) else (if ix x1 9 then (if ix x3 8 then (f_X0_together_L4 σ0 n x1 (x2 + (σ0 x1.toNatClampNeg x3.toNatClampNeg)) (x3 + 1)) else none) else none)
def f_X0_together (σ0 : K2) (a1 : Int32) : Option (Int32) := f_X0_together_L4 σ0 1000 a1 0 0
set_option maxHeartbeats 4000000 in
set_option maxRecDepth 100000 in
theorem c_X0_together (l : Launch) (G : GT) (ad : Nat → Nat) (σ0 : K2) (a1 : Int32) (q : Int32) (hF : f_X0_together σ0 a1 = some q) : Ct l G yX0_together wsX0_together ({ frames := 0, cells := 0, slots := 0, locals := 0 } : Room) ([.ref (ad 0), .int a1] : List Value) (wK G ad σ0) (some (.int q)) (wK G ad σ0) := by
  have k21 : Cond.fieldLink RX0 21 "PigeonRolls$Kingdom" "birds" "I" ∈ wsX0_together := by decide +kernel
  have k33 : Cond.fieldLink RX0 33 "PigeonRolls$Kingdom" "traits" "[[I" ∈ wsX0_together := by decide +kernel
  have hinX0 : ∀ w ∈ u_ws RX0 TX0 16, w ∈ wsX0_together := by decide +kernel
  refine Ct.of cX0_together 4 (some .int) (by decide) rfl (Nat.le_of_ble_eq_true rfl) ?_
  intro p e s m below meth c ls S hr hlocks hf hl
  have S : CallFix p m c cX0_together 4 s ([.ref (ad 0), .int a1] : List Value).toArray wsX0_together RX0 := S
  obtain ⟨hx, hb, hml, hown, hts⟩ := id S
  have hl : lv_has ls 4 [(0, .ref (ad 0)), (1, .int a1)] := hl
  have hL4 : ∀ (n : Nat) (x1 : Int32) (x2 : Int32) (x3 : Int32)  (H : Heap) (locs : List Loc) (ls : Array Slot), f_X0_together_L4 σ0 n x1 x2 x3 = some q → Fr G (va_A (wK G ad σ0) s.heap.size) s (wK G ad σ0) H locs → lv_has ls 4 [(0, .ref (ad 0)), (1, .int x1), (2, .int x2), (3, .int x3)] → W p l e ({ frames := 0, cells := 0, slots := 0, locals := 0 } : Room) s m ([.ref (ad 0), .int a1] : List Value).toArray below meth c H locs 0 0 (MQ below (CPost G (wK G ad σ0) s.heap.size (some (.int q)) (wK G ad σ0)) ([.ref (ad 0), .int a1] : List Value).toArray s 0 0 (va_A (wK G ad σ0) s.heap.size)) (F0 m 4 ls []) := by
    intro n
    induction n with
    | zero =>
      intro x1 x2 x3 H locs ls hF hf hl
      exact absurd hF (by simp [f_X0_together_L4])
    | succ n ih4 =>
      intro x1 x2 x3 H locs ls hF hf hl
      rw [f_X0_together_L4] at hF
      refine lv_iload_n hx hb dX0_together_4 rfl (lv_at hl 3 rfl) ?_
      refine lv_aload_n hx hb dX0_together_5 rfl (lv_at hl 0 rfl) ?_
      refine g_get (ci := 0) (C := RX0) (T := TX0) (N := 16) (v := .int (σ0 11 3)) S hf hinX0 0 rfl rfl 3 (by decide) k21 rfl rfl dX0_together_6 ?_
      refine lv_icmp_ge (tgt := 29) hx hb dX0_together_9 (by decide) (fun c1 => ?_) (fun c1 => ?_)
      · replace hF := (if_pos c1).symm.trans hF
        refine lv_iload_n hx hb dX0_together_29 rfl (lv_at hl 2 rfl) ?_
        exact g_iret S hr hlocks hf (congrArg (fun z : Int32 => z) (Option.some.inj hF)) rfl dX0_together_30
      · replace hF := (if_neg c1).symm.trans hF
        refine lv_iload_n hx hb dX0_together_12 rfl (lv_at hl 2 rfl) ?_
        refine lv_aload_n hx hb dX0_together_13 rfl (lv_at hl 0 rfl) ?_
        refine g_get (ci := 0) (C := RX0) (T := TX0) (N := 16) (v := .ref (ad 3)) S hf hinX0 0 rfl rfl 6 (by decide) k33 rfl rfl dX0_together_14 ?_
        refine lv_iload_n hx hb dX0_together_17 rfl (lv_at hl 1 rfl) ?_
        obtain ⟨g2, hF⟩ := gd_some hF
        refine g_aald (v := ad (4 + x1.toNatClampNeg)) (t0 := 1) S hf 3 rfl rfl rfl g2 (if_pos (ix_lt g2)) dX0_together_18 ?_
        refine lv_iload_n hx hb dX0_together_19 rfl (lv_at hl 3 rfl) ?_
        obtain ⟨g3, hF⟩ := gd_some hF
        refine g_ald (v := σ0 x1.toNatClampNeg x3.toNatClampNeg) S hf (4 + x1.toNatClampNeg) (wK_r (ix_lt g2)) g3 rfl dX0_together_20 ?_
        refine lv_iadd hx hb dX0_together_21 ?_
        refine lv_istore_n (lv' := [(2, .int (x2 + (σ0 x1.toNatClampNeg x3.toNatClampNeg))), (0, .ref (ad 0)), (1, .int x1), (3, .int x3)]) hx hb dX0_together_22 rfl hl (by decide) rfl (fun ls hl => ?_)
        refine lv_iinc (v := x3 + 1) (lv' := [(3, .int (x3 + 1)), (2, .int (x2 + (σ0 x1.toNatClampNeg x3.toNatClampNeg))), (0, .ref (ad 0)), (1, .int x1)]) hx hb dX0_together_23 hl (k := 3) rfl rfl (by decide) rfl (fun ls hl => ?_)
        refine lv_goto (tgt := 4) hx hb dX0_together_26 (by decide) ?_
        exact ih4 x1 (x2 + (σ0 x1.toNatClampNeg x3.toNatClampNeg)) (x3 + 1) _ _ _ hF hf (lv_sub hl [2, 3, 1, 0] rfl)
  unfold f_X0_together at hF
  refine lv_iconst (v := 0) hx hb dX0_together_0 (by decide) ?_
  refine lv_istore_n (lv' := [(2, .int 0), (0, .ref (ad 0)), (1, .int a1)]) hx hb dX0_together_1 rfl hl (by decide) rfl (fun ls hl => ?_)
  refine lv_iconst (v := 0) hx hb dX0_together_2 (by decide) ?_
  refine lv_istore_n (lv' := [(3, .int 0), (2, .int 0), (0, .ref (ad 0)), (1, .int a1)]) hx hb dX0_together_3 rfl hl (by decide) rfl (fun ls hl => ?_)
  exact hL4 1000 a1 0 0 _ _ _ hF hf (lv_sub hl [2, 3, 1, 0] rfl)
def f_X0_ratesTogether_L13 (σ0 : K2) : Nat → Int32 → Int32 → Int32 → Option (Int32)
  | 0, _, _, _ => none
  | n + 1, x1, x2, x3 => if (σ0 11 3) ≤ x3 then (some (x2)) else (if ((x1 >>> (x3 &&& 31)) &&& 1) = 1 then (Option.bind (f_X0_rateOf σ0 x3) (fun q7 => f_X0_ratesTogether_L13 σ0 n x1 (x2 + q7) (x3 + 1))) else (f_X0_ratesTogether_L13 σ0 n x1 x2 (x3 + 1)))
def f_X0_ratesTogether (σ0 : K2) : Option (Int32) := Option.bind (f_X0_lineSet σ0) (fun q1 => Option.bind (f_X0_drawSet σ0 q1) (fun q3 => f_X0_ratesTogether_L13 σ0 1000 q3 0 0))
set_option maxHeartbeats 4000000 in
set_option maxRecDepth 100000 in
theorem c_X0_ratesTogether (l : Launch) (G : GT) (ad : Nat → Nat) (σ0 : K2) (q : Int32) (hF : f_X0_ratesTogether σ0 = some q) : Ct l G yX0_ratesTogether wsX0_ratesTogether ({ frames := 3, cells := 0, slots := 0, locals := 65 } : Room) ([.ref (ad 0)] : List Value) (wK G ad σ0) (some (.int q)) (wK G ad σ0) := by
  have k21 : Cond.fieldLink RX0 21 "PigeonRolls$Kingdom" "birds" "I" ∈ wsX0_ratesTogether := by decide +kernel
  have hinX0 : ∀ w ∈ u_ws RX0 TX0 16, w ∈ wsX0_ratesTogether := by decide +kernel
  refine Ct.of cX0_ratesTogether 4 (some .int) (by decide) rfl (Nat.le_of_ble_eq_true rfl) ?_
  intro p e s m below meth c ls S hr hlocks hf hl
  have S : CallFix p m c cX0_ratesTogether 4 s ([.ref (ad 0)] : List Value).toArray wsX0_ratesTogether RX0 := S
  obtain ⟨hx, hb, hml, hown, hts⟩ := id S
  have hl : lv_has ls 4 [(0, .ref (ad 0))] := hl
  have hL13 : ∀ (n : Nat) (x1 : Int32) (x2 : Int32) (x3 : Int32)  (H : Heap) (locs : List Loc) (ls : Array Slot), f_X0_ratesTogether_L13 σ0 n x1 x2 x3 = some q → Fr G (va_A (wK G ad σ0) s.heap.size) s (wK G ad σ0) H locs → lv_has ls 4 [(0, .ref (ad 0)), (1, .int x1), (2, .int x2), (3, .int x3)] → W p l e ({ frames := 3, cells := 0, slots := 0, locals := 65 } : Room) s m ([.ref (ad 0)] : List Value).toArray below meth c H locs 0 0 (MQ below (CPost G (wK G ad σ0) s.heap.size (some (.int q)) (wK G ad σ0)) ([.ref (ad 0)] : List Value).toArray s 0 0 (va_A (wK G ad σ0) s.heap.size)) (F0 m 13 ls []) := by
    intro n
    induction n with
    | zero =>
      intro x1 x2 x3 H locs ls hF hf hl
      exact absurd hF (by simp [f_X0_ratesTogether_L13])
    | succ n ih13 =>
      intro x1 x2 x3 H locs ls hF hf hl
      rw [f_X0_ratesTogether_L13] at hF
      refine lv_iload_n hx hb dX0_ratesTogether_13 rfl (lv_at hl 3 rfl) ?_
      refine lv_aload_n hx hb dX0_ratesTogether_14 rfl (lv_at hl 0 rfl) ?_
      refine g_get (ci := 0) (C := RX0) (T := TX0) (N := 16) (v := .int (σ0 11 3)) S hf hinX0 0 rfl rfl 3 (by decide) k21 rfl rfl dX0_ratesTogether_15 ?_
      refine lv_icmp_ge (tgt := 44) hx hb dX0_ratesTogether_18 (by decide) (fun c5 => ?_) (fun c5 => ?_)
      · replace hF := (if_pos c5).symm.trans hF
        refine lv_iload_n hx hb dX0_ratesTogether_44 rfl (lv_at hl 2 rfl) ?_
        exact g_iret S hr hlocks hf (congrArg (fun z : Int32 => z) (Option.some.inj hF)) rfl dX0_ratesTogether_45
      · replace hF := (if_neg c5).symm.trans hF
        refine lv_iload_n hx hb dX0_ratesTogether_21 rfl (lv_at hl 1 rfl) ?_
        refine lv_iload_n hx hb dX0_ratesTogether_22 rfl (lv_at hl 3 rfl) ?_
        refine lv_ishr hx hb dX0_ratesTogether_23 ?_
        refine lv_iconst (v := 1) hx hb dX0_ratesTogether_24 (by decide) ?_
        refine lv_iand hx hb dX0_ratesTogether_25 ?_
        refine lv_iconst (v := 1) hx hb dX0_ratesTogether_26 (by decide) ?_
        refine lv_icmp_ne (tgt := 38) hx hb dX0_ratesTogether_27 (by decide) (fun c6 => ?_) (fun c6 => ?_)
        · replace hF := (if_neg c6).symm.trans hF
          refine lv_iinc (v := x3 + 1) (lv' := [(3, .int (x3 + 1)), (0, .ref (ad 0)), (1, .int x1), (2, .int x2)]) hx hb dX0_ratesTogether_38 hl (k := 3) rfl rfl (by decide) rfl (fun ls hl => ?_)
          refine lv_goto (tgt := 13) hx hb dX0_ratesTogether_41 (by decide) ?_
          exact ih13 x1 x2 (x3 + 1) _ _ _ hF hf (lv_sub hl [1, 2, 3, 0] rfl)
        · replace hF := (if_pos c6).symm.trans hF
          refine lv_iload_n hx hb dX0_ratesTogether_30 rfl (lv_at hl 2 rfl) ?_
          refine lv_aload_n hx hb dX0_ratesTogether_31 rfl (lv_at hl 0 rfl) ?_
          refine lv_iload_n hx hb dX0_ratesTogether_32 rfl (lv_at hl 3 rfl) ?_
          obtain ⟨q7, h8, hF⟩ := Option.bind_eq_some_iff.mp hF
          refine g_cv0 (o := some (.int q7)) (As := [.int x3]) (rest := [.int x2]) (st1 := [.int q7, .int x2]) (ci := 0) S hf (c_X0_rateOf l G ad σ0 x3 q7 h8) (cwV 1 hts gX0_ratesTogether_X0_rateOf rfl rfl rfl (by decide +kernel) ⟨Nat.le_of_ble_eq_true rfl, Nat.le_of_ble_eq_true rfl⟩) rfl rfl rfl 0 rfl rfl hl.1 rfl rfl (Nat.le_of_ble_eq_true rfl) ⟨Nat.zero_le _, Nat.zero_le _⟩ dX0_ratesTogether_33 (fun H locs hf => ?_)
          have hf : Fr G (va_A (wK G ad σ0) s.heap.size) s (wK G ad σ0) H locs := hf
          refine lv_iadd hx hb dX0_ratesTogether_36 ?_
          refine lv_istore_n (lv' := [(2, .int (x2 + q7)), (0, .ref (ad 0)), (1, .int x1), (3, .int x3)]) hx hb dX0_ratesTogether_37 rfl hl (by decide) rfl (fun ls hl => ?_)
          refine lv_iinc (v := x3 + 1) (lv' := [(3, .int (x3 + 1)), (2, .int (x2 + q7)), (0, .ref (ad 0)), (1, .int x1)]) hx hb dX0_ratesTogether_38 hl (k := 3) rfl rfl (by decide) rfl (fun ls hl => ?_)
          refine lv_goto (tgt := 13) hx hb dX0_ratesTogether_41 (by decide) ?_
          exact ih13 x1 (x2 + q7) (x3 + 1) _ _ _ hF hf (lv_sub hl [2, 3, 1, 0] rfl)
  unfold f_X0_ratesTogether at hF
  refine lv_aload_n hx hb dX0_ratesTogether_0 rfl (lv_at hl 0 rfl) ?_
  refine lv_aload_n hx hb dX0_ratesTogether_1 rfl (lv_at hl 0 rfl) ?_
  obtain ⟨q1, h2, hF⟩ := Option.bind_eq_some_iff.mp hF
  refine g_cv0 (o := some (.int q1)) (As := []) (rest := [.ref (ad 0)]) (st1 := [.int q1, .ref (ad 0)]) (ci := 0) S hf (c_X0_lineSet l G ad σ0 q1 h2) (cwV 0 hts gX0_ratesTogether_X0_lineSet rfl rfl rfl (by decide +kernel) ⟨Nat.le_of_ble_eq_true rfl, Nat.le_of_ble_eq_true rfl⟩) rfl rfl rfl 0 rfl rfl hl.1 rfl rfl (Nat.le_of_ble_eq_true rfl) ⟨Nat.zero_le _, Nat.zero_le _⟩ dX0_ratesTogether_2 (fun H locs hf => ?_)
  have hf : Fr G (va_A (wK G ad σ0) s.heap.size) s (wK G ad σ0) H locs := hf
  obtain ⟨q3, h4, hF⟩ := Option.bind_eq_some_iff.mp hF
  refine g_cv0 (o := some (.int q3)) (As := [.int q1]) (rest := []) (st1 := [.int q3]) (ci := 0) S hf (c_X0_drawSet l G ad σ0 q1 q3 h4) (cwV 1 hts gX0_ratesTogether_X0_drawSet rfl rfl rfl (by decide +kernel) ⟨Nat.le_of_ble_eq_true rfl, Nat.le_of_ble_eq_true rfl⟩) rfl rfl rfl 0 rfl rfl hl.1 rfl rfl (Nat.le_of_ble_eq_true rfl) ⟨Nat.zero_le _, Nat.zero_le _⟩ dX0_ratesTogether_5 (fun H locs hf => ?_)
  have hf : Fr G (va_A (wK G ad σ0) s.heap.size) s (wK G ad σ0) H locs := hf
  refine lv_istore_n (lv' := [(1, .int q3), (0, .ref (ad 0))]) hx hb dX0_ratesTogether_8 rfl hl (by decide) rfl (fun ls hl => ?_)
  refine lv_iconst (v := 0) hx hb dX0_ratesTogether_9 (by decide) ?_
  refine lv_istore_n (lv' := [(2, .int 0), (1, .int q3), (0, .ref (ad 0))]) hx hb dX0_ratesTogether_10 rfl hl (by decide) rfl (fun ls hl => ?_)
  refine lv_iconst (v := 0) hx hb dX0_ratesTogether_11 (by decide) ?_
  refine lv_istore_n (lv' := [(3, .int 0), (2, .int 0), (1, .int q3), (0, .ref (ad 0))]) hx hb dX0_ratesTogether_12 rfl hl (by decide) rfl (fun ls hl => ?_)
  exact hL13 1000 q3 0 0 _ _ _ hF hf (lv_sub hl [3, 2, 1, 0] rfl)
def f_X0_spotsHeld_L4 (σ0 : K2) : Nat → Int32 → Int32 → Option (Int32)
  | 0, _, _ => none
  | n + 1, x1, x2 => if 10 ≤ x2 then (some (x1)) else (if ix x2 10 then (if ((σ0 10) x2.toNatClampNeg) = (-1) then (f_X0_spotsHeld_L4 σ0 n x1 (x2 + 1)) else (f_X0_spotsHeld_L4 σ0 n (x1 + 1) (x2 + 1))) else none)
def f_X0_spotsHeld (σ0 : K2) : Option (Int32) := f_X0_spotsHeld_L4 σ0 1000 0 0
set_option maxHeartbeats 4000000 in
set_option maxRecDepth 100000 in
theorem c_X0_spotsHeld (l : Launch) (G : GT) (ad : Nat → Nat) (σ0 : K2) (q : Int32) (hF : f_X0_spotsHeld σ0 = some q) : Ct l G yX0_spotsHeld wsX0_spotsHeld ({ frames := 0, cells := 0, slots := 0, locals := 0 } : Room) ([.ref (ad 0)] : List Value) (wK G ad σ0) (some (.int q)) (wK G ad σ0) := by
  have k28 : Cond.fieldLink RX0 28 "PigeonRolls$Kingdom" "spots" "[I" ∈ wsX0_spotsHeld := by decide +kernel
  have hinX0 : ∀ w ∈ u_ws RX0 TX0 16, w ∈ wsX0_spotsHeld := by decide +kernel
  refine Ct.of cX0_spotsHeld 3 (some .int) (by decide) rfl (Nat.le_of_ble_eq_true rfl) ?_
  intro p e s m below meth c ls S hr hlocks hf hl
  have S : CallFix p m c cX0_spotsHeld 3 s ([.ref (ad 0)] : List Value).toArray wsX0_spotsHeld RX0 := S
  obtain ⟨hx, hb, hml, hown, hts⟩ := id S
  have hl : lv_has ls 3 [(0, .ref (ad 0))] := hl
  have hL4 : ∀ (n : Nat) (x1 : Int32) (x2 : Int32)  (H : Heap) (locs : List Loc) (ls : Array Slot), f_X0_spotsHeld_L4 σ0 n x1 x2 = some q → Fr G (va_A (wK G ad σ0) s.heap.size) s (wK G ad σ0) H locs → lv_has ls 3 [(0, .ref (ad 0)), (1, .int x1), (2, .int x2)] → W p l e ({ frames := 0, cells := 0, slots := 0, locals := 0 } : Room) s m ([.ref (ad 0)] : List Value).toArray below meth c H locs 0 0 (MQ below (CPost G (wK G ad σ0) s.heap.size (some (.int q)) (wK G ad σ0)) ([.ref (ad 0)] : List Value).toArray s 0 0 (va_A (wK G ad σ0) s.heap.size)) (F0 m 4 ls []) := by
    intro n
    induction n with
    | zero =>
      intro x1 x2 H locs ls hF hf hl
      exact absurd hF (by simp [f_X0_spotsHeld_L4])
    | succ n ih4 =>
      intro x1 x2 H locs ls hF hf hl
      rw [f_X0_spotsHeld_L4] at hF
      refine lv_iload_n hx hb dX0_spotsHeld_4 rfl (lv_at hl 2 rfl) ?_
      refine lv_bipush (v := 10) hx hb dX0_spotsHeld_5 (by decide) ?_
      refine lv_icmp_ge (tgt := 29) hx hb dX0_spotsHeld_7 (by decide) (fun c1 => ?_) (fun c1 => ?_)
      · replace hF := (if_pos c1).symm.trans hF
        refine lv_iload_n hx hb dX0_spotsHeld_29 rfl (lv_at hl 1 rfl) ?_
        exact g_iret S hr hlocks hf (congrArg (fun z : Int32 => z) (Option.some.inj hF)) rfl dX0_spotsHeld_30
      · replace hF := (if_neg c1).symm.trans hF
        refine lv_aload_n hx hb dX0_spotsHeld_10 rfl (lv_at hl 0 rfl) ?_
        refine g_get (ci := 0) (C := RX0) (T := TX0) (N := 16) (v := .ref (ad 2)) S hf hinX0 0 rfl rfl 5 (by decide) k28 rfl rfl dX0_spotsHeld_11 ?_
        refine lv_iload_n hx hb dX0_spotsHeld_14 rfl (lv_at hl 2 rfl) ?_
        obtain ⟨g2, hF⟩ := gd_some hF
        refine g_ald (v := (σ0 10) x2.toNatClampNeg) S hf 2 rfl g2 rfl dX0_spotsHeld_15 ?_
        refine lv_iconst (v := -1) hx hb dX0_spotsHeld_16 (by decide) ?_
        refine lv_icmp_eq (tgt := 23) hx hb dX0_spotsHeld_17 (by decide) (fun c3 => ?_) (fun c3 => ?_)
        · replace hF := (if_pos c3).symm.trans hF
          refine lv_iinc (v := x2 + 1) (lv' := [(2, .int (x2 + 1)), (0, .ref (ad 0)), (1, .int x1)]) hx hb dX0_spotsHeld_23 hl (k := 2) rfl rfl (by decide) rfl (fun ls hl => ?_)
          refine lv_goto (tgt := 4) hx hb dX0_spotsHeld_26 (by decide) ?_
          exact ih4 x1 (x2 + 1) _ _ _ hF hf (lv_sub hl [1, 2, 0] rfl)
        · replace hF := (if_neg c3).symm.trans hF
          refine lv_iinc (v := x1 + 1) (lv' := [(1, .int (x1 + 1)), (0, .ref (ad 0)), (2, .int x2)]) hx hb dX0_spotsHeld_20 hl (k := 1) rfl rfl (by decide) rfl (fun ls hl => ?_)
          refine lv_iinc (v := x2 + 1) (lv' := [(2, .int (x2 + 1)), (1, .int (x1 + 1)), (0, .ref (ad 0))]) hx hb dX0_spotsHeld_23 hl (k := 2) rfl rfl (by decide) rfl (fun ls hl => ?_)
          refine lv_goto (tgt := 4) hx hb dX0_spotsHeld_26 (by decide) ?_
          exact ih4 (x1 + 1) (x2 + 1) _ _ _ hF hf (lv_sub hl [2, 1, 0] rfl)
  unfold f_X0_spotsHeld at hF
  refine lv_iconst (v := 0) hx hb dX0_spotsHeld_0 (by decide) ?_
  refine lv_istore_n (lv' := [(1, .int 0), (0, .ref (ad 0))]) hx hb dX0_spotsHeld_1 rfl hl (by decide) rfl (fun ls hl => ?_)
  refine lv_iconst (v := 0) hx hb dX0_spotsHeld_2 (by decide) ?_
  refine lv_istore_n (lv' := [(2, .int 0), (1, .int 0), (0, .ref (ad 0))]) hx hb dX0_spotsHeld_3 rfl hl (by decide) rfl (fun ls hl => ?_)
  exact hL4 1000 0 0 _ _ _ hF hf (lv_sub hl [2, 1, 0] rfl)
def f_X0_drawOfChance (σ0 : K2) : Option (Int32 × K2) := some (iushr (((σ0 11 2) * 1103515245) + 12345) 8, va_up σ0 11 (upd (σ0 11) 2 (((σ0 11 2) * 1103515245) + 12345)))
set_option maxHeartbeats 4000000 in
set_option maxRecDepth 100000 in
theorem c_X0_drawOfChance (l : Launch) (G : GT) (ad : Nat → Nat) (σ0 : K2) (q : Int32 × K2) (hF : f_X0_drawOfChance σ0 = some q) : Ct l G yX0_drawOfChance wsX0_drawOfChance ({ frames := 0, cells := 0, slots := 0, locals := 0 } : Room) ([.ref (ad 0)] : List Value) (wK G ad σ0) (some (.int q.1)) (wK G ad q.2) := by
  have k18 : Cond.fieldLink RX0 18 "PigeonRolls$Kingdom" "chance" "I" ∈ wsX0_drawOfChance := by decide +kernel
  have kc112 : Cond.constant RX0 112 (1103515245) ∈ wsX0_drawOfChance := by decide +kernel
  have hinX0 : ∀ w ∈ u_ws RX0 TX0 16, w ∈ wsX0_drawOfChance := by decide +kernel
  refine Ct.of cX0_drawOfChance 1 (some .int) (by decide) rfl (Nat.le_of_ble_eq_true rfl) ?_
  intro p e s m below meth c ls S hr hlocks hf hl
  have S : CallFix p m c cX0_drawOfChance 1 s ([.ref (ad 0)] : List Value).toArray wsX0_drawOfChance RX0 := S
  obtain ⟨hx, hb, hml, hown, hts⟩ := id S
  have hl : lv_has ls 1 [(0, .ref (ad 0))] := hl
  unfold f_X0_drawOfChance at hF
  refine lv_aload_n hx hb dX0_drawOfChance_0 rfl (lv_at hl 0 rfl) ?_
  refine lv_aload_n hx hb dX0_drawOfChance_1 rfl (lv_at hl 0 rfl) ?_
  refine g_get (ci := 0) (C := RX0) (T := TX0) (N := 16) (v := .int (σ0 11 2)) S hf hinX0 0 rfl rfl 2 (by decide) k18 rfl rfl dX0_drawOfChance_2 ?_
  refine lv_ldc (v := 1103515245) hx hb hown (hts _ kc112) dX0_drawOfChance_5 ?_
  refine lv_imul hx hb dX0_drawOfChance_7 ?_
  refine lv_sipush (v := 12345) hx hb dX0_drawOfChance_8 (by decide) ?_
  refine lv_iadd hx hb dX0_drawOfChance_11 ?_
  refine g_put (ci := 0) (C := RX0) (T := TX0) (N := 16) (ww' := wK G ad (va_up σ0 11 (upd (σ0 11) 2 (((σ0 11 2) * 1103515245) + 12345)))) S hf hinX0 tyX0 tyX0_ok nmX0 0 rfl rfl 2 (by decide) k18 rfl rfl rfl rfl (Nat.le_of_ble_eq_true rfl) rfl dX0_drawOfChance_12 (fun H locs hf => ?_)
  refine lv_aload_n hx hb dX0_drawOfChance_15 rfl (lv_at hl 0 rfl) ?_
  refine g_get (ci := 0) (C := RX0) (T := TX0) (N := 16) (v := .int (((σ0 11 2) * 1103515245) + 12345)) S hf hinX0 0 rfl rfl 2 (by decide) k18 rfl rfl dX0_drawOfChance_16 ?_
  refine lv_bipush (v := 8) hx hb dX0_drawOfChance_19 (by decide) ?_
  refine lv_iushr (v := iushr (((σ0 11 2) * 1103515245) + 12345) 8) hx hb dX0_drawOfChance_21 rfl ?_
  exact g_iret S hr hlocks hf (congrArg (fun z : Int32 × K2 => z.1) (Option.some.inj hF)) (congrArg (fun z : Int32 × K2 => wK G ad z.2) (Option.some.inj hF)) dX0_drawOfChance_22
def f_X0_mealsTogether_L4 (σ0 : K2) : Nat → Int32 → Int32 → Int32 → Option (Int32)
  | 0, _, _, _ => none
  | n + 1, x1, x2, x3 => if (σ0 11 3) ≤ x3 then (some (x2)) else (if ((x1 >>> (x3 &&& 31)) &&& 1) = 1 then (Option.bind (f_X0_mealOf σ0 x3) (fun q3 => f_X0_mealsTogether_L4 σ0 n x1 (x2 + q3) (x3 + 1))) else (f_X0_mealsTogether_L4 σ0 n x1 x2 (x3 + 1)))
def f_X0_mealsTogether (σ0 : K2) (a1 : Int32) : Option (Int32) := f_X0_mealsTogether_L4 σ0 1000 a1 0 0
set_option maxHeartbeats 4000000 in
set_option maxRecDepth 100000 in
theorem c_X0_mealsTogether (l : Launch) (G : GT) (ad : Nat → Nat) (σ0 : K2) (a1 : Int32) (q : Int32) (hF : f_X0_mealsTogether σ0 a1 = some q) : Ct l G yX0_mealsTogether wsX0_mealsTogether ({ frames := 1, cells := 0, slots := 0, locals := 21 } : Room) ([.ref (ad 0), .int a1] : List Value) (wK G ad σ0) (some (.int q)) (wK G ad σ0) := by
  have k21 : Cond.fieldLink RX0 21 "PigeonRolls$Kingdom" "birds" "I" ∈ wsX0_mealsTogether := by decide +kernel
  have hinX0 : ∀ w ∈ u_ws RX0 TX0 16, w ∈ wsX0_mealsTogether := by decide +kernel
  refine Ct.of cX0_mealsTogether 4 (some .int) (by decide) rfl (Nat.le_of_ble_eq_true rfl) ?_
  intro p e s m below meth c ls S hr hlocks hf hl
  have S : CallFix p m c cX0_mealsTogether 4 s ([.ref (ad 0), .int a1] : List Value).toArray wsX0_mealsTogether RX0 := S
  obtain ⟨hx, hb, hml, hown, hts⟩ := id S
  have hl : lv_has ls 4 [(0, .ref (ad 0)), (1, .int a1)] := hl
  have hL4 : ∀ (n : Nat) (x1 : Int32) (x2 : Int32) (x3 : Int32)  (H : Heap) (locs : List Loc) (ls : Array Slot), f_X0_mealsTogether_L4 σ0 n x1 x2 x3 = some q → Fr G (va_A (wK G ad σ0) s.heap.size) s (wK G ad σ0) H locs → lv_has ls 4 [(0, .ref (ad 0)), (1, .int x1), (2, .int x2), (3, .int x3)] → W p l e ({ frames := 1, cells := 0, slots := 0, locals := 21 } : Room) s m ([.ref (ad 0), .int a1] : List Value).toArray below meth c H locs 0 0 (MQ below (CPost G (wK G ad σ0) s.heap.size (some (.int q)) (wK G ad σ0)) ([.ref (ad 0), .int a1] : List Value).toArray s 0 0 (va_A (wK G ad σ0) s.heap.size)) (F0 m 4 ls []) := by
    intro n
    induction n with
    | zero =>
      intro x1 x2 x3 H locs ls hF hf hl
      exact absurd hF (by simp [f_X0_mealsTogether_L4])
    | succ n ih4 =>
      intro x1 x2 x3 H locs ls hF hf hl
      rw [f_X0_mealsTogether_L4] at hF
      refine lv_iload_n hx hb dX0_mealsTogether_4 rfl (lv_at hl 3 rfl) ?_
      refine lv_aload_n hx hb dX0_mealsTogether_5 rfl (lv_at hl 0 rfl) ?_
      refine g_get (ci := 0) (C := RX0) (T := TX0) (N := 16) (v := .int (σ0 11 3)) S hf hinX0 0 rfl rfl 3 (by decide) k21 rfl rfl dX0_mealsTogether_6 ?_
      refine lv_icmp_ge (tgt := 35) hx hb dX0_mealsTogether_9 (by decide) (fun c1 => ?_) (fun c1 => ?_)
      · replace hF := (if_pos c1).symm.trans hF
        refine lv_iload_n hx hb dX0_mealsTogether_35 rfl (lv_at hl 2 rfl) ?_
        exact g_iret S hr hlocks hf (congrArg (fun z : Int32 => z) (Option.some.inj hF)) rfl dX0_mealsTogether_36
      · replace hF := (if_neg c1).symm.trans hF
        refine lv_iload_n hx hb dX0_mealsTogether_12 rfl (lv_at hl 1 rfl) ?_
        refine lv_iload_n hx hb dX0_mealsTogether_13 rfl (lv_at hl 3 rfl) ?_
        refine lv_ishr hx hb dX0_mealsTogether_14 ?_
        refine lv_iconst (v := 1) hx hb dX0_mealsTogether_15 (by decide) ?_
        refine lv_iand hx hb dX0_mealsTogether_16 ?_
        refine lv_iconst (v := 1) hx hb dX0_mealsTogether_17 (by decide) ?_
        refine lv_icmp_ne (tgt := 29) hx hb dX0_mealsTogether_18 (by decide) (fun c2 => ?_) (fun c2 => ?_)
        · replace hF := (if_neg c2).symm.trans hF
          refine lv_iinc (v := x3 + 1) (lv' := [(3, .int (x3 + 1)), (0, .ref (ad 0)), (1, .int x1), (2, .int x2)]) hx hb dX0_mealsTogether_29 hl (k := 3) rfl rfl (by decide) rfl (fun ls hl => ?_)
          refine lv_goto (tgt := 4) hx hb dX0_mealsTogether_32 (by decide) ?_
          exact ih4 x1 x2 (x3 + 1) _ _ _ hF hf (lv_sub hl [1, 2, 3, 0] rfl)
        · replace hF := (if_pos c2).symm.trans hF
          refine lv_iload_n hx hb dX0_mealsTogether_21 rfl (lv_at hl 2 rfl) ?_
          refine lv_aload_n hx hb dX0_mealsTogether_22 rfl (lv_at hl 0 rfl) ?_
          refine lv_iload_n hx hb dX0_mealsTogether_23 rfl (lv_at hl 3 rfl) ?_
          obtain ⟨q3, h4, hF⟩ := Option.bind_eq_some_iff.mp hF
          refine g_cv0 (o := some (.int q3)) (As := [.int x3]) (rest := [.int x2]) (st1 := [.int q3, .int x2]) (ci := 0) S hf (c_X0_mealOf l G ad σ0 x3 q3 h4) (cwV 1 hts gX0_mealsTogether_X0_mealOf rfl rfl rfl (by decide +kernel) ⟨Nat.le_of_ble_eq_true rfl, Nat.le_of_ble_eq_true rfl⟩) rfl rfl rfl 0 rfl rfl hl.1 rfl rfl (Nat.le_of_ble_eq_true rfl) ⟨Nat.zero_le _, Nat.zero_le _⟩ dX0_mealsTogether_24 (fun H locs hf => ?_)
          have hf : Fr G (va_A (wK G ad σ0) s.heap.size) s (wK G ad σ0) H locs := hf
          refine lv_iadd hx hb dX0_mealsTogether_27 ?_
          refine lv_istore_n (lv' := [(2, .int (x2 + q3)), (0, .ref (ad 0)), (1, .int x1), (3, .int x3)]) hx hb dX0_mealsTogether_28 rfl hl (by decide) rfl (fun ls hl => ?_)
          refine lv_iinc (v := x3 + 1) (lv' := [(3, .int (x3 + 1)), (2, .int (x2 + q3)), (0, .ref (ad 0)), (1, .int x1)]) hx hb dX0_mealsTogether_29 hl (k := 3) rfl rfl (by decide) rfl (fun ls hl => ?_)
          refine lv_goto (tgt := 4) hx hb dX0_mealsTogether_32 (by decide) ?_
          exact ih4 x1 (x2 + q3) (x3 + 1) _ _ _ hF hf (lv_sub hl [2, 3, 1, 0] rfl)
  unfold f_X0_mealsTogether at hF
  refine lv_iconst (v := 0) hx hb dX0_mealsTogether_0 (by decide) ?_
  refine lv_istore_n (lv' := [(2, .int 0), (0, .ref (ad 0)), (1, .int a1)]) hx hb dX0_mealsTogether_1 rfl hl (by decide) rfl (fun ls hl => ?_)
  refine lv_iconst (v := 0) hx hb dX0_mealsTogether_2 (by decide) ?_
  refine lv_istore_n (lv' := [(3, .int 0), (2, .int 0), (0, .ref (ad 0)), (1, .int a1)]) hx hb dX0_mealsTogether_3 rfl hl (by decide) rfl (fun ls hl => ?_)
  exact hL4 1000 a1 0 0 _ _ _ hF hf (lv_sub hl [2, 3, 1, 0] rfl)
def f_X0_growOlder_L2 : Nat → K2 → Int32 → Option (K2)
  | 0, _, _ => none
  | n + 1, σ, x1 => if (σ 11 3) ≤ x1 then (some (σ)) else (if ix x1 8 then (f_X0_growOlder_L2 n (va_up σ 3 (upd (σ 3) x1.toNatClampNeg (imin 9999 (((σ 3) x1.toNatClampNeg) + 1)))) (x1 + 1)) else none)
def f_X0_growOlder (σ0 : K2) : Option (K2) := f_X0_growOlder_L2 1000 σ0 0
set_option maxHeartbeats 4000000 in
set_option maxRecDepth 100000 in
theorem c_X0_growOlder (l : Launch) (G : GT) (ad : Nat → Nat) (σ0 : K2) (q : K2) (hF : f_X0_growOlder σ0 = some q) : Ct l G yX0_growOlder wsX0_growOlder ({ frames := 1, cells := 0, slots := 0, locals := 21 } : Room) ([.ref (ad 0)] : List Value) (wK G ad σ0) (none) (wK G ad q) := by
  have k21 : Cond.fieldLink RX0 21 "PigeonRolls$Kingdom" "birds" "I" ∈ wsX0_growOlder := by decide +kernel
  have k45 : Cond.fieldLink RX0 45 "PigeonRolls$Kingdom" "age" "[I" ∈ wsX0_growOlder := by decide +kernel
  have k118 : Cond.methodLink RX0 118 Lib.Math.min.name ∈ wsX0_growOlder := by decide +kernel
  have ksmin : Cond.static Lib.Math.min.name ∈ wsX0_growOlder := by decide +kernel
  have kiM : Cond.initialized "java/lang/Math" ∈ wsX0_growOlder := by decide +kernel
  have komin : Cond.code Lib.Math.min.name Lib.Math.min.code 2 (some .int) ∈ wsX0_growOlder := by decide +kernel
  have hinX0 : ∀ w ∈ u_ws RX0 TX0 16, w ∈ wsX0_growOlder := by decide +kernel
  refine Ct.of cX0_growOlder 2 none (by decide) rfl (Nat.le_of_ble_eq_true rfl) ?_
  intro p e s m below meth c ls S hr hlocks hf hl
  have S : CallFix p m c cX0_growOlder 2 s ([.ref (ad 0)] : List Value).toArray wsX0_growOlder RX0 := S
  obtain ⟨hx, hb, hml, hown, hts⟩ := id S
  have hl : lv_has ls 2 [(0, .ref (ad 0))] := hl
  have hL2 : ∀ (n : Nat) (σ : K2) (x1 : Int32)  (H : Heap) (locs : List Loc) (ls : Array Slot), f_X0_growOlder_L2 n σ x1 = some q → Fr G (va_A (wK G ad σ0) s.heap.size) s (wK G ad σ) H locs → lv_has ls 2 [(0, .ref (ad 0)), (1, .int x1)] → W p l e ({ frames := 1, cells := 0, slots := 0, locals := 21 } : Room) s m ([.ref (ad 0)] : List Value).toArray below meth c H locs 0 0 (MQ below (CPost G (wK G ad σ0) s.heap.size (none) (wK G ad q)) ([.ref (ad 0)] : List Value).toArray s 0 0 (va_A (wK G ad σ0) s.heap.size)) (F0 m 2 ls []) := by
    intro n
    induction n with
    | zero =>
      intro σ x1 H locs ls hF hf hl
      exact absurd hF (by simp [f_X0_growOlder_L2])
    | succ n ih2 =>
      intro σ x1 H locs ls hF hf hl
      rw [f_X0_growOlder_L2] at hF
      refine lv_iload_n hx hb dX0_growOlder_2 rfl (lv_at hl 1 rfl) ?_
      refine lv_aload_n hx hb dX0_growOlder_3 rfl (lv_at hl 0 rfl) ?_
      refine g_get (ci := 0) (C := RX0) (T := TX0) (N := 16) (v := .int (σ 11 3)) S hf hinX0 0 rfl rfl 3 (by decide) k21 rfl rfl dX0_growOlder_4 ?_
      refine lv_icmp_ge (tgt := 36) hx hb dX0_growOlder_7 (by decide) (fun c1 => ?_) (fun c1 => ?_)
      · replace hF := (if_pos c1).symm.trans hF
        exact g_vret S hr hlocks hf (congrArg (fun z : K2 => wK G ad z) (Option.some.inj hF)) dX0_growOlder_36
      · replace hF := (if_neg c1).symm.trans hF
        refine lv_aload_n hx hb dX0_growOlder_10 rfl (lv_at hl 0 rfl) ?_
        refine g_get (ci := 0) (C := RX0) (T := TX0) (N := 16) (v := .ref (ad 7)) S hf hinX0 0 rfl rfl 10 (by decide) k45 rfl rfl dX0_growOlder_11 ?_
        refine lv_iload_n hx hb dX0_growOlder_14 rfl (lv_at hl 1 rfl) ?_
        refine lv_sipush (v := 9999) hx hb dX0_growOlder_15 (by decide) ?_
        refine lv_aload_n hx hb dX0_growOlder_18 rfl (lv_at hl 0 rfl) ?_
        refine g_get (ci := 0) (C := RX0) (T := TX0) (N := 16) (v := .ref (ad 7)) S hf hinX0 0 rfl rfl 10 (by decide) k45 rfl rfl dX0_growOlder_19 ?_
        refine lv_iload_n hx hb dX0_growOlder_22 rfl (lv_at hl 1 rfl) ?_
        obtain ⟨g2, hF⟩ := gd_some hF
        refine g_ald (v := (σ 3) x1.toNatClampNeg) S hf 7 rfl g2 rfl dX0_growOlder_23 ?_
        refine lv_iconst (v := 1) hx hb dX0_growOlder_24 (by decide) ?_
        refine lv_iadd hx hb dX0_growOlder_25 ?_
        refine va_mmin hx hb (hml.trans hl.1.symm) hown (hts _ k118) (hts _ ksmin) (hts _ kiM) (hts _ komin) (Nat.le_of_ble_eq_true rfl) (Nat.le_of_ble_eq_true rfl) (Nat.zero_le _) (Nat.zero_le _) dX0_growOlder_26 ?_
        refine g_ast (ww' := wK G ad (va_up σ 3 (upd (σ 3) x1.toNatClampNeg (imin 9999 (((σ 3) x1.toNatClampNeg) + 1))))) S hf 7 rfl g2 rfl dX0_growOlder_29 (fun H locs hf => ?_)
        refine lv_iinc (v := x1 + 1) (lv' := [(1, .int (x1 + 1)), (0, .ref (ad 0))]) hx hb dX0_growOlder_30 hl (k := 1) rfl rfl (by decide) rfl (fun ls hl => ?_)
        refine lv_goto (tgt := 2) hx hb dX0_growOlder_33 (by decide) ?_
        exact ih2 (va_up σ 3 (upd (σ 3) x1.toNatClampNeg (imin 9999 (((σ 3) x1.toNatClampNeg) + 1)))) (x1 + 1) _ _ _ hF hf (lv_sub hl [1, 0] rfl)
  unfold f_X0_growOlder at hF
  refine lv_iconst (v := 0) hx hb dX0_growOlder_0 (by decide) ?_
  refine lv_istore_n (lv' := [(1, .int 0), (0, .ref (ad 0))]) hx hb dX0_growOlder_1 rfl hl (by decide) rfl (fun ls hl => ?_)
  exact hL2 1000 σ0 0 _ _ _ hF hf (lv_sub hl [1, 0] rfl)
def f_X0_payQuarter_L2 : Nat → K2 → Int32 → Int32 → Option (K2)
  | 0, _, _, _ => none
  | n + 1, σ, x1, x2 => if (σ 11 3) ≤ x2 then (some (σ)) else (if ((x1 >>> (x2 &&& 31)) &&& 1) = 1 then (Option.bind (f_X0_rateOf σ x2) (fun q3 => if ix x2 8 then (f_X0_payQuarter_L2 n (va_up (va_up (va_up σ 7 (upd (σ 7) x2.toNatClampNeg (imin 9999 ((q3 + ((σ 7) x2.toNatClampNeg)) - (imin (q3 + ((σ 7) x2.toNatClampNeg)) (σ 11 1)))))) 8 (upd (σ 8) x2.toNatClampNeg (imin 9999 (((σ 8) x2.toNatClampNeg) + (imin (q3 + ((σ 7) x2.toNatClampNeg)) (σ 11 1)))))) 11 (upd (σ 11) 1 ((σ 11 1) - (imin (q3 + ((σ 7) x2.toNatClampNeg)) (σ 11 1))))) x1 (x2 + 1)) else none)) else (f_X0_payQuarter_L2 n σ x1 (x2 + 1)))
def f_X0_payQuarter (σ0 : K2) (a1 : Int32) : Option (K2) := f_X0_payQuarter_L2 1000 σ0 a1 0
set_option maxHeartbeats 4000000 in
set_option maxRecDepth 100000 in
theorem c_X0_payQuarter (l : Launch) (G : GT) (ad : Nat → Nat) (σ0 : K2) (a1 : Int32) (q : K2) (hF : f_X0_payQuarter σ0 a1 = some q) : Ct l G yX0_payQuarter wsX0_payQuarter ({ frames := 3, cells := 0, slots := 0, locals := 65 } : Room) ([.ref (ad 0), .int a1] : List Value) (wK G ad σ0) (none) (wK G ad q) := by
  have k21 : Cond.fieldLink RX0 21 "PigeonRolls$Kingdom" "birds" "I" ∈ wsX0_payQuarter := by decide +kernel
  have k57 : Cond.fieldLink RX0 57 "PigeonRolls$Kingdom" "owed" "[I" ∈ wsX0_payQuarter := by decide +kernel
  have k15 : Cond.fieldLink RX0 15 "PigeonRolls$Kingdom" "treasury" "I" ∈ wsX0_payQuarter := by decide +kernel
  have k118 : Cond.methodLink RX0 118 Lib.Math.min.name ∈ wsX0_payQuarter := by decide +kernel
  have ksmin : Cond.static Lib.Math.min.name ∈ wsX0_payQuarter := by decide +kernel
  have kiM : Cond.initialized "java/lang/Math" ∈ wsX0_payQuarter := by decide +kernel
  have komin : Cond.code Lib.Math.min.name Lib.Math.min.code 2 (some .int) ∈ wsX0_payQuarter := by decide +kernel
  have k60 : Cond.fieldLink RX0 60 "PigeonRolls$Kingdom" "paid" "[I" ∈ wsX0_payQuarter := by decide +kernel
  have hinX0 : ∀ w ∈ u_ws RX0 TX0 16, w ∈ wsX0_payQuarter := by decide +kernel
  refine Ct.of cX0_payQuarter 5 none (by decide) rfl (Nat.le_of_ble_eq_true rfl) ?_
  intro p e s m below meth c ls S hr hlocks hf hl
  have S : CallFix p m c cX0_payQuarter 5 s ([.ref (ad 0), .int a1] : List Value).toArray wsX0_payQuarter RX0 := S
  obtain ⟨hx, hb, hml, hown, hts⟩ := id S
  have hl : lv_has ls 5 [(0, .ref (ad 0)), (1, .int a1)] := hl
  have hL2 : ∀ (n : Nat) (σ : K2) (x1 : Int32) (x2 : Int32)  (H : Heap) (locs : List Loc) (ls : Array Slot), f_X0_payQuarter_L2 n σ x1 x2 = some q → Fr G (va_A (wK G ad σ0) s.heap.size) s (wK G ad σ) H locs → lv_has ls 5 [(0, .ref (ad 0)), (1, .int x1), (2, .int x2)] → W p l e ({ frames := 3, cells := 0, slots := 0, locals := 65 } : Room) s m ([.ref (ad 0), .int a1] : List Value).toArray below meth c H locs 0 0 (MQ below (CPost G (wK G ad σ0) s.heap.size (none) (wK G ad q)) ([.ref (ad 0), .int a1] : List Value).toArray s 0 0 (va_A (wK G ad σ0) s.heap.size)) (F0 m 2 ls []) := by
    intro n
    induction n with
    | zero =>
      intro σ x1 x2 H locs ls hF hf hl
      exact absurd hF (by simp [f_X0_payQuarter_L2])
    | succ n ih2 =>
      intro σ x1 x2 H locs ls hF hf hl
      rw [f_X0_payQuarter_L2] at hF
      refine lv_iload_n hx hb dX0_payQuarter_2 rfl (lv_at hl 2 rfl) ?_
      refine lv_aload_n hx hb dX0_payQuarter_3 rfl (lv_at hl 0 rfl) ?_
      refine g_get (ci := 0) (C := RX0) (T := TX0) (N := 16) (v := .int (σ 11 3)) S hf hinX0 0 rfl rfl 3 (by decide) k21 rfl rfl dX0_payQuarter_4 ?_
      refine lv_icmp_ge (tgt := 96) hx hb dX0_payQuarter_7 (by decide) (fun c1 => ?_) (fun c1 => ?_)
      · replace hF := (if_pos c1).symm.trans hF
        exact g_vret S hr hlocks hf (congrArg (fun z : K2 => wK G ad z) (Option.some.inj hF)) dX0_payQuarter_96
      · replace hF := (if_neg c1).symm.trans hF
        refine lv_iload_n hx hb dX0_payQuarter_10 rfl (lv_at hl 1 rfl) ?_
        refine lv_iload_n hx hb dX0_payQuarter_11 rfl (lv_at hl 2 rfl) ?_
        refine lv_ishr hx hb dX0_payQuarter_12 ?_
        refine lv_iconst (v := 1) hx hb dX0_payQuarter_13 (by decide) ?_
        refine lv_iand hx hb dX0_payQuarter_14 ?_
        refine lv_iconst (v := 1) hx hb dX0_payQuarter_15 (by decide) ?_
        refine lv_icmp_ne (tgt := 90) hx hb dX0_payQuarter_16 (by decide) (fun c2 => ?_) (fun c2 => ?_)
        · replace hF := (if_neg c2).symm.trans hF
          refine lv_iinc (v := x2 + 1) (lv' := [(2, .int (x2 + 1)), (0, .ref (ad 0)), (1, .int x1)]) hx hb dX0_payQuarter_90 hl (k := 2) rfl rfl (by decide) rfl (fun ls hl => ?_)
          refine lv_goto (tgt := 2) hx hb dX0_payQuarter_93 (by decide) ?_
          exact ih2 σ x1 (x2 + 1) _ _ _ hF hf (lv_sub hl [1, 2, 0] rfl)
        · replace hF := (if_pos c2).symm.trans hF
          refine lv_aload_n hx hb dX0_payQuarter_19 rfl (lv_at hl 0 rfl) ?_
          refine lv_iload_n hx hb dX0_payQuarter_20 rfl (lv_at hl 2 rfl) ?_
          obtain ⟨q3, h4, hF⟩ := Option.bind_eq_some_iff.mp hF
          refine g_cv0 (o := some (.int q3)) (As := [.int x2]) (rest := []) (st1 := [.int q3]) (ci := 0) S hf (c_X0_rateOf l G ad σ x2 q3 h4) (cwV 1 hts gX0_payQuarter_X0_rateOf rfl rfl rfl (by decide +kernel) ⟨Nat.le_of_ble_eq_true rfl, Nat.le_of_ble_eq_true rfl⟩) rfl rfl rfl 0 rfl rfl hl.1 rfl rfl (Nat.le_of_ble_eq_true rfl) ⟨Nat.zero_le _, Nat.zero_le _⟩ dX0_payQuarter_21 (fun H locs hf => ?_)
          have hf : Fr G (va_A (wK G ad σ0) s.heap.size) s (wK G ad σ) H locs := hf
          refine lv_aload_n hx hb dX0_payQuarter_24 rfl (lv_at hl 0 rfl) ?_
          refine g_get (ci := 0) (C := RX0) (T := TX0) (N := 16) (v := .ref (ad 11)) S hf hinX0 0 rfl rfl 14 (by decide) k57 rfl rfl dX0_payQuarter_25 ?_
          refine lv_iload_n hx hb dX0_payQuarter_28 rfl (lv_at hl 2 rfl) ?_
          obtain ⟨g5, hF⟩ := gd_some hF
          refine g_ald (v := (σ 7) x2.toNatClampNeg) S hf 11 rfl g5 rfl dX0_payQuarter_29 ?_
          refine lv_iadd hx hb dX0_payQuarter_30 ?_
          refine lv_istore_n (lv' := [(3, .int (q3 + ((σ 7) x2.toNatClampNeg))), (0, .ref (ad 0)), (1, .int x1), (2, .int x2)]) hx hb dX0_payQuarter_31 rfl hl (by decide) rfl (fun ls hl => ?_)
          refine lv_iload_n hx hb dX0_payQuarter_32 rfl (lv_at hl 0 rfl) ?_
          refine lv_aload_n hx hb dX0_payQuarter_33 rfl (lv_at hl 1 rfl) ?_
          refine g_get (ci := 0) (C := RX0) (T := TX0) (N := 16) (v := .int (σ 11 1)) S hf hinX0 0 rfl rfl 1 (by decide) k15 rfl rfl dX0_payQuarter_34 ?_
          refine va_mmin hx hb (hml.trans hl.1.symm) hown (hts _ k118) (hts _ ksmin) (hts _ kiM) (hts _ komin) (Nat.le_of_ble_eq_true rfl) (Nat.le_of_ble_eq_true rfl) (Nat.zero_le _) (Nat.zero_le _) dX0_payQuarter_37 ?_
          refine lv_istore (lv' := [(4, .int (imin (q3 + ((σ 7) x2.toNatClampNeg)) (σ 11 1))), (3, .int (q3 + ((σ 7) x2.toNatClampNeg))), (0, .ref (ad 0)), (1, .int x1), (2, .int x2)]) hx hb dX0_payQuarter_40 hl (by decide) rfl (fun ls hl => ?_)
          refine lv_aload_n hx hb dX0_payQuarter_42 rfl (lv_at hl 2 rfl) ?_
          refine lv_dup hx hb dX0_payQuarter_43 rfl ?_
          refine g_get (ci := 0) (C := RX0) (T := TX0) (N := 16) (v := .int (σ 11 1)) S hf hinX0 0 rfl rfl 1 (by decide) k15 rfl rfl dX0_payQuarter_44 ?_
          refine lv_iload hx hb dX0_payQuarter_47 (lv_at hl 0 rfl) ?_
          refine lv_isub hx hb dX0_payQuarter_49 ?_
          refine g_put (ci := 0) (C := RX0) (T := TX0) (N := 16) (ww' := wK G ad (va_up σ 11 (upd (σ 11) 1 ((σ 11 1) - (imin (q3 + ((σ 7) x2.toNatClampNeg)) (σ 11 1)))))) S hf hinX0 tyX0 tyX0_ok nmX0 0 rfl rfl 1 (by decide) k15 rfl rfl rfl rfl (Nat.le_of_ble_eq_true rfl) rfl dX0_payQuarter_50 (fun H locs hf => ?_)
          refine lv_aload_n hx hb dX0_payQuarter_53 rfl (lv_at hl 2 rfl) ?_
          refine g_get (ci := 0) (C := RX0) (T := TX0) (N := 16) (v := .ref (ad 12)) S hf hinX0 0 rfl rfl 15 (by decide) k60 rfl rfl dX0_payQuarter_54 ?_
          refine lv_iload_n hx hb dX0_payQuarter_57 rfl (lv_at hl 4 rfl) ?_
          refine lv_sipush (v := 9999) hx hb dX0_payQuarter_58 (by decide) ?_
          refine lv_aload_n hx hb dX0_payQuarter_61 rfl (lv_at hl 2 rfl) ?_
          refine g_get (ci := 0) (C := RX0) (T := TX0) (N := 16) (v := .ref (ad 12)) S hf hinX0 0 rfl rfl 15 (by decide) k60 rfl rfl dX0_payQuarter_62 ?_
          refine lv_iload_n hx hb dX0_payQuarter_65 rfl (lv_at hl 4 rfl) ?_
          refine g_ald (v := (σ 8) x2.toNatClampNeg) S hf 12 rfl g5 rfl dX0_payQuarter_66 ?_
          refine lv_iload hx hb dX0_payQuarter_67 (lv_at hl 0 rfl) ?_
          refine lv_iadd hx hb dX0_payQuarter_69 ?_
          refine va_mmin hx hb (hml.trans hl.1.symm) hown (hts _ k118) (hts _ ksmin) (hts _ kiM) (hts _ komin) (Nat.le_of_ble_eq_true rfl) (Nat.le_of_ble_eq_true rfl) (Nat.zero_le _) (Nat.zero_le _) dX0_payQuarter_70 ?_
          refine g_ast (ww' := wK G ad (va_up (va_up σ 8 (upd (σ 8) x2.toNatClampNeg (imin 9999 (((σ 8) x2.toNatClampNeg) + (imin (q3 + ((σ 7) x2.toNatClampNeg)) (σ 11 1)))))) 11 (upd (σ 11) 1 ((σ 11 1) - (imin (q3 + ((σ 7) x2.toNatClampNeg)) (σ 11 1)))))) S hf 12 rfl g5 rfl dX0_payQuarter_73 (fun H locs hf => ?_)
          refine lv_aload_n hx hb dX0_payQuarter_74 rfl (lv_at hl 2 rfl) ?_
          refine g_get (ci := 0) (C := RX0) (T := TX0) (N := 16) (v := .ref (ad 11)) S hf hinX0 0 rfl rfl 14 (by decide) k57 rfl rfl dX0_payQuarter_75 ?_
          refine lv_iload_n hx hb dX0_payQuarter_78 rfl (lv_at hl 4 rfl) ?_
          refine lv_sipush (v := 9999) hx hb dX0_payQuarter_79 (by decide) ?_
          refine lv_iload_n hx hb dX0_payQuarter_82 rfl (lv_at hl 1 rfl) ?_
          refine lv_iload hx hb dX0_payQuarter_83 (lv_at hl 0 rfl) ?_
          refine lv_isub hx hb dX0_payQuarter_85 ?_
          refine va_mmin hx hb (hml.trans hl.1.symm) hown (hts _ k118) (hts _ ksmin) (hts _ kiM) (hts _ komin) (Nat.le_of_ble_eq_true rfl) (Nat.le_of_ble_eq_true rfl) (Nat.zero_le _) (Nat.zero_le _) dX0_payQuarter_86 ?_
          refine g_ast (ww' := wK G ad (va_up (va_up (va_up σ 7 (upd (σ 7) x2.toNatClampNeg (imin 9999 ((q3 + ((σ 7) x2.toNatClampNeg)) - (imin (q3 + ((σ 7) x2.toNatClampNeg)) (σ 11 1)))))) 8 (upd (σ 8) x2.toNatClampNeg (imin 9999 (((σ 8) x2.toNatClampNeg) + (imin (q3 + ((σ 7) x2.toNatClampNeg)) (σ 11 1)))))) 11 (upd (σ 11) 1 ((σ 11 1) - (imin (q3 + ((σ 7) x2.toNatClampNeg)) (σ 11 1)))))) S hf 11 rfl g5 rfl dX0_payQuarter_89 (fun H locs hf => ?_)
          refine lv_iinc (v := x2 + 1) (lv' := [(2, .int (x2 + 1)), (4, .int (imin (q3 + ((σ 7) x2.toNatClampNeg)) (σ 11 1))), (3, .int (q3 + ((σ 7) x2.toNatClampNeg))), (0, .ref (ad 0)), (1, .int x1)]) hx hb dX0_payQuarter_90 hl (k := 4) rfl rfl (by decide) rfl (fun ls hl => ?_)
          refine lv_goto (tgt := 2) hx hb dX0_payQuarter_93 (by decide) ?_
          exact ih2 (va_up (va_up (va_up σ 7 (upd (σ 7) x2.toNatClampNeg (imin 9999 ((q3 + ((σ 7) x2.toNatClampNeg)) - (imin (q3 + ((σ 7) x2.toNatClampNeg)) (σ 11 1)))))) 8 (upd (σ 8) x2.toNatClampNeg (imin 9999 (((σ 8) x2.toNatClampNeg) + (imin (q3 + ((σ 7) x2.toNatClampNeg)) (σ 11 1)))))) 11 (upd (σ 11) 1 ((σ 11 1) - (imin (q3 + ((σ 7) x2.toNatClampNeg)) (σ 11 1))))) x1 (x2 + 1) _ _ _ hF hf (lv_sub hl [3, 4, 0] rfl)
  unfold f_X0_payQuarter at hF
  refine lv_iconst (v := 0) hx hb dX0_payQuarter_0 (by decide) ?_
  refine lv_istore_n (lv' := [(2, .int 0), (0, .ref (ad 0)), (1, .int a1)]) hx hb dX0_payQuarter_1 rfl hl (by decide) rfl (fun ls hl => ?_)
  exact hL2 1000 σ0 a1 0 _ _ _ hF hf (lv_sub hl [1, 2, 0] rfl)
def f_X0_passDay (σ0 : K2) (a1 : Int32) : Option (K2) := if ix (irem (σ0 11 0) 6) 6 then (Option.bind (f_X0_drawSet (va_up σ0 11 (upd (σ0 11) 1 (imin 99999 ((σ0 11 1) + ((σ0 9) (irem (σ0 11 0) 6).toNatClampNeg))))) a1) (fun q2 => Option.bind (f_X0_mealsTogether (va_up σ0 11 (upd (σ0 11) 1 (imin 99999 ((σ0 11 1) + ((σ0 9) (irem (σ0 11 0) 6).toNatClampNeg))))) q2) (fun q4 => Option.bind (f_X0_growOlder (va_up σ0 11 (upd (σ0 11) 1 (imax 0 ((imin 99999 ((σ0 11 1) + ((σ0 9) (irem (σ0 11 0) 6).toNatClampNeg))) - q4))))) (fun q6 => if (irem (q6 11 0) 6) = 5 then (Option.bind (f_X0_drawSet q6 a1) (fun q9 => Option.bind (f_X0_payQuarter q6 q9) (fun q11 => some (va_up q11 11 (upd (q11 11) 0 (imin 99999 ((q11 11 0) + 1))))))) else (some (va_up q6 11 (upd (q6 11) 0 (imin 99999 ((q6 11 0) + 1))))))))) else none
set_option maxHeartbeats 4000000 in
set_option maxRecDepth 100000 in
theorem c_X0_passDay (l : Launch) (G : GT) (ad : Nat → Nat) (σ0 : K2) (a1 : Int32) (q : K2) (hF : f_X0_passDay σ0 a1 = some q) : Ct l G yX0_passDay wsX0_passDay ({ frames := 4, cells := 0, slots := 0, locals := 89 } : Room) ([.ref (ad 0), .int a1] : List Value) (wK G ad σ0) (none) (wK G ad q) := by
  have kc117 : Cond.constant RX0 117 (99999) ∈ wsX0_passDay := by decide +kernel
  have k15 : Cond.fieldLink RX0 15 "PigeonRolls$Kingdom" "treasury" "I" ∈ wsX0_passDay := by decide +kernel
  have k24 : Cond.fieldLink RX0 24 "PigeonRolls$Kingdom" "list" "[I" ∈ wsX0_passDay := by decide +kernel
  have k9 : Cond.fieldLink RX0 9 "PigeonRolls$Kingdom" "day" "I" ∈ wsX0_passDay := by decide +kernel
  have k118 : Cond.methodLink RX0 118 Lib.Math.min.name ∈ wsX0_passDay := by decide +kernel
  have ksmin : Cond.static Lib.Math.min.name ∈ wsX0_passDay := by decide +kernel
  have kiM : Cond.initialized "java/lang/Math" ∈ wsX0_passDay := by decide +kernel
  have komin : Cond.code Lib.Math.min.name Lib.Math.min.code 2 (some .int) ∈ wsX0_passDay := by decide +kernel
  have k106 : Cond.methodLink RX0 106 Lib.Math.max.name ∈ wsX0_passDay := by decide +kernel
  have ksmax : Cond.static Lib.Math.max.name ∈ wsX0_passDay := by decide +kernel
  have komax : Cond.code Lib.Math.max.name Lib.Math.max.code 2 (some .int) ∈ wsX0_passDay := by decide +kernel
  have hinX0 : ∀ w ∈ u_ws RX0 TX0 16, w ∈ wsX0_passDay := by decide +kernel
  refine Ct.of cX0_passDay 2 none (by decide) rfl (Nat.le_of_ble_eq_true rfl) ?_
  intro p e s m below meth c ls S hr hlocks hf hl
  have S : CallFix p m c cX0_passDay 2 s ([.ref (ad 0), .int a1] : List Value).toArray wsX0_passDay RX0 := S
  obtain ⟨hx, hb, hml, hown, hts⟩ := id S
  have hl : lv_has ls 2 [(0, .ref (ad 0)), (1, .int a1)] := hl
  unfold f_X0_passDay at hF
  refine lv_aload_n hx hb dX0_passDay_0 rfl (lv_at hl 0 rfl) ?_
  refine lv_ldc (v := 99999) hx hb hown (hts _ kc117) dX0_passDay_1 ?_
  refine lv_aload_n hx hb dX0_passDay_3 rfl (lv_at hl 0 rfl) ?_
  refine g_get (ci := 0) (C := RX0) (T := TX0) (N := 16) (v := .int (σ0 11 1)) S hf hinX0 0 rfl rfl 1 (by decide) k15 rfl rfl dX0_passDay_4 ?_
  refine lv_aload_n hx hb dX0_passDay_7 rfl (lv_at hl 0 rfl) ?_
  refine g_get (ci := 0) (C := RX0) (T := TX0) (N := 16) (v := .ref (ad 1)) S hf hinX0 0 rfl rfl 4 (by decide) k24 rfl rfl dX0_passDay_8 ?_
  refine lv_aload_n hx hb dX0_passDay_11 rfl (lv_at hl 0 rfl) ?_
  refine g_get (ci := 0) (C := RX0) (T := TX0) (N := 16) (v := .int (σ0 11 0)) S hf hinX0 0 rfl rfl 0 (by decide) k9 rfl rfl dX0_passDay_12 ?_
  refine lv_bipush (v := 6) hx hb dX0_passDay_15 (by decide) ?_
  refine lv_irem hx hb dX0_passDay_17 (by decide) ?_
  obtain ⟨g1, hF⟩ := gd_some hF
  refine g_ald (v := (σ0 9) (irem (σ0 11 0) 6).toNatClampNeg) S hf 1 rfl g1 rfl dX0_passDay_18 ?_
  refine lv_iadd hx hb dX0_passDay_19 ?_
  refine va_mmin hx hb (hml.trans hl.1.symm) hown (hts _ k118) (hts _ ksmin) (hts _ kiM) (hts _ komin) (Nat.le_of_ble_eq_true rfl) (Nat.le_of_ble_eq_true rfl) (Nat.zero_le _) (Nat.zero_le _) dX0_passDay_20 ?_
  refine g_put (ci := 0) (C := RX0) (T := TX0) (N := 16) (ww' := wK G ad (va_up σ0 11 (upd (σ0 11) 1 (imin 99999 ((σ0 11 1) + ((σ0 9) (irem (σ0 11 0) 6).toNatClampNeg)))))) S hf hinX0 tyX0 tyX0_ok nmX0 0 rfl rfl 1 (by decide) k15 rfl rfl rfl rfl (Nat.le_of_ble_eq_true rfl) rfl dX0_passDay_23 (fun H locs hf => ?_)
  refine lv_aload_n hx hb dX0_passDay_26 rfl (lv_at hl 0 rfl) ?_
  refine lv_iconst (v := 0) hx hb dX0_passDay_27 (by decide) ?_
  refine lv_aload_n hx hb dX0_passDay_28 rfl (lv_at hl 0 rfl) ?_
  refine g_get (ci := 0) (C := RX0) (T := TX0) (N := 16) (v := .int (imin 99999 ((σ0 11 1) + ((σ0 9) (irem (σ0 11 0) 6).toNatClampNeg)))) S hf hinX0 0 rfl rfl 1 (by decide) k15 rfl rfl dX0_passDay_29 ?_
  refine lv_aload_n hx hb dX0_passDay_32 rfl (lv_at hl 0 rfl) ?_
  refine lv_aload_n hx hb dX0_passDay_33 rfl (lv_at hl 0 rfl) ?_
  refine lv_iload_n hx hb dX0_passDay_34 rfl (lv_at hl 1 rfl) ?_
  obtain ⟨q2, h3, hF⟩ := Option.bind_eq_some_iff.mp hF
  refine g_cv0 (o := some (.int q2)) (As := [.int a1]) (rest := [.ref (ad 0), .int (imin 99999 ((σ0 11 1) + ((σ0 9) (irem (σ0 11 0) 6).toNatClampNeg))), .int 0, .ref (ad 0)]) (st1 := [.int q2, .ref (ad 0), .int (imin 99999 ((σ0 11 1) + ((σ0 9) (irem (σ0 11 0) 6).toNatClampNeg))), .int 0, .ref (ad 0)]) (ci := 0) S hf (c_X0_drawSet l G ad (va_up σ0 11 (upd (σ0 11) 1 (imin 99999 ((σ0 11 1) + ((σ0 9) (irem (σ0 11 0) 6).toNatClampNeg))))) a1 q2 h3) (cwV 1 hts gX0_passDay_X0_drawSet rfl rfl rfl (by decide +kernel) ⟨Nat.le_of_ble_eq_true rfl, Nat.le_of_ble_eq_true rfl⟩) rfl rfl rfl 0 rfl rfl hl.1 rfl rfl (Nat.le_of_ble_eq_true rfl) ⟨Nat.zero_le _, Nat.zero_le _⟩ dX0_passDay_35 (fun H locs hf => ?_)
  have hf : Fr G (va_A (wK G ad σ0) s.heap.size) s (wK G ad (va_up σ0 11 (upd (σ0 11) 1 (imin 99999 ((σ0 11 1) + ((σ0 9) (irem (σ0 11 0) 6).toNatClampNeg)))))) H locs := hf
  obtain ⟨q4, h5, hF⟩ := Option.bind_eq_some_iff.mp hF
  refine g_cv0 (o := some (.int q4)) (As := [.int q2]) (rest := [.int (imin 99999 ((σ0 11 1) + ((σ0 9) (irem (σ0 11 0) 6).toNatClampNeg))), .int 0, .ref (ad 0)]) (st1 := [.int q4, .int (imin 99999 ((σ0 11 1) + ((σ0 9) (irem (σ0 11 0) 6).toNatClampNeg))), .int 0, .ref (ad 0)]) (ci := 0) S hf (c_X0_mealsTogether l G ad (va_up σ0 11 (upd (σ0 11) 1 (imin 99999 ((σ0 11 1) + ((σ0 9) (irem (σ0 11 0) 6).toNatClampNeg))))) q2 q4 h5) (cwV 1 hts gX0_passDay_X0_mealsTogether rfl rfl rfl (by decide +kernel) ⟨Nat.le_of_ble_eq_true rfl, Nat.le_of_ble_eq_true rfl⟩) rfl rfl rfl 0 rfl rfl hl.1 rfl rfl (Nat.le_of_ble_eq_true rfl) ⟨Nat.zero_le _, Nat.zero_le _⟩ dX0_passDay_38 (fun H locs hf => ?_)
  have hf : Fr G (va_A (wK G ad σ0) s.heap.size) s (wK G ad (va_up σ0 11 (upd (σ0 11) 1 (imin 99999 ((σ0 11 1) + ((σ0 9) (irem (σ0 11 0) 6).toNatClampNeg)))))) H locs := hf
  refine lv_isub hx hb dX0_passDay_41 ?_
  refine va_mmax hx hb (hml.trans hl.1.symm) hown (hts _ k106) (hts _ ksmax) (hts _ kiM) (hts _ komax) (Nat.le_of_ble_eq_true rfl) (Nat.le_of_ble_eq_true rfl) (Nat.zero_le _) (Nat.zero_le _) dX0_passDay_42 ?_
  refine g_put (ci := 0) (C := RX0) (T := TX0) (N := 16) (ww' := wK G ad (va_up σ0 11 (upd (σ0 11) 1 (imax 0 ((imin 99999 ((σ0 11 1) + ((σ0 9) (irem (σ0 11 0) 6).toNatClampNeg))) - q4))))) S hf hinX0 tyX0 tyX0_ok nmX0 0 rfl rfl 1 (by decide) k15 rfl rfl rfl rfl (Nat.le_of_ble_eq_true rfl) rfl dX0_passDay_45 (fun H locs hf => ?_)
  refine lv_aload_n hx hb dX0_passDay_48 rfl (lv_at hl 0 rfl) ?_
  obtain ⟨q6, h7, hF⟩ := Option.bind_eq_some_iff.mp hF
  refine g_cv0 (o := none) (As := []) (rest := []) (st1 := []) (ci := 0) S hf (c_X0_growOlder l G ad (va_up σ0 11 (upd (σ0 11) 1 (imax 0 ((imin 99999 ((σ0 11 1) + ((σ0 9) (irem (σ0 11 0) 6).toNatClampNeg))) - q4)))) q6 h7) (cwV 0 hts gX0_passDay_X0_growOlder rfl rfl rfl (by decide +kernel) ⟨Nat.le_of_ble_eq_true rfl, Nat.le_of_ble_eq_true rfl⟩) rfl rfl rfl 0 rfl rfl hl.1 rfl rfl (Nat.le_of_ble_eq_true rfl) ⟨Nat.zero_le _, Nat.zero_le _⟩ dX0_passDay_49 (fun H locs hf => ?_)
  have hf : Fr G (va_A (wK G ad σ0) s.heap.size) s (wK G ad q6) H locs := hf
  refine lv_aload_n hx hb dX0_passDay_52 rfl (lv_at hl 0 rfl) ?_
  refine g_get (ci := 0) (C := RX0) (T := TX0) (N := 16) (v := .int (q6 11 0)) S hf hinX0 0 rfl rfl 0 (by decide) k9 rfl rfl dX0_passDay_53 ?_
  refine lv_bipush (v := 6) hx hb dX0_passDay_56 (by decide) ?_
  refine lv_irem hx hb dX0_passDay_58 (by decide) ?_
  refine lv_iconst (v := 5) hx hb dX0_passDay_59 (by decide) ?_
  refine lv_icmp_ne (tgt := 72) hx hb dX0_passDay_60 (by decide) (fun c8 => ?_) (fun c8 => ?_)
  · replace hF := (if_neg c8).symm.trans hF
    refine lv_aload_n hx hb dX0_passDay_72 rfl (lv_at hl 0 rfl) ?_
    refine lv_ldc (v := 99999) hx hb hown (hts _ kc117) dX0_passDay_73 ?_
    refine lv_aload_n hx hb dX0_passDay_75 rfl (lv_at hl 0 rfl) ?_
    refine g_get (ci := 0) (C := RX0) (T := TX0) (N := 16) (v := .int (q6 11 0)) S hf hinX0 0 rfl rfl 0 (by decide) k9 rfl rfl dX0_passDay_76 ?_
    refine lv_iconst (v := 1) hx hb dX0_passDay_79 (by decide) ?_
    refine lv_iadd hx hb dX0_passDay_80 ?_
    refine va_mmin hx hb (hml.trans hl.1.symm) hown (hts _ k118) (hts _ ksmin) (hts _ kiM) (hts _ komin) (Nat.le_of_ble_eq_true rfl) (Nat.le_of_ble_eq_true rfl) (Nat.zero_le _) (Nat.zero_le _) dX0_passDay_81 ?_
    refine g_put (ci := 0) (C := RX0) (T := TX0) (N := 16) (ww' := wK G ad (va_up q6 11 (upd (q6 11) 0 (imin 99999 ((q6 11 0) + 1))))) S hf hinX0 tyX0 tyX0_ok nmX0 0 rfl rfl 0 (by decide) k9 rfl rfl rfl rfl (Nat.le_of_ble_eq_true rfl) rfl dX0_passDay_84 (fun H locs hf => ?_)
    exact g_vret S hr hlocks hf (congrArg (fun z : K2 => wK G ad z) (Option.some.inj hF)) dX0_passDay_87
  · replace hF := (if_pos c8).symm.trans hF
    refine lv_aload_n hx hb dX0_passDay_63 rfl (lv_at hl 0 rfl) ?_
    refine lv_aload_n hx hb dX0_passDay_64 rfl (lv_at hl 0 rfl) ?_
    refine lv_iload_n hx hb dX0_passDay_65 rfl (lv_at hl 1 rfl) ?_
    obtain ⟨q9, h10, hF⟩ := Option.bind_eq_some_iff.mp hF
    refine g_cv0 (o := some (.int q9)) (As := [.int a1]) (rest := [.ref (ad 0)]) (st1 := [.int q9, .ref (ad 0)]) (ci := 0) S hf (c_X0_drawSet l G ad q6 a1 q9 h10) (cwV 1 hts gX0_passDay_X0_drawSet rfl rfl rfl (by decide +kernel) ⟨Nat.le_of_ble_eq_true rfl, Nat.le_of_ble_eq_true rfl⟩) rfl rfl rfl 0 rfl rfl hl.1 rfl rfl (Nat.le_of_ble_eq_true rfl) ⟨Nat.zero_le _, Nat.zero_le _⟩ dX0_passDay_66 (fun H locs hf => ?_)
    have hf : Fr G (va_A (wK G ad σ0) s.heap.size) s (wK G ad q6) H locs := hf
    obtain ⟨q11, h12, hF⟩ := Option.bind_eq_some_iff.mp hF
    refine g_cv0 (o := none) (As := [.int q9]) (rest := []) (st1 := []) (ci := 0) S hf (c_X0_payQuarter l G ad q6 q9 q11 h12) (cwV 1 hts gX0_passDay_X0_payQuarter rfl rfl rfl (by decide +kernel) ⟨Nat.le_of_ble_eq_true rfl, Nat.le_of_ble_eq_true rfl⟩) rfl rfl rfl 0 rfl rfl hl.1 rfl rfl (Nat.le_of_ble_eq_true rfl) ⟨Nat.zero_le _, Nat.zero_le _⟩ dX0_passDay_69 (fun H locs hf => ?_)
    have hf : Fr G (va_A (wK G ad σ0) s.heap.size) s (wK G ad q11) H locs := hf
    refine lv_aload_n hx hb dX0_passDay_72 rfl (lv_at hl 0 rfl) ?_
    refine lv_ldc (v := 99999) hx hb hown (hts _ kc117) dX0_passDay_73 ?_
    refine lv_aload_n hx hb dX0_passDay_75 rfl (lv_at hl 0 rfl) ?_
    refine g_get (ci := 0) (C := RX0) (T := TX0) (N := 16) (v := .int (q11 11 0)) S hf hinX0 0 rfl rfl 0 (by decide) k9 rfl rfl dX0_passDay_76 ?_
    refine lv_iconst (v := 1) hx hb dX0_passDay_79 (by decide) ?_
    refine lv_iadd hx hb dX0_passDay_80 ?_
    refine va_mmin hx hb (hml.trans hl.1.symm) hown (hts _ k118) (hts _ ksmin) (hts _ kiM) (hts _ komin) (Nat.le_of_ble_eq_true rfl) (Nat.le_of_ble_eq_true rfl) (Nat.zero_le _) (Nat.zero_le _) dX0_passDay_81 ?_
    refine g_put (ci := 0) (C := RX0) (T := TX0) (N := 16) (ww' := wK G ad (va_up q11 11 (upd (q11 11) 0 (imin 99999 ((q11 11 0) + 1))))) S hf hinX0 tyX0 tyX0_ok nmX0 0 rfl rfl 0 (by decide) k9 rfl rfl rfl rfl (Nat.le_of_ble_eq_true rfl) rfl dX0_passDay_84 (fun H locs hf => ?_)
    exact g_vret S hr hlocks hf (congrArg (fun z : K2 => wK G ad z) (Option.some.inj hF)) dX0_passDay_87
