def f_X0_become_L64 (κ0 : K2) : Nat → K2 → Int32 → Option (K2)
  | 0, _, _ => none
  | n + 1, σ, x2 => if 9 ≤ x2 then (some (σ)) else (if ix x2 9 then (f_X0_become_L64 κ0 n (va_up σ x2.toNatClampNeg (va_cpy (κ0 x2.toNatClampNeg) (σ x2.toNatClampNeg) 0 0 8)) (x2 + 1)) else none)
def f_X0_become (σ0 : K2) (κ0 : K2) : Option (K2) := f_X0_become_L64 κ0 1000 (va_up (va_up (va_up σ0 10 (va_cpy (κ0 10) (σ0 10) 0 0 10)) 9 (va_cpy (κ0 9) (σ0 9) 0 0 6)) 11 (upd (upd (upd (upd (σ0 11) 0 (κ0 11 0)) 1 (κ0 11 1)) 2 (κ0 11 2)) 3 (κ0 11 3))) 0
set_option maxHeartbeats 4000000 in
set_option maxRecDepth 100000 in
theorem c_X0_become (l : Launch) (G : GT) (ad ad2 : Nat → Nat) (σ0 : K2) (κ0 : K2) (q : K2) (hF : f_X0_become σ0 κ0 = some q) : Ct l G yX0_become wsX0_become ({ frames := 1, cells := 0, slots := 0, locals := 60 } : Room) ([.ref (ad 0), .ref (ad2 0)] : List Value) (wK G ad σ0 ++ wK G ad2 κ0) (none) (wK G ad q ++ wK G ad2 κ0) := by
  have k9 : Cond.fieldLink RX0 9 "PigeonRolls$Kingdom" "day" "I" ∈ wsX0_become := by decide +kernel
  have k15 : Cond.fieldLink RX0 15 "PigeonRolls$Kingdom" "treasury" "I" ∈ wsX0_become := by decide +kernel
  have k18 : Cond.fieldLink RX0 18 "PigeonRolls$Kingdom" "chance" "I" ∈ wsX0_become := by decide +kernel
  have k21 : Cond.fieldLink RX0 21 "PigeonRolls$Kingdom" "birds" "I" ∈ wsX0_become := by decide +kernel
  have k24 : Cond.fieldLink RX0 24 "PigeonRolls$Kingdom" "list" "[I" ∈ wsX0_become := by decide +kernel
  have k63 : Cond.methodLink RX0 63 arraycopyName ∈ wsX0_become := by decide +kernel
  have kna : Cond.native arraycopyName ∈ wsX0_become := by decide +kernel
  have ksa : Cond.static arraycopyName ∈ wsX0_become := by decide +kernel
  have kiS : Cond.initialized "java/lang/System" ∈ wsX0_become := by decide +kernel
  have k28 : Cond.fieldLink RX0 28 "PigeonRolls$Kingdom" "spots" "[I" ∈ wsX0_become := by decide +kernel
  have k33 : Cond.fieldLink RX0 33 "PigeonRolls$Kingdom" "traits" "[[I" ∈ wsX0_become := by decide +kernel
  have hinX0 : ∀ w ∈ u_ws RX0 TX0 16, w ∈ wsX0_become := by decide +kernel
  refine Ct.of cX0_become 3 none (by decide) rfl (Nat.le_of_ble_eq_true rfl) ?_
  intro p e s m below meth c ls S hr hlocks hf hl
  have S : CallFix p m c cX0_become 3 s ([.ref (ad 0), .ref (ad2 0)] : List Value).toArray wsX0_become RX0 := S
  obtain ⟨hx, hb, hml, hown, hts⟩ := id S
  have hl : lv_has ls 3 [(0, .ref (ad 0)), (1, .ref (ad2 0))] := hl
  have hL64 : ∀ (n : Nat) (σ : K2) (x2 : Int32)  (H : Heap) (locs : List Loc) (ls : Array Slot), f_X0_become_L64 κ0 n σ x2 = some q → Fr G (va_A (wK G ad σ0 ++ wK G ad2 κ0) s.heap.size) s (wK G ad σ ++ wK G ad2 κ0) H locs → lv_has ls 3 [(0, .ref (ad 0)), (1, .ref (ad2 0)), (2, .int x2)] → W p l e ({ frames := 1, cells := 0, slots := 0, locals := 60 } : Room) s m ([.ref (ad 0), .ref (ad2 0)] : List Value).toArray below meth c H locs 0 0 (MQ below (CPost G (wK G ad σ0 ++ wK G ad2 κ0) s.heap.size (none) (wK G ad q ++ wK G ad2 κ0)) ([.ref (ad 0), .ref (ad2 0)] : List Value).toArray s 0 0 (va_A (wK G ad σ0 ++ wK G ad2 κ0) s.heap.size)) (F0 m 64 ls []) := by
    intro n
    induction n with
    | zero =>
      intro σ x2 H locs ls hF hf hl
      exact absurd hF (by simp [f_X0_become_L64])
    | succ n ih64 =>
      intro σ x2 H locs ls hF hf hl
      rw [f_X0_become_L64] at hF
      refine lv_iload_n hx hb dX0_become_64 rfl (lv_at hl 2 rfl) ?_
      refine lv_bipush (v := 9) hx hb dX0_become_65 (by decide) ?_
      refine lv_icmp_ge (tgt := 95) hx hb dX0_become_67 (by decide) (fun c1 => ?_) (fun c1 => ?_)
      · replace hF := (if_pos c1).symm.trans hF
        exact g_vret S hr hlocks hf (congrArg (fun z : K2 => wK G ad z ++ wK G ad2 κ0) (Option.some.inj hF)) dX0_become_95
      · replace hF := (if_neg c1).symm.trans hF
        refine lv_aload_n hx hb dX0_become_70 rfl (lv_at hl 1 rfl) ?_
        refine g_get (ci := 0) (C := RX0) (T := TX0) (N := 16) (v := .ref (ad2 3)) S hf hinX0 13 rfl rfl 6 (by decide) k33 rfl rfl dX0_become_71 ?_
        refine lv_iload_n hx hb dX0_become_74 rfl (lv_at hl 2 rfl) ?_
        obtain ⟨g2, hF⟩ := gd_some hF
        refine g_aald (v := ad2 (4 + x2.toNatClampNeg)) (t0 := 1) S hf 16 rfl rfl rfl g2 (if_pos (ix_lt g2)) dX0_become_75 ?_
        refine lv_iconst (v := 0) hx hb dX0_become_76 (by decide) ?_
        refine lv_aload_n hx hb dX0_become_77 rfl (lv_at hl 0 rfl) ?_
        refine g_get (ci := 0) (C := RX0) (T := TX0) (N := 16) (v := .ref (ad 3)) S hf hinX0 0 rfl rfl 6 (by decide) k33 rfl rfl dX0_become_78 ?_
        refine lv_iload_n hx hb dX0_become_81 rfl (lv_at hl 2 rfl) ?_
        refine g_aald (v := ad (4 + x2.toNatClampNeg)) (t0 := 1) S hf 3 rfl rfl rfl g2 (if_pos (ix_lt g2)) dX0_become_82 ?_
        refine lv_iconst (v := 0) hx hb dX0_become_83 (by decide) ?_
        refine lv_bipush (v := 8) hx hb dX0_become_84 (by decide) ?_
        refine g_copy (ww' := wK G ad (va_up σ x2.toNatClampNeg (va_cpy (κ0 x2.toNatClampNeg) (σ x2.toNatClampNeg) 0 0 8)) ++ wK G ad2 κ0) S hf (17 + x2.toNatClampNeg) (4 + x2.toNatClampNeg) (wKK_b (ix_lt g2)) (wKK_a (ix_lt g2)) (by decide) (by decide) (by decide) (by decide) (by decide) (hl.1) (hts _ k63) (hts _ kna) (hts _ ksa) (hts _ kiS) (Nat.le_of_ble_eq_true rfl) (Nat.le_of_ble_eq_true rfl) (wKK_a_set (ix_lt g2)) dX0_become_86 (fun H locs hf => ?_)
        refine lv_iinc (v := x2 + 1) (lv' := [(2, .int (x2 + 1)), (0, .ref (ad 0)), (1, .ref (ad2 0))]) hx hb dX0_become_89 hl (k := 2) rfl rfl (by decide) rfl (fun ls hl => ?_)
        refine lv_goto (tgt := 64) hx hb dX0_become_92 (by decide) ?_
        exact ih64 (va_up σ x2.toNatClampNeg (va_cpy (κ0 x2.toNatClampNeg) (σ x2.toNatClampNeg) 0 0 8)) (x2 + 1) _ _ _ hF hf (lv_sub hl [1, 2, 0] rfl)
  unfold f_X0_become at hF
  refine lv_aload_n hx hb dX0_become_0 rfl (lv_at hl 0 rfl) ?_
  refine lv_aload_n hx hb dX0_become_1 rfl (lv_at hl 1 rfl) ?_
  refine g_get (ci := 0) (C := RX0) (T := TX0) (N := 16) (v := .int (κ0 11 0)) S hf hinX0 13 rfl rfl 0 (by decide) k9 rfl rfl dX0_become_2 ?_
  refine g_put (ci := 0) (C := RX0) (T := TX0) (N := 16) (ww' := wK G ad (va_up σ0 11 (upd (σ0 11) 0 (κ0 11 0))) ++ wK G ad2 κ0) S hf hinX0 tyX0 tyX0_ok nmX0 0 rfl rfl 0 (by decide) k9 rfl rfl rfl rfl (Nat.le_of_ble_eq_true rfl) rfl dX0_become_5 (fun H locs hf => ?_)
  refine lv_aload_n hx hb dX0_become_8 rfl (lv_at hl 0 rfl) ?_
  refine lv_aload_n hx hb dX0_become_9 rfl (lv_at hl 1 rfl) ?_
  refine g_get (ci := 0) (C := RX0) (T := TX0) (N := 16) (v := .int (κ0 11 1)) S hf hinX0 13 rfl rfl 1 (by decide) k15 rfl rfl dX0_become_10 ?_
  refine g_put (ci := 0) (C := RX0) (T := TX0) (N := 16) (ww' := wK G ad (va_up σ0 11 (upd (upd (σ0 11) 0 (κ0 11 0)) 1 (κ0 11 1))) ++ wK G ad2 κ0) S hf hinX0 tyX0 tyX0_ok nmX0 0 rfl rfl 1 (by decide) k15 rfl rfl rfl rfl (Nat.le_of_ble_eq_true rfl) rfl dX0_become_13 (fun H locs hf => ?_)
  refine lv_aload_n hx hb dX0_become_16 rfl (lv_at hl 0 rfl) ?_
  refine lv_aload_n hx hb dX0_become_17 rfl (lv_at hl 1 rfl) ?_
  refine g_get (ci := 0) (C := RX0) (T := TX0) (N := 16) (v := .int (κ0 11 2)) S hf hinX0 13 rfl rfl 2 (by decide) k18 rfl rfl dX0_become_18 ?_
  refine g_put (ci := 0) (C := RX0) (T := TX0) (N := 16) (ww' := wK G ad (va_up σ0 11 (upd (upd (upd (σ0 11) 0 (κ0 11 0)) 1 (κ0 11 1)) 2 (κ0 11 2))) ++ wK G ad2 κ0) S hf hinX0 tyX0 tyX0_ok nmX0 0 rfl rfl 2 (by decide) k18 rfl rfl rfl rfl (Nat.le_of_ble_eq_true rfl) rfl dX0_become_21 (fun H locs hf => ?_)
  refine lv_aload_n hx hb dX0_become_24 rfl (lv_at hl 0 rfl) ?_
  refine lv_aload_n hx hb dX0_become_25 rfl (lv_at hl 1 rfl) ?_
  refine g_get (ci := 0) (C := RX0) (T := TX0) (N := 16) (v := .int (κ0 11 3)) S hf hinX0 13 rfl rfl 3 (by decide) k21 rfl rfl dX0_become_26 ?_
  refine g_put (ci := 0) (C := RX0) (T := TX0) (N := 16) (ww' := wK G ad (va_up σ0 11 (upd (upd (upd (upd (σ0 11) 0 (κ0 11 0)) 1 (κ0 11 1)) 2 (κ0 11 2)) 3 (κ0 11 3))) ++ wK G ad2 κ0) S hf hinX0 tyX0 tyX0_ok nmX0 0 rfl rfl 3 (by decide) k21 rfl rfl rfl rfl (Nat.le_of_ble_eq_true rfl) rfl dX0_become_29 (fun H locs hf => ?_)
  refine lv_aload_n hx hb dX0_become_32 rfl (lv_at hl 1 rfl) ?_
  refine g_get (ci := 0) (C := RX0) (T := TX0) (N := 16) (v := .ref (ad2 1)) S hf hinX0 13 rfl rfl 4 (by decide) k24 rfl rfl dX0_become_33 ?_
  refine lv_iconst (v := 0) hx hb dX0_become_36 (by decide) ?_
  refine lv_aload_n hx hb dX0_become_37 rfl (lv_at hl 0 rfl) ?_
  refine g_get (ci := 0) (C := RX0) (T := TX0) (N := 16) (v := .ref (ad 1)) S hf hinX0 0 rfl rfl 4 (by decide) k24 rfl rfl dX0_become_38 ?_
  refine lv_iconst (v := 0) hx hb dX0_become_41 (by decide) ?_
  refine lv_bipush (v := 6) hx hb dX0_become_42 (by decide) ?_
  refine g_copy (ww' := wK G ad (va_up (va_up σ0 9 (va_cpy (κ0 9) (σ0 9) 0 0 6)) 11 (upd (upd (upd (upd (σ0 11) 0 (κ0 11 0)) 1 (κ0 11 1)) 2 (κ0 11 2)) 3 (κ0 11 3))) ++ wK G ad2 κ0) S hf 14 1 rfl rfl (by decide) (by decide) (by decide) (by decide) (by decide) (hl.1) (hts _ k63) (hts _ kna) (hts _ ksa) (hts _ kiS) (Nat.le_of_ble_eq_true rfl) (Nat.le_of_ble_eq_true rfl) rfl dX0_become_44 (fun H locs hf => ?_)
  refine lv_aload_n hx hb dX0_become_47 rfl (lv_at hl 1 rfl) ?_
  refine g_get (ci := 0) (C := RX0) (T := TX0) (N := 16) (v := .ref (ad2 2)) S hf hinX0 13 rfl rfl 5 (by decide) k28 rfl rfl dX0_become_48 ?_
  refine lv_iconst (v := 0) hx hb dX0_become_51 (by decide) ?_
  refine lv_aload_n hx hb dX0_become_52 rfl (lv_at hl 0 rfl) ?_
  refine g_get (ci := 0) (C := RX0) (T := TX0) (N := 16) (v := .ref (ad 2)) S hf hinX0 0 rfl rfl 5 (by decide) k28 rfl rfl dX0_become_53 ?_
  refine lv_iconst (v := 0) hx hb dX0_become_56 (by decide) ?_
  refine lv_bipush (v := 10) hx hb dX0_become_57 (by decide) ?_
  refine g_copy (ww' := wK G ad (va_up (va_up (va_up σ0 10 (va_cpy (κ0 10) (σ0 10) 0 0 10)) 9 (va_cpy (κ0 9) (σ0 9) 0 0 6)) 11 (upd (upd (upd (upd (σ0 11) 0 (κ0 11 0)) 1 (κ0 11 1)) 2 (κ0 11 2)) 3 (κ0 11 3))) ++ wK G ad2 κ0) S hf 15 2 rfl rfl (by decide) (by decide) (by decide) (by decide) (by decide) (hl.1) (hts _ k63) (hts _ kna) (hts _ ksa) (hts _ kiS) (Nat.le_of_ble_eq_true rfl) (Nat.le_of_ble_eq_true rfl) rfl dX0_become_59 (fun H locs hf => ?_)
  refine lv_iconst (v := 0) hx hb dX0_become_62 (by decide) ?_
  refine lv_istore_n (lv' := [(2, .int 0), (0, .ref (ad 0)), (1, .ref (ad2 0))]) hx hb dX0_become_63 rfl hl (by decide) rfl (fun ls hl => ?_)
  exact hL64 1000 (va_up (va_up (va_up σ0 10 (va_cpy (κ0 10) (σ0 10) 0 0 10)) 9 (va_cpy (κ0 9) (σ0 9) 0 0 6)) 11 (upd (upd (upd (upd (σ0 11) 0 (κ0 11 0)) 1 (κ0 11 1)) 2 (κ0 11 2)) 3 (κ0 11 3))) 0 _ _ _ hF hf (lv_sub hl [1, 2, 0] rfl)
def f_X0_has (σ0 : K2) (a1 : Int32) : Option (Int32) := if a1 < 0 then (some (0)) else (if (σ0 11 3) ≤ a1 then (some (0)) else (some (1)))
set_option maxHeartbeats 4000000 in
set_option maxRecDepth 100000 in
theorem c_X0_has (l : Launch) (G : GT) (ad : Nat → Nat) (σ0 : K2) (a1 : Int32) (q : Int32) (hF : f_X0_has σ0 a1 = some q) : Ct l G yX0_has wsX0_has ({ frames := 0, cells := 0, slots := 0, locals := 0 } : Room) ([.ref (ad 0), .int a1] : List Value) (wK G ad σ0) (some (.int q)) (wK G ad σ0) := by
  have k21 : Cond.fieldLink RX0 21 "PigeonRolls$Kingdom" "birds" "I" ∈ wsX0_has := by decide +kernel
  have hinX0 : ∀ w ∈ u_ws RX0 TX0 16, w ∈ wsX0_has := by decide +kernel
  refine Ct.of cX0_has 2 (some .boolean) (by decide) rfl (Nat.le_of_ble_eq_true rfl) ?_
  intro p e s m below meth c ls S hr hlocks hf hl
  have S : CallFix p m c cX0_has 2 s ([.ref (ad 0), .int a1] : List Value).toArray wsX0_has RX0 := S
  obtain ⟨hx, hb, hml, hown, hts⟩ := id S
  have hl : lv_has ls 2 [(0, .ref (ad 0)), (1, .int a1)] := hl
  unfold f_X0_has at hF
  refine lv_iload_n hx hb dX0_has_0 rfl (lv_at hl 1 rfl) ?_
  refine lv_if_lt (tgt := 16) hx hb dX0_has_1 (by decide) (fun c1 => ?_) (fun c1 => ?_)
  · replace hF := (if_pos c1).symm.trans hF
    refine lv_iconst (v := 0) hx hb dX0_has_16 (by decide) ?_
    exact g_zret S hr hlocks hf (by decide) (congrArg (fun z : Int32 => z) (Option.some.inj hF)) rfl dX0_has_17
  · replace hF := (if_neg c1).symm.trans hF
    refine lv_iload_n hx hb dX0_has_4 rfl (lv_at hl 1 rfl) ?_
    refine lv_aload_n hx hb dX0_has_5 rfl (lv_at hl 0 rfl) ?_
    refine g_get (ci := 0) (C := RX0) (T := TX0) (N := 16) (v := .int (σ0 11 3)) S hf hinX0 0 rfl rfl 3 (by decide) k21 rfl rfl dX0_has_6 ?_
    refine lv_icmp_ge (tgt := 16) hx hb dX0_has_9 (by decide) (fun c2 => ?_) (fun c2 => ?_)
    · replace hF := (if_pos c2).symm.trans hF
      refine lv_iconst (v := 0) hx hb dX0_has_16 (by decide) ?_
      exact g_zret S hr hlocks hf (by decide) (congrArg (fun z : Int32 => z) (Option.some.inj hF)) rfl dX0_has_17
    · replace hF := (if_neg c2).symm.trans hF
      refine lv_iconst (v := 1) hx hb dX0_has_12 (by decide) ?_
      refine lv_goto (tgt := 17) hx hb dX0_has_13 (by decide) ?_
      exact g_zret S hr hlocks hf (by decide) (congrArg (fun z : Int32 => z) (Option.some.inj hF)) rfl dX0_has_17
def f_X0_isFull (σ0 : K2) : Option (Int32) := if (σ0 11 3) < 8 then (some (0)) else (some (1))
set_option maxHeartbeats 4000000 in
set_option maxRecDepth 100000 in
theorem c_X0_isFull (l : Launch) (G : GT) (ad : Nat → Nat) (σ0 : K2) (q : Int32) (hF : f_X0_isFull σ0 = some q) : Ct l G yX0_isFull wsX0_isFull ({ frames := 0, cells := 0, slots := 0, locals := 0 } : Room) ([.ref (ad 0)] : List Value) (wK G ad σ0) (some (.int q)) (wK G ad σ0) := by
  have k21 : Cond.fieldLink RX0 21 "PigeonRolls$Kingdom" "birds" "I" ∈ wsX0_isFull := by decide +kernel
  have hinX0 : ∀ w ∈ u_ws RX0 TX0 16, w ∈ wsX0_isFull := by decide +kernel
  refine Ct.of cX0_isFull 1 (some .boolean) (by decide) rfl (Nat.le_of_ble_eq_true rfl) ?_
  intro p e s m below meth c ls S hr hlocks hf hl
  have S : CallFix p m c cX0_isFull 1 s ([.ref (ad 0)] : List Value).toArray wsX0_isFull RX0 := S
  obtain ⟨hx, hb, hml, hown, hts⟩ := id S
  have hl : lv_has ls 1 [(0, .ref (ad 0))] := hl
  unfold f_X0_isFull at hF
  refine lv_aload_n hx hb dX0_isFull_0 rfl (lv_at hl 0 rfl) ?_
  refine g_get (ci := 0) (C := RX0) (T := TX0) (N := 16) (v := .int (σ0 11 3)) S hf hinX0 0 rfl rfl 3 (by decide) k21 rfl rfl dX0_isFull_1 ?_
  refine lv_bipush (v := 8) hx hb dX0_isFull_4 (by decide) ?_
  refine lv_icmp_lt (tgt := 13) hx hb dX0_isFull_6 (by decide) (fun c1 => ?_) (fun c1 => ?_)
  · replace hF := (if_pos c1).symm.trans hF
    refine lv_iconst (v := 0) hx hb dX0_isFull_13 (by decide) ?_
    exact g_zret S hr hlocks hf (by decide) (congrArg (fun z : Int32 => z) (Option.some.inj hF)) rfl dX0_isFull_14
  · replace hF := (if_neg c1).symm.trans hF
    refine lv_iconst (v := 1) hx hb dX0_isFull_9 (by decide) ?_
    refine lv_goto (tgt := 14) hx hb dX0_isFull_10 (by decide) ?_
    exact g_zret S hr hlocks hf (by decide) (congrArg (fun z : Int32 => z) (Option.some.inj hF)) rfl dX0_isFull_14
def f_X0_allows (a0 : Int32) (a1 : Int32) (a2 : Int32) : Option (Int32) := if a1 = 2 then (Option.bind (f_X3_within a2 (-1) (a0 - 1)) (fun q6 => if q6 = 0 ∨ q6 = 1 then some (q6) else none)) else (if ix a1 9 then (Option.bind (f_X3_within a2 0 (tbMost a1.toNatClampNeg)) (fun q3 => if q3 = 0 ∨ q3 = 1 then some (q3) else none)) else none)
set_option maxHeartbeats 4000000 in
set_option maxRecDepth 100000 in
theorem c_X0_allows (l : Launch) (G : GT)  (a0 : Int32) (a1 : Int32) (a2 : Int32) (q : Int32) (hF : f_X0_allows a0 a1 a2 = some q) : Ct l G yX0_allows wsX0_allows ({ frames := 1, cells := 0, slots := 0, locals := 22 } : Room) ([.int a0, .int a1, .int a2] : List Value) (([] : va_W)) (some (.int q)) (([] : va_W)) := by
  have k73 : Cond.fieldLink RX0 73 "PigeonRolls$Kingdom" "MOST" "[I" ∈ wsX0_allows := by decide +kernel
  have ki3 : Cond.initialized RX3 ∈ wsX0_allows := by decide +kernel
  have ksw : Cond.static yX3_within ∈ wsX0_allows := by decide +kernel
  refine Ct.of cX0_allows 3 (some .boolean) (by decide) rfl (Nat.le_of_ble_eq_true rfl) ?_
  intro p e s m below meth c ls S hr hlocks hf hl
  have S : CallFix p m c cX0_allows 3 s ([.int a0, .int a1, .int a2] : List Value).toArray wsX0_allows RX0 := S
  obtain ⟨hx, hb, hml, hown, hts⟩ := id S
  have hl : lv_has ls 3 [(0, .int a0), (1, .int a1), (2, .int a2)] := hl
  unfold f_X0_allows at hF
  refine lv_iload_n hx hb dX0_allows_0 rfl (lv_at hl 1 rfl) ?_
  refine lv_iconst (v := 2) hx hb dX0_allows_1 (by decide) ?_
  refine lv_icmp_ne (tgt := 16) hx hb dX0_allows_2 (by decide) (fun c1 => ?_) (fun c1 => ?_)
  · replace hF := (if_neg c1).symm.trans hF
    refine lv_iload_n hx hb dX0_allows_16 rfl (lv_at hl 2 rfl) ?_
    refine lv_iconst (v := 0) hx hb dX0_allows_17 (by decide) ?_
    refine g_gets S hf hf.2.2.2.2.2.2.2.1 k73 dX0_allows_18 ?_
    refine lv_iload_n hx hb dX0_allows_21 rfl (lv_at hl 1 rfl) ?_
    obtain ⟨g2, hF⟩ := gd_some hF
    refine g_tald S hf hf.2.2.2.2.2.2.2.1 g2 dX0_allows_22 ?_
    obtain ⟨q3, h4, hF⟩ := Option.bind_eq_some_iff.mp hF
    refine g_csn (o := some (.int q3)) (As := [.int a2, .int 0, .int (tbMost a1.toNatClampNeg)]) (rest := []) (st1 := [.int q3]) (host := RX3) S hf (c_X3_within l G  a2 0 (tbMost a1.toNatClampNeg) q3 h4) ⟨va_cnB 3 hts gX0_allows_X3_within_n69 rfl rfl rfl hf.2.2.2.2.2.2.2.2.1.2.2 (hts _ ki3) (by decide +kernel) ⟨Nat.le_of_ble_eq_true rfl, Nat.le_of_ble_eq_true rfl⟩, hts _ ksw, trivial⟩ rfl hl.1 rfl rfl (Nat.le_of_ble_eq_true rfl) ⟨Nat.zero_le _, Nat.zero_le _⟩ dX0_allows_23 (fun H locs hf => ?_)
    obtain ⟨g5, hF⟩ := gd_some hF
    exact g_zret S hr hlocks hf (nz g5) (congrArg (fun z : Int32 => z) (Option.some.inj hF)) rfl dX0_allows_26
  · replace hF := (if_pos c1).symm.trans hF
    refine lv_iload_n hx hb dX0_allows_5 rfl (lv_at hl 2 rfl) ?_
    refine lv_iconst (v := -1) hx hb dX0_allows_6 (by decide) ?_
    refine lv_iload_n hx hb dX0_allows_7 rfl (lv_at hl 0 rfl) ?_
    refine lv_iconst (v := 1) hx hb dX0_allows_8 (by decide) ?_
    refine lv_isub hx hb dX0_allows_9 ?_
    obtain ⟨q6, h7, hF⟩ := Option.bind_eq_some_iff.mp hF
    refine g_csn (o := some (.int q6)) (As := [.int a2, .int (-1), .int (a0 - 1)]) (rest := []) (st1 := [.int q6]) (host := RX3) S hf (c_X3_within l G  a2 (-1) (a0 - 1) q6 h7) ⟨va_cnB 3 hts gX0_allows_X3_within_n69 rfl rfl rfl hf.2.2.2.2.2.2.2.2.1.2.2 (hts _ ki3) (by decide +kernel) ⟨Nat.le_of_ble_eq_true rfl, Nat.le_of_ble_eq_true rfl⟩, hts _ ksw, trivial⟩ rfl hl.1 rfl rfl (Nat.le_of_ble_eq_true rfl) ⟨Nat.zero_le _, Nat.zero_le _⟩ dX0_allows_10 (fun H locs hf => ?_)
    refine lv_goto (tgt := 26) hx hb dX0_allows_13 (by decide) ?_
    obtain ⟨g8, hF⟩ := gd_some hF
    exact g_zret S hr hlocks hf (nz g8) (congrArg (fun z : Int32 => z) (Option.some.inj hF)) rfl dX0_allows_26
def f_X0_add_B43 (σ : K2) (x1 : Int32) (x2 : Int32) (x3 : Int32) (x4 : Int32) : Option (Int32 × K2) := if ix x4 8 then (some (x4, va_up (va_up (va_up σ 0 (upd (σ 0) x4.toNatClampNeg x1)) 1 (upd (σ 1) x4.toNatClampNeg x2)) 2 (upd (σ 2) x4.toNatClampNeg x3))) else none
def f_X0_add_L19 : Nat → K2 → Int32 → Int32 → Int32 → Int32 → Int32 → Option (Int32 × K2)
  | 0, _, _, _, _, _, _ => none
  | n + 1, σ, x1, x2, x3, x4, x5 => if 9 ≤ x5 then (f_X0_add_B43 σ x1 x2 x3 x4) else (if ix x5 9 then (if ix x4 8 then (f_X0_add_L19 n (va_up σ x5.toNatClampNeg (upd (σ x5.toNatClampNeg) x4.toNatClampNeg 0)) x1 x2 x3 x4 (x5 + 1)) else none) else none)
def f_X0_add (σ0 : K2) (a1 : Int32) (a2 : Int32) (a3 : Int32) : Option (Int32 × K2) := f_X0_add_L19 1000 (va_up σ0 11 (upd (σ0 11) 3 ((σ0 11 3) + 1))) a1 a2 a3 (σ0 11 3) 0
set_option maxHeartbeats 4000000 in
set_option maxRecDepth 100000 in
theorem c_X0_add (l : Launch) (G : GT) (ad : Nat → Nat) (σ0 : K2) (a1 : Int32) (a2 : Int32) (a3 : Int32) (q : Int32 × K2) (hF : f_X0_add σ0 a1 a2 a3 = some q) : Ct l G yX0_add wsX0_add ({ frames := 0, cells := 0, slots := 0, locals := 0 } : Room) ([.ref (ad 0), .int a1, .int a2, .int a3] : List Value) (wK G ad σ0) (some (.int q.1)) (wK G ad q.2) := by
  have k21 : Cond.fieldLink RX0 21 "PigeonRolls$Kingdom" "birds" "I" ∈ wsX0_add := by decide +kernel
  have k36 : Cond.fieldLink RX0 36 "PigeonRolls$Kingdom" "kind" "[I" ∈ wsX0_add := by decide +kernel
  have k39 : Cond.fieldLink RX0 39 "PigeonRolls$Kingdom" "loft" "[I" ∈ wsX0_add := by decide +kernel
  have k42 : Cond.fieldLink RX0 42 "PigeonRolls$Kingdom" "from" "[I" ∈ wsX0_add := by decide +kernel
  have k33 : Cond.fieldLink RX0 33 "PigeonRolls$Kingdom" "traits" "[[I" ∈ wsX0_add := by decide +kernel
  have hinX0 : ∀ w ∈ u_ws RX0 TX0 16, w ∈ wsX0_add := by decide +kernel
  refine Ct.of cX0_add 6 (some .int) (by decide) rfl (Nat.le_of_ble_eq_true rfl) ?_
  intro p e s m below meth c ls S hr hlocks hf hl
  have S : CallFix p m c cX0_add 6 s ([.ref (ad 0), .int a1, .int a2, .int a3] : List Value).toArray wsX0_add RX0 := S
  obtain ⟨hx, hb, hml, hown, hts⟩ := id S
  have hl : lv_has ls 6 [(0, .ref (ad 0)), (1, .int a1), (2, .int a2), (3, .int a3)] := hl
  have hL43 : ∀ (σ : K2) (x1 : Int32) (x2 : Int32) (x3 : Int32) (x4 : Int32)  (H : Heap) (locs : List Loc) (ls : Array Slot), f_X0_add_B43 σ x1 x2 x3 x4 = some q → Fr G (va_A (wK G ad σ0) s.heap.size) s (wK G ad σ) H locs → lv_has ls 6 [(0, .ref (ad 0)), (1, .int x1), (2, .int x2), (3, .int x3), (4, .int x4)] → W p l e ({ frames := 0, cells := 0, slots := 0, locals := 0 } : Room) s m ([.ref (ad 0), .int a1, .int a2, .int a3] : List Value).toArray below meth c H locs 0 0 (MQ below (CPost G (wK G ad σ0) s.heap.size (some (.int q.1)) (wK G ad q.2)) ([.ref (ad 0), .int a1, .int a2, .int a3] : List Value).toArray s 0 0 (va_A (wK G ad σ0) s.heap.size)) (F0 m 43 ls []) := by
    intro σ x1 x2 x3 x4 H locs ls hF hf hl
    unfold f_X0_add_B43 at hF
    refine lv_aload_n hx hb dX0_add_43 rfl (lv_at hl 0 rfl) ?_
    refine g_get (ci := 0) (C := RX0) (T := TX0) (N := 16) (v := .ref (ad 4)) S hf hinX0 0 rfl rfl 7 (by decide) k36 rfl rfl dX0_add_44 ?_
    refine lv_iload hx hb dX0_add_47 (lv_at hl 4 rfl) ?_
    refine lv_iload_n hx hb dX0_add_49 rfl (lv_at hl 1 rfl) ?_
    obtain ⟨g2, hF⟩ := gd_some hF
    refine g_ast (ww' := wK G ad (va_up σ 0 (upd (σ 0) x4.toNatClampNeg x1))) S hf 4 rfl g2 rfl dX0_add_50 (fun H locs hf => ?_)
    refine lv_aload_n hx hb dX0_add_51 rfl (lv_at hl 0 rfl) ?_
    refine g_get (ci := 0) (C := RX0) (T := TX0) (N := 16) (v := .ref (ad 5)) S hf hinX0 0 rfl rfl 8 (by decide) k39 rfl rfl dX0_add_52 ?_
    refine lv_iload hx hb dX0_add_55 (lv_at hl 4 rfl) ?_
    refine lv_iload_n hx hb dX0_add_57 rfl (lv_at hl 2 rfl) ?_
    refine g_ast (ww' := wK G ad (va_up (va_up σ 0 (upd (σ 0) x4.toNatClampNeg x1)) 1 (upd (σ 1) x4.toNatClampNeg x2))) S hf 5 rfl g2 rfl dX0_add_58 (fun H locs hf => ?_)
    refine lv_aload_n hx hb dX0_add_59 rfl (lv_at hl 0 rfl) ?_
    refine g_get (ci := 0) (C := RX0) (T := TX0) (N := 16) (v := .ref (ad 6)) S hf hinX0 0 rfl rfl 9 (by decide) k42 rfl rfl dX0_add_60 ?_
    refine lv_iload hx hb dX0_add_63 (lv_at hl 4 rfl) ?_
    refine lv_iload_n hx hb dX0_add_65 rfl (lv_at hl 3 rfl) ?_
    refine g_ast (ww' := wK G ad (va_up (va_up (va_up σ 0 (upd (σ 0) x4.toNatClampNeg x1)) 1 (upd (σ 1) x4.toNatClampNeg x2)) 2 (upd (σ 2) x4.toNatClampNeg x3))) S hf 6 rfl g2 rfl dX0_add_66 (fun H locs hf => ?_)
    refine lv_iload hx hb dX0_add_67 (lv_at hl 4 rfl) ?_
    exact g_iret S hr hlocks hf (congrArg (fun z : Int32 × K2 => z.1) (Option.some.inj hF)) (congrArg (fun z : Int32 × K2 => wK G ad z.2) (Option.some.inj hF)) dX0_add_69
  have hL19 : ∀ (n : Nat) (σ : K2) (x1 : Int32) (x2 : Int32) (x3 : Int32) (x4 : Int32) (x5 : Int32)  (H : Heap) (locs : List Loc) (ls : Array Slot), f_X0_add_L19 n σ x1 x2 x3 x4 x5 = some q → Fr G (va_A (wK G ad σ0) s.heap.size) s (wK G ad σ) H locs → lv_has ls 6 [(0, .ref (ad 0)), (1, .int x1), (2, .int x2), (3, .int x3), (4, .int x4), (5, .int x5)] → W p l e ({ frames := 0, cells := 0, slots := 0, locals := 0 } : Room) s m ([.ref (ad 0), .int a1, .int a2, .int a3] : List Value).toArray below meth c H locs 0 0 (MQ below (CPost G (wK G ad σ0) s.heap.size (some (.int q.1)) (wK G ad q.2)) ([.ref (ad 0), .int a1, .int a2, .int a3] : List Value).toArray s 0 0 (va_A (wK G ad σ0) s.heap.size)) (F0 m 19 ls []) := by
    intro n
    induction n with
    | zero =>
      intro σ x1 x2 x3 x4 x5 H locs ls hF hf hl
      exact absurd hF (by simp [f_X0_add_L19])
    | succ n ih19 =>
      intro σ x1 x2 x3 x4 x5 H locs ls hF hf hl
      rw [f_X0_add_L19] at hF
      refine lv_iload hx hb dX0_add_19 (lv_at hl 5 rfl) ?_
      refine lv_bipush (v := 9) hx hb dX0_add_21 (by decide) ?_
      refine lv_icmp_ge (tgt := 43) hx hb dX0_add_23 (by decide) (fun c1 => ?_) (fun c1 => ?_)
      · replace hF := (if_pos c1).symm.trans hF
        exact hL43 σ x1 x2 x3 x4 _ _ _ hF hf (lv_sub hl [0, 1, 2, 3, 4] rfl)
      · replace hF := (if_neg c1).symm.trans hF
        refine lv_aload_n hx hb dX0_add_26 rfl (lv_at hl 0 rfl) ?_
        refine g_get (ci := 0) (C := RX0) (T := TX0) (N := 16) (v := .ref (ad 3)) S hf hinX0 0 rfl rfl 6 (by decide) k33 rfl rfl dX0_add_27 ?_
        refine lv_iload hx hb dX0_add_30 (lv_at hl 5 rfl) ?_
        obtain ⟨g3, hF⟩ := gd_some hF
        refine g_aald (v := ad (4 + x5.toNatClampNeg)) (t0 := 1) S hf 3 rfl rfl rfl g3 (if_pos (ix_lt g3)) dX0_add_32 ?_
        refine lv_iload hx hb dX0_add_33 (lv_at hl 4 rfl) ?_
        refine lv_iconst (v := 0) hx hb dX0_add_35 (by decide) ?_
        obtain ⟨g4, hF⟩ := gd_some hF
        refine g_ast (ww' := wK G ad (va_up σ x5.toNatClampNeg (upd (σ x5.toNatClampNeg) x4.toNatClampNeg 0))) S hf (4 + x5.toNatClampNeg) (wK_r (ix_lt g3)) g4 (wK_r_set (ix_lt g3)) dX0_add_36 (fun H locs hf => ?_)
        refine lv_iinc (v := x5 + 1) (lv' := [(5, .int (x5 + 1)), (0, .ref (ad 0)), (1, .int x1), (2, .int x2), (3, .int x3), (4, .int x4)]) hx hb dX0_add_37 hl (k := 5) rfl rfl (by decide) rfl (fun ls hl => ?_)
        refine lv_goto (tgt := 19) hx hb dX0_add_40 (by decide) ?_
        exact ih19 (va_up σ x5.toNatClampNeg (upd (σ x5.toNatClampNeg) x4.toNatClampNeg 0)) x1 x2 x3 x4 (x5 + 1) _ _ _ hF hf (lv_sub hl [1, 2, 3, 4, 5, 0] rfl)
  unfold f_X0_add at hF
  refine lv_aload_n hx hb dX0_add_0 rfl (lv_at hl 0 rfl) ?_
  refine g_get (ci := 0) (C := RX0) (T := TX0) (N := 16) (v := .int (σ0 11 3)) S hf hinX0 0 rfl rfl 3 (by decide) k21 rfl rfl dX0_add_1 ?_
  refine lv_istore (lv' := [(4, .int (σ0 11 3)), (0, .ref (ad 0)), (1, .int a1), (2, .int a2), (3, .int a3)]) hx hb dX0_add_4 hl (by decide) rfl (fun ls hl => ?_)
  refine lv_aload_n hx hb dX0_add_6 rfl (lv_at hl 1 rfl) ?_
  refine lv_dup hx hb dX0_add_7 rfl ?_
  refine g_get (ci := 0) (C := RX0) (T := TX0) (N := 16) (v := .int (σ0 11 3)) S hf hinX0 0 rfl rfl 3 (by decide) k21 rfl rfl dX0_add_8 ?_
  refine lv_iconst (v := 1) hx hb dX0_add_11 (by decide) ?_
  refine lv_iadd hx hb dX0_add_12 ?_
  refine g_put (ci := 0) (C := RX0) (T := TX0) (N := 16) (ww' := wK G ad (va_up σ0 11 (upd (σ0 11) 3 ((σ0 11 3) + 1)))) S hf hinX0 tyX0 tyX0_ok nmX0 0 rfl rfl 3 (by decide) k21 rfl rfl rfl rfl (Nat.le_of_ble_eq_true rfl) rfl dX0_add_13 (fun H locs hf => ?_)
  refine lv_iconst (v := 0) hx hb dX0_add_16 (by decide) ?_
  refine lv_istore (lv' := [(5, .int 0), (4, .int (σ0 11 3)), (0, .ref (ad 0)), (1, .int a1), (2, .int a2), (3, .int a3)]) hx hb dX0_add_17 hl (by decide) rfl (fun ls hl => ?_)
  exact hL19 1000 (va_up σ0 11 (upd (σ0 11) 3 ((σ0 11 3) + 1))) a1 a2 a3 (σ0 11 3) 0 _ _ _ hF hf (lv_sub hl [2, 3, 4, 5, 1, 0] rfl)
def f_X0_isDead (σ0 : K2) (a1 : Int32) : Option (Int32) := if ix a1 8 then (if ix ((σ0 0) a1.toNatClampNeg) 7 then (if ((σ0 3) a1.toNatClampNeg) ≤ (tbLife ((σ0 0) a1.toNatClampNeg).toNatClampNeg) then (some (0)) else (some (1))) else none) else none
set_option maxHeartbeats 4000000 in
set_option maxRecDepth 100000 in
theorem c_X0_isDead (l : Launch) (G : GT) (ad : Nat → Nat) (σ0 : K2) (a1 : Int32) (q : Int32) (hF : f_X0_isDead σ0 a1 = some q) : Ct l G yX0_isDead wsX0_isDead ({ frames := 0, cells := 0, slots := 0, locals := 0 } : Room) ([.ref (ad 0), .int a1] : List Value) (wK G ad σ0) (some (.int q)) (wK G ad σ0) := by
  have k45 : Cond.fieldLink RX0 45 "PigeonRolls$Kingdom" "age" "[I" ∈ wsX0_isDead := by decide +kernel
  have k76 : Cond.fieldLink RX0 76 "PigeonRolls$Kingdom" "LIFE" "[I" ∈ wsX0_isDead := by decide +kernel
  have k36 : Cond.fieldLink RX0 36 "PigeonRolls$Kingdom" "kind" "[I" ∈ wsX0_isDead := by decide +kernel
  have hinX0 : ∀ w ∈ u_ws RX0 TX0 16, w ∈ wsX0_isDead := by decide +kernel
  refine Ct.of cX0_isDead 2 (some .boolean) (by decide) rfl (Nat.le_of_ble_eq_true rfl) ?_
  intro p e s m below meth c ls S hr hlocks hf hl
  have S : CallFix p m c cX0_isDead 2 s ([.ref (ad 0), .int a1] : List Value).toArray wsX0_isDead RX0 := S
  obtain ⟨hx, hb, hml, hown, hts⟩ := id S
  have hl : lv_has ls 2 [(0, .ref (ad 0)), (1, .int a1)] := hl
  unfold f_X0_isDead at hF
  refine lv_aload_n hx hb dX0_isDead_0 rfl (lv_at hl 0 rfl) ?_
  refine g_get (ci := 0) (C := RX0) (T := TX0) (N := 16) (v := .ref (ad 7)) S hf hinX0 0 rfl rfl 10 (by decide) k45 rfl rfl dX0_isDead_1 ?_
  refine lv_iload_n hx hb dX0_isDead_4 rfl (lv_at hl 1 rfl) ?_
  obtain ⟨g1, hF⟩ := gd_some hF
  refine g_ald (v := (σ0 3) a1.toNatClampNeg) S hf 7 rfl g1 rfl dX0_isDead_5 ?_
  refine g_gets S hf hf.2.2.2.2.2.1 k76 dX0_isDead_6 ?_
  refine lv_aload_n hx hb dX0_isDead_9 rfl (lv_at hl 0 rfl) ?_
  refine g_get (ci := 0) (C := RX0) (T := TX0) (N := 16) (v := .ref (ad 4)) S hf hinX0 0 rfl rfl 7 (by decide) k36 rfl rfl dX0_isDead_10 ?_
  refine lv_iload_n hx hb dX0_isDead_13 rfl (lv_at hl 1 rfl) ?_
  refine g_ald (v := (σ0 0) a1.toNatClampNeg) S hf 4 rfl g1 rfl dX0_isDead_14 ?_
  obtain ⟨g2, hF⟩ := gd_some hF
  refine g_tald S hf hf.2.2.2.2.2.1 g2 dX0_isDead_15 ?_
  refine lv_icmp_le (tgt := 23) hx hb dX0_isDead_16 (by decide) (fun c3 => ?_) (fun c3 => ?_)
  · replace hF := (if_pos c3).symm.trans hF
    refine lv_iconst (v := 0) hx hb dX0_isDead_23 (by decide) ?_
    exact g_zret S hr hlocks hf (by decide) (congrArg (fun z : Int32 => z) (Option.some.inj hF)) rfl dX0_isDead_24
  · replace hF := (if_neg c3).symm.trans hF
    refine lv_iconst (v := 1) hx hb dX0_isDead_19 (by decide) ?_
    refine lv_goto (tgt := 24) hx hb dX0_isDead_20 (by decide) ?_
    exact g_zret S hr hlocks hf (by decide) (congrArg (fun z : Int32 => z) (Option.some.inj hF)) rfl dX0_isDead_24
def f_X0_livingChildren_L6 (σ0 : K2) : Nat → Int32 → Int32 → Int32 → Option (Int32)
  | 0, _, _, _ => none
  | n + 1, x1, x2, x3 => if (σ0 11 3) ≤ x3 then (some (x2)) else (if ix x3 8 then (if ((σ0 2) x3.toNatClampNeg) = x1 then (Option.bind (f_X0_isDead σ0 x3) (fun q4 => if q4 = 0 then (f_X0_livingChildren_L6 σ0 n x1 (x2 + 1) (x3 + 1)) else (f_X0_livingChildren_L6 σ0 n x1 x2 (x3 + 1)))) else (f_X0_livingChildren_L6 σ0 n x1 x2 (x3 + 1))) else none)
def f_X0_livingChildren (σ0 : K2) (a1 : Int32) : Option (Int32) := f_X0_livingChildren_L6 σ0 1000 a1 0 (a1 + 1)
set_option maxHeartbeats 4000000 in
set_option maxRecDepth 100000 in
theorem c_X0_livingChildren (l : Launch) (G : GT) (ad : Nat → Nat) (σ0 : K2) (a1 : Int32) (q : Int32) (hF : f_X0_livingChildren σ0 a1 = some q) : Ct l G yX0_livingChildren wsX0_livingChildren ({ frames := 1, cells := 0, slots := 0, locals := 21 } : Room) ([.ref (ad 0), .int a1] : List Value) (wK G ad σ0) (some (.int q)) (wK G ad σ0) := by
  have k21 : Cond.fieldLink RX0 21 "PigeonRolls$Kingdom" "birds" "I" ∈ wsX0_livingChildren := by decide +kernel
  have k42 : Cond.fieldLink RX0 42 "PigeonRolls$Kingdom" "from" "[I" ∈ wsX0_livingChildren := by decide +kernel
  have hinX0 : ∀ w ∈ u_ws RX0 TX0 16, w ∈ wsX0_livingChildren := by decide +kernel
  refine Ct.of cX0_livingChildren 4 (some .int) (by decide) rfl (Nat.le_of_ble_eq_true rfl) ?_
  intro p e s m below meth c ls S hr hlocks hf hl
  have S : CallFix p m c cX0_livingChildren 4 s ([.ref (ad 0), .int a1] : List Value).toArray wsX0_livingChildren RX0 := S
  obtain ⟨hx, hb, hml, hown, hts⟩ := id S
  have hl : lv_has ls 4 [(0, .ref (ad 0)), (1, .int a1)] := hl
  have hL6 : ∀ (n : Nat) (x1 : Int32) (x2 : Int32) (x3 : Int32)  (H : Heap) (locs : List Loc) (ls : Array Slot), f_X0_livingChildren_L6 σ0 n x1 x2 x3 = some q → Fr G (va_A (wK G ad σ0) s.heap.size) s (wK G ad σ0) H locs → lv_has ls 4 [(0, .ref (ad 0)), (1, .int x1), (2, .int x2), (3, .int x3)] → W p l e ({ frames := 1, cells := 0, slots := 0, locals := 21 } : Room) s m ([.ref (ad 0), .int a1] : List Value).toArray below meth c H locs 0 0 (MQ below (CPost G (wK G ad σ0) s.heap.size (some (.int q)) (wK G ad σ0)) ([.ref (ad 0), .int a1] : List Value).toArray s 0 0 (va_A (wK G ad σ0) s.heap.size)) (F0 m 6 ls []) := by
    intro n
    induction n with
    | zero =>
      intro x1 x2 x3 H locs ls hF hf hl
      exact absurd hF (by simp [f_X0_livingChildren_L6])
    | succ n ih6 =>
      intro x1 x2 x3 H locs ls hF hf hl
      rw [f_X0_livingChildren_L6] at hF
      refine lv_iload_n hx hb dX0_livingChildren_6 rfl (lv_at hl 3 rfl) ?_
      refine lv_aload_n hx hb dX0_livingChildren_7 rfl (lv_at hl 0 rfl) ?_
      refine g_get (ci := 0) (C := RX0) (T := TX0) (N := 16) (v := .int (σ0 11 3)) S hf hinX0 0 rfl rfl 3 (by decide) k21 rfl rfl dX0_livingChildren_8 ?_
      refine lv_icmp_ge (tgt := 41) hx hb dX0_livingChildren_11 (by decide) (fun c1 => ?_) (fun c1 => ?_)
      · replace hF := (if_pos c1).symm.trans hF
        refine lv_iload_n hx hb dX0_livingChildren_41 rfl (lv_at hl 2 rfl) ?_
        exact g_iret S hr hlocks hf (congrArg (fun z : Int32 => z) (Option.some.inj hF)) rfl dX0_livingChildren_42
      · replace hF := (if_neg c1).symm.trans hF
        refine lv_aload_n hx hb dX0_livingChildren_14 rfl (lv_at hl 0 rfl) ?_
        refine g_get (ci := 0) (C := RX0) (T := TX0) (N := 16) (v := .ref (ad 6)) S hf hinX0 0 rfl rfl 9 (by decide) k42 rfl rfl dX0_livingChildren_15 ?_
        refine lv_iload_n hx hb dX0_livingChildren_18 rfl (lv_at hl 3 rfl) ?_
        obtain ⟨g2, hF⟩ := gd_some hF
        refine g_ald (v := (σ0 2) x3.toNatClampNeg) S hf 6 rfl g2 rfl dX0_livingChildren_19 ?_
        refine lv_iload_n hx hb dX0_livingChildren_20 rfl (lv_at hl 1 rfl) ?_
        refine lv_icmp_ne (tgt := 35) hx hb dX0_livingChildren_21 (by decide) (fun c3 => ?_) (fun c3 => ?_)
        · replace hF := (if_neg c3).symm.trans hF
          refine lv_iinc (v := x3 + 1) (lv' := [(3, .int (x3 + 1)), (0, .ref (ad 0)), (1, .int x1), (2, .int x2)]) hx hb dX0_livingChildren_35 hl (k := 3) rfl rfl (by decide) rfl (fun ls hl => ?_)
          refine lv_goto (tgt := 6) hx hb dX0_livingChildren_38 (by decide) ?_
          exact ih6 x1 x2 (x3 + 1) _ _ _ hF hf (lv_sub hl [1, 2, 3, 0] rfl)
        · replace hF := (if_pos c3).symm.trans hF
          refine lv_aload_n hx hb dX0_livingChildren_24 rfl (lv_at hl 0 rfl) ?_
          refine lv_iload_n hx hb dX0_livingChildren_25 rfl (lv_at hl 3 rfl) ?_
          obtain ⟨q4, h5, hF⟩ := Option.bind_eq_some_iff.mp hF
          refine g_cv0 (o := some (.int q4)) (As := [.int x3]) (rest := []) (st1 := [.int q4]) (ci := 0) S hf (c_X0_isDead l G ad σ0 x3 q4 h5) (cwV 1 hts gX0_livingChildren_X0_isDead rfl rfl rfl (by decide +kernel) ⟨Nat.le_of_ble_eq_true rfl, Nat.le_of_ble_eq_true rfl⟩) rfl rfl rfl 0 rfl rfl hl.1 rfl rfl (Nat.le_of_ble_eq_true rfl) ⟨Nat.zero_le _, Nat.zero_le _⟩ dX0_livingChildren_26 (fun H locs hf => ?_)
          have hf : Fr G (va_A (wK G ad σ0) s.heap.size) s (wK G ad σ0) H locs := hf
          refine lv_if_ne (tgt := 35) hx hb dX0_livingChildren_29 (by decide) (fun c6 => ?_) (fun c6 => ?_)
          · replace hF := (if_neg c6).symm.trans hF
            refine lv_iinc (v := x3 + 1) (lv' := [(3, .int (x3 + 1)), (0, .ref (ad 0)), (1, .int x1), (2, .int x2)]) hx hb dX0_livingChildren_35 hl (k := 3) rfl rfl (by decide) rfl (fun ls hl => ?_)
            refine lv_goto (tgt := 6) hx hb dX0_livingChildren_38 (by decide) ?_
            exact ih6 x1 x2 (x3 + 1) _ _ _ hF hf (lv_sub hl [1, 2, 3, 0] rfl)
          · replace hF := (if_pos c6).symm.trans hF
            refine lv_iinc (v := x2 + 1) (lv' := [(2, .int (x2 + 1)), (0, .ref (ad 0)), (1, .int x1), (3, .int x3)]) hx hb dX0_livingChildren_32 hl (k := 2) rfl rfl (by decide) rfl (fun ls hl => ?_)
            refine lv_iinc (v := x3 + 1) (lv' := [(3, .int (x3 + 1)), (2, .int (x2 + 1)), (0, .ref (ad 0)), (1, .int x1)]) hx hb dX0_livingChildren_35 hl (k := 3) rfl rfl (by decide) rfl (fun ls hl => ?_)
            refine lv_goto (tgt := 6) hx hb dX0_livingChildren_38 (by decide) ?_
            exact ih6 x1 (x2 + 1) (x3 + 1) _ _ _ hF hf (lv_sub hl [2, 3, 1, 0] rfl)
  unfold f_X0_livingChildren at hF
  refine lv_iconst (v := 0) hx hb dX0_livingChildren_0 (by decide) ?_
  refine lv_istore_n (lv' := [(2, .int 0), (0, .ref (ad 0)), (1, .int a1)]) hx hb dX0_livingChildren_1 rfl hl (by decide) rfl (fun ls hl => ?_)
  refine lv_iload_n hx hb dX0_livingChildren_2 rfl (lv_at hl 2 rfl) ?_
  refine lv_iconst (v := 1) hx hb dX0_livingChildren_3 (by decide) ?_
  refine lv_iadd hx hb dX0_livingChildren_4 ?_
  refine lv_istore_n (lv' := [(3, .int (a1 + 1)), (2, .int 0), (0, .ref (ad 0)), (1, .int a1)]) hx hb dX0_livingChildren_5 rfl hl (by decide) rfl (fun ls hl => ?_)
  exact hL6 1000 a1 0 (a1 + 1) _ _ _ hF hf (lv_sub hl [2, 3, 1, 0] rfl)
def f_X0_cockRate_L5 (σ0 : K2) : Nat → Int32 → Int32 → Int32 → Option (Int32)
  | 0, _, _, _ => none
  | n + 1, x1, x2, x3 => if (σ0 11 3) ≤ x3 then (some (x2)) else (if ix x3 8 then (if ix x1 8 then (if ((σ0 1) x3.toNatClampNeg) = ((σ0 1) x1.toNatClampNeg) then (f_X0_cockRate_L5 σ0 n x1 (x2 + 1) (x3 + 1)) else (f_X0_cockRate_L5 σ0 n x1 x2 (x3 + 1))) else none) else none)
def f_X0_cockRate (σ0 : K2) (a1 : Int32) : Option (Int32) := f_X0_cockRate_L5 σ0 1000 a1 10 0
set_option maxHeartbeats 4000000 in
set_option maxRecDepth 100000 in
theorem c_X0_cockRate (l : Launch) (G : GT) (ad : Nat → Nat) (σ0 : K2) (a1 : Int32) (q : Int32) (hF : f_X0_cockRate σ0 a1 = some q) : Ct l G yX0_cockRate wsX0_cockRate ({ frames := 0, cells := 0, slots := 0, locals := 0 } : Room) ([.ref (ad 0), .int a1] : List Value) (wK G ad σ0) (some (.int q)) (wK G ad σ0) := by
  have k21 : Cond.fieldLink RX0 21 "PigeonRolls$Kingdom" "birds" "I" ∈ wsX0_cockRate := by decide +kernel
  have k39 : Cond.fieldLink RX0 39 "PigeonRolls$Kingdom" "loft" "[I" ∈ wsX0_cockRate := by decide +kernel
  have hinX0 : ∀ w ∈ u_ws RX0 TX0 16, w ∈ wsX0_cockRate := by decide +kernel
  refine Ct.of cX0_cockRate 4 (some .int) (by decide) rfl (Nat.le_of_ble_eq_true rfl) ?_
  intro p e s m below meth c ls S hr hlocks hf hl
  have S : CallFix p m c cX0_cockRate 4 s ([.ref (ad 0), .int a1] : List Value).toArray wsX0_cockRate RX0 := S
  obtain ⟨hx, hb, hml, hown, hts⟩ := id S
  have hl : lv_has ls 4 [(0, .ref (ad 0)), (1, .int a1)] := hl
  have hL5 : ∀ (n : Nat) (x1 : Int32) (x2 : Int32) (x3 : Int32)  (H : Heap) (locs : List Loc) (ls : Array Slot), f_X0_cockRate_L5 σ0 n x1 x2 x3 = some q → Fr G (va_A (wK G ad σ0) s.heap.size) s (wK G ad σ0) H locs → lv_has ls 4 [(0, .ref (ad 0)), (1, .int x1), (2, .int x2), (3, .int x3)] → W p l e ({ frames := 0, cells := 0, slots := 0, locals := 0 } : Room) s m ([.ref (ad 0), .int a1] : List Value).toArray below meth c H locs 0 0 (MQ below (CPost G (wK G ad σ0) s.heap.size (some (.int q)) (wK G ad σ0)) ([.ref (ad 0), .int a1] : List Value).toArray s 0 0 (va_A (wK G ad σ0) s.heap.size)) (F0 m 5 ls []) := by
    intro n
    induction n with
    | zero =>
      intro x1 x2 x3 H locs ls hF hf hl
      exact absurd hF (by simp [f_X0_cockRate_L5])
    | succ n ih5 =>
      intro x1 x2 x3 H locs ls hF hf hl
      rw [f_X0_cockRate_L5] at hF
      refine lv_iload_n hx hb dX0_cockRate_5 rfl (lv_at hl 3 rfl) ?_
      refine lv_aload_n hx hb dX0_cockRate_6 rfl (lv_at hl 0 rfl) ?_
      refine g_get (ci := 0) (C := RX0) (T := TX0) (N := 16) (v := .int (σ0 11 3)) S hf hinX0 0 rfl rfl 3 (by decide) k21 rfl rfl dX0_cockRate_7 ?_
      refine lv_icmp_ge (tgt := 37) hx hb dX0_cockRate_10 (by decide) (fun c1 => ?_) (fun c1 => ?_)
      · replace hF := (if_pos c1).symm.trans hF
        refine lv_iload_n hx hb dX0_cockRate_37 rfl (lv_at hl 2 rfl) ?_
        exact g_iret S hr hlocks hf (congrArg (fun z : Int32 => z) (Option.some.inj hF)) rfl dX0_cockRate_38
      · replace hF := (if_neg c1).symm.trans hF
        refine lv_aload_n hx hb dX0_cockRate_13 rfl (lv_at hl 0 rfl) ?_
        refine g_get (ci := 0) (C := RX0) (T := TX0) (N := 16) (v := .ref (ad 5)) S hf hinX0 0 rfl rfl 8 (by decide) k39 rfl rfl dX0_cockRate_14 ?_
        refine lv_iload_n hx hb dX0_cockRate_17 rfl (lv_at hl 3 rfl) ?_
        obtain ⟨g2, hF⟩ := gd_some hF
        refine g_ald (v := (σ0 1) x3.toNatClampNeg) S hf 5 rfl g2 rfl dX0_cockRate_18 ?_
        refine lv_aload_n hx hb dX0_cockRate_19 rfl (lv_at hl 0 rfl) ?_
        refine g_get (ci := 0) (C := RX0) (T := TX0) (N := 16) (v := .ref (ad 5)) S hf hinX0 0 rfl rfl 8 (by decide) k39 rfl rfl dX0_cockRate_20 ?_
        refine lv_iload_n hx hb dX0_cockRate_23 rfl (lv_at hl 1 rfl) ?_
        obtain ⟨g3, hF⟩ := gd_some hF
        refine g_ald (v := (σ0 1) x1.toNatClampNeg) S hf 5 rfl g3 rfl dX0_cockRate_24 ?_
        refine lv_icmp_ne (tgt := 31) hx hb dX0_cockRate_25 (by decide) (fun c4 => ?_) (fun c4 => ?_)
        · replace hF := (if_neg c4).symm.trans hF
          refine lv_iinc (v := x3 + 1) (lv' := [(3, .int (x3 + 1)), (0, .ref (ad 0)), (1, .int x1), (2, .int x2)]) hx hb dX0_cockRate_31 hl (k := 3) rfl rfl (by decide) rfl (fun ls hl => ?_)
          refine lv_goto (tgt := 5) hx hb dX0_cockRate_34 (by decide) ?_
          exact ih5 x1 x2 (x3 + 1) _ _ _ hF hf (lv_sub hl [1, 2, 3, 0] rfl)
        · replace hF := (if_pos c4).symm.trans hF
          refine lv_iinc (v := x2 + 1) (lv' := [(2, .int (x2 + 1)), (0, .ref (ad 0)), (1, .int x1), (3, .int x3)]) hx hb dX0_cockRate_28 hl (k := 2) rfl rfl (by decide) rfl (fun ls hl => ?_)
          refine lv_iinc (v := x3 + 1) (lv' := [(3, .int (x3 + 1)), (2, .int (x2 + 1)), (0, .ref (ad 0)), (1, .int x1)]) hx hb dX0_cockRate_31 hl (k := 3) rfl rfl (by decide) rfl (fun ls hl => ?_)
          refine lv_goto (tgt := 5) hx hb dX0_cockRate_34 (by decide) ?_
          exact ih5 x1 (x2 + 1) (x3 + 1) _ _ _ hF hf (lv_sub hl [2, 3, 1, 0] rfl)
  unfold f_X0_cockRate at hF
  refine lv_bipush (v := 10) hx hb dX0_cockRate_0 (by decide) ?_
  refine lv_istore_n (lv' := [(2, .int 10), (0, .ref (ad 0)), (1, .int a1)]) hx hb dX0_cockRate_2 rfl hl (by decide) rfl (fun ls hl => ?_)
  refine lv_iconst (v := 0) hx hb dX0_cockRate_3 (by decide) ?_
  refine lv_istore_n (lv' := [(3, .int 0), (2, .int 10), (0, .ref (ad 0)), (1, .int a1)]) hx hb dX0_cockRate_4 rfl hl (by decide) rfl (fun ls hl => ?_)
  exact hL5 1000 a1 10 0 _ _ _ hF hf (lv_sub hl [2, 3, 1, 0] rfl)
def f_X0_rateOf (σ0 : K2) (a1 : Int32) : Option (Int32) := if ix a1 8 then (if (σ0 0) a1.toNatClampNeg = 1 then (some (8)) else (if (σ0 0) a1.toNatClampNeg = 2 then (Option.bind (f_X0_cockRate σ0 a1) (fun q4 => some (q4))) else (if (σ0 0) a1.toNatClampNeg = 3 then (Option.bind (f_X0_cockRate σ0 a1) (fun q7 => some (2 * q7))) else (if (σ0 0) a1.toNatClampNeg = 4 then (Option.bind (f_X0_cockRate σ0 a1) (fun q10 => some (imax 5 ((2 * q10) - ((σ0 11 1) / 10))))) else (if (σ0 0) a1.toNatClampNeg = 5 then (some (3)) else (if (σ0 0) a1.toNatClampNeg = 6 then (Option.bind (f_X0_livingChildren σ0 a1) (fun q14 => some (8 + (4 * q14)))) else (some (10)))))))) else none
set_option maxHeartbeats 4000000 in
set_option maxRecDepth 100000 in
theorem c_X0_rateOf (l : Launch) (G : GT) (ad : Nat → Nat) (σ0 : K2) (a1 : Int32) (q : Int32) (hF : f_X0_rateOf σ0 a1 = some q) : Ct l G yX0_rateOf wsX0_rateOf ({ frames := 2, cells := 0, slots := 0, locals := 44 } : Room) ([.ref (ad 0), .int a1] : List Value) (wK G ad σ0) (some (.int q)) (wK G ad σ0) := by
  have k36 : Cond.fieldLink RX0 36 "PigeonRolls$Kingdom" "kind" "[I" ∈ wsX0_rateOf := by decide +kernel
  have k15 : Cond.fieldLink RX0 15 "PigeonRolls$Kingdom" "treasury" "I" ∈ wsX0_rateOf := by decide +kernel
  have k106 : Cond.methodLink RX0 106 Lib.Math.max.name ∈ wsX0_rateOf := by decide +kernel
  have ksmax : Cond.static Lib.Math.max.name ∈ wsX0_rateOf := by decide +kernel
  have kiM : Cond.initialized "java/lang/Math" ∈ wsX0_rateOf := by decide +kernel
  have komax : Cond.code Lib.Math.max.name Lib.Math.max.code 2 (some .int) ∈ wsX0_rateOf := by decide +kernel
  have hinX0 : ∀ w ∈ u_ws RX0 TX0 16, w ∈ wsX0_rateOf := by decide +kernel
  refine Ct.of cX0_rateOf 2 (some .int) (by decide) rfl (Nat.le_of_ble_eq_true rfl) ?_
  intro p e s m below meth c ls S hr hlocks hf hl
  have S : CallFix p m c cX0_rateOf 2 s ([.ref (ad 0), .int a1] : List Value).toArray wsX0_rateOf RX0 := S
  obtain ⟨hx, hb, hml, hown, hts⟩ := id S
  have hl : lv_has ls 2 [(0, .ref (ad 0)), (1, .int a1)] := hl
  unfold f_X0_rateOf at hF
  refine lv_aload_n hx hb dX0_rateOf_0 rfl (lv_at hl 0 rfl) ?_
  refine g_get (ci := 0) (C := RX0) (T := TX0) (N := 16) (v := .ref (ad 4)) S hf hinX0 0 rfl rfl 7 (by decide) k36 rfl rfl dX0_rateOf_1 ?_
  refine lv_iload_n hx hb dX0_rateOf_4 rfl (lv_at hl 1 rfl) ?_
  obtain ⟨g1, hF⟩ := gd_some hF
  refine g_ald (v := (σ0 0) a1.toNatClampNeg) S hf 4 rfl g1 rfl dX0_rateOf_5 ?_
  by_cases c2 : (σ0 0) a1.toNatClampNeg = 1
  · replace hF := (if_pos c2).symm.trans hF
    refine lv_tableIn (tgt := 44) hx hb dX0_rateOf_6 (by rw [c2]; decide) (by rw [c2]; decide) (by rw [c2]; rfl) (by decide) ?_
    refine lv_bipush (v := 8) hx hb dX0_rateOf_44 (by decide) ?_
    exact g_iret S hr hlocks hf (congrArg (fun z : Int32 => z) (Option.some.inj hF)) rfl dX0_rateOf_46
  replace hF := (if_neg c2).symm.trans hF
  by_cases c3 : (σ0 0) a1.toNatClampNeg = 2
  · replace hF := (if_pos c3).symm.trans hF
    refine lv_tableIn (tgt := 58) hx hb dX0_rateOf_6 (by rw [c3]; decide) (by rw [c3]; decide) (by rw [c3]; rfl) (by decide) ?_
    refine lv_aload_n hx hb dX0_rateOf_58 rfl (lv_at hl 0 rfl) ?_
    refine lv_iload_n hx hb dX0_rateOf_59 rfl (lv_at hl 1 rfl) ?_
    obtain ⟨q4, h5, hF⟩ := Option.bind_eq_some_iff.mp hF
    refine g_cv0 (o := some (.int q4)) (As := [.int a1]) (rest := []) (st1 := [.int q4]) (ci := 0) S hf (c_X0_cockRate l G ad σ0 a1 q4 h5) (cwV 1 hts gX0_rateOf_X0_cockRate rfl rfl rfl (by decide +kernel) ⟨Nat.le_of_ble_eq_true rfl, Nat.le_of_ble_eq_true rfl⟩) rfl rfl rfl 0 rfl rfl hl.1 rfl rfl (Nat.le_of_ble_eq_true rfl) ⟨Nat.zero_le _, Nat.zero_le _⟩ dX0_rateOf_60 (fun H locs hf => ?_)
    have hf : Fr G (va_A (wK G ad σ0) s.heap.size) s (wK G ad σ0) H locs := hf
    exact g_iret S hr hlocks hf (congrArg (fun z : Int32 => z) (Option.some.inj hF)) rfl dX0_rateOf_63
  replace hF := (if_neg c3).symm.trans hF
  by_cases c6 : (σ0 0) a1.toNatClampNeg = 3
  · replace hF := (if_pos c6).symm.trans hF
    refine lv_tableIn (tgt := 64) hx hb dX0_rateOf_6 (by rw [c6]; decide) (by rw [c6]; decide) (by rw [c6]; rfl) (by decide) ?_
    refine lv_iconst (v := 2) hx hb dX0_rateOf_64 (by decide) ?_
    refine lv_aload_n hx hb dX0_rateOf_65 rfl (lv_at hl 0 rfl) ?_
    refine lv_iload_n hx hb dX0_rateOf_66 rfl (lv_at hl 1 rfl) ?_
    obtain ⟨q7, h8, hF⟩ := Option.bind_eq_some_iff.mp hF
    refine g_cv0 (o := some (.int q7)) (As := [.int a1]) (rest := [.int 2]) (st1 := [.int q7, .int 2]) (ci := 0) S hf (c_X0_cockRate l G ad σ0 a1 q7 h8) (cwV 1 hts gX0_rateOf_X0_cockRate rfl rfl rfl (by decide +kernel) ⟨Nat.le_of_ble_eq_true rfl, Nat.le_of_ble_eq_true rfl⟩) rfl rfl rfl 0 rfl rfl hl.1 rfl rfl (Nat.le_of_ble_eq_true rfl) ⟨Nat.zero_le _, Nat.zero_le _⟩ dX0_rateOf_67 (fun H locs hf => ?_)
    have hf : Fr G (va_A (wK G ad σ0) s.heap.size) s (wK G ad σ0) H locs := hf
    refine lv_imul hx hb dX0_rateOf_70 ?_
    exact g_iret S hr hlocks hf (congrArg (fun z : Int32 => z) (Option.some.inj hF)) rfl dX0_rateOf_71
  replace hF := (if_neg c6).symm.trans hF
  by_cases c9 : (σ0 0) a1.toNatClampNeg = 4
  · replace hF := (if_pos c9).symm.trans hF
    refine lv_tableIn (tgt := 72) hx hb dX0_rateOf_6 (by rw [c9]; decide) (by rw [c9]; decide) (by rw [c9]; rfl) (by decide) ?_
    refine lv_iconst (v := 5) hx hb dX0_rateOf_72 (by decide) ?_
    refine lv_iconst (v := 2) hx hb dX0_rateOf_73 (by decide) ?_
    refine lv_aload_n hx hb dX0_rateOf_74 rfl (lv_at hl 0 rfl) ?_
    refine lv_iload_n hx hb dX0_rateOf_75 rfl (lv_at hl 1 rfl) ?_
    obtain ⟨q10, h11, hF⟩ := Option.bind_eq_some_iff.mp hF
    refine g_cv0 (o := some (.int q10)) (As := [.int a1]) (rest := [.int 2, .int 5]) (st1 := [.int q10, .int 2, .int 5]) (ci := 0) S hf (c_X0_cockRate l G ad σ0 a1 q10 h11) (cwV 1 hts gX0_rateOf_X0_cockRate rfl rfl rfl (by decide +kernel) ⟨Nat.le_of_ble_eq_true rfl, Nat.le_of_ble_eq_true rfl⟩) rfl rfl rfl 0 rfl rfl hl.1 rfl rfl (Nat.le_of_ble_eq_true rfl) ⟨Nat.zero_le _, Nat.zero_le _⟩ dX0_rateOf_76 (fun H locs hf => ?_)
    have hf : Fr G (va_A (wK G ad σ0) s.heap.size) s (wK G ad σ0) H locs := hf
    refine lv_imul hx hb dX0_rateOf_79 ?_
    refine lv_aload_n hx hb dX0_rateOf_80 rfl (lv_at hl 0 rfl) ?_
    refine g_get (ci := 0) (C := RX0) (T := TX0) (N := 16) (v := .int (σ0 11 1)) S hf hinX0 0 rfl rfl 1 (by decide) k15 rfl rfl dX0_rateOf_81 ?_
    refine lv_bipush (v := 10) hx hb dX0_rateOf_84 (by decide) ?_
    refine lv_idiv hx hb dX0_rateOf_86 (by decide) ?_
    refine lv_isub hx hb dX0_rateOf_87 ?_
    refine va_mmax hx hb (hml.trans hl.1.symm) hown (hts _ k106) (hts _ ksmax) (hts _ kiM) (hts _ komax) (Nat.le_of_ble_eq_true rfl) (Nat.le_of_ble_eq_true rfl) (Nat.zero_le _) (Nat.zero_le _) dX0_rateOf_88 ?_
    exact g_iret S hr hlocks hf (congrArg (fun z : Int32 => z) (Option.some.inj hF)) rfl dX0_rateOf_91
  replace hF := (if_neg c9).symm.trans hF
  by_cases c12 : (σ0 0) a1.toNatClampNeg = 5
  · replace hF := (if_pos c12).symm.trans hF
    refine lv_tableIn (tgt := 92) hx hb dX0_rateOf_6 (by rw [c12]; decide) (by rw [c12]; decide) (by rw [c12]; rfl) (by decide) ?_
    refine lv_iconst (v := 3) hx hb dX0_rateOf_92 (by decide) ?_
    exact g_iret S hr hlocks hf (congrArg (fun z : Int32 => z) (Option.some.inj hF)) rfl dX0_rateOf_93
  replace hF := (if_neg c12).symm.trans hF
  by_cases c13 : (σ0 0) a1.toNatClampNeg = 6
  · replace hF := (if_pos c13).symm.trans hF
    refine lv_tableIn (tgt := 47) hx hb dX0_rateOf_6 (by rw [c13]; decide) (by rw [c13]; decide) (by rw [c13]; rfl) (by decide) ?_
    refine lv_bipush (v := 8) hx hb dX0_rateOf_47 (by decide) ?_
    refine lv_iconst (v := 4) hx hb dX0_rateOf_49 (by decide) ?_
    refine lv_aload_n hx hb dX0_rateOf_50 rfl (lv_at hl 0 rfl) ?_
    refine lv_iload_n hx hb dX0_rateOf_51 rfl (lv_at hl 1 rfl) ?_
    obtain ⟨q14, h15, hF⟩ := Option.bind_eq_some_iff.mp hF
    refine g_cv0 (o := some (.int q14)) (As := [.int a1]) (rest := [.int 4, .int 8]) (st1 := [.int q14, .int 4, .int 8]) (ci := 0) S hf (c_X0_livingChildren l G ad σ0 a1 q14 h15) (cwV 1 hts gX0_rateOf_X0_livingChildren rfl rfl rfl (by decide +kernel) ⟨Nat.le_of_ble_eq_true rfl, Nat.le_of_ble_eq_true rfl⟩) rfl rfl rfl 0 rfl rfl hl.1 rfl rfl (Nat.le_of_ble_eq_true rfl) ⟨Nat.zero_le _, Nat.zero_le _⟩ dX0_rateOf_52 (fun H locs hf => ?_)
    have hf : Fr G (va_A (wK G ad σ0) s.heap.size) s (wK G ad σ0) H locs := hf
    refine lv_imul hx hb dX0_rateOf_55 ?_
    refine lv_iadd hx hb dX0_rateOf_56 ?_
    exact g_iret S hr hlocks hf (congrArg (fun z : Int32 => z) (Option.some.inj hF)) rfl dX0_rateOf_57
  replace hF := (if_neg c13).symm.trans hF
  refine lv_tableOut (tgt := 94) hx hb dX0_rateOf_6 (by have t0 := lv_neT (a := 1) c2 (by decide); have t1 := lv_neT (a := 2) c3 (by decide); have t2 := lv_neT (a := 3) c6 (by decide); have t3 := lv_neT (a := 4) c9 (by decide); have t4 := lv_neT (a := 5) c12 (by decide); have t5 := lv_neT (a := 6) c13 (by decide); omega) (by decide) ?_
  refine lv_bipush (v := 10) hx hb dX0_rateOf_94 (by decide) ?_
  exact g_iret S hr hlocks hf (congrArg (fun z : Int32 => z) (Option.some.inj hF)) rfl dX0_rateOf_96
def f_X0_mealOf (σ0 : K2) (a1 : Int32) : Option (Int32) := if ix a1 8 then (if (σ0 0) a1.toNatClampNeg = 3 then (some (1)) else (if (σ0 0) a1.toNatClampNeg = 4 then (some (3)) else (if (σ0 0) a1.toNatClampNeg = 5 then (some (irem (σ0 11 0) 2)) else (some (0))))) else none
set_option maxHeartbeats 4000000 in
set_option maxRecDepth 100000 in
theorem c_X0_mealOf (l : Launch) (G : GT) (ad : Nat → Nat) (σ0 : K2) (a1 : Int32) (q : Int32) (hF : f_X0_mealOf σ0 a1 = some q) : Ct l G yX0_mealOf wsX0_mealOf ({ frames := 0, cells := 0, slots := 0, locals := 0 } : Room) ([.ref (ad 0), .int a1] : List Value) (wK G ad σ0) (some (.int q)) (wK G ad σ0) := by
  have k36 : Cond.fieldLink RX0 36 "PigeonRolls$Kingdom" "kind" "[I" ∈ wsX0_mealOf := by decide +kernel
  have k9 : Cond.fieldLink RX0 9 "PigeonRolls$Kingdom" "day" "I" ∈ wsX0_mealOf := by decide +kernel
  have hinX0 : ∀ w ∈ u_ws RX0 TX0 16, w ∈ wsX0_mealOf := by decide +kernel
  refine Ct.of cX0_mealOf 2 (some .int) (by decide) rfl (Nat.le_of_ble_eq_true rfl) ?_
  intro p e s m below meth c ls S hr hlocks hf hl
  have S : CallFix p m c cX0_mealOf 2 s ([.ref (ad 0), .int a1] : List Value).toArray wsX0_mealOf RX0 := S
  obtain ⟨hx, hb, hml, hown, hts⟩ := id S
  have hl : lv_has ls 2 [(0, .ref (ad 0)), (1, .int a1)] := hl
  unfold f_X0_mealOf at hF
  refine lv_aload_n hx hb dX0_mealOf_0 rfl (lv_at hl 0 rfl) ?_
  refine g_get (ci := 0) (C := RX0) (T := TX0) (N := 16) (v := .ref (ad 4)) S hf hinX0 0 rfl rfl 7 (by decide) k36 rfl rfl dX0_mealOf_1 ?_
  refine lv_iload_n hx hb dX0_mealOf_4 rfl (lv_at hl 1 rfl) ?_
  obtain ⟨g1, hF⟩ := gd_some hF
  refine g_ald (v := (σ0 0) a1.toNatClampNeg) S hf 4 rfl g1 rfl dX0_mealOf_5 ?_
  by_cases c2 : (σ0 0) a1.toNatClampNeg = 3
  · replace hF := (if_pos c2).symm.trans hF
    refine lv_tableIn (tgt := 32) hx hb dX0_mealOf_6 (by rw [c2]; decide) (by rw [c2]; decide) (by rw [c2]; rfl) (by decide) ?_
    refine lv_iconst (v := 1) hx hb dX0_mealOf_32 (by decide) ?_
    exact g_iret S hr hlocks hf (congrArg (fun z : Int32 => z) (Option.some.inj hF)) rfl dX0_mealOf_33
  replace hF := (if_neg c2).symm.trans hF
  by_cases c3 : (σ0 0) a1.toNatClampNeg = 4
  · replace hF := (if_pos c3).symm.trans hF
    refine lv_tableIn (tgt := 34) hx hb dX0_mealOf_6 (by rw [c3]; decide) (by rw [c3]; decide) (by rw [c3]; rfl) (by decide) ?_
    refine lv_iconst (v := 3) hx hb dX0_mealOf_34 (by decide) ?_
    exact g_iret S hr hlocks hf (congrArg (fun z : Int32 => z) (Option.some.inj hF)) rfl dX0_mealOf_35
  replace hF := (if_neg c3).symm.trans hF
  by_cases c4 : (σ0 0) a1.toNatClampNeg = 5
  · replace hF := (if_pos c4).symm.trans hF
    refine lv_tableIn (tgt := 36) hx hb dX0_mealOf_6 (by rw [c4]; decide) (by rw [c4]; decide) (by rw [c4]; rfl) (by decide) ?_
    refine lv_aload_n hx hb dX0_mealOf_36 rfl (lv_at hl 0 rfl) ?_
    refine g_get (ci := 0) (C := RX0) (T := TX0) (N := 16) (v := .int (σ0 11 0)) S hf hinX0 0 rfl rfl 0 (by decide) k9 rfl rfl dX0_mealOf_37 ?_
    refine lv_iconst (v := 2) hx hb dX0_mealOf_40 (by decide) ?_
    refine lv_irem hx hb dX0_mealOf_41 (by decide) ?_
    exact g_iret S hr hlocks hf (congrArg (fun z : Int32 => z) (Option.some.inj hF)) rfl dX0_mealOf_42
  replace hF := (if_neg c4).symm.trans hF
  refine lv_tableOut (tgt := 43) hx hb dX0_mealOf_6 (by have t0 := lv_neT (a := 3) c2 (by decide); have t1 := lv_neT (a := 4) c3 (by decide); have t2 := lv_neT (a := 5) c4 (by decide); omega) (by decide) ?_
  refine lv_iconst (v := 0) hx hb dX0_mealOf_43 (by decide) ?_
  exact g_iret S hr hlocks hf (congrArg (fun z : Int32 => z) (Option.some.inj hF)) rfl dX0_mealOf_44
def f_X0_lineSet_L4 (σ0 : K2) : Nat → Int32 → Int32 → Option (Int32)
  | 0, _, _ => none
  | n + 1, x1, x2 => if (σ0 11 3) ≤ x2 then (some (x1)) else (if ix x2 8 then (if ((σ0 4) x2.toNatClampNeg) = 1 then (f_X0_lineSet_L4 σ0 n (x1 ||| (1 <<< (x2 &&& 31))) (x2 + 1)) else (if ((σ0 2) x2.toNatClampNeg) < 0 then (f_X0_lineSet_L4 σ0 n x1 (x2 + 1)) else (if ((x1 >>> (((σ0 2) x2.toNatClampNeg) &&& 31)) &&& 1) = 1 then (f_X0_lineSet_L4 σ0 n (x1 ||| (1 <<< (x2 &&& 31))) (x2 + 1)) else (f_X0_lineSet_L4 σ0 n x1 (x2 + 1))))) else none)
def f_X0_lineSet (σ0 : K2) : Option (Int32) := f_X0_lineSet_L4 σ0 1000 0 0
set_option maxHeartbeats 4000000 in
set_option maxRecDepth 100000 in
theorem c_X0_lineSet (l : Launch) (G : GT) (ad : Nat → Nat) (σ0 : K2) (q : Int32) (hF : f_X0_lineSet σ0 = some q) : Ct l G yX0_lineSet wsX0_lineSet ({ frames := 0, cells := 0, slots := 0, locals := 0 } : Room) ([.ref (ad 0)] : List Value) (wK G ad σ0) (some (.int q)) (wK G ad σ0) := by
  have k21 : Cond.fieldLink RX0 21 "PigeonRolls$Kingdom" "birds" "I" ∈ wsX0_lineSet := by decide +kernel
  have k42 : Cond.fieldLink RX0 42 "PigeonRolls$Kingdom" "from" "[I" ∈ wsX0_lineSet := by decide +kernel
  have k48 : Cond.fieldLink RX0 48 "PigeonRolls$Kingdom" "carried" "[I" ∈ wsX0_lineSet := by decide +kernel
  have hinX0 : ∀ w ∈ u_ws RX0 TX0 16, w ∈ wsX0_lineSet := by decide +kernel
  refine Ct.of cX0_lineSet 4 (some .int) (by decide) rfl (Nat.le_of_ble_eq_true rfl) ?_
  intro p e s m below meth c ls S hr hlocks hf hl
  have S : CallFix p m c cX0_lineSet 4 s ([.ref (ad 0)] : List Value).toArray wsX0_lineSet RX0 := S
  obtain ⟨hx, hb, hml, hown, hts⟩ := id S
  have hl : lv_has ls 4 [(0, .ref (ad 0))] := hl
  have hL4 : ∀ (n : Nat) (x1 : Int32) (x2 : Int32)  (H : Heap) (locs : List Loc) (ls : Array Slot), f_X0_lineSet_L4 σ0 n x1 x2 = some q → Fr G (va_A (wK G ad σ0) s.heap.size) s (wK G ad σ0) H locs → lv_has ls 4 [(0, .ref (ad 0)), (1, .int x1), (2, .int x2)] → W p l e ({ frames := 0, cells := 0, slots := 0, locals := 0 } : Room) s m ([.ref (ad 0)] : List Value).toArray below meth c H locs 0 0 (MQ below (CPost G (wK G ad σ0) s.heap.size (some (.int q)) (wK G ad σ0)) ([.ref (ad 0)] : List Value).toArray s 0 0 (va_A (wK G ad σ0) s.heap.size)) (F0 m 4 ls []) := by
    intro n
    induction n with
    | zero =>
      intro x1 x2 H locs ls hF hf hl
      exact absurd hF (by simp [f_X0_lineSet_L4])
    | succ n ih4 =>
      intro x1 x2 H locs ls hF hf hl
      rw [f_X0_lineSet_L4] at hF
      refine lv_iload_n hx hb dX0_lineSet_4 rfl (lv_at hl 2 rfl) ?_
      refine lv_aload_n hx hb dX0_lineSet_5 rfl (lv_at hl 0 rfl) ?_
      refine g_get (ci := 0) (C := RX0) (T := TX0) (N := 16) (v := .int (σ0 11 3)) S hf hinX0 0 rfl rfl 3 (by decide) k21 rfl rfl dX0_lineSet_6 ?_
      refine lv_icmp_ge (tgt := 54) hx hb dX0_lineSet_9 (by decide) (fun c1 => ?_) (fun c1 => ?_)
      · replace hF := (if_pos c1).symm.trans hF
        refine lv_iload_n hx hb dX0_lineSet_54 rfl (lv_at hl 1 rfl) ?_
        exact g_iret S hr hlocks hf (congrArg (fun z : Int32 => z) (Option.some.inj hF)) rfl dX0_lineSet_55
      · replace hF := (if_neg c1).symm.trans hF
        refine lv_aload_n hx hb dX0_lineSet_12 rfl (lv_at hl 0 rfl) ?_
        refine g_get (ci := 0) (C := RX0) (T := TX0) (N := 16) (v := .ref (ad 6)) S hf hinX0 0 rfl rfl 9 (by decide) k42 rfl rfl dX0_lineSet_13 ?_
        refine lv_iload_n hx hb dX0_lineSet_16 rfl (lv_at hl 2 rfl) ?_
        obtain ⟨g2, hF⟩ := gd_some hF
        refine g_ald (v := (σ0 2) x2.toNatClampNeg) S hf 6 rfl g2 rfl dX0_lineSet_17 ?_
        refine lv_istore_n (lv' := [(3, .int ((σ0 2) x2.toNatClampNeg)), (0, .ref (ad 0)), (1, .int x1), (2, .int x2)]) hx hb dX0_lineSet_18 rfl hl (by decide) rfl (fun ls hl => ?_)
        refine lv_aload_n hx hb dX0_lineSet_19 rfl (lv_at hl 1 rfl) ?_
        refine g_get (ci := 0) (C := RX0) (T := TX0) (N := 16) (v := .ref (ad 8)) S hf hinX0 0 rfl rfl 11 (by decide) k48 rfl rfl dX0_lineSet_20 ?_
        refine lv_iload_n hx hb dX0_lineSet_23 rfl (lv_at hl 3 rfl) ?_
        refine g_ald (v := (σ0 4) x2.toNatClampNeg) S hf 8 rfl g2 rfl dX0_lineSet_24 ?_
        refine lv_iconst (v := 1) hx hb dX0_lineSet_25 (by decide) ?_
        refine lv_icmp_eq (tgt := 42) hx hb dX0_lineSet_26 (by decide) (fun c3 => ?_) (fun c3 => ?_)
        · replace hF := (if_pos c3).symm.trans hF
          refine lv_iload_n hx hb dX0_lineSet_42 rfl (lv_at hl 2 rfl) ?_
          refine lv_iconst (v := 1) hx hb dX0_lineSet_43 (by decide) ?_
          refine lv_iload_n hx hb dX0_lineSet_44 rfl (lv_at hl 3 rfl) ?_
          refine lv_ishl hx hb dX0_lineSet_45 ?_
          refine lv_ior hx hb dX0_lineSet_46 ?_
          refine lv_istore_n (lv' := [(1, .int (x1 ||| (1 <<< (x2 &&& 31)))), (3, .int ((σ0 2) x2.toNatClampNeg)), (0, .ref (ad 0)), (2, .int x2)]) hx hb dX0_lineSet_47 rfl hl (by decide) rfl (fun ls hl => ?_)
          refine lv_iinc (v := x2 + 1) (lv' := [(2, .int (x2 + 1)), (1, .int (x1 ||| (1 <<< (x2 &&& 31)))), (3, .int ((σ0 2) x2.toNatClampNeg)), (0, .ref (ad 0))]) hx hb dX0_lineSet_48 hl (k := 3) rfl rfl (by decide) rfl (fun ls hl => ?_)
          refine lv_goto (tgt := 4) hx hb dX0_lineSet_51 (by decide) ?_
          exact ih4 (x1 ||| (1 <<< (x2 &&& 31))) (x2 + 1) _ _ _ hF hf (lv_sub hl [3, 1, 0] rfl)
        · replace hF := (if_neg c3).symm.trans hF
          refine lv_iload_n hx hb dX0_lineSet_29 rfl (lv_at hl 0 rfl) ?_
          refine lv_if_lt (tgt := 48) hx hb dX0_lineSet_30 (by decide) (fun c4 => ?_) (fun c4 => ?_)
          · replace hF := (if_pos c4).symm.trans hF
            refine lv_iinc (v := x2 + 1) (lv' := [(2, .int (x2 + 1)), (3, .int ((σ0 2) x2.toNatClampNeg)), (0, .ref (ad 0)), (1, .int x1)]) hx hb dX0_lineSet_48 hl (k := 3) rfl rfl (by decide) rfl (fun ls hl => ?_)
            refine lv_goto (tgt := 4) hx hb dX0_lineSet_51 (by decide) ?_
            exact ih4 x1 (x2 + 1) _ _ _ hF hf (lv_sub hl [2, 3, 0] rfl)
          · replace hF := (if_neg c4).symm.trans hF
            refine lv_iload_n hx hb dX0_lineSet_33 rfl (lv_at hl 2 rfl) ?_
            refine lv_iload_n hx hb dX0_lineSet_34 rfl (lv_at hl 0 rfl) ?_
            refine lv_ishr hx hb dX0_lineSet_35 ?_
            refine lv_iconst (v := 1) hx hb dX0_lineSet_36 (by decide) ?_
            refine lv_iand hx hb dX0_lineSet_37 ?_
            refine lv_iconst (v := 1) hx hb dX0_lineSet_38 (by decide) ?_
            refine lv_icmp_ne (tgt := 48) hx hb dX0_lineSet_39 (by decide) (fun c5 => ?_) (fun c5 => ?_)
            · replace hF := (if_neg c5).symm.trans hF
              refine lv_iinc (v := x2 + 1) (lv' := [(2, .int (x2 + 1)), (3, .int ((σ0 2) x2.toNatClampNeg)), (0, .ref (ad 0)), (1, .int x1)]) hx hb dX0_lineSet_48 hl (k := 3) rfl rfl (by decide) rfl (fun ls hl => ?_)
              refine lv_goto (tgt := 4) hx hb dX0_lineSet_51 (by decide) ?_
              exact ih4 x1 (x2 + 1) _ _ _ hF hf (lv_sub hl [2, 3, 0] rfl)
            · replace hF := (if_pos c5).symm.trans hF
              refine lv_iload_n hx hb dX0_lineSet_42 rfl (lv_at hl 2 rfl) ?_
              refine lv_iconst (v := 1) hx hb dX0_lineSet_43 (by decide) ?_
              refine lv_iload_n hx hb dX0_lineSet_44 rfl (lv_at hl 3 rfl) ?_
              refine lv_ishl hx hb dX0_lineSet_45 ?_
              refine lv_ior hx hb dX0_lineSet_46 ?_
              refine lv_istore_n (lv' := [(1, .int (x1 ||| (1 <<< (x2 &&& 31)))), (3, .int ((σ0 2) x2.toNatClampNeg)), (0, .ref (ad 0)), (2, .int x2)]) hx hb dX0_lineSet_47 rfl hl (by decide) rfl (fun ls hl => ?_)
              refine lv_iinc (v := x2 + 1) (lv' := [(2, .int (x2 + 1)), (1, .int (x1 ||| (1 <<< (x2 &&& 31)))), (3, .int ((σ0 2) x2.toNatClampNeg)), (0, .ref (ad 0))]) hx hb dX0_lineSet_48 hl (k := 3) rfl rfl (by decide) rfl (fun ls hl => ?_)
              refine lv_goto (tgt := 4) hx hb dX0_lineSet_51 (by decide) ?_
              exact ih4 (x1 ||| (1 <<< (x2 &&& 31))) (x2 + 1) _ _ _ hF hf (lv_sub hl [3, 1, 0] rfl)
  unfold f_X0_lineSet at hF
  refine lv_iconst (v := 0) hx hb dX0_lineSet_0 (by decide) ?_
  refine lv_istore_n (lv' := [(1, .int 0), (0, .ref (ad 0))]) hx hb dX0_lineSet_1 rfl hl (by decide) rfl (fun ls hl => ?_)
  refine lv_iconst (v := 0) hx hb dX0_lineSet_2 (by decide) ?_
  refine lv_istore_n (lv' := [(2, .int 0), (1, .int 0), (0, .ref (ad 0))]) hx hb dX0_lineSet_3 rfl hl (by decide) rfl (fun ls hl => ?_)
  exact hL4 1000 0 0 _ _ _ hF hf (lv_sub hl [2, 1, 0] rfl)
def f_X0_drawSet_L4 (σ0 : K2) : Nat → Int32 → Int32 → Int32 → Option (Int32)
  | 0, _, _, _ => none
  | n + 1, x1, x2, x3 => if (σ0 11 3) ≤ x3 then (some (x2)) else (if ix x3 8 then (if ((σ0 5) x3.toNatClampNeg) = 1 then (if ((σ0 6) x3.toNatClampNeg) = 0 then (f_X0_drawSet_L4 σ0 n x1 (x2 ||| (1 <<< (x3 &&& 31))) (x3 + 1)) else (f_X0_drawSet_L4 σ0 n x1 x2 (x3 + 1))) else (if ((x1 >>> (x3 &&& 31)) &&& 1) = 1 then (Option.bind (f_X0_isDead σ0 x3) (fun q6 => if q6 = 0 then (if ((σ0 6) x3.toNatClampNeg) = 0 then (f_X0_drawSet_L4 σ0 n x1 (x2 ||| (1 <<< (x3 &&& 31))) (x3 + 1)) else (f_X0_drawSet_L4 σ0 n x1 x2 (x3 + 1))) else (f_X0_drawSet_L4 σ0 n x1 x2 (x3 + 1)))) else (f_X0_drawSet_L4 σ0 n x1 x2 (x3 + 1)))) else none)
def f_X0_drawSet (σ0 : K2) (a1 : Int32) : Option (Int32) := f_X0_drawSet_L4 σ0 1000 a1 0 0
set_option maxHeartbeats 4000000 in
set_option maxRecDepth 100000 in
theorem c_X0_drawSet (l : Launch) (G : GT) (ad : Nat → Nat) (σ0 : K2) (a1 : Int32) (q : Int32) (hF : f_X0_drawSet σ0 a1 = some q) : Ct l G yX0_drawSet wsX0_drawSet ({ frames := 1, cells := 0, slots := 0, locals := 21 } : Room) ([.ref (ad 0), .int a1] : List Value) (wK G ad σ0) (some (.int q)) (wK G ad σ0) := by
  have k21 : Cond.fieldLink RX0 21 "PigeonRolls$Kingdom" "birds" "I" ∈ wsX0_drawSet := by decide +kernel
  have k51 : Cond.fieldLink RX0 51 "PigeonRolls$Kingdom" "boy" "[I" ∈ wsX0_drawSet := by decide +kernel
  have k54 : Cond.fieldLink RX0 54 "PigeonRolls$Kingdom" "off" "[I" ∈ wsX0_drawSet := by decide +kernel
  have hinX0 : ∀ w ∈ u_ws RX0 TX0 16, w ∈ wsX0_drawSet := by decide +kernel
  refine Ct.of cX0_drawSet 5 (some .int) (by decide) rfl (Nat.le_of_ble_eq_true rfl) ?_
  intro p e s m below meth c ls S hr hlocks hf hl
  have S : CallFix p m c cX0_drawSet 5 s ([.ref (ad 0), .int a1] : List Value).toArray wsX0_drawSet RX0 := S
  obtain ⟨hx, hb, hml, hown, hts⟩ := id S
  have hl : lv_has ls 5 [(0, .ref (ad 0)), (1, .int a1)] := hl
  have hL4 : ∀ (n : Nat) (x1 : Int32) (x2 : Int32) (x3 : Int32)  (H : Heap) (locs : List Loc) (ls : Array Slot), f_X0_drawSet_L4 σ0 n x1 x2 x3 = some q → Fr G (va_A (wK G ad σ0) s.heap.size) s (wK G ad σ0) H locs → lv_has ls 5 [(0, .ref (ad 0)), (1, .int x1), (2, .int x2), (3, .int x3)] → W p l e ({ frames := 1, cells := 0, slots := 0, locals := 21 } : Room) s m ([.ref (ad 0), .int a1] : List Value).toArray below meth c H locs 0 0 (MQ below (CPost G (wK G ad σ0) s.heap.size (some (.int q)) (wK G ad σ0)) ([.ref (ad 0), .int a1] : List Value).toArray s 0 0 (va_A (wK G ad σ0) s.heap.size)) (F0 m 4 ls []) := by
    intro n
    induction n with
    | zero =>
      intro x1 x2 x3 H locs ls hF hf hl
      exact absurd hF (by simp [f_X0_drawSet_L4])
    | succ n ih4 =>
      intro x1 x2 x3 H locs ls hF hf hl
      rw [f_X0_drawSet_L4] at hF
      refine lv_iload_n hx hb dX0_drawSet_4 rfl (lv_at hl 3 rfl) ?_
      refine lv_aload_n hx hb dX0_drawSet_5 rfl (lv_at hl 0 rfl) ?_
      refine g_get (ci := 0) (C := RX0) (T := TX0) (N := 16) (v := .int (σ0 11 3)) S hf hinX0 0 rfl rfl 3 (by decide) k21 rfl rfl dX0_drawSet_6 ?_
      refine lv_icmp_ge (tgt := 72) hx hb dX0_drawSet_9 (by decide) (fun c1 => ?_) (fun c1 => ?_)
      · replace hF := (if_pos c1).symm.trans hF
        refine lv_iload_n hx hb dX0_drawSet_72 rfl (lv_at hl 2 rfl) ?_
        exact g_iret S hr hlocks hf (congrArg (fun z : Int32 => z) (Option.some.inj hF)) rfl dX0_drawSet_73
      · replace hF := (if_neg c1).symm.trans hF
        refine lv_aload_n hx hb dX0_drawSet_12 rfl (lv_at hl 0 rfl) ?_
        refine g_get (ci := 0) (C := RX0) (T := TX0) (N := 16) (v := .ref (ad 9)) S hf hinX0 0 rfl rfl 12 (by decide) k51 rfl rfl dX0_drawSet_13 ?_
        refine lv_iload_n hx hb dX0_drawSet_16 rfl (lv_at hl 3 rfl) ?_
        obtain ⟨g2, hF⟩ := gd_some hF
        refine g_ald (v := (σ0 5) x3.toNatClampNeg) S hf 9 rfl g2 rfl dX0_drawSet_17 ?_
        refine lv_iconst (v := 1) hx hb dX0_drawSet_18 (by decide) ?_
        refine lv_icmp_eq (tgt := 39) hx hb dX0_drawSet_19 (by decide) (fun c3 => ?_) (fun c3 => ?_)
        · replace hF := (if_pos c3).symm.trans hF
          refine lv_iconst (v := 1) hx hb dX0_drawSet_39 (by decide) ?_
          refine lv_goto (tgt := 44) hx hb dX0_drawSet_40 (by decide) ?_
          refine lv_istore (lv' := [(4, .int 1), (0, .ref (ad 0)), (1, .int x1), (2, .int x2), (3, .int x3)]) hx hb dX0_drawSet_44 hl (by decide) rfl (fun ls hl => ?_)
          refine lv_iload hx hb dX0_drawSet_46 (lv_at hl 0 rfl) ?_
          refine lv_if_eq (tgt := 66) hx hb dX0_drawSet_48 (by decide) (fun c => absurd c (by decide)) (fun c => ?_)
          refine lv_aload_n hx hb dX0_drawSet_51 rfl (lv_at hl 1 rfl) ?_
          refine g_get (ci := 0) (C := RX0) (T := TX0) (N := 16) (v := .ref (ad 10)) S hf hinX0 0 rfl rfl 13 (by decide) k54 rfl rfl dX0_drawSet_52 ?_
          refine lv_iload_n hx hb dX0_drawSet_55 rfl (lv_at hl 4 rfl) ?_
          refine g_ald (v := (σ0 6) x3.toNatClampNeg) S hf 10 rfl g2 rfl dX0_drawSet_56 ?_
          refine lv_if_ne (tgt := 66) hx hb dX0_drawSet_57 (by decide) (fun c4 => ?_) (fun c4 => ?_)
          · replace hF := (if_neg c4).symm.trans hF
            refine lv_iinc (v := x3 + 1) (lv' := [(3, .int (x3 + 1)), (4, .int 1), (0, .ref (ad 0)), (1, .int x1), (2, .int x2)]) hx hb dX0_drawSet_66 hl (k := 4) rfl rfl (by decide) rfl (fun ls hl => ?_)
            refine lv_goto (tgt := 4) hx hb dX0_drawSet_69 (by decide) ?_
            exact ih4 x1 x2 (x3 + 1) _ _ _ hF hf (lv_sub hl [2, 3, 4, 0] rfl)
          · replace hF := (if_pos c4).symm.trans hF
            refine lv_iload_n hx hb dX0_drawSet_60 rfl (lv_at hl 3 rfl) ?_
            refine lv_iconst (v := 1) hx hb dX0_drawSet_61 (by decide) ?_
            refine lv_iload_n hx hb dX0_drawSet_62 rfl (lv_at hl 4 rfl) ?_
            refine lv_ishl hx hb dX0_drawSet_63 ?_
            refine lv_ior hx hb dX0_drawSet_64 ?_
            refine lv_istore_n (lv' := [(2, .int (x2 ||| (1 <<< (x3 &&& 31)))), (4, .int 1), (0, .ref (ad 0)), (1, .int x1), (3, .int x3)]) hx hb dX0_drawSet_65 rfl hl (by decide) rfl (fun ls hl => ?_)
            refine lv_iinc (v := x3 + 1) (lv' := [(3, .int (x3 + 1)), (2, .int (x2 ||| (1 <<< (x3 &&& 31)))), (4, .int 1), (0, .ref (ad 0)), (1, .int x1)]) hx hb dX0_drawSet_66 hl (k := 4) rfl rfl (by decide) rfl (fun ls hl => ?_)
            refine lv_goto (tgt := 4) hx hb dX0_drawSet_69 (by decide) ?_
            exact ih4 x1 (x2 ||| (1 <<< (x3 &&& 31))) (x3 + 1) _ _ _ hF hf (lv_sub hl [3, 4, 1, 0] rfl)
        · replace hF := (if_neg c3).symm.trans hF
          refine lv_iload_n hx hb dX0_drawSet_22 rfl (lv_at hl 1 rfl) ?_
          refine lv_iload_n hx hb dX0_drawSet_23 rfl (lv_at hl 3 rfl) ?_
          refine lv_ishr hx hb dX0_drawSet_24 ?_
          refine lv_iconst (v := 1) hx hb dX0_drawSet_25 (by decide) ?_
          refine lv_iand hx hb dX0_drawSet_26 ?_
          refine lv_iconst (v := 1) hx hb dX0_drawSet_27 (by decide) ?_
          refine lv_icmp_ne (tgt := 43) hx hb dX0_drawSet_28 (by decide) (fun c5 => ?_) (fun c5 => ?_)
          · replace hF := (if_neg c5).symm.trans hF
            refine lv_iconst (v := 0) hx hb dX0_drawSet_43 (by decide) ?_
            refine lv_istore (lv' := [(4, .int 0), (0, .ref (ad 0)), (1, .int x1), (2, .int x2), (3, .int x3)]) hx hb dX0_drawSet_44 hl (by decide) rfl (fun ls hl => ?_)
            refine lv_iload hx hb dX0_drawSet_46 (lv_at hl 0 rfl) ?_
            refine lv_if_eq (tgt := 66) hx hb dX0_drawSet_48 (by decide) (fun c => ?_) (fun c => absurd c (by decide))
            refine lv_iinc (v := x3 + 1) (lv' := [(3, .int (x3 + 1)), (4, .int 0), (0, .ref (ad 0)), (1, .int x1), (2, .int x2)]) hx hb dX0_drawSet_66 hl (k := 4) rfl rfl (by decide) rfl (fun ls hl => ?_)
            refine lv_goto (tgt := 4) hx hb dX0_drawSet_69 (by decide) ?_
            exact ih4 x1 x2 (x3 + 1) _ _ _ hF hf (lv_sub hl [2, 3, 4, 0] rfl)
          · replace hF := (if_pos c5).symm.trans hF
            refine lv_aload_n hx hb dX0_drawSet_31 rfl (lv_at hl 0 rfl) ?_
            refine lv_iload_n hx hb dX0_drawSet_32 rfl (lv_at hl 3 rfl) ?_
            obtain ⟨q6, h7, hF⟩ := Option.bind_eq_some_iff.mp hF
            refine g_cv0 (o := some (.int q6)) (As := [.int x3]) (rest := []) (st1 := [.int q6]) (ci := 0) S hf (c_X0_isDead l G ad σ0 x3 q6 h7) (cwV 1 hts gX0_drawSet_X0_isDead rfl rfl rfl (by decide +kernel) ⟨Nat.le_of_ble_eq_true rfl, Nat.le_of_ble_eq_true rfl⟩) rfl rfl rfl 0 rfl rfl hl.1 rfl rfl (Nat.le_of_ble_eq_true rfl) ⟨Nat.zero_le _, Nat.zero_le _⟩ dX0_drawSet_33 (fun H locs hf => ?_)
            have hf : Fr G (va_A (wK G ad σ0) s.heap.size) s (wK G ad σ0) H locs := hf
            refine lv_if_ne (tgt := 43) hx hb dX0_drawSet_36 (by decide) (fun c8 => ?_) (fun c8 => ?_)
            · replace hF := (if_neg c8).symm.trans hF
              refine lv_iconst (v := 0) hx hb dX0_drawSet_43 (by decide) ?_
              refine lv_istore (lv' := [(4, .int 0), (0, .ref (ad 0)), (1, .int x1), (2, .int x2), (3, .int x3)]) hx hb dX0_drawSet_44 hl (by decide) rfl (fun ls hl => ?_)
              refine lv_iload hx hb dX0_drawSet_46 (lv_at hl 0 rfl) ?_
              refine lv_if_eq (tgt := 66) hx hb dX0_drawSet_48 (by decide) (fun c => ?_) (fun c => absurd c (by decide))
              refine lv_iinc (v := x3 + 1) (lv' := [(3, .int (x3 + 1)), (4, .int 0), (0, .ref (ad 0)), (1, .int x1), (2, .int x2)]) hx hb dX0_drawSet_66 hl (k := 4) rfl rfl (by decide) rfl (fun ls hl => ?_)
              refine lv_goto (tgt := 4) hx hb dX0_drawSet_69 (by decide) ?_
              exact ih4 x1 x2 (x3 + 1) _ _ _ hF hf (lv_sub hl [2, 3, 4, 0] rfl)
            · replace hF := (if_pos c8).symm.trans hF
              refine lv_iconst (v := 1) hx hb dX0_drawSet_39 (by decide) ?_
              refine lv_goto (tgt := 44) hx hb dX0_drawSet_40 (by decide) ?_
              refine lv_istore (lv' := [(4, .int 1), (0, .ref (ad 0)), (1, .int x1), (2, .int x2), (3, .int x3)]) hx hb dX0_drawSet_44 hl (by decide) rfl (fun ls hl => ?_)
              refine lv_iload hx hb dX0_drawSet_46 (lv_at hl 0 rfl) ?_
              refine lv_if_eq (tgt := 66) hx hb dX0_drawSet_48 (by decide) (fun c => absurd c (by decide)) (fun c => ?_)
              refine lv_aload_n hx hb dX0_drawSet_51 rfl (lv_at hl 1 rfl) ?_
              refine g_get (ci := 0) (C := RX0) (T := TX0) (N := 16) (v := .ref (ad 10)) S hf hinX0 0 rfl rfl 13 (by decide) k54 rfl rfl dX0_drawSet_52 ?_
              refine lv_iload_n hx hb dX0_drawSet_55 rfl (lv_at hl 4 rfl) ?_
              refine g_ald (v := (σ0 6) x3.toNatClampNeg) S hf 10 rfl g2 rfl dX0_drawSet_56 ?_
              refine lv_if_ne (tgt := 66) hx hb dX0_drawSet_57 (by decide) (fun c9 => ?_) (fun c9 => ?_)
              · replace hF := (if_neg c9).symm.trans hF
                refine lv_iinc (v := x3 + 1) (lv' := [(3, .int (x3 + 1)), (4, .int 1), (0, .ref (ad 0)), (1, .int x1), (2, .int x2)]) hx hb dX0_drawSet_66 hl (k := 4) rfl rfl (by decide) rfl (fun ls hl => ?_)
                refine lv_goto (tgt := 4) hx hb dX0_drawSet_69 (by decide) ?_
                exact ih4 x1 x2 (x3 + 1) _ _ _ hF hf (lv_sub hl [2, 3, 4, 0] rfl)
              · replace hF := (if_pos c9).symm.trans hF
                refine lv_iload_n hx hb dX0_drawSet_60 rfl (lv_at hl 3 rfl) ?_
                refine lv_iconst (v := 1) hx hb dX0_drawSet_61 (by decide) ?_
                refine lv_iload_n hx hb dX0_drawSet_62 rfl (lv_at hl 4 rfl) ?_
                refine lv_ishl hx hb dX0_drawSet_63 ?_
                refine lv_ior hx hb dX0_drawSet_64 ?_
                refine lv_istore_n (lv' := [(2, .int (x2 ||| (1 <<< (x3 &&& 31)))), (4, .int 1), (0, .ref (ad 0)), (1, .int x1), (3, .int x3)]) hx hb dX0_drawSet_65 rfl hl (by decide) rfl (fun ls hl => ?_)
                refine lv_iinc (v := x3 + 1) (lv' := [(3, .int (x3 + 1)), (2, .int (x2 ||| (1 <<< (x3 &&& 31)))), (4, .int 1), (0, .ref (ad 0)), (1, .int x1)]) hx hb dX0_drawSet_66 hl (k := 4) rfl rfl (by decide) rfl (fun ls hl => ?_)
                refine lv_goto (tgt := 4) hx hb dX0_drawSet_69 (by decide) ?_
                exact ih4 x1 (x2 ||| (1 <<< (x3 &&& 31))) (x3 + 1) _ _ _ hF hf (lv_sub hl [3, 4, 1, 0] rfl)
  unfold f_X0_drawSet at hF
  refine lv_iconst (v := 0) hx hb dX0_drawSet_0 (by decide) ?_
  refine lv_istore_n (lv' := [(2, .int 0), (0, .ref (ad 0)), (1, .int a1)]) hx hb dX0_drawSet_1 rfl hl (by decide) rfl (fun ls hl => ?_)
  refine lv_iconst (v := 0) hx hb dX0_drawSet_2 (by decide) ?_
  refine lv_istore_n (lv' := [(3, .int 0), (2, .int 0), (0, .ref (ad 0)), (1, .int a1)]) hx hb dX0_drawSet_3 rfl hl (by decide) rfl (fun ls hl => ?_)
  exact hL4 1000 a1 0 0 _ _ _ hF hf (lv_sub hl [2, 3, 1, 0] rfl)
def f_X0_tell (σ0 : K2) (a1 : Int32) (a2 : Int32) : Option (Int32) := if a2 = 9 then (if ix a1 8 then (if ix ((σ0 0) a1.toNatClampNeg) 7 then (some (tbLife ((σ0 0) a1.toNatClampNeg).toNatClampNeg)) else none) else none) else (if a2 = 10 then (Option.bind (f_X0_rateOf σ0 a1) (fun q5 => some (q5))) else (if a2 = 11 then (Option.bind (f_X0_mealOf σ0 a1) (fun q8 => some (q8))) else (if a2 = 12 then (Option.bind (f_X0_lineSet σ0) (fun q11 => some ((q11 >>> (a1 &&& 31)) &&& 1))) else (if a2 = 13 then (Option.bind (f_X0_lineSet σ0) (fun q14 => Option.bind (f_X0_drawSet σ0 q14) (fun q16 => some ((q16 >>> (a1 &&& 31)) &&& 1)))) else (if ix a2 9 then (if ix a1 8 then (some (σ0 a2.toNatClampNeg a1.toNatClampNeg)) else none) else none)))))
set_option maxHeartbeats 4000000 in
set_option maxRecDepth 100000 in
theorem c_X0_tell (l : Launch) (G : GT) (ad : Nat → Nat) (σ0 : K2) (a1 : Int32) (a2 : Int32) (q : Int32) (hF : f_X0_tell σ0 a1 a2 = some q) : Ct l G yX0_tell wsX0_tell ({ frames := 3, cells := 0, slots := 0, locals := 65 } : Room) ([.ref (ad 0), .int a1, .int a2] : List Value) (wK G ad σ0) (some (.int q)) (wK G ad σ0) := by
  have k76 : Cond.fieldLink RX0 76 "PigeonRolls$Kingdom" "LIFE" "[I" ∈ wsX0_tell := by decide +kernel
  have k36 : Cond.fieldLink RX0 36 "PigeonRolls$Kingdom" "kind" "[I" ∈ wsX0_tell := by decide +kernel
  have k33 : Cond.fieldLink RX0 33 "PigeonRolls$Kingdom" "traits" "[[I" ∈ wsX0_tell := by decide +kernel
  have hinX0 : ∀ w ∈ u_ws RX0 TX0 16, w ∈ wsX0_tell := by decide +kernel
  refine Ct.of cX0_tell 3 (some .int) (by decide) rfl (Nat.le_of_ble_eq_true rfl) ?_
  intro p e s m below meth c ls S hr hlocks hf hl
  have S : CallFix p m c cX0_tell 3 s ([.ref (ad 0), .int a1, .int a2] : List Value).toArray wsX0_tell RX0 := S
  obtain ⟨hx, hb, hml, hown, hts⟩ := id S
  have hl : lv_has ls 3 [(0, .ref (ad 0)), (1, .int a1), (2, .int a2)] := hl
  unfold f_X0_tell at hF
  refine lv_iload_n hx hb dX0_tell_0 rfl (lv_at hl 2 rfl) ?_
  by_cases c1 : a2 = 9
  · replace hF := (if_pos c1).symm.trans hF
    refine lv_tableIn (tgt := 36) hx hb dX0_tell_1 (by rw [c1]; decide) (by rw [c1]; decide) (by rw [c1]; rfl) (by decide) ?_
    refine g_gets S hf hf.2.2.2.2.2.1 k76 dX0_tell_36 ?_
    refine lv_aload_n hx hb dX0_tell_39 rfl (lv_at hl 0 rfl) ?_
    refine g_get (ci := 0) (C := RX0) (T := TX0) (N := 16) (v := .ref (ad 4)) S hf hinX0 0 rfl rfl 7 (by decide) k36 rfl rfl dX0_tell_40 ?_
    refine lv_iload_n hx hb dX0_tell_43 rfl (lv_at hl 1 rfl) ?_
    obtain ⟨g2, hF⟩ := gd_some hF
    refine g_ald (v := (σ0 0) a1.toNatClampNeg) S hf 4 rfl g2 rfl dX0_tell_44 ?_
    obtain ⟨g3, hF⟩ := gd_some hF
    refine g_tald S hf hf.2.2.2.2.2.1 g3 dX0_tell_45 ?_
    exact g_iret S hr hlocks hf (congrArg (fun z : Int32 => z) (Option.some.inj hF)) rfl dX0_tell_46
  replace hF := (if_neg c1).symm.trans hF
  by_cases c4 : a2 = 10
  · replace hF := (if_pos c4).symm.trans hF
    refine lv_tableIn (tgt := 47) hx hb dX0_tell_1 (by rw [c4]; decide) (by rw [c4]; decide) (by rw [c4]; rfl) (by decide) ?_
    refine lv_aload_n hx hb dX0_tell_47 rfl (lv_at hl 0 rfl) ?_
    refine lv_iload_n hx hb dX0_tell_48 rfl (lv_at hl 1 rfl) ?_
    obtain ⟨q5, h6, hF⟩ := Option.bind_eq_some_iff.mp hF
    refine g_cv0 (o := some (.int q5)) (As := [.int a1]) (rest := []) (st1 := [.int q5]) (ci := 0) S hf (c_X0_rateOf l G ad σ0 a1 q5 h6) (cwV 1 hts gX0_tell_X0_rateOf rfl rfl rfl (by decide +kernel) ⟨Nat.le_of_ble_eq_true rfl, Nat.le_of_ble_eq_true rfl⟩) rfl rfl rfl 0 rfl rfl hl.1 rfl rfl (Nat.le_of_ble_eq_true rfl) ⟨Nat.zero_le _, Nat.zero_le _⟩ dX0_tell_49 (fun H locs hf => ?_)
    have hf : Fr G (va_A (wK G ad σ0) s.heap.size) s (wK G ad σ0) H locs := hf
    exact g_iret S hr hlocks hf (congrArg (fun z : Int32 => z) (Option.some.inj hF)) rfl dX0_tell_52
  replace hF := (if_neg c4).symm.trans hF
  by_cases c7 : a2 = 11
  · replace hF := (if_pos c7).symm.trans hF
    refine lv_tableIn (tgt := 53) hx hb dX0_tell_1 (by rw [c7]; decide) (by rw [c7]; decide) (by rw [c7]; rfl) (by decide) ?_
    refine lv_aload_n hx hb dX0_tell_53 rfl (lv_at hl 0 rfl) ?_
    refine lv_iload_n hx hb dX0_tell_54 rfl (lv_at hl 1 rfl) ?_
    obtain ⟨q8, h9, hF⟩ := Option.bind_eq_some_iff.mp hF
    refine g_cv0 (o := some (.int q8)) (As := [.int a1]) (rest := []) (st1 := [.int q8]) (ci := 0) S hf (c_X0_mealOf l G ad σ0 a1 q8 h9) (cwV 1 hts gX0_tell_X0_mealOf rfl rfl rfl (by decide +kernel) ⟨Nat.le_of_ble_eq_true rfl, Nat.le_of_ble_eq_true rfl⟩) rfl rfl rfl 0 rfl rfl hl.1 rfl rfl (Nat.le_of_ble_eq_true rfl) ⟨Nat.zero_le _, Nat.zero_le _⟩ dX0_tell_55 (fun H locs hf => ?_)
    have hf : Fr G (va_A (wK G ad σ0) s.heap.size) s (wK G ad σ0) H locs := hf
    exact g_iret S hr hlocks hf (congrArg (fun z : Int32 => z) (Option.some.inj hF)) rfl dX0_tell_58
  replace hF := (if_neg c7).symm.trans hF
  by_cases c10 : a2 = 12
  · replace hF := (if_pos c10).symm.trans hF
    refine lv_tableIn (tgt := 59) hx hb dX0_tell_1 (by rw [c10]; decide) (by rw [c10]; decide) (by rw [c10]; rfl) (by decide) ?_
    refine lv_aload_n hx hb dX0_tell_59 rfl (lv_at hl 0 rfl) ?_
    obtain ⟨q11, h12, hF⟩ := Option.bind_eq_some_iff.mp hF
    refine g_cv0 (o := some (.int q11)) (As := []) (rest := []) (st1 := [.int q11]) (ci := 0) S hf (c_X0_lineSet l G ad σ0 q11 h12) (cwV 0 hts gX0_tell_X0_lineSet rfl rfl rfl (by decide +kernel) ⟨Nat.le_of_ble_eq_true rfl, Nat.le_of_ble_eq_true rfl⟩) rfl rfl rfl 0 rfl rfl hl.1 rfl rfl (Nat.le_of_ble_eq_true rfl) ⟨Nat.zero_le _, Nat.zero_le _⟩ dX0_tell_60 (fun H locs hf => ?_)
    have hf : Fr G (va_A (wK G ad σ0) s.heap.size) s (wK G ad σ0) H locs := hf
    refine lv_iload_n hx hb dX0_tell_63 rfl (lv_at hl 1 rfl) ?_
    refine lv_ishr hx hb dX0_tell_64 ?_
    refine lv_iconst (v := 1) hx hb dX0_tell_65 (by decide) ?_
    refine lv_iand hx hb dX0_tell_66 ?_
    exact g_iret S hr hlocks hf (congrArg (fun z : Int32 => z) (Option.some.inj hF)) rfl dX0_tell_67
  replace hF := (if_neg c10).symm.trans hF
  by_cases c13 : a2 = 13
  · replace hF := (if_pos c13).symm.trans hF
    refine lv_tableIn (tgt := 68) hx hb dX0_tell_1 (by rw [c13]; decide) (by rw [c13]; decide) (by rw [c13]; rfl) (by decide) ?_
    refine lv_aload_n hx hb dX0_tell_68 rfl (lv_at hl 0 rfl) ?_
    refine lv_aload_n hx hb dX0_tell_69 rfl (lv_at hl 0 rfl) ?_
    obtain ⟨q14, h15, hF⟩ := Option.bind_eq_some_iff.mp hF
    refine g_cv0 (o := some (.int q14)) (As := []) (rest := [.ref (ad 0)]) (st1 := [.int q14, .ref (ad 0)]) (ci := 0) S hf (c_X0_lineSet l G ad σ0 q14 h15) (cwV 0 hts gX0_tell_X0_lineSet rfl rfl rfl (by decide +kernel) ⟨Nat.le_of_ble_eq_true rfl, Nat.le_of_ble_eq_true rfl⟩) rfl rfl rfl 0 rfl rfl hl.1 rfl rfl (Nat.le_of_ble_eq_true rfl) ⟨Nat.zero_le _, Nat.zero_le _⟩ dX0_tell_70 (fun H locs hf => ?_)
    have hf : Fr G (va_A (wK G ad σ0) s.heap.size) s (wK G ad σ0) H locs := hf
    obtain ⟨q16, h17, hF⟩ := Option.bind_eq_some_iff.mp hF
    refine g_cv0 (o := some (.int q16)) (As := [.int q14]) (rest := []) (st1 := [.int q16]) (ci := 0) S hf (c_X0_drawSet l G ad σ0 q14 q16 h17) (cwV 1 hts gX0_tell_X0_drawSet rfl rfl rfl (by decide +kernel) ⟨Nat.le_of_ble_eq_true rfl, Nat.le_of_ble_eq_true rfl⟩) rfl rfl rfl 0 rfl rfl hl.1 rfl rfl (Nat.le_of_ble_eq_true rfl) ⟨Nat.zero_le _, Nat.zero_le _⟩ dX0_tell_73 (fun H locs hf => ?_)
    have hf : Fr G (va_A (wK G ad σ0) s.heap.size) s (wK G ad σ0) H locs := hf
    refine lv_iload_n hx hb dX0_tell_76 rfl (lv_at hl 1 rfl) ?_
    refine lv_ishr hx hb dX0_tell_77 ?_
    refine lv_iconst (v := 1) hx hb dX0_tell_78 (by decide) ?_
    refine lv_iand hx hb dX0_tell_79 ?_
    exact g_iret S hr hlocks hf (congrArg (fun z : Int32 => z) (Option.some.inj hF)) rfl dX0_tell_80
  replace hF := (if_neg c13).symm.trans hF
  refine lv_tableOut (tgt := 81) hx hb dX0_tell_1 (by have t0 := lv_neT (a := 9) c1 (by decide); have t1 := lv_neT (a := 10) c4 (by decide); have t2 := lv_neT (a := 11) c7 (by decide); have t3 := lv_neT (a := 12) c10 (by decide); have t4 := lv_neT (a := 13) c13 (by decide); omega) (by decide) ?_
  refine lv_aload_n hx hb dX0_tell_81 rfl (lv_at hl 0 rfl) ?_
  refine g_get (ci := 0) (C := RX0) (T := TX0) (N := 16) (v := .ref (ad 3)) S hf hinX0 0 rfl rfl 6 (by decide) k33 rfl rfl dX0_tell_82 ?_
  refine lv_iload_n hx hb dX0_tell_85 rfl (lv_at hl 2 rfl) ?_
  obtain ⟨g18, hF⟩ := gd_some hF
  refine g_aald (v := ad (4 + a2.toNatClampNeg)) (t0 := 1) S hf 3 rfl rfl rfl g18 (if_pos (ix_lt g18)) dX0_tell_86 ?_
  refine lv_iload_n hx hb dX0_tell_87 rfl (lv_at hl 1 rfl) ?_
  obtain ⟨g19, hF⟩ := gd_some hF
  refine g_ald (v := σ0 a2.toNatClampNeg a1.toNatClampNeg) S hf (4 + a2.toNatClampNeg) (wK_r (ix_lt g18)) g19 rfl dX0_tell_88 ?_
  exact g_iret S hr hlocks hf (congrArg (fun z : Int32 => z) (Option.some.inj hF)) rfl dX0_tell_89
