def f_X0_passDays_L7 : Nat → K2 → Int32 → Int32 → Int32 → Option (K2)
  | 0, _, _, _, _ => none
  | n + 1, σ, x1, x2, x3 => if x1 ≤ x3 then (some (σ)) else (Option.bind (f_X0_passDay σ x2) (fun q4 => f_X0_passDays_L7 n q4 x1 x2 (x3 + 1)))
def f_X0_passDays (σ0 : K2) (a1 : Int32) : Option (K2) := Option.bind (f_X0_lineSet σ0) (fun q1 => f_X0_passDays_L7 1000 σ0 a1 q1 0)
set_option maxHeartbeats 4000000 in
set_option maxRecDepth 100000 in
theorem c_X0_passDays (l : Launch) (G : GT) (ad : Nat → Nat) (σ0 : K2) (a1 : Int32) (q : K2) (hF : f_X0_passDays σ0 a1 = some q) : Ct l G yX0_passDays wsX0_passDays ({ frames := 5, cells := 0, slots := 0, locals := 110 } : Room) ([.ref (ad 0), .int a1] : List Value) (wK G ad σ0) (none) (wK G ad q) := by
  refine Ct.of cX0_passDays 4 none (by decide) rfl (Nat.le_of_ble_eq_true rfl) ?_
  intro p e s m below meth c ls S hr hlocks hf hl
  have S : CallFix p m c cX0_passDays 4 s ([.ref (ad 0), .int a1] : List Value).toArray wsX0_passDays RX0 := S
  obtain ⟨hx, hb, hml, hown, hts⟩ := id S
  have hl : lv_has ls 4 [(0, .ref (ad 0)), (1, .int a1)] := hl
  have hL7 : ∀ (n : Nat) (σ : K2) (x1 : Int32) (x2 : Int32) (x3 : Int32)  (H : Heap) (locs : List Loc) (ls : Array Slot), f_X0_passDays_L7 n σ x1 x2 x3 = some q → Fr G (va_A (wK G ad σ0) s.heap.size) s (wK G ad σ) H locs → lv_has ls 4 [(0, .ref (ad 0)), (1, .int x1), (2, .int x2), (3, .int x3)] → W p l e ({ frames := 5, cells := 0, slots := 0, locals := 110 } : Room) s m ([.ref (ad 0), .int a1] : List Value).toArray below meth c H locs 0 0 (MQ below (CPost G (wK G ad σ0) s.heap.size (none) (wK G ad q)) ([.ref (ad 0), .int a1] : List Value).toArray s 0 0 (va_A (wK G ad σ0) s.heap.size)) (F0 m 7 ls []) := by
    intro n
    induction n with
    | zero =>
      intro σ x1 x2 x3 H locs ls hF hf hl
      exact absurd hF (by simp [f_X0_passDays_L7])
    | succ n ih7 =>
      intro σ x1 x2 x3 H locs ls hF hf hl
      rw [f_X0_passDays_L7] at hF
      refine lv_iload_n hx hb dX0_passDays_7 rfl (lv_at hl 3 rfl) ?_
      refine lv_iload_n hx hb dX0_passDays_8 rfl (lv_at hl 1 rfl) ?_
      refine lv_icmp_ge (tgt := 23) hx hb dX0_passDays_9 (by decide) (fun c3 => ?_) (fun c3 => ?_)
      · replace hF := (if_pos c3).symm.trans hF
        exact g_vret S hr hlocks hf (congrArg (fun z : K2 => wK G ad z) (Option.some.inj hF)) dX0_passDays_23
      · replace hF := (if_neg c3).symm.trans hF
        refine lv_aload_n hx hb dX0_passDays_12 rfl (lv_at hl 0 rfl) ?_
        refine lv_iload_n hx hb dX0_passDays_13 rfl (lv_at hl 2 rfl) ?_
        obtain ⟨q4, h5, hF⟩ := Option.bind_eq_some_iff.mp hF
        refine g_cv0 (o := none) (As := [.int x2]) (rest := []) (st1 := []) (ci := 0) S hf (c_X0_passDay l G ad σ x2 q4 h5) (cwV 1 hts gX0_passDays_X0_passDay rfl rfl rfl (by decide +kernel) ⟨Nat.le_of_ble_eq_true rfl, Nat.le_of_ble_eq_true rfl⟩) rfl rfl rfl 0 rfl rfl hl.1 rfl rfl (Nat.le_of_ble_eq_true rfl) ⟨Nat.zero_le _, Nat.zero_le _⟩ dX0_passDays_14 (fun H locs hf => ?_)
        have hf : Fr G (va_A (wK G ad σ0) s.heap.size) s (wK G ad q4) H locs := hf
        refine lv_iinc (v := x3 + 1) (lv' := [(3, .int (x3 + 1)), (0, .ref (ad 0)), (1, .int x1), (2, .int x2)]) hx hb dX0_passDays_17 hl (k := 3) rfl rfl (by decide) rfl (fun ls hl => ?_)
        refine lv_goto (tgt := 7) hx hb dX0_passDays_20 (by decide) ?_
        exact ih7 q4 x1 x2 (x3 + 1) _ _ _ hF hf (lv_sub hl [1, 2, 3, 0] rfl)
  unfold f_X0_passDays at hF
  refine lv_aload_n hx hb dX0_passDays_0 rfl (lv_at hl 0 rfl) ?_
  obtain ⟨q1, h2, hF⟩ := Option.bind_eq_some_iff.mp hF
  refine g_cv0 (o := some (.int q1)) (As := []) (rest := []) (st1 := [.int q1]) (ci := 0) S hf (c_X0_lineSet l G ad σ0 q1 h2) (cwV 0 hts gX0_passDays_X0_lineSet rfl rfl rfl (by decide +kernel) ⟨Nat.le_of_ble_eq_true rfl, Nat.le_of_ble_eq_true rfl⟩) rfl rfl rfl 0 rfl rfl hl.1 rfl rfl (Nat.le_of_ble_eq_true rfl) ⟨Nat.zero_le _, Nat.zero_le _⟩ dX0_passDays_1 (fun H locs hf => ?_)
  have hf : Fr G (va_A (wK G ad σ0) s.heap.size) s (wK G ad σ0) H locs := hf
  refine lv_istore_n (lv' := [(2, .int q1), (0, .ref (ad 0)), (1, .int a1)]) hx hb dX0_passDays_4 rfl hl (by decide) rfl (fun ls hl => ?_)
  refine lv_iconst (v := 0) hx hb dX0_passDays_5 (by decide) ?_
  refine lv_istore_n (lv' := [(3, .int 0), (2, .int q1), (0, .ref (ad 0)), (1, .int a1)]) hx hb dX0_passDays_6 rfl hl (by decide) rfl (fun ls hl => ?_)
  exact hL7 1000 σ0 a1 q1 0 _ _ _ hF hf (lv_sub hl [2, 3, 1, 0] rfl)
def f_X0_become2_L64 (κ0 : K2) : Nat → K2 → Int32 → Option (K2)
  | 0, _, _ => none
  | n + 1, σ, x2 => if 9 ≤ x2 then (some (σ)) else (if ix x2 9 then (f_X0_become2_L64 κ0 n (va_up σ x2.toNatClampNeg (va_cpy (κ0 x2.toNatClampNeg) (σ x2.toNatClampNeg) 0 0 8)) (x2 + 1)) else none)
def f_X0_become2 (σ0 : K2) (κ0 : K2) : Option (K2) := f_X0_become2_L64 κ0 1000 (va_up (va_up (va_up σ0 10 (va_cpy (κ0 10) (σ0 10) 0 0 10)) 9 (va_cpy (κ0 9) (σ0 9) 0 0 6)) 11 (upd (upd (upd (upd (σ0 11) 0 (κ0 11 0)) 1 (κ0 11 1)) 2 (κ0 11 2)) 3 (κ0 11 3))) 0
set_option maxHeartbeats 4000000 in
set_option maxRecDepth 100000 in
theorem c_X0_become2 (l : Launch) (G : GT) (ad ad2 : Nat → Nat) (σ0 : K2) (κ0 : K2) (q : K2) (hF : f_X0_become2 σ0 κ0 = some q) : Ct l G yX0_become wsX0_become ({ frames := 1, cells := 0, slots := 0, locals := 60 } : Room) ([.ref (ad 0), .ref (ad2 0)] : List Value) (wK G ad2 κ0 ++ wK G ad σ0) (none) (wK G ad2 κ0 ++ wK G ad q) := by
  have k9 : Cond.fieldLink RX0 9 "PigeonRolls$Kingdom" "day" "I" ∈ wsX0_become := by decide +kernel
  have k15 : Cond.fieldLink RX0 15 "PigeonRolls$Kingdom" "treasury" "I" ∈ wsX0_become := by decide +kernel
  have k18 : Cond.fieldLink RX0 18 "PigeonRolls$Kingdom" "chance" "I" ∈ wsX0_become := by decide +kernel
  have k21 : Cond.fieldLink RX0 21 "PigeonRolls$Kingdom" "birds" "I" ∈ wsX0_become := by decide +kernel
  have k24 : Cond.fieldLink RX0 24 "PigeonRolls$Kingdom" "list" "[I" ∈ wsX0_become := by decide +kernel
  have k63 : Cond.methodLink RX0 63 arraycopyName ∈ wsX0_become := by decide +kernel
  have kna : Cond.native arraycopyName ∈ wsX0_become := by decide +kernel
  have ksa : Cond.static arraycopyName ∈ wsX0_become := by decide +kernel
  have kiS : Cond.initialized "java/lang/System" ∈ wsX0_become := by decide +kernel
  have k28 : Cond.fieldLink RX0 28 "PigeonRolls$Kingdom" "spots" "[I" ∈ wsX0_become := by decide +kernel
  have k33 : Cond.fieldLink RX0 33 "PigeonRolls$Kingdom" "traits" "[[I" ∈ wsX0_become := by decide +kernel
  have hinX0 : ∀ w ∈ u_ws RX0 TX0 16, w ∈ wsX0_become := by decide +kernel
  refine Ct.of cX0_become 3 none (by decide) rfl (Nat.le_of_ble_eq_true rfl) ?_
  intro p e s m below meth c ls S hr hlocks hf hl
  have S : CallFix p m c cX0_become 3 s ([.ref (ad 0), .ref (ad2 0)] : List Value).toArray wsX0_become RX0 := S
  obtain ⟨hx, hb, hml, hown, hts⟩ := id S
  have hl : lv_has ls 3 [(0, .ref (ad 0)), (1, .ref (ad2 0))] := hl
  have hL64 : ∀ (n : Nat) (σ : K2) (x2 : Int32)  (H : Heap) (locs : List Loc) (ls : Array Slot), f_X0_become2_L64 κ0 n σ x2 = some q → Fr G (va_A (wK G ad2 κ0 ++ wK G ad σ0) s.heap.size) s (wK G ad2 κ0 ++ wK G ad σ) H locs → lv_has ls 3 [(0, .ref (ad 0)), (1, .ref (ad2 0)), (2, .int x2)] → W p l e ({ frames := 1, cells := 0, slots := 0, locals := 60 } : Room) s m ([.ref (ad 0), .ref (ad2 0)] : List Value).toArray below meth c H locs 0 0 (MQ below (CPost G (wK G ad2 κ0 ++ wK G ad σ0) s.heap.size (none) (wK G ad2 κ0 ++ wK G ad q)) ([.ref (ad 0), .ref (ad2 0)] : List Value).toArray s 0 0 (va_A (wK G ad2 κ0 ++ wK G ad σ0) s.heap.size)) (F0 m 64 ls []) := by
    intro n
    induction n with
    | zero =>
      intro σ x2 H locs ls hF hf hl
      exact absurd hF (by simp [f_X0_become2_L64])
    | succ n ih64 =>
      intro σ x2 H locs ls hF hf hl
      rw [f_X0_become2_L64] at hF
      refine lv_iload_n hx hb dX0_become_64 rfl (lv_at hl 2 rfl) ?_
      refine lv_bipush (v := 9) hx hb dX0_become_65 (by decide) ?_
      refine lv_icmp_ge (tgt := 95) hx hb dX0_become_67 (by decide) (fun c1 => ?_) (fun c1 => ?_)
      · replace hF := (if_pos c1).symm.trans hF
        exact g_vret S hr hlocks hf (congrArg (fun z : K2 => wK G ad2 κ0 ++ wK G ad z) (Option.some.inj hF)) dX0_become_95
      · replace hF := (if_neg c1).symm.trans hF
        refine lv_aload_n hx hb dX0_become_70 rfl (lv_at hl 1 rfl) ?_
        refine g_get (ci := 0) (C := RX0) (T := TX0) (N := 16) (v := .ref (ad2 3)) S hf hinX0 0 rfl rfl 6 (by decide) k33 rfl rfl dX0_become_71 ?_
        refine lv_iload_n hx hb dX0_become_74 rfl (lv_at hl 2 rfl) ?_
        obtain ⟨g2, hF⟩ := gd_some hF
        refine g_aald (v := ad2 (4 + x2.toNatClampNeg)) (t0 := 1) S hf 3 rfl rfl rfl g2 (if_pos (ix_lt g2)) dX0_become_75 ?_
        refine lv_iconst (v := 0) hx hb dX0_become_76 (by decide) ?_
        refine lv_aload_n hx hb dX0_become_77 rfl (lv_at hl 0 rfl) ?_
        refine g_get (ci := 0) (C := RX0) (T := TX0) (N := 16) (v := .ref (ad 3)) S hf hinX0 13 rfl rfl 6 (by decide) k33 rfl rfl dX0_become_78 ?_
        refine lv_iload_n hx hb dX0_become_81 rfl (lv_at hl 2 rfl) ?_
        refine g_aald (v := ad (4 + x2.toNatClampNeg)) (t0 := 1) S hf 16 rfl rfl rfl g2 (if_pos (ix_lt g2)) dX0_become_82 ?_
        refine lv_iconst (v := 0) hx hb dX0_become_83 (by decide) ?_
        refine lv_bipush (v := 8) hx hb dX0_become_84 (by decide) ?_
        refine g_copy (ww' := wK G ad2 κ0 ++ wK G ad (va_up σ x2.toNatClampNeg (va_cpy (κ0 x2.toNatClampNeg) (σ x2.toNatClampNeg) 0 0 8))) S hf (4 + x2.toNatClampNeg) (17 + x2.toNatClampNeg) (wKJ_a (ix_lt g2)) (wKJ_b (ix_lt g2)) (by decide) (by decide) (by decide) (by decide) (by decide) (hl.1) (hts _ k63) (hts _ kna) (hts _ ksa) (hts _ kiS) (Nat.le_of_ble_eq_true rfl) (Nat.le_of_ble_eq_true rfl) (wKJ_b_set (ix_lt g2)) dX0_become_86 (fun H locs hf => ?_)
        refine lv_iinc (v := x2 + 1) (lv' := [(2, .int (x2 + 1)), (0, .ref (ad 0)), (1, .ref (ad2 0))]) hx hb dX0_become_89 hl (k := 2) rfl rfl (by decide) rfl (fun ls hl => ?_)
        refine lv_goto (tgt := 64) hx hb dX0_become_92 (by decide) ?_
        exact ih64 (va_up σ x2.toNatClampNeg (va_cpy (κ0 x2.toNatClampNeg) (σ x2.toNatClampNeg) 0 0 8)) (x2 + 1) _ _ _ hF hf (lv_sub hl [1, 2, 0] rfl)
  unfold f_X0_become2 at hF
  refine lv_aload_n hx hb dX0_become_0 rfl (lv_at hl 0 rfl) ?_
  refine lv_aload_n hx hb dX0_become_1 rfl (lv_at hl 1 rfl) ?_
  refine g_get (ci := 0) (C := RX0) (T := TX0) (N := 16) (v := .int (κ0 11 0)) S hf hinX0 0 rfl rfl 0 (by decide) k9 rfl rfl dX0_become_2 ?_
  refine g_put (ci := 0) (C := RX0) (T := TX0) (N := 16) (ww' := wK G ad2 κ0 ++ wK G ad (va_up σ0 11 (upd (σ0 11) 0 (κ0 11 0)))) S hf hinX0 tyX0 tyX0_ok nmX0 13 rfl rfl 0 (by decide) k9 rfl rfl rfl rfl (Nat.le_of_ble_eq_true rfl) rfl dX0_become_5 (fun H locs hf => ?_)
  refine lv_aload_n hx hb dX0_become_8 rfl (lv_at hl 0 rfl) ?_
  refine lv_aload_n hx hb dX0_become_9 rfl (lv_at hl 1 rfl) ?_
  refine g_get (ci := 0) (C := RX0) (T := TX0) (N := 16) (v := .int (κ0 11 1)) S hf hinX0 0 rfl rfl 1 (by decide) k15 rfl rfl dX0_become_10 ?_
  refine g_put (ci := 0) (C := RX0) (T := TX0) (N := 16) (ww' := wK G ad2 κ0 ++ wK G ad (va_up σ0 11 (upd (upd (σ0 11) 0 (κ0 11 0)) 1 (κ0 11 1)))) S hf hinX0 tyX0 tyX0_ok nmX0 13 rfl rfl 1 (by decide) k15 rfl rfl rfl rfl (Nat.le_of_ble_eq_true rfl) rfl dX0_become_13 (fun H locs hf => ?_)
  refine lv_aload_n hx hb dX0_become_16 rfl (lv_at hl 0 rfl) ?_
  refine lv_aload_n hx hb dX0_become_17 rfl (lv_at hl 1 rfl) ?_
  refine g_get (ci := 0) (C := RX0) (T := TX0) (N := 16) (v := .int (κ0 11 2)) S hf hinX0 0 rfl rfl 2 (by decide) k18 rfl rfl dX0_become_18 ?_
  refine g_put (ci := 0) (C := RX0) (T := TX0) (N := 16) (ww' := wK G ad2 κ0 ++ wK G ad (va_up σ0 11 (upd (upd (upd (σ0 11) 0 (κ0 11 0)) 1 (κ0 11 1)) 2 (κ0 11 2)))) S hf hinX0 tyX0 tyX0_ok nmX0 13 rfl rfl 2 (by decide) k18 rfl rfl rfl rfl (Nat.le_of_ble_eq_true rfl) rfl dX0_become_21 (fun H locs hf => ?_)
  refine lv_aload_n hx hb dX0_become_24 rfl (lv_at hl 0 rfl) ?_
  refine lv_aload_n hx hb dX0_become_25 rfl (lv_at hl 1 rfl) ?_
  refine g_get (ci := 0) (C := RX0) (T := TX0) (N := 16) (v := .int (κ0 11 3)) S hf hinX0 0 rfl rfl 3 (by decide) k21 rfl rfl dX0_become_26 ?_
  refine g_put (ci := 0) (C := RX0) (T := TX0) (N := 16) (ww' := wK G ad2 κ0 ++ wK G ad (va_up σ0 11 (upd (upd (upd (upd (σ0 11) 0 (κ0 11 0)) 1 (κ0 11 1)) 2 (κ0 11 2)) 3 (κ0 11 3)))) S hf hinX0 tyX0 tyX0_ok nmX0 13 rfl rfl 3 (by decide) k21 rfl rfl rfl rfl (Nat.le_of_ble_eq_true rfl) rfl dX0_become_29 (fun H locs hf => ?_)
  refine lv_aload_n hx hb dX0_become_32 rfl (lv_at hl 1 rfl) ?_
  refine g_get (ci := 0) (C := RX0) (T := TX0) (N := 16) (v := .ref (ad2 1)) S hf hinX0 0 rfl rfl 4 (by decide) k24 rfl rfl dX0_become_33 ?_
  refine lv_iconst (v := 0) hx hb dX0_become_36 (by decide) ?_
  refine lv_aload_n hx hb dX0_become_37 rfl (lv_at hl 0 rfl) ?_
  refine g_get (ci := 0) (C := RX0) (T := TX0) (N := 16) (v := .ref (ad 1)) S hf hinX0 13 rfl rfl 4 (by decide) k24 rfl rfl dX0_become_38 ?_
  refine lv_iconst (v := 0) hx hb dX0_become_41 (by decide) ?_
  refine lv_bipush (v := 6) hx hb dX0_become_42 (by decide) ?_
  refine g_copy (ww' := wK G ad2 κ0 ++ wK G ad (va_up (va_up σ0 9 (va_cpy (κ0 9) (σ0 9) 0 0 6)) 11 (upd (upd (upd (upd (σ0 11) 0 (κ0 11 0)) 1 (κ0 11 1)) 2 (κ0 11 2)) 3 (κ0 11 3)))) S hf 1 14 rfl rfl (by decide) (by decide) (by decide) (by decide) (by decide) (hl.1) (hts _ k63) (hts _ kna) (hts _ ksa) (hts _ kiS) (Nat.le_of_ble_eq_true rfl) (Nat.le_of_ble_eq_true rfl) rfl dX0_become_44 (fun H locs hf => ?_)
  refine lv_aload_n hx hb dX0_become_47 rfl (lv_at hl 1 rfl) ?_
  refine g_get (ci := 0) (C := RX0) (T := TX0) (N := 16) (v := .ref (ad2 2)) S hf hinX0 0 rfl rfl 5 (by decide) k28 rfl rfl dX0_become_48 ?_
  refine lv_iconst (v := 0) hx hb dX0_become_51 (by decide) ?_
  refine lv_aload_n hx hb dX0_become_52 rfl (lv_at hl 0 rfl) ?_
  refine g_get (ci := 0) (C := RX0) (T := TX0) (N := 16) (v := .ref (ad 2)) S hf hinX0 13 rfl rfl 5 (by decide) k28 rfl rfl dX0_become_53 ?_
  refine lv_iconst (v := 0) hx hb dX0_become_56 (by decide) ?_
  refine lv_bipush (v := 10) hx hb dX0_become_57 (by decide) ?_
  refine g_copy (ww' := wK G ad2 κ0 ++ wK G ad (va_up (va_up (va_up σ0 10 (va_cpy (κ0 10) (σ0 10) 0 0 10)) 9 (va_cpy (κ0 9) (σ0 9) 0 0 6)) 11 (upd (upd (upd (upd (σ0 11) 0 (κ0 11 0)) 1 (κ0 11 1)) 2 (κ0 11 2)) 3 (κ0 11 3)))) S hf 2 15 rfl rfl (by decide) (by decide) (by decide) (by decide) (by decide) (hl.1) (hts _ k63) (hts _ kna) (hts _ ksa) (hts _ kiS) (Nat.le_of_ble_eq_true rfl) (Nat.le_of_ble_eq_true rfl) rfl dX0_become_59 (fun H locs hf => ?_)
  refine lv_iconst (v := 0) hx hb dX0_become_62 (by decide) ?_
  refine lv_istore_n (lv' := [(2, .int 0), (0, .ref (ad 0)), (1, .ref (ad2 0))]) hx hb dX0_become_63 rfl hl (by decide) rfl (fun ls hl => ?_)
  exact hL64 1000 (va_up (va_up (va_up σ0 10 (va_cpy (κ0 10) (σ0 10) 0 0 10)) 9 (va_cpy (κ0 9) (σ0 9) 0 0 6)) 11 (upd (upd (upd (upd (σ0 11) 0 (κ0 11 0)) 1 (κ0 11 1)) 2 (κ0 11 2)) 3 (κ0 11 3))) 0 _ _ _ hF hf (lv_sub hl [1, 2, 0] rfl)
