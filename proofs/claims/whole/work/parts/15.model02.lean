def f_X4_isPaid (μ0 : K2) (a1 : Int32) : Option (K2) := Option.bind (f_X4_rate μ0 a1) (fun q1 => Option.bind (f_X4_birdIs μ0 a1 7) (fun q3 => Option.bind (f_X4_birdAt a1 8) (fun q5 => Option.bind (f_X4_more (va_up μ0 0 (upd (μ0 0) 3 (((μ0 0) 3) - (imin (q1 + q3) ((μ0 0) 3))))) q5 (imin (q1 + q3) ((μ0 0) 3)) 9999) (fun q7 => Option.bind (f_X4_birdAt a1 7) (fun q9 => if ix q9 92 then (some (va_up q7 0 (upd (q7 0) q9.toNatClampNeg (imin 9999 ((q1 + q3) - (imin (q1 + q3) ((μ0 0) 3))))))) else none)))))
set_option maxHeartbeats 4000000 in
set_option maxRecDepth 100000 in
theorem c_X4_isPaid (l : Launch) (G : GT) (ad : Nat → Nat) (μ0 : K2) (a1 : Int32) (q : K2) (hF : f_X4_isPaid μ0 a1 = some q) : Ct l G yX4_isPaid wsX4_isPaid ({ frames := 6, cells := 0, slots := 0, locals := 130 } : Room) ([.ref (ad 0), .int a1] : List Value) (wM G ad μ0) (none) (wM G ad q) := by
  have k9 : Cond.fieldLink RX4 9 "PigeonRollsModel" "now" "[I" ∈ wsX4_isPaid := by decide +kernel
  have k148 : Cond.methodLink RX4 148 Lib.Math.min.name ∈ wsX4_isPaid := by decide +kernel
  have ksmin : Cond.static Lib.Math.min.name ∈ wsX4_isPaid := by decide +kernel
  have kiM : Cond.initialized "java/lang/Math" ∈ wsX4_isPaid := by decide +kernel
  have komin : Cond.code Lib.Math.min.name Lib.Math.min.code 2 (some .int) ∈ wsX4_isPaid := by decide +kernel
  have hinX4 : ∀ w ∈ u_ws RX4 TX4 21, w ∈ wsX4_isPaid := by decide +kernel
  refine Ct.of cX4_isPaid 4 none (by decide) rfl (Nat.le_of_ble_eq_true rfl) ?_
  intro p e s m below meth c ls S hr hlocks hf hl
  have S : CallFix p m c cX4_isPaid 4 s ([.ref (ad 0), .int a1] : List Value).toArray wsX4_isPaid RX4 := S
  obtain ⟨hx, hb, hml, hown, hts⟩ := id S
  have hl : lv_has ls 4 [(0, .ref (ad 0)), (1, .int a1)] := hl
  unfold f_X4_isPaid at hF
  refine lv_aload_n hx hb dX4_isPaid_0 rfl (lv_at hl 0 rfl) ?_
  refine lv_iload_n hx hb dX4_isPaid_1 rfl (lv_at hl 1 rfl) ?_
  obtain ⟨q1, h2, hF⟩ := Option.bind_eq_some_iff.mp hF
  refine g_cv0 (o := some (.int q1)) (As := [.int a1]) (rest := []) (st1 := [.int q1]) (ci := 4) S hf (c_X4_rate l G ad μ0 a1 q1 h2) (cwV 1 hts gX4_isPaid_X4_rate rfl rfl rfl (by decide +kernel) ⟨Nat.le_of_ble_eq_true rfl, Nat.le_of_ble_eq_true rfl⟩) rfl rfl rfl 0 rfl rfl hl.1 rfl rfl (Nat.le_of_ble_eq_true rfl) ⟨Nat.zero_le _, Nat.zero_le _⟩ dX4_isPaid_2 (fun H locs hf => ?_)
  have hf : Fr G (va_A (wM G ad μ0) s.heap.size) s (wM G ad μ0) H locs := hf
  refine lv_aload_n hx hb dX4_isPaid_5 rfl (lv_at hl 0 rfl) ?_
  refine lv_iload_n hx hb dX4_isPaid_6 rfl (lv_at hl 1 rfl) ?_
  refine lv_bipush (v := 7) hx hb dX4_isPaid_7 (by decide) ?_
  obtain ⟨q3, h4, hF⟩ := Option.bind_eq_some_iff.mp hF
  refine g_cv0 (o := some (.int q3)) (As := [.int a1, .int 7]) (rest := [.int q1]) (st1 := [.int q3, .int q1]) (ci := 4) S hf (c_X4_birdIs l G ad μ0 a1 7 q3 h4) (cwV 2 hts gX4_isPaid_X4_birdIs rfl rfl rfl (by decide +kernel) ⟨Nat.le_of_ble_eq_true rfl, Nat.le_of_ble_eq_true rfl⟩) rfl rfl rfl 0 rfl rfl hl.1 rfl rfl (Nat.le_of_ble_eq_true rfl) ⟨Nat.zero_le _, Nat.zero_le _⟩ dX4_isPaid_9 (fun H locs hf => ?_)
  have hf : Fr G (va_A (wM G ad μ0) s.heap.size) s (wM G ad μ0) H locs := hf
  refine lv_iadd hx hb dX4_isPaid_12 ?_
  refine lv_istore_n (lv' := [(2, .int (q1 + q3)), (0, .ref (ad 0)), (1, .int a1)]) hx hb dX4_isPaid_13 rfl hl (by decide) rfl (fun ls hl => ?_)
  refine lv_iload_n hx hb dX4_isPaid_14 rfl (lv_at hl 0 rfl) ?_
  refine lv_aload_n hx hb dX4_isPaid_15 rfl (lv_at hl 1 rfl) ?_
  refine g_get (ci := 4) (C := RX4) (T := TX4) (N := 21) (v := .ref (ad 1)) S hf hinX4 0 rfl rfl 0 (by decide) k9 rfl rfl dX4_isPaid_16 ?_
  refine lv_iconst (v := 3) hx hb dX4_isPaid_19 (by decide) ?_
  refine g_ald (v := (μ0 0) 3) S hf 2 rfl (by decide) rfl dX4_isPaid_20 ?_
  refine va_mmin hx hb (hml.trans hl.1.symm) hown (hts _ k148) (hts _ ksmin) (hts _ kiM) (hts _ komin) (Nat.le_of_ble_eq_true rfl) (Nat.le_of_ble_eq_true rfl) (Nat.zero_le _) (Nat.zero_le _) dX4_isPaid_21 ?_
  refine lv_istore_n (lv' := [(3, .int (imin (q1 + q3) ((μ0 0) 3))), (2, .int (q1 + q3)), (0, .ref (ad 0)), (1, .int a1)]) hx hb dX4_isPaid_24 rfl hl (by decide) rfl (fun ls hl => ?_)
  refine lv_aload_n hx hb dX4_isPaid_25 rfl (lv_at hl 2 rfl) ?_
  refine g_get (ci := 4) (C := RX4) (T := TX4) (N := 21) (v := .ref (ad 1)) S hf hinX4 0 rfl rfl 0 (by decide) k9 rfl rfl dX4_isPaid_26 ?_
  refine lv_iconst (v := 3) hx hb dX4_isPaid_29 (by decide) ?_
  refine lv_dup2_11 hx hb dX4_isPaid_30 rfl rfl ?_
  refine g_ald (v := (μ0 0) 3) S hf 2 rfl (by decide) rfl dX4_isPaid_31 ?_
  refine lv_iload_n hx hb dX4_isPaid_32 rfl (lv_at hl 0 rfl) ?_
  refine lv_isub hx hb dX4_isPaid_33 ?_
  refine g_ast (ww' := wM G ad (va_up μ0 0 (upd (μ0 0) 3 (((μ0 0) 3) - (imin (q1 + q3) ((μ0 0) 3)))))) S hf 2 rfl (by decide) rfl dX4_isPaid_34 (fun H locs hf => ?_)
  refine lv_aload_n hx hb dX4_isPaid_35 rfl (lv_at hl 2 rfl) ?_
  refine lv_iload_n hx hb dX4_isPaid_36 rfl (lv_at hl 3 rfl) ?_
  refine lv_bipush (v := 8) hx hb dX4_isPaid_37 (by decide) ?_
  obtain ⟨q5, h6, hF⟩ := Option.bind_eq_some_iff.mp hF
  refine g_cs0 (o := some (.int q5)) (As := [.int a1, .int 8]) (rest := [.ref (ad 0)]) (st1 := [.int q5, .ref (ad 0)]) S hf (c_X4_birdAt l G  a1 8 q5 h6) (va_cwS 2 hts gX4_isPaid_X4_birdAt rfl rfl rfl (by decide +kernel) ⟨Nat.le_of_ble_eq_true rfl, Nat.le_of_ble_eq_true rfl⟩) rfl hl.1 rfl rfl (Nat.le_of_ble_eq_true rfl) ⟨Nat.zero_le _, Nat.zero_le _⟩ dX4_isPaid_39 (fun H locs hf => ?_)
  refine lv_iload_n hx hb dX4_isPaid_42 rfl (lv_at hl 0 rfl) ?_
  refine lv_sipush (v := 9999) hx hb dX4_isPaid_43 (by decide) ?_
  obtain ⟨q7, h8, hF⟩ := Option.bind_eq_some_iff.mp hF
  refine g_cv0 (o := none) (As := [.int q5, .int (imin (q1 + q3) ((μ0 0) 3)), .int 9999]) (rest := []) (st1 := []) (ci := 4) S hf (c_X4_more l G ad (va_up μ0 0 (upd (μ0 0) 3 (((μ0 0) 3) - (imin (q1 + q3) ((μ0 0) 3))))) q5 (imin (q1 + q3) ((μ0 0) 3)) 9999 q7 h8) (cwV 3 hts gX4_isPaid_X4_more rfl rfl rfl (by decide +kernel) ⟨Nat.le_of_ble_eq_true rfl, Nat.le_of_ble_eq_true rfl⟩) rfl rfl rfl 0 rfl rfl hl.1 rfl rfl (Nat.le_of_ble_eq_true rfl) ⟨Nat.zero_le _, Nat.zero_le _⟩ dX4_isPaid_46 (fun H locs hf => ?_)
  have hf : Fr G (va_A (wM G ad μ0) s.heap.size) s (wM G ad q7) H locs := hf
  refine lv_aload_n hx hb dX4_isPaid_49 rfl (lv_at hl 2 rfl) ?_
  refine g_get (ci := 4) (C := RX4) (T := TX4) (N := 21) (v := .ref (ad 1)) S hf hinX4 0 rfl rfl 0 (by decide) k9 rfl rfl dX4_isPaid_50 ?_
  refine lv_iload_n hx hb dX4_isPaid_53 rfl (lv_at hl 3 rfl) ?_
  refine lv_bipush (v := 7) hx hb dX4_isPaid_54 (by decide) ?_
  obtain ⟨q9, h10, hF⟩ := Option.bind_eq_some_iff.mp hF
  refine g_cs0 (o := some (.int q9)) (As := [.int a1, .int 7]) (rest := [.ref (ad 1)]) (st1 := [.int q9, .ref (ad 1)]) S hf (c_X4_birdAt l G  a1 7 q9 h10) (va_cwS 2 hts gX4_isPaid_X4_birdAt rfl rfl rfl (by decide +kernel) ⟨Nat.le_of_ble_eq_true rfl, Nat.le_of_ble_eq_true rfl⟩) rfl hl.1 rfl rfl (Nat.le_of_ble_eq_true rfl) ⟨Nat.zero_le _, Nat.zero_le _⟩ dX4_isPaid_56 (fun H locs hf => ?_)
  refine lv_sipush (v := 9999) hx hb dX4_isPaid_59 (by decide) ?_
  refine lv_iload_n hx hb dX4_isPaid_62 rfl (lv_at hl 1 rfl) ?_
  refine lv_iload_n hx hb dX4_isPaid_63 rfl (lv_at hl 0 rfl) ?_
  refine lv_isub hx hb dX4_isPaid_64 ?_
  refine va_mmin hx hb (hml.trans hl.1.symm) hown (hts _ k148) (hts _ ksmin) (hts _ kiM) (hts _ komin) (Nat.le_of_ble_eq_true rfl) (Nat.le_of_ble_eq_true rfl) (Nat.zero_le _) (Nat.zero_le _) dX4_isPaid_65 ?_
  obtain ⟨g11, hF⟩ := gd_some hF
  refine g_ast (ww' := wM G ad (va_up q7 0 (upd (q7 0) q9.toNatClampNeg (imin 9999 ((q1 + q3) - (imin (q1 + q3) ((μ0 0) 3))))))) S hf 2 rfl g11 rfl dX4_isPaid_68 (fun H locs hf => ?_)
  have hE := Option.some.inj hF
  have hW := congrArg (fun z : K2 => wM G ad z) hE
  exact g_vret S hr hlocks hf hW dX4_isPaid_69
def f_X4_day_B149 (μ : K2) : Option (K2) := Option.bind (f_X4_more μ 0 1 99999) (fun q9 => some (q9))
def f_X4_day_L107 : Nat → K2 → Int32 → Option (K2)
  | 0, _, _ => none
  | n + 1, μ, x2 => if ((μ 0) 1) ≤ x2 then (f_X4_day_B149 μ) else (if (irem ((μ 0) 0) 6) = 5 then (Option.bind (f_X4_doesDraw μ x2) (fun q12 => if q12 = 0 then (f_X4_day_L107 n μ (x2 + 1)) else (Option.bind (f_X4_isPaid μ x2) (fun q15 => f_X4_day_L107 n q15 (x2 + 1))))) else (f_X4_day_B149 μ))
def f_X4_day_B105 (μ : K2) : Option (K2) := f_X4_day_L107 1000 μ 0
def f_X4_day_L76 : Nat → K2 → Int32 → Option (K2)
  | 0, _, _ => none
  | n + 1, μ, x2 => if ((μ 0) 1) ≤ x2 then (f_X4_day_B105 μ) else (Option.bind (f_X4_birdAt x2 3) (fun q17 => Option.bind (f_X4_more μ q17 1 9999) (fun q19 => f_X4_day_L76 n q19 (x2 + 1))))
def f_X4_day_B40 (μ : K2) (x1 : Int32) : Option (K2) := Option.bind (f_X4_placeNow μ) (fun q2 => if ix q2 92 then (Option.bind (f_X4_more μ 3 ((μ 0) q2.toNatClampNeg) 99999) (fun q5 => f_X4_day_L76 1000 (va_up q5 0 (upd (q5 0) 3 (imax 0 (((q5 0) 3) - x1)))) 0)) else none)
def f_X4_day_L4 : Nat → K2 → Int32 → Int32 → Option (K2)
  | 0, _, _, _ => none
  | n + 1, μ, x1, x2 => if ((μ 0) 1) ≤ x2 then (f_X4_day_B40 μ x1) else (Option.bind (f_X4_doesDraw μ x2) (fun q21 => if q21 = 0 then (f_X4_day_L4 n μ (x1 + 0) (x2 + 1)) else (Option.bind (f_X4_eats μ x2) (fun q24 => f_X4_day_L4 n μ (x1 + q24) (x2 + 1)))))
def f_X4_day (μ0 : K2) : Option (K2) := f_X4_day_L4 1000 μ0 0 0
set_option maxHeartbeats 4000000 in
set_option maxRecDepth 100000 in
theorem c_X4_day (l : Launch) (G : GT) (ad : Nat → Nat) (μ0 : K2) (q : K2) (hF : f_X4_day μ0 = some q) : Ct l G yX4_day wsX4_day ({ frames := 7, cells := 0, slots := 0, locals := 153 } : Room) ([.ref (ad 0)] : List Value) (wM G ad μ0) (none) (wM G ad q) := by
  have k9 : Cond.fieldLink RX4 9 "PigeonRollsModel" "now" "[I" ∈ wsX4_day := by decide +kernel
  have kc88 : Cond.constant RX4 88 (99999) ∈ wsX4_day := by decide +kernel
  have k128 : Cond.methodLink RX4 128 Lib.Math.max.name ∈ wsX4_day := by decide +kernel
  have ksmax : Cond.static Lib.Math.max.name ∈ wsX4_day := by decide +kernel
  have kiM : Cond.initialized "java/lang/Math" ∈ wsX4_day := by decide +kernel
  have komax : Cond.code Lib.Math.max.name Lib.Math.max.code 2 (some .int) ∈ wsX4_day := by decide +kernel
  have hinX4 : ∀ w ∈ u_ws RX4 TX4 21, w ∈ wsX4_day := by decide +kernel
  refine Ct.of cX4_day 3 none (by decide) rfl (Nat.le_of_ble_eq_true rfl) ?_
  intro p e s m below meth c ls S hr hlocks hf hl
  have S : CallFix p m c cX4_day 3 s ([.ref (ad 0)] : List Value).toArray wsX4_day RX4 := S
  obtain ⟨hx, hb, hml, hown, hts⟩ := id S
  have hl : lv_has ls 3 [(0, .ref (ad 0))] := hl
  have hL149 : ∀ (μ : K2)  (H : Heap) (locs : List Loc) (ls : Array Slot), f_X4_day_B149 μ = some q → Fr G (va_A (wM G ad μ0) s.heap.size) s (wM G ad μ) H locs → lv_has ls 3 [(0, .ref (ad 0))] → W p l e ({ frames := 7, cells := 0, slots := 0, locals := 153 } : Room) s m ([.ref (ad 0)] : List Value).toArray below meth c H locs 0 0 (MQ below (CPost G (wM G ad μ0) s.heap.size (none) (wM G ad q)) ([.ref (ad 0)] : List Value).toArray s 0 0 (va_A (wM G ad μ0) s.heap.size)) (F0 m 149 ls []) := by
    intro μ H locs ls hF hf hl
    unfold f_X4_day_B149 at hF
    refine lv_aload_n hx hb dX4_day_149 rfl (lv_at hl 0 rfl) ?_
    refine lv_iconst (v := 0) hx hb dX4_day_150 (by decide) ?_
    refine lv_iconst (v := 1) hx hb dX4_day_151 (by decide) ?_
    refine lv_ldc (v := 99999) hx hb hown (hts _ kc88) dX4_day_152 ?_
    obtain ⟨q9, h10, hF⟩ := Option.bind_eq_some_iff.mp hF
    refine g_cv0 (o := none) (As := [.int 0, .int 1, .int 99999]) (rest := []) (st1 := []) (ci := 4) S hf (c_X4_more l G ad μ 0 1 99999 q9 h10) (cwV 3 hts gX4_day_X4_more rfl rfl rfl (by decide +kernel) ⟨Nat.le_of_ble_eq_true rfl, Nat.le_of_ble_eq_true rfl⟩) rfl rfl rfl 0 rfl rfl hl.1 rfl rfl (Nat.le_of_ble_eq_true rfl) ⟨Nat.zero_le _, Nat.zero_le _⟩ dX4_day_154 (fun H locs hf => ?_)
    have hf : Fr G (va_A (wM G ad μ0) s.heap.size) s (wM G ad q9) H locs := hf
    have hE := Option.some.inj hF
    have hW := congrArg (fun z : K2 => wM G ad z) hE
    exact g_vret S hr hlocks hf hW dX4_day_157
  have hL107 : ∀ (n : Nat) (μ : K2) (x2 : Int32)  (H : Heap) (locs : List Loc) (ls : Array Slot), f_X4_day_L107 n μ x2 = some q → Fr G (va_A (wM G ad μ0) s.heap.size) s (wM G ad μ) H locs → lv_has ls 3 [(0, .ref (ad 0)), (2, .int x2)] → W p l e ({ frames := 7, cells := 0, slots := 0, locals := 153 } : Room) s m ([.ref (ad 0)] : List Value).toArray below meth c H locs 0 0 (MQ below (CPost G (wM G ad μ0) s.heap.size (none) (wM G ad q)) ([.ref (ad 0)] : List Value).toArray s 0 0 (va_A (wM G ad μ0) s.heap.size)) (F0 m 107 ls []) := by
    intro n
    induction n with
    | zero =>
      intro μ x2 H locs ls hF hf hl
      exact absurd hF (by simp [f_X4_day_L107])
    | succ n ih107 =>
      intro μ x2 H locs ls hF hf hl
      rw [f_X4_day_L107] at hF
      refine lv_iload_n hx hb dX4_day_107 rfl (lv_at hl 1 rfl) ?_
      refine lv_aload_n hx hb dX4_day_108 rfl (lv_at hl 0 rfl) ?_
      refine g_get (ci := 4) (C := RX4) (T := TX4) (N := 21) (v := .ref (ad 1)) S hf hinX4 0 rfl rfl 0 (by decide) k9 rfl rfl dX4_day_109 ?_
      refine lv_iconst (v := 1) hx hb dX4_day_112 (by decide) ?_
      refine g_ald (v := (μ 0) 1) S hf 2 rfl (by decide) rfl dX4_day_113 ?_
      refine lv_icmp_ge (tgt := 149) hx hb dX4_day_114 (by decide) (fun c8 => ?_) (fun c8 => ?_)
      · replace hF := (if_pos c8).symm.trans hF
        exact hL149 μ _ _ _ hF hf (lv_sub hl [0] rfl)
      · replace hF := (if_neg c8).symm.trans hF
        refine lv_aload_n hx hb dX4_day_117 rfl (lv_at hl 0 rfl) ?_
        refine g_get (ci := 4) (C := RX4) (T := TX4) (N := 21) (v := .ref (ad 1)) S hf hinX4 0 rfl rfl 0 (by decide) k9 rfl rfl dX4_day_118 ?_
        refine lv_iconst (v := 0) hx hb dX4_day_121 (by decide) ?_
        refine g_ald (v := (μ 0) 0) S hf 2 rfl (by decide) rfl dX4_day_122 ?_
        refine lv_bipush (v := 6) hx hb dX4_day_123 (by decide) ?_
        refine lv_irem hx hb dX4_day_125 (by decide) ?_
        refine lv_iconst (v := 5) hx hb dX4_day_126 (by decide) ?_
        refine lv_icmp_ne (tgt := 149) hx hb dX4_day_127 (by decide) (fun c11 => ?_) (fun c11 => ?_)
        · replace hF := (if_neg c11).symm.trans hF
          exact hL149 μ _ _ _ hF hf (lv_sub hl [0] rfl)
        · replace hF := (if_pos c11).symm.trans hF
          refine lv_aload_n hx hb dX4_day_130 rfl (lv_at hl 0 rfl) ?_
          refine lv_iload_n hx hb dX4_day_131 rfl (lv_at hl 1 rfl) ?_
          obtain ⟨q12, h13, hF⟩ := Option.bind_eq_some_iff.mp hF
          refine g_cv0 (o := some (.int q12)) (As := [.int x2]) (rest := []) (st1 := [.int q12]) (ci := 4) S hf (c_X4_doesDraw l G ad μ x2 q12 h13) (cwV 1 hts gX4_day_X4_doesDraw rfl rfl rfl (by decide +kernel) ⟨Nat.le_of_ble_eq_true rfl, Nat.le_of_ble_eq_true rfl⟩) rfl rfl rfl 0 rfl rfl hl.1 rfl rfl (Nat.le_of_ble_eq_true rfl) ⟨Nat.zero_le _, Nat.zero_le _⟩ dX4_day_132 (fun H locs hf => ?_)
          have hf : Fr G (va_A (wM G ad μ0) s.heap.size) s (wM G ad μ) H locs := hf
          refine lv_if_eq (tgt := 143) hx hb dX4_day_135 (by decide) (fun c14 => ?_) (fun c14 => ?_)
          · replace hF := (if_pos c14).symm.trans hF
            refine lv_iinc (v := x2 + 1) (lv' := [(2, .int (x2 + 1)), (0, .ref (ad 0))]) hx hb dX4_day_143 hl (k := 1) rfl rfl (by decide) rfl (fun ls hl => ?_)
            refine lv_goto (tgt := 107) hx hb dX4_day_146 (by decide) ?_
            exact ih107 μ (x2 + 1) _ _ _ hF hf (lv_sub hl [1, 0] rfl)
          · replace hF := (if_neg c14).symm.trans hF
            refine lv_aload_n hx hb dX4_day_138 rfl (lv_at hl 0 rfl) ?_
            refine lv_iload_n hx hb dX4_day_139 rfl (lv_at hl 1 rfl) ?_
            obtain ⟨q15, h16, hF⟩ := Option.bind_eq_some_iff.mp hF
            refine g_cv0 (o := none) (As := [.int x2]) (rest := []) (st1 := []) (ci := 4) S hf (c_X4_isPaid l G ad μ x2 q15 h16) (cwV 1 hts gX4_day_X4_isPaid rfl rfl rfl (by decide +kernel) ⟨Nat.le_of_ble_eq_true rfl, Nat.le_of_ble_eq_true rfl⟩) rfl rfl rfl 0 rfl rfl hl.1 rfl rfl (Nat.le_of_ble_eq_true rfl) ⟨Nat.zero_le _, Nat.zero_le _⟩ dX4_day_140 (fun H locs hf => ?_)
            have hf : Fr G (va_A (wM G ad μ0) s.heap.size) s (wM G ad q15) H locs := hf
            refine lv_iinc (v := x2 + 1) (lv' := [(2, .int (x2 + 1)), (0, .ref (ad 0))]) hx hb dX4_day_143 hl (k := 1) rfl rfl (by decide) rfl (fun ls hl => ?_)
            refine lv_goto (tgt := 107) hx hb dX4_day_146 (by decide) ?_
            exact ih107 q15 (x2 + 1) _ _ _ hF hf (lv_sub hl [1, 0] rfl)
  have hL105 : ∀ (μ : K2)  (H : Heap) (locs : List Loc) (ls : Array Slot), f_X4_day_B105 μ = some q → Fr G (va_A (wM G ad μ0) s.heap.size) s (wM G ad μ) H locs → lv_has ls 3 [(0, .ref (ad 0))] → W p l e ({ frames := 7, cells := 0, slots := 0, locals := 153 } : Room) s m ([.ref (ad 0)] : List Value).toArray below meth c H locs 0 0 (MQ below (CPost G (wM G ad μ0) s.heap.size (none) (wM G ad q)) ([.ref (ad 0)] : List Value).toArray s 0 0 (va_A (wM G ad μ0) s.heap.size)) (F0 m 105 ls []) := by
    intro μ H locs ls hF hf hl
    unfold f_X4_day_B105 at hF
    refine lv_iconst (v := 0) hx hb dX4_day_105 (by decide) ?_
    refine lv_istore_n (lv' := [(2, .int 0), (0, .ref (ad 0))]) hx hb dX4_day_106 rfl hl (by decide) rfl (fun ls hl => ?_)
    exact hL107 1000 μ 0 _ _ _ hF hf (lv_sub hl [1, 0] rfl)
  have hL76 : ∀ (n : Nat) (μ : K2) (x2 : Int32)  (H : Heap) (locs : List Loc) (ls : Array Slot), f_X4_day_L76 n μ x2 = some q → Fr G (va_A (wM G ad μ0) s.heap.size) s (wM G ad μ) H locs → lv_has ls 3 [(0, .ref (ad 0)), (2, .int x2)] → W p l e ({ frames := 7, cells := 0, slots := 0, locals := 153 } : Room) s m ([.ref (ad 0)] : List Value).toArray below meth c H locs 0 0 (MQ below (CPost G (wM G ad μ0) s.heap.size (none) (wM G ad q)) ([.ref (ad 0)] : List Value).toArray s 0 0 (va_A (wM G ad μ0) s.heap.size)) (F0 m 76 ls []) := by
    intro n
    induction n with
    | zero =>
      intro μ x2 H locs ls hF hf hl
      exact absurd hF (by simp [f_X4_day_L76])
    | succ n ih76 =>
      intro μ x2 H locs ls hF hf hl
      rw [f_X4_day_L76] at hF
      refine lv_iload_n hx hb dX4_day_76 rfl (lv_at hl 1 rfl) ?_
      refine lv_aload_n hx hb dX4_day_77 rfl (lv_at hl 0 rfl) ?_
      refine g_get (ci := 4) (C := RX4) (T := TX4) (N := 21) (v := .ref (ad 1)) S hf hinX4 0 rfl rfl 0 (by decide) k9 rfl rfl dX4_day_78 ?_
      refine lv_iconst (v := 1) hx hb dX4_day_81 (by decide) ?_
      refine g_ald (v := (μ 0) 1) S hf 2 rfl (by decide) rfl dX4_day_82 ?_
      refine lv_icmp_ge (tgt := 105) hx hb dX4_day_83 (by decide) (fun c7 => ?_) (fun c7 => ?_)
      · replace hF := (if_pos c7).symm.trans hF
        exact hL105 μ _ _ _ hF hf (lv_sub hl [0] rfl)
      · replace hF := (if_neg c7).symm.trans hF
        refine lv_aload_n hx hb dX4_day_86 rfl (lv_at hl 0 rfl) ?_
        refine lv_iload_n hx hb dX4_day_87 rfl (lv_at hl 1 rfl) ?_
        refine lv_iconst (v := 3) hx hb dX4_day_88 (by decide) ?_
        obtain ⟨q17, h18, hF⟩ := Option.bind_eq_some_iff.mp hF
        refine g_cs0 (o := some (.int q17)) (As := [.int x2, .int 3]) (rest := [.ref (ad 0)]) (st1 := [.int q17, .ref (ad 0)]) S hf (c_X4_birdAt l G  x2 3 q17 h18) (va_cwS 2 hts gX4_day_X4_birdAt rfl rfl rfl (by decide +kernel) ⟨Nat.le_of_ble_eq_true rfl, Nat.le_of_ble_eq_true rfl⟩) rfl hl.1 rfl rfl (Nat.le_of_ble_eq_true rfl) ⟨Nat.zero_le _, Nat.zero_le _⟩ dX4_day_89 (fun H locs hf => ?_)
        refine lv_iconst (v := 1) hx hb dX4_day_92 (by decide) ?_
        refine lv_sipush (v := 9999) hx hb dX4_day_93 (by decide) ?_
        obtain ⟨q19, h20, hF⟩ := Option.bind_eq_some_iff.mp hF
        refine g_cv0 (o := none) (As := [.int q17, .int 1, .int 9999]) (rest := []) (st1 := []) (ci := 4) S hf (c_X4_more l G ad μ q17 1 9999 q19 h20) (cwV 3 hts gX4_day_X4_more rfl rfl rfl (by decide +kernel) ⟨Nat.le_of_ble_eq_true rfl, Nat.le_of_ble_eq_true rfl⟩) rfl rfl rfl 0 rfl rfl hl.1 rfl rfl (Nat.le_of_ble_eq_true rfl) ⟨Nat.zero_le _, Nat.zero_le _⟩ dX4_day_96 (fun H locs hf => ?_)
        have hf : Fr G (va_A (wM G ad μ0) s.heap.size) s (wM G ad q19) H locs := hf
        refine lv_iinc (v := x2 + 1) (lv' := [(2, .int (x2 + 1)), (0, .ref (ad 0))]) hx hb dX4_day_99 hl (k := 1) rfl rfl (by decide) rfl (fun ls hl => ?_)
        refine lv_goto (tgt := 76) hx hb dX4_day_102 (by decide) ?_
        exact ih76 q19 (x2 + 1) _ _ _ hF hf (lv_sub hl [1, 0] rfl)
  have hL40 : ∀ (μ : K2) (x1 : Int32)  (H : Heap) (locs : List Loc) (ls : Array Slot), f_X4_day_B40 μ x1 = some q → Fr G (va_A (wM G ad μ0) s.heap.size) s (wM G ad μ) H locs → lv_has ls 3 [(0, .ref (ad 0)), (1, .int x1)] → W p l e ({ frames := 7, cells := 0, slots := 0, locals := 153 } : Room) s m ([.ref (ad 0)] : List Value).toArray below meth c H locs 0 0 (MQ below (CPost G (wM G ad μ0) s.heap.size (none) (wM G ad q)) ([.ref (ad 0)] : List Value).toArray s 0 0 (va_A (wM G ad μ0) s.heap.size)) (F0 m 40 ls []) := by
    intro μ x1 H locs ls hF hf hl
    unfold f_X4_day_B40 at hF
    refine lv_aload_n hx hb dX4_day_40 rfl (lv_at hl 0 rfl) ?_
    refine lv_iconst (v := 3) hx hb dX4_day_41 (by decide) ?_
    refine lv_aload_n hx hb dX4_day_42 rfl (lv_at hl 0 rfl) ?_
    refine g_get (ci := 4) (C := RX4) (T := TX4) (N := 21) (v := .ref (ad 1)) S hf hinX4 0 rfl rfl 0 (by decide) k9 rfl rfl dX4_day_43 ?_
    refine lv_aload_n hx hb dX4_day_46 rfl (lv_at hl 0 rfl) ?_
    obtain ⟨q2, h3, hF⟩ := Option.bind_eq_some_iff.mp hF
    refine g_cv0 (o := some (.int q2)) (As := []) (rest := [.ref (ad 1), .int 3, .ref (ad 0)]) (st1 := [.int q2, .ref (ad 1), .int 3, .ref (ad 0)]) (ci := 4) S hf (c_X4_placeNow l G ad μ q2 h3) (cwV 0 hts gX4_day_X4_placeNow rfl rfl rfl (by decide +kernel) ⟨Nat.le_of_ble_eq_true rfl, Nat.le_of_ble_eq_true rfl⟩) rfl rfl rfl 0 rfl rfl hl.1 rfl rfl (Nat.le_of_ble_eq_true rfl) ⟨Nat.zero_le _, Nat.zero_le _⟩ dX4_day_47 (fun H locs hf => ?_)
    have hf : Fr G (va_A (wM G ad μ0) s.heap.size) s (wM G ad μ) H locs := hf
    obtain ⟨g4, hF⟩ := gd_some hF
    refine g_ald (v := (μ 0) q2.toNatClampNeg) S hf 2 rfl g4 rfl dX4_day_50 ?_
    refine lv_ldc (v := 99999) hx hb hown (hts _ kc88) dX4_day_51 ?_
    obtain ⟨q5, h6, hF⟩ := Option.bind_eq_some_iff.mp hF
    refine g_cv0 (o := none) (As := [.int 3, .int ((μ 0) q2.toNatClampNeg), .int 99999]) (rest := []) (st1 := []) (ci := 4) S hf (c_X4_more l G ad μ 3 ((μ 0) q2.toNatClampNeg) 99999 q5 h6) (cwV 3 hts gX4_day_X4_more rfl rfl rfl (by decide +kernel) ⟨Nat.le_of_ble_eq_true rfl, Nat.le_of_ble_eq_true rfl⟩) rfl rfl rfl 0 rfl rfl hl.1 rfl rfl (Nat.le_of_ble_eq_true rfl) ⟨Nat.zero_le _, Nat.zero_le _⟩ dX4_day_53 (fun H locs hf => ?_)
    have hf : Fr G (va_A (wM G ad μ0) s.heap.size) s (wM G ad q5) H locs := hf
    refine lv_aload_n hx hb dX4_day_56 rfl (lv_at hl 0 rfl) ?_
    refine g_get (ci := 4) (C := RX4) (T := TX4) (N := 21) (v := .ref (ad 1)) S hf hinX4 0 rfl rfl 0 (by decide) k9 rfl rfl dX4_day_57 ?_
    refine lv_iconst (v := 3) hx hb dX4_day_60 (by decide) ?_
    refine lv_iconst (v := 0) hx hb dX4_day_61 (by decide) ?_
    refine lv_aload_n hx hb dX4_day_62 rfl (lv_at hl 0 rfl) ?_
    refine g_get (ci := 4) (C := RX4) (T := TX4) (N := 21) (v := .ref (ad 1)) S hf hinX4 0 rfl rfl 0 (by decide) k9 rfl rfl dX4_day_63 ?_
    refine lv_iconst (v := 3) hx hb dX4_day_66 (by decide) ?_
    refine g_ald (v := (q5 0) 3) S hf 2 rfl (by decide) rfl dX4_day_67 ?_
    refine lv_iload_n hx hb dX4_day_68 rfl (lv_at hl 1 rfl) ?_
    refine lv_isub hx hb dX4_day_69 ?_
    refine va_mmax hx hb (hml.trans hl.1.symm) hown (hts _ k128) (hts _ ksmax) (hts _ kiM) (hts _ komax) (Nat.le_of_ble_eq_true rfl) (Nat.le_of_ble_eq_true rfl) (Nat.zero_le _) (Nat.zero_le _) dX4_day_70 ?_
    refine g_ast (ww' := wM G ad (va_up q5 0 (upd (q5 0) 3 (imax 0 (((q5 0) 3) - x1))))) S hf 2 rfl (by decide) rfl dX4_day_73 (fun H locs hf => ?_)
    refine lv_iconst (v := 0) hx hb dX4_day_74 (by decide) ?_
    refine lv_istore_n (lv' := [(2, .int 0), (0, .ref (ad 0)), (1, .int x1)]) hx hb dX4_day_75 rfl hl (by decide) rfl (fun ls hl => ?_)
    exact hL76 1000 (va_up q5 0 (upd (q5 0) 3 (imax 0 (((q5 0) 3) - x1)))) 0 _ _ _ hF hf (lv_sub hl [1, 0] rfl)
  have hL4 : ∀ (n : Nat) (μ : K2) (x1 : Int32) (x2 : Int32)  (H : Heap) (locs : List Loc) (ls : Array Slot), f_X4_day_L4 n μ x1 x2 = some q → Fr G (va_A (wM G ad μ0) s.heap.size) s (wM G ad μ) H locs → lv_has ls 3 [(0, .ref (ad 0)), (1, .int x1), (2, .int x2)] → W p l e ({ frames := 7, cells := 0, slots := 0, locals := 153 } : Room) s m ([.ref (ad 0)] : List Value).toArray below meth c H locs 0 0 (MQ below (CPost G (wM G ad μ0) s.heap.size (none) (wM G ad q)) ([.ref (ad 0)] : List Value).toArray s 0 0 (va_A (wM G ad μ0) s.heap.size)) (F0 m 4 ls []) := by
    intro n
    induction n with
    | zero =>
      intro μ x1 x2 H locs ls hF hf hl
      exact absurd hF (by simp [f_X4_day_L4])
    | succ n ih4 =>
      intro μ x1 x2 H locs ls hF hf hl
      rw [f_X4_day_L4] at hF
      refine lv_iload_n hx hb dX4_day_4 rfl (lv_at hl 2 rfl) ?_
      refine lv_aload_n hx hb dX4_day_5 rfl (lv_at hl 0 rfl) ?_
      refine g_get (ci := 4) (C := RX4) (T := TX4) (N := 21) (v := .ref (ad 1)) S hf hinX4 0 rfl rfl 0 (by decide) k9 rfl rfl dX4_day_6 ?_
      refine lv_iconst (v := 1) hx hb dX4_day_9 (by decide) ?_
      refine g_ald (v := (μ 0) 1) S hf 2 rfl (by decide) rfl dX4_day_10 ?_
      refine lv_icmp_ge (tgt := 40) hx hb dX4_day_11 (by decide) (fun c1 => ?_) (fun c1 => ?_)
      · replace hF := (if_pos c1).symm.trans hF
        exact hL40 μ x1 _ _ _ hF hf (lv_sub hl [0, 1] rfl)
      · replace hF := (if_neg c1).symm.trans hF
        refine lv_iload_n hx hb dX4_day_14 rfl (lv_at hl 1 rfl) ?_
        refine lv_aload_n hx hb dX4_day_15 rfl (lv_at hl 0 rfl) ?_
        refine lv_iload_n hx hb dX4_day_16 rfl (lv_at hl 2 rfl) ?_
        obtain ⟨q21, h22, hF⟩ := Option.bind_eq_some_iff.mp hF
        refine g_cv0 (o := some (.int q21)) (As := [.int x2]) (rest := [.int x1]) (st1 := [.int q21, .int x1]) (ci := 4) S hf (c_X4_doesDraw l G ad μ x2 q21 h22) (cwV 1 hts gX4_day_X4_doesDraw rfl rfl rfl (by decide +kernel) ⟨Nat.le_of_ble_eq_true rfl, Nat.le_of_ble_eq_true rfl⟩) rfl rfl rfl 0 rfl rfl hl.1 rfl rfl (Nat.le_of_ble_eq_true rfl) ⟨Nat.zero_le _, Nat.zero_le _⟩ dX4_day_17 (fun H locs hf => ?_)
        have hf : Fr G (va_A (wM G ad μ0) s.heap.size) s (wM G ad μ) H locs := hf
        refine lv_if_eq (tgt := 31) hx hb dX4_day_20 (by decide) (fun c23 => ?_) (fun c23 => ?_)
        · replace hF := (if_pos c23).symm.trans hF
          refine lv_iconst (v := 0) hx hb dX4_day_31 (by decide) ?_
          refine lv_iadd hx hb dX4_day_32 ?_
          refine lv_istore_n (lv' := [(1, .int (x1 + 0)), (0, .ref (ad 0)), (2, .int x2)]) hx hb dX4_day_33 rfl hl (by decide) rfl (fun ls hl => ?_)
          refine lv_iinc (v := x2 + 1) (lv' := [(2, .int (x2 + 1)), (1, .int (x1 + 0)), (0, .ref (ad 0))]) hx hb dX4_day_34 hl (k := 2) rfl rfl (by decide) rfl (fun ls hl => ?_)
          refine lv_goto (tgt := 4) hx hb dX4_day_37 (by decide) ?_
          exact ih4 μ (x1 + 0) (x2 + 1) _ _ _ hF hf (lv_sub hl [2, 1, 0] rfl)
        · replace hF := (if_neg c23).symm.trans hF
          refine lv_aload_n hx hb dX4_day_23 rfl (lv_at hl 0 rfl) ?_
          refine lv_iload_n hx hb dX4_day_24 rfl (lv_at hl 2 rfl) ?_
          obtain ⟨q24, h25, hF⟩ := Option.bind_eq_some_iff.mp hF
          refine g_cv0 (o := some (.int q24)) (As := [.int x2]) (rest := [.int x1]) (st1 := [.int q24, .int x1]) (ci := 4) S hf (c_X4_eats l G ad μ x2 q24 h25) (cwV 1 hts gX4_day_X4_eats rfl rfl rfl (by decide +kernel) ⟨Nat.le_of_ble_eq_true rfl, Nat.le_of_ble_eq_true rfl⟩) rfl rfl rfl 0 rfl rfl hl.1 rfl rfl (Nat.le_of_ble_eq_true rfl) ⟨Nat.zero_le _, Nat.zero_le _⟩ dX4_day_25 (fun H locs hf => ?_)
          have hf : Fr G (va_A (wM G ad μ0) s.heap.size) s (wM G ad μ) H locs := hf
          refine lv_goto (tgt := 32) hx hb dX4_day_28 (by decide) ?_
          refine lv_iadd hx hb dX4_day_32 ?_
          refine lv_istore_n (lv' := [(1, .int (x1 + q24)), (0, .ref (ad 0)), (2, .int x2)]) hx hb dX4_day_33 rfl hl (by decide) rfl (fun ls hl => ?_)
          refine lv_iinc (v := x2 + 1) (lv' := [(2, .int (x2 + 1)), (1, .int (x1 + q24)), (0, .ref (ad 0))]) hx hb dX4_day_34 hl (k := 2) rfl rfl (by decide) rfl (fun ls hl => ?_)
          refine lv_goto (tgt := 4) hx hb dX4_day_37 (by decide) ?_
          exact ih4 μ (x1 + q24) (x2 + 1) _ _ _ hF hf (lv_sub hl [2, 1, 0] rfl)
  unfold f_X4_day at hF
  refine lv_iconst (v := 0) hx hb dX4_day_0 (by decide) ?_
  refine lv_istore_n (lv' := [(1, .int 0), (0, .ref (ad 0))]) hx hb dX4_day_1 rfl hl (by decide) rfl (fun ls hl => ?_)
  refine lv_iconst (v := 0) hx hb dX4_day_2 (by decide) ?_
  refine lv_istore_n (lv' := [(2, .int 0), (1, .int 0), (0, .ref (ad 0))]) hx hb dX4_day_3 rfl hl (by decide) rfl (fun ls hl => ?_)
  exact hL4 1000 μ0 0 0 _ _ _ hF hf (lv_sub hl [2, 1, 0] rfl)
def f_X4_daysGo_L2 : Nat → K2 → Int32 → Int32 → Option (K2)
  | 0, _, _, _ => none
  | n + 1, μ, x1, x2 => if x1 ≤ x2 then (some (μ)) else (Option.bind (f_X4_day μ) (fun q2 => f_X4_daysGo_L2 n q2 x1 (x2 + 1)))
def f_X4_daysGo (μ0 : K2) (a1 : Int32) : Option (K2) := f_X4_daysGo_L2 1000 μ0 a1 0
set_option maxHeartbeats 4000000 in
set_option maxRecDepth 100000 in
theorem c_X4_daysGo (l : Launch) (G : GT) (ad : Nat → Nat) (μ0 : K2) (a1 : Int32) (q : K2) (hF : f_X4_daysGo μ0 a1 = some q) : Ct l G yX4_daysGo wsX4_daysGo ({ frames := 8, cells := 0, slots := 0, locals := 175 } : Room) ([.ref (ad 0), .int a1] : List Value) (wM G ad μ0) (none) (wM G ad q) := by
  refine Ct.of cX4_daysGo 3 none (by decide) rfl (Nat.le_of_ble_eq_true rfl) ?_
  intro p e s m below meth c ls S hr hlocks hf hl
  have S : CallFix p m c cX4_daysGo 3 s ([.ref (ad 0), .int a1] : List Value).toArray wsX4_daysGo RX4 := S
  obtain ⟨hx, hb, hml, hown, hts⟩ := id S
  have hl : lv_has ls 3 [(0, .ref (ad 0)), (1, .int a1)] := hl
  have hL2 : ∀ (n : Nat) (μ : K2) (x1 : Int32) (x2 : Int32)  (H : Heap) (locs : List Loc) (ls : Array Slot), f_X4_daysGo_L2 n μ x1 x2 = some q → Fr G (va_A (wM G ad μ0) s.heap.size) s (wM G ad μ) H locs → lv_has ls 3 [(0, .ref (ad 0)), (1, .int x1), (2, .int x2)] → W p l e ({ frames := 8, cells := 0, slots := 0, locals := 175 } : Room) s m ([.ref (ad 0), .int a1] : List Value).toArray below meth c H locs 0 0 (MQ below (CPost G (wM G ad μ0) s.heap.size (none) (wM G ad q)) ([.ref (ad 0), .int a1] : List Value).toArray s 0 0 (va_A (wM G ad μ0) s.heap.size)) (F0 m 2 ls []) := by
    intro n
    induction n with
    | zero =>
      intro μ x1 x2 H locs ls hF hf hl
      exact absurd hF (by simp [f_X4_daysGo_L2])
    | succ n ih2 =>
      intro μ x1 x2 H locs ls hF hf hl
      rw [f_X4_daysGo_L2] at hF
      refine lv_iload_n hx hb dX4_daysGo_2 rfl (lv_at hl 2 rfl) ?_
      refine lv_iload_n hx hb dX4_daysGo_3 rfl (lv_at hl 1 rfl) ?_
      refine lv_icmp_ge (tgt := 17) hx hb dX4_daysGo_4 (by decide) (fun c1 => ?_) (fun c1 => ?_)
      · replace hF := (if_pos c1).symm.trans hF
        have hE := Option.some.inj hF
        have hW := congrArg (fun z : K2 => wM G ad z) hE
        exact g_vret S hr hlocks hf hW dX4_daysGo_17
      · replace hF := (if_neg c1).symm.trans hF
        refine lv_aload_n hx hb dX4_daysGo_7 rfl (lv_at hl 0 rfl) ?_
        obtain ⟨q2, h3, hF⟩ := Option.bind_eq_some_iff.mp hF
        refine g_cv0 (o := none) (As := []) (rest := []) (st1 := []) (ci := 4) S hf (c_X4_day l G ad μ q2 h3) (cwV 0 hts gX4_daysGo_X4_day rfl rfl rfl (by decide +kernel) ⟨Nat.le_of_ble_eq_true rfl, Nat.le_of_ble_eq_true rfl⟩) rfl rfl rfl 0 rfl rfl hl.1 rfl rfl (Nat.le_of_ble_eq_true rfl) ⟨Nat.zero_le _, Nat.zero_le _⟩ dX4_daysGo_8 (fun H locs hf => ?_)
        have hf : Fr G (va_A (wM G ad μ0) s.heap.size) s (wM G ad q2) H locs := hf
        refine lv_iinc (v := x2 + 1) (lv' := [(2, .int (x2 + 1)), (0, .ref (ad 0)), (1, .int x1)]) hx hb dX4_daysGo_11 hl (k := 2) rfl rfl (by decide) rfl (fun ls hl => ?_)
        refine lv_goto (tgt := 2) hx hb dX4_daysGo_14 (by decide) ?_
        exact ih2 q2 x1 (x2 + 1) _ _ _ hF hf (lv_sub hl [1, 2, 0] rfl)
  unfold f_X4_daysGo at hF
  refine lv_iconst (v := 0) hx hb dX4_daysGo_0 (by decide) ?_
  refine lv_istore_n (lv' := [(2, .int 0), (0, .ref (ad 0)), (1, .int a1)]) hx hb dX4_daysGo_1 rfl hl (by decide) rfl (fun ls hl => ?_)
  exact hL2 1000 μ0 a1 0 _ _ _ hF hf (lv_sub hl [1, 2, 0] rfl)
def f_X4_go (μ0 : K2) (a1 : Int32) : Option (Int32 × K2) := Option.bind (f_X4_within a1 1 60) (fun q1 => if q1 = 0 then (Option.bind (f_X4_finding μ0 (-1000001)) (fun q9 => some (q9.1, q9.2))) else (if (((μ0 0) 0) + a1) ≤ 99999 then (Option.bind (f_X4_daysGo μ0 a1) (fun q5 => some ((q5 0) 3, q5))) else (Option.bind (f_X4_finding μ0 (-1000005)) (fun q7 => some (q7.1, q7.2)))))
set_option maxHeartbeats 4000000 in
set_option maxRecDepth 100000 in
theorem c_X4_go (l : Launch) (G : GT) (ad : Nat → Nat) (μ0 : K2) (a1 : Int32) (q : Int32 × K2) (hF : f_X4_go μ0 a1 = some q) : Ct l G yX4_go wsX4_go ({ frames := 9, cells := 0, slots := 0, locals := 197 } : Room) ([.ref (ad 0), .int a1] : List Value) (wM G ad μ0) (some (.int q.1)) (wM G ad q.2) := by
  have k9 : Cond.fieldLink RX4 9 "PigeonRollsModel" "now" "[I" ∈ wsX4_go := by decide +kernel
  have kc88 : Cond.constant RX4 88 (99999) ∈ wsX4_go := by decide +kernel
  have kc109 : Cond.constant RX4 109 (-1000005) ∈ wsX4_go := by decide +kernel
  have kc63 : Cond.constant RX4 63 (-1000001) ∈ wsX4_go := by decide +kernel
  have hinX4 : ∀ w ∈ u_ws RX4 TX4 21, w ∈ wsX4_go := by decide +kernel
  refine Ct.of cX4_go 2 (some .int) (by decide) rfl (Nat.le_of_ble_eq_true rfl) ?_
  intro p e s m below meth c ls S hr hlocks hf hl
  have S : CallFix p m c cX4_go 2 s ([.ref (ad 0), .int a1] : List Value).toArray wsX4_go RX4 := S
  obtain ⟨hx, hb, hml, hown, hts⟩ := id S
  have hl : lv_has ls 2 [(0, .ref (ad 0)), (1, .int a1)] := hl
  unfold f_X4_go at hF
  refine lv_iload_n hx hb dX4_go_0 rfl (lv_at hl 1 rfl) ?_
  refine lv_iconst (v := 1) hx hb dX4_go_1 (by decide) ?_
  refine lv_bipush (v := 60) hx hb dX4_go_2 (by decide) ?_
  obtain ⟨q1, h2, hF⟩ := Option.bind_eq_some_iff.mp hF
  refine g_cs0 (o := some (.int q1)) (As := [.int a1, .int 1, .int 60]) (rest := []) (st1 := [.int q1]) S hf (c_X4_within l G  a1 1 60 q1 h2) (va_cwS 3 hts gX4_go_X4_within rfl rfl rfl (by decide +kernel) ⟨Nat.le_of_ble_eq_true rfl, Nat.le_of_ble_eq_true rfl⟩) rfl hl.1 rfl rfl (Nat.le_of_ble_eq_true rfl) ⟨Nat.zero_le _, Nat.zero_le _⟩ dX4_go_4 (fun H locs hf => ?_)
  refine lv_if_ne (tgt := 17) hx hb dX4_go_7 (by decide) (fun c3 => ?_) (fun c3 => ?_)
  · replace hF := (if_neg c3).symm.trans hF
    refine lv_aload_n hx hb dX4_go_17 rfl (lv_at hl 0 rfl) ?_
    refine g_get (ci := 4) (C := RX4) (T := TX4) (N := 21) (v := .ref (ad 1)) S hf hinX4 0 rfl rfl 0 (by decide) k9 rfl rfl dX4_go_18 ?_
    refine lv_iconst (v := 0) hx hb dX4_go_21 (by decide) ?_
    refine g_ald (v := (μ0 0) 0) S hf 2 rfl (by decide) rfl dX4_go_22 ?_
    refine lv_iload_n hx hb dX4_go_23 rfl (lv_at hl 1 rfl) ?_
    refine lv_iadd hx hb dX4_go_24 ?_
    refine lv_ldc (v := 99999) hx hb hown (hts _ kc88) dX4_go_25 ?_
    refine lv_icmp_le (tgt := 37) hx hb dX4_go_27 (by decide) (fun c4 => ?_) (fun c4 => ?_)
    · replace hF := (if_pos c4).symm.trans hF
      refine lv_aload_n hx hb dX4_go_37 rfl (lv_at hl 0 rfl) ?_
      refine lv_iload_n hx hb dX4_go_38 rfl (lv_at hl 1 rfl) ?_
      obtain ⟨q5, h6, hF⟩ := Option.bind_eq_some_iff.mp hF
      refine g_cv0 (o := none) (As := [.int a1]) (rest := []) (st1 := []) (ci := 4) S hf (c_X4_daysGo l G ad μ0 a1 q5 h6) (cwV 1 hts gX4_go_X4_daysGo rfl rfl rfl (by decide +kernel) ⟨Nat.le_of_ble_eq_true rfl, Nat.le_of_ble_eq_true rfl⟩) rfl rfl rfl 0 rfl rfl hl.1 rfl rfl (Nat.le_of_ble_eq_true rfl) ⟨Nat.zero_le _, Nat.zero_le _⟩ dX4_go_39 (fun H locs hf => ?_)
      have hf : Fr G (va_A (wM G ad μ0) s.heap.size) s (wM G ad q5) H locs := hf
      refine lv_aload_n hx hb dX4_go_42 rfl (lv_at hl 0 rfl) ?_
      refine g_get (ci := 4) (C := RX4) (T := TX4) (N := 21) (v := .ref (ad 1)) S hf hinX4 0 rfl rfl 0 (by decide) k9 rfl rfl dX4_go_43 ?_
      refine lv_iconst (v := 3) hx hb dX4_go_46 (by decide) ?_
      refine g_ald (v := (q5 0) 3) S hf 2 rfl (by decide) rfl dX4_go_47 ?_
      have hE := Option.some.inj hF
      have hV := congrArg (fun z : Int32 × K2 => z.1) hE
      have hW := congrArg (fun z : Int32 × K2 => wM G ad z.2) hE
      exact g_iret S hr hlocks hf hV hW dX4_go_48
    · replace hF := (if_neg c4).symm.trans hF
      refine lv_aload_n hx hb dX4_go_30 rfl (lv_at hl 0 rfl) ?_
      refine lv_ldc (v := -1000005) hx hb hown (hts _ kc109) dX4_go_31 ?_
      obtain ⟨q7, h8, hF⟩ := Option.bind_eq_some_iff.mp hF
      refine g_cv0 (o := some (.int q7.1)) (As := [.int (-1000005)]) (rest := []) (st1 := [.int q7.1]) (ci := 4) S hf (c_X4_finding l G ad μ0 (-1000005) q7 h8) (cwV 1 hts gX4_go_X4_finding rfl rfl rfl (by decide +kernel) ⟨Nat.le_of_ble_eq_true rfl, Nat.le_of_ble_eq_true rfl⟩) rfl rfl rfl 0 rfl rfl hl.1 rfl rfl (Nat.le_of_ble_eq_true rfl) ⟨Nat.zero_le _, Nat.zero_le _⟩ dX4_go_33 (fun H locs hf => ?_)
      have hf : Fr G (va_A (wM G ad μ0) s.heap.size) s (wM G ad q7.2) H locs := hf
      have hE := Option.some.inj hF
      have hV := congrArg (fun z : Int32 × K2 => z.1) hE
      have hW := congrArg (fun z : Int32 × K2 => wM G ad z.2) hE
      exact g_iret S hr hlocks hf hV hW dX4_go_36
  · replace hF := (if_pos c3).symm.trans hF
    refine lv_aload_n hx hb dX4_go_10 rfl (lv_at hl 0 rfl) ?_
    refine lv_ldc (v := -1000001) hx hb hown (hts _ kc63) dX4_go_11 ?_
    obtain ⟨q9, h10, hF⟩ := Option.bind_eq_some_iff.mp hF
    refine g_cv0 (o := some (.int q9.1)) (As := [.int (-1000001)]) (rest := []) (st1 := [.int q9.1]) (ci := 4) S hf (c_X4_finding l G ad μ0 (-1000001) q9 h10) (cwV 1 hts gX4_go_X4_finding rfl rfl rfl (by decide +kernel) ⟨Nat.le_of_ble_eq_true rfl, Nat.le_of_ble_eq_true rfl⟩) rfl rfl rfl 0 rfl rfl hl.1 rfl rfl (Nat.le_of_ble_eq_true rfl) ⟨Nat.zero_le _, Nat.zero_le _⟩ dX4_go_13 (fun H locs hf => ?_)
    have hf : Fr G (va_A (wM G ad μ0) s.heap.size) s (wM G ad q9.2) H locs := hf
    have hE := Option.some.inj hF
    have hV := congrArg (fun z : Int32 × K2 => z.1) hE
    have hW := congrArg (fun z : Int32 × K2 => wM G ad z.2) hE
    exact g_iret S hr hlocks hf hV hW dX4_go_16
def f_X4_drawers_L4 (μ0 : K2) : Nat → Int32 → Int32 → Option (Int32)
  | 0, _, _ => none
  | n + 1, x1, x2 => if ((μ0 0) 1) ≤ x2 then (some (x1)) else (Option.bind (f_X4_doesDraw μ0 x2) (fun q2 => if q2 = 0 then (f_X4_drawers_L4 μ0 n (x1 ||| 0) (x2 + 1)) else (f_X4_drawers_L4 μ0 n (x1 ||| (1 <<< (x2 &&& 31))) (x2 + 1))))
def f_X4_drawers (μ0 : K2) : Option (Int32) := f_X4_drawers_L4 μ0 1000 0 0
set_option maxHeartbeats 4000000 in
set_option maxRecDepth 100000 in
theorem c_X4_drawers (l : Launch) (G : GT) (ad : Nat → Nat) (μ0 : K2) (q : Int32) (hF : f_X4_drawers μ0 = some q) : Ct l G yX4_drawers wsX4_drawers ({ frames := 5, cells := 0, slots := 0, locals := 106 } : Room) ([.ref (ad 0)] : List Value) (wM G ad μ0) (some (.int q)) (wM G ad μ0) := by
  have k9 : Cond.fieldLink RX4 9 "PigeonRollsModel" "now" "[I" ∈ wsX4_drawers := by decide +kernel
  have hinX4 : ∀ w ∈ u_ws RX4 TX4 21, w ∈ wsX4_drawers := by decide +kernel
  refine Ct.of cX4_drawers 3 (some .int) (by decide) rfl (Nat.le_of_ble_eq_true rfl) ?_
  intro p e s m below meth c ls S hr hlocks hf hl
  have S : CallFix p m c cX4_drawers 3 s ([.ref (ad 0)] : List Value).toArray wsX4_drawers RX4 := S
  obtain ⟨hx, hb, hml, hown, hts⟩ := id S
  have hl : lv_has ls 3 [(0, .ref (ad 0))] := hl
  have hL4 : ∀ (n : Nat) (x1 : Int32) (x2 : Int32)  (H : Heap) (locs : List Loc) (ls : Array Slot), f_X4_drawers_L4 μ0 n x1 x2 = some q → Fr G (va_A (wM G ad μ0) s.heap.size) s (wM G ad μ0) H locs → lv_has ls 3 [(0, .ref (ad 0)), (1, .int x1), (2, .int x2)] → W p l e ({ frames := 5, cells := 0, slots := 0, locals := 106 } : Room) s m ([.ref (ad 0)] : List Value).toArray below meth c H locs 0 0 (MQ below (CPost G (wM G ad μ0) s.heap.size (some (.int q)) (wM G ad μ0)) ([.ref (ad 0)] : List Value).toArray s 0 0 (va_A (wM G ad μ0) s.heap.size)) (F0 m 4 ls []) := by
    intro n
    induction n with
    | zero =>
      intro x1 x2 H locs ls hF hf hl
      exact absurd hF (by simp [f_X4_drawers_L4])
    | succ n ih4 =>
      intro x1 x2 H locs ls hF hf hl
      rw [f_X4_drawers_L4] at hF
      refine lv_iload_n hx hb dX4_drawers_4 rfl (lv_at hl 2 rfl) ?_
      refine lv_aload_n hx hb dX4_drawers_5 rfl (lv_at hl 0 rfl) ?_
      refine g_get (ci := 4) (C := RX4) (T := TX4) (N := 21) (v := .ref (ad 1)) S hf hinX4 0 rfl rfl 0 (by decide) k9 rfl rfl dX4_drawers_6 ?_
      refine lv_iconst (v := 1) hx hb dX4_drawers_9 (by decide) ?_
      refine g_ald (v := (μ0 0) 1) S hf 2 rfl (by decide) rfl dX4_drawers_10 ?_
      refine lv_icmp_ge (tgt := 38) hx hb dX4_drawers_11 (by decide) (fun c1 => ?_) (fun c1 => ?_)
      · replace hF := (if_pos c1).symm.trans hF
        refine lv_iload_n hx hb dX4_drawers_38 rfl (lv_at hl 1 rfl) ?_
        have hE := Option.some.inj hF
        have hV := congrArg (fun z : Int32 => z) hE
        exact g_iret S hr hlocks hf hV rfl dX4_drawers_39
      · replace hF := (if_neg c1).symm.trans hF
        refine lv_iload_n hx hb dX4_drawers_14 rfl (lv_at hl 1 rfl) ?_
        refine lv_aload_n hx hb dX4_drawers_15 rfl (lv_at hl 0 rfl) ?_
        refine lv_iload_n hx hb dX4_drawers_16 rfl (lv_at hl 2 rfl) ?_
        obtain ⟨q2, h3, hF⟩ := Option.bind_eq_some_iff.mp hF
        refine g_cv0 (o := some (.int q2)) (As := [.int x2]) (rest := [.int x1]) (st1 := [.int q2, .int x1]) (ci := 4) S hf (c_X4_doesDraw l G ad μ0 x2 q2 h3) (cwV 1 hts gX4_drawers_X4_doesDraw rfl rfl rfl (by decide +kernel) ⟨Nat.le_of_ble_eq_true rfl, Nat.le_of_ble_eq_true rfl⟩) rfl rfl rfl 0 rfl rfl hl.1 rfl rfl (Nat.le_of_ble_eq_true rfl) ⟨Nat.zero_le _, Nat.zero_le _⟩ dX4_drawers_17 (fun H locs hf => ?_)
        have hf : Fr G (va_A (wM G ad μ0) s.heap.size) s (wM G ad μ0) H locs := hf
        refine lv_if_eq (tgt := 29) hx hb dX4_drawers_20 (by decide) (fun c4 => ?_) (fun c4 => ?_)
        · replace hF := (if_pos c4).symm.trans hF
          refine lv_iconst (v := 0) hx hb dX4_drawers_29 (by decide) ?_
          refine lv_ior hx hb dX4_drawers_30 ?_
          refine lv_istore_n (lv' := [(1, .int (x1 ||| 0)), (0, .ref (ad 0)), (2, .int x2)]) hx hb dX4_drawers_31 rfl hl (by decide) rfl (fun ls hl => ?_)
          refine lv_iinc (v := x2 + 1) (lv' := [(2, .int (x2 + 1)), (1, .int (x1 ||| 0)), (0, .ref (ad 0))]) hx hb dX4_drawers_32 hl (k := 2) rfl rfl (by decide) rfl (fun ls hl => ?_)
          refine lv_goto (tgt := 4) hx hb dX4_drawers_35 (by decide) ?_
          exact ih4 (x1 ||| 0) (x2 + 1) _ _ _ hF hf (lv_sub hl [2, 1, 0] rfl)
        · replace hF := (if_neg c4).symm.trans hF
          refine lv_iconst (v := 1) hx hb dX4_drawers_23 (by decide) ?_
          refine lv_iload_n hx hb dX4_drawers_24 rfl (lv_at hl 2 rfl) ?_
          refine lv_ishl hx hb dX4_drawers_25 ?_
          refine lv_goto (tgt := 30) hx hb dX4_drawers_26 (by decide) ?_
          refine lv_ior hx hb dX4_drawers_30 ?_
          refine lv_istore_n (lv' := [(1, .int (x1 ||| (1 <<< (x2 &&& 31)))), (0, .ref (ad 0)), (2, .int x2)]) hx hb dX4_drawers_31 rfl hl (by decide) rfl (fun ls hl => ?_)
          refine lv_iinc (v := x2 + 1) (lv' := [(2, .int (x2 + 1)), (1, .int (x1 ||| (1 <<< (x2 &&& 31)))), (0, .ref (ad 0))]) hx hb dX4_drawers_32 hl (k := 2) rfl rfl (by decide) rfl (fun ls hl => ?_)
          refine lv_goto (tgt := 4) hx hb dX4_drawers_35 (by decide) ?_
          exact ih4 (x1 ||| (1 <<< (x2 &&& 31))) (x2 + 1) _ _ _ hF hf (lv_sub hl [2, 1, 0] rfl)
  unfold f_X4_drawers at hF
  refine lv_iconst (v := 0) hx hb dX4_drawers_0 (by decide) ?_
  refine lv_istore_n (lv' := [(1, .int 0), (0, .ref (ad 0))]) hx hb dX4_drawers_1 rfl hl (by decide) rfl (fun ls hl => ?_)
  refine lv_iconst (v := 0) hx hb dX4_drawers_2 (by decide) ?_
  refine lv_istore_n (lv' := [(2, .int 0), (1, .int 0), (0, .ref (ad 0))]) hx hb dX4_drawers_3 rfl hl (by decide) rfl (fun ls hl => ?_)
  exact hL4 1000 0 0 _ _ _ hF hf (lv_sub hl [2, 1, 0] rfl)
def f_X4_deadOnes_L4 (μ0 : K2) : Nat → Int32 → Int32 → Option (Int32)
  | 0, _, _ => none
  | n + 1, x1, x2 => if ((μ0 0) 1) ≤ x2 then (some (x1)) else (Option.bind (f_X4_isDead μ0 x2) (fun q2 => if q2 = 0 then (f_X4_deadOnes_L4 μ0 n (x1 ||| 0) (x2 + 1)) else (f_X4_deadOnes_L4 μ0 n (x1 ||| (1 <<< (x2 &&& 31))) (x2 + 1))))
def f_X4_deadOnes (μ0 : K2) : Option (Int32) := f_X4_deadOnes_L4 μ0 1000 0 0
set_option maxHeartbeats 4000000 in
set_option maxRecDepth 100000 in
theorem c_X4_deadOnes (l : Launch) (G : GT) (ad : Nat → Nat) (μ0 : K2) (q : Int32) (hF : f_X4_deadOnes μ0 = some q) : Ct l G yX4_deadOnes wsX4_deadOnes ({ frames := 4, cells := 0, slots := 0, locals := 85 } : Room) ([.ref (ad 0)] : List Value) (wM G ad μ0) (some (.int q)) (wM G ad μ0) := by
  have k9 : Cond.fieldLink RX4 9 "PigeonRollsModel" "now" "[I" ∈ wsX4_deadOnes := by decide +kernel
  have hinX4 : ∀ w ∈ u_ws RX4 TX4 21, w ∈ wsX4_deadOnes := by decide +kernel
  refine Ct.of cX4_deadOnes 3 (some .int) (by decide) rfl (Nat.le_of_ble_eq_true rfl) ?_
  intro p e s m below meth c ls S hr hlocks hf hl
  have S : CallFix p m c cX4_deadOnes 3 s ([.ref (ad 0)] : List Value).toArray wsX4_deadOnes RX4 := S
  obtain ⟨hx, hb, hml, hown, hts⟩ := id S
  have hl : lv_has ls 3 [(0, .ref (ad 0))] := hl
  have hL4 : ∀ (n : Nat) (x1 : Int32) (x2 : Int32)  (H : Heap) (locs : List Loc) (ls : Array Slot), f_X4_deadOnes_L4 μ0 n x1 x2 = some q → Fr G (va_A (wM G ad μ0) s.heap.size) s (wM G ad μ0) H locs → lv_has ls 3 [(0, .ref (ad 0)), (1, .int x1), (2, .int x2)] → W p l e ({ frames := 4, cells := 0, slots := 0, locals := 85 } : Room) s m ([.ref (ad 0)] : List Value).toArray below meth c H locs 0 0 (MQ below (CPost G (wM G ad μ0) s.heap.size (some (.int q)) (wM G ad μ0)) ([.ref (ad 0)] : List Value).toArray s 0 0 (va_A (wM G ad μ0) s.heap.size)) (F0 m 4 ls []) := by
    intro n
    induction n with
    | zero =>
      intro x1 x2 H locs ls hF hf hl
      exact absurd hF (by simp [f_X4_deadOnes_L4])
    | succ n ih4 =>
      intro x1 x2 H locs ls hF hf hl
      rw [f_X4_deadOnes_L4] at hF
      refine lv_iload_n hx hb dX4_deadOnes_4 rfl (lv_at hl 2 rfl) ?_
      refine lv_aload_n hx hb dX4_deadOnes_5 rfl (lv_at hl 0 rfl) ?_
      refine g_get (ci := 4) (C := RX4) (T := TX4) (N := 21) (v := .ref (ad 1)) S hf hinX4 0 rfl rfl 0 (by decide) k9 rfl rfl dX4_deadOnes_6 ?_
      refine lv_iconst (v := 1) hx hb dX4_deadOnes_9 (by decide) ?_
      refine g_ald (v := (μ0 0) 1) S hf 2 rfl (by decide) rfl dX4_deadOnes_10 ?_
      refine lv_icmp_ge (tgt := 38) hx hb dX4_deadOnes_11 (by decide) (fun c1 => ?_) (fun c1 => ?_)
      · replace hF := (if_pos c1).symm.trans hF
        refine lv_iload_n hx hb dX4_deadOnes_38 rfl (lv_at hl 1 rfl) ?_
        have hE := Option.some.inj hF
        have hV := congrArg (fun z : Int32 => z) hE
        exact g_iret S hr hlocks hf hV rfl dX4_deadOnes_39
      · replace hF := (if_neg c1).symm.trans hF
        refine lv_iload_n hx hb dX4_deadOnes_14 rfl (lv_at hl 1 rfl) ?_
        refine lv_aload_n hx hb dX4_deadOnes_15 rfl (lv_at hl 0 rfl) ?_
        refine lv_iload_n hx hb dX4_deadOnes_16 rfl (lv_at hl 2 rfl) ?_
        obtain ⟨q2, h3, hF⟩ := Option.bind_eq_some_iff.mp hF
        refine g_cv0 (o := some (.int q2)) (As := [.int x2]) (rest := [.int x1]) (st1 := [.int q2, .int x1]) (ci := 4) S hf (c_X4_isDead l G ad μ0 x2 q2 h3) (cwV 1 hts gX4_deadOnes_X4_isDead rfl rfl rfl (by decide +kernel) ⟨Nat.le_of_ble_eq_true rfl, Nat.le_of_ble_eq_true rfl⟩) rfl rfl rfl 0 rfl rfl hl.1 rfl rfl (Nat.le_of_ble_eq_true rfl) ⟨Nat.zero_le _, Nat.zero_le _⟩ dX4_deadOnes_17 (fun H locs hf => ?_)
        have hf : Fr G (va_A (wM G ad μ0) s.heap.size) s (wM G ad μ0) H locs := hf
        refine lv_if_eq (tgt := 29) hx hb dX4_deadOnes_20 (by decide) (fun c4 => ?_) (fun c4 => ?_)
        · replace hF := (if_pos c4).symm.trans hF
          refine lv_iconst (v := 0) hx hb dX4_deadOnes_29 (by decide) ?_
          refine lv_ior hx hb dX4_deadOnes_30 ?_
          refine lv_istore_n (lv' := [(1, .int (x1 ||| 0)), (0, .ref (ad 0)), (2, .int x2)]) hx hb dX4_deadOnes_31 rfl hl (by decide) rfl (fun ls hl => ?_)
          refine lv_iinc (v := x2 + 1) (lv' := [(2, .int (x2 + 1)), (1, .int (x1 ||| 0)), (0, .ref (ad 0))]) hx hb dX4_deadOnes_32 hl (k := 2) rfl rfl (by decide) rfl (fun ls hl => ?_)
          refine lv_goto (tgt := 4) hx hb dX4_deadOnes_35 (by decide) ?_
          exact ih4 (x1 ||| 0) (x2 + 1) _ _ _ hF hf (lv_sub hl [2, 1, 0] rfl)
        · replace hF := (if_neg c4).symm.trans hF
          refine lv_iconst (v := 1) hx hb dX4_deadOnes_23 (by decide) ?_
          refine lv_iload_n hx hb dX4_deadOnes_24 rfl (lv_at hl 2 rfl) ?_
          refine lv_ishl hx hb dX4_deadOnes_25 ?_
          refine lv_goto (tgt := 30) hx hb dX4_deadOnes_26 (by decide) ?_
          refine lv_ior hx hb dX4_deadOnes_30 ?_
          refine lv_istore_n (lv' := [(1, .int (x1 ||| (1 <<< (x2 &&& 31)))), (0, .ref (ad 0)), (2, .int x2)]) hx hb dX4_deadOnes_31 rfl hl (by decide) rfl (fun ls hl => ?_)
          refine lv_iinc (v := x2 + 1) (lv' := [(2, .int (x2 + 1)), (1, .int (x1 ||| (1 <<< (x2 &&& 31)))), (0, .ref (ad 0))]) hx hb dX4_deadOnes_32 hl (k := 2) rfl rfl (by decide) rfl (fun ls hl => ?_)
          refine lv_goto (tgt := 4) hx hb dX4_deadOnes_35 (by decide) ?_
          exact ih4 (x1 ||| (1 <<< (x2 &&& 31))) (x2 + 1) _ _ _ hF hf (lv_sub hl [2, 1, 0] rfl)
  unfold f_X4_deadOnes at hF
  refine lv_iconst (v := 0) hx hb dX4_deadOnes_0 (by decide) ?_
  refine lv_istore_n (lv' := [(1, .int 0), (0, .ref (ad 0))]) hx hb dX4_deadOnes_1 rfl hl (by decide) rfl (fun ls hl => ?_)
  refine lv_iconst (v := 0) hx hb dX4_deadOnes_2 (by decide) ?_
  refine lv_istore_n (lv' := [(2, .int 0), (1, .int 0), (0, .ref (ad 0))]) hx hb dX4_deadOnes_3 rfl hl (by decide) rfl (fun ls hl => ?_)
  exact hL4 1000 0 0 _ _ _ hF hf (lv_sub hl [2, 1, 0] rfl)
def f_X4_lineOnes_L4 (μ0 : K2) : Nat → Int32 → Int32 → Option (Int32)
  | 0, _, _ => none
  | n + 1, x1, x2 => if ((μ0 0) 1) ≤ x2 then (some (x1)) else (Option.bind (f_X4_isOfLine μ0 x2) (fun q2 => if q2 = 0 then (f_X4_lineOnes_L4 μ0 n (x1 ||| 0) (x2 + 1)) else (f_X4_lineOnes_L4 μ0 n (x1 ||| (1 <<< (x2 &&& 31))) (x2 + 1))))
def f_X4_lineOnes (μ0 : K2) : Option (Int32) := f_X4_lineOnes_L4 μ0 1000 0 0
set_option maxHeartbeats 4000000 in
set_option maxRecDepth 100000 in
theorem c_X4_lineOnes (l : Launch) (G : GT) (ad : Nat → Nat) (μ0 : K2) (q : Int32) (hF : f_X4_lineOnes μ0 = some q) : Ct l G yX4_lineOnes wsX4_lineOnes ({ frames := 3, cells := 0, slots := 0, locals := 65 } : Room) ([.ref (ad 0)] : List Value) (wM G ad μ0) (some (.int q)) (wM G ad μ0) := by
  have k9 : Cond.fieldLink RX4 9 "PigeonRollsModel" "now" "[I" ∈ wsX4_lineOnes := by decide +kernel
  have hinX4 : ∀ w ∈ u_ws RX4 TX4 21, w ∈ wsX4_lineOnes := by decide +kernel
  refine Ct.of cX4_lineOnes 3 (some .int) (by decide) rfl (Nat.le_of_ble_eq_true rfl) ?_
  intro p e s m below meth c ls S hr hlocks hf hl
  have S : CallFix p m c cX4_lineOnes 3 s ([.ref (ad 0)] : List Value).toArray wsX4_lineOnes RX4 := S
  obtain ⟨hx, hb, hml, hown, hts⟩ := id S
  have hl : lv_has ls 3 [(0, .ref (ad 0))] := hl
  have hL4 : ∀ (n : Nat) (x1 : Int32) (x2 : Int32)  (H : Heap) (locs : List Loc) (ls : Array Slot), f_X4_lineOnes_L4 μ0 n x1 x2 = some q → Fr G (va_A (wM G ad μ0) s.heap.size) s (wM G ad μ0) H locs → lv_has ls 3 [(0, .ref (ad 0)), (1, .int x1), (2, .int x2)] → W p l e ({ frames := 3, cells := 0, slots := 0, locals := 65 } : Room) s m ([.ref (ad 0)] : List Value).toArray below meth c H locs 0 0 (MQ below (CPost G (wM G ad μ0) s.heap.size (some (.int q)) (wM G ad μ0)) ([.ref (ad 0)] : List Value).toArray s 0 0 (va_A (wM G ad μ0) s.heap.size)) (F0 m 4 ls []) := by
    intro n
    induction n with
    | zero =>
      intro x1 x2 H locs ls hF hf hl
      exact absurd hF (by simp [f_X4_lineOnes_L4])
    | succ n ih4 =>
      intro x1 x2 H locs ls hF hf hl
      rw [f_X4_lineOnes_L4] at hF
      refine lv_iload_n hx hb dX4_lineOnes_4 rfl (lv_at hl 2 rfl) ?_
      refine lv_aload_n hx hb dX4_lineOnes_5 rfl (lv_at hl 0 rfl) ?_
      refine g_get (ci := 4) (C := RX4) (T := TX4) (N := 21) (v := .ref (ad 1)) S hf hinX4 0 rfl rfl 0 (by decide) k9 rfl rfl dX4_lineOnes_6 ?_
      refine lv_iconst (v := 1) hx hb dX4_lineOnes_9 (by decide) ?_
      refine g_ald (v := (μ0 0) 1) S hf 2 rfl (by decide) rfl dX4_lineOnes_10 ?_
      refine lv_icmp_ge (tgt := 38) hx hb dX4_lineOnes_11 (by decide) (fun c1 => ?_) (fun c1 => ?_)
      · replace hF := (if_pos c1).symm.trans hF
        refine lv_iload_n hx hb dX4_lineOnes_38 rfl (lv_at hl 1 rfl) ?_
        have hE := Option.some.inj hF
        have hV := congrArg (fun z : Int32 => z) hE
        exact g_iret S hr hlocks hf hV rfl dX4_lineOnes_39
      · replace hF := (if_neg c1).symm.trans hF
        refine lv_iload_n hx hb dX4_lineOnes_14 rfl (lv_at hl 1 rfl) ?_
        refine lv_aload_n hx hb dX4_lineOnes_15 rfl (lv_at hl 0 rfl) ?_
        refine lv_iload_n hx hb dX4_lineOnes_16 rfl (lv_at hl 2 rfl) ?_
        obtain ⟨q2, h3, hF⟩ := Option.bind_eq_some_iff.mp hF
        refine g_cv0 (o := some (.int q2)) (As := [.int x2]) (rest := [.int x1]) (st1 := [.int q2, .int x1]) (ci := 4) S hf (c_X4_isOfLine l G ad μ0 x2 q2 h3) (cwV 1 hts gX4_lineOnes_X4_isOfLine rfl rfl rfl (by decide +kernel) ⟨Nat.le_of_ble_eq_true rfl, Nat.le_of_ble_eq_true rfl⟩) rfl rfl rfl 0 rfl rfl hl.1 rfl rfl (Nat.le_of_ble_eq_true rfl) ⟨Nat.zero_le _, Nat.zero_le _⟩ dX4_lineOnes_17 (fun H locs hf => ?_)
        have hf : Fr G (va_A (wM G ad μ0) s.heap.size) s (wM G ad μ0) H locs := hf
        refine lv_if_eq (tgt := 29) hx hb dX4_lineOnes_20 (by decide) (fun c4 => ?_) (fun c4 => ?_)
        · replace hF := (if_pos c4).symm.trans hF
          refine lv_iconst (v := 0) hx hb dX4_lineOnes_29 (by decide) ?_
          refine lv_ior hx hb dX4_lineOnes_30 ?_
          refine lv_istore_n (lv' := [(1, .int (x1 ||| 0)), (0, .ref (ad 0)), (2, .int x2)]) hx hb dX4_lineOnes_31 rfl hl (by decide) rfl (fun ls hl => ?_)
          refine lv_iinc (v := x2 + 1) (lv' := [(2, .int (x2 + 1)), (1, .int (x1 ||| 0)), (0, .ref (ad 0))]) hx hb dX4_lineOnes_32 hl (k := 2) rfl rfl (by decide) rfl (fun ls hl => ?_)
          refine lv_goto (tgt := 4) hx hb dX4_lineOnes_35 (by decide) ?_
          exact ih4 (x1 ||| 0) (x2 + 1) _ _ _ hF hf (lv_sub hl [2, 1, 0] rfl)
        · replace hF := (if_neg c4).symm.trans hF
          refine lv_iconst (v := 1) hx hb dX4_lineOnes_23 (by decide) ?_
          refine lv_iload_n hx hb dX4_lineOnes_24 rfl (lv_at hl 2 rfl) ?_
          refine lv_ishl hx hb dX4_lineOnes_25 ?_
          refine lv_goto (tgt := 30) hx hb dX4_lineOnes_26 (by decide) ?_
          refine lv_ior hx hb dX4_lineOnes_30 ?_
          refine lv_istore_n (lv' := [(1, .int (x1 ||| (1 <<< (x2 &&& 31)))), (0, .ref (ad 0)), (2, .int x2)]) hx hb dX4_lineOnes_31 rfl hl (by decide) rfl (fun ls hl => ?_)
          refine lv_iinc (v := x2 + 1) (lv' := [(2, .int (x2 + 1)), (1, .int (x1 ||| (1 <<< (x2 &&& 31)))), (0, .ref (ad 0))]) hx hb dX4_lineOnes_32 hl (k := 2) rfl rfl (by decide) rfl (fun ls hl => ?_)
          refine lv_goto (tgt := 4) hx hb dX4_lineOnes_35 (by decide) ?_
          exact ih4 (x1 ||| (1 <<< (x2 &&& 31))) (x2 + 1) _ _ _ hF hf (lv_sub hl [2, 1, 0] rfl)
  unfold f_X4_lineOnes at hF
  refine lv_iconst (v := 0) hx hb dX4_lineOnes_0 (by decide) ?_
  refine lv_istore_n (lv' := [(1, .int 0), (0, .ref (ad 0))]) hx hb dX4_lineOnes_1 rfl hl (by decide) rfl (fun ls hl => ?_)
  refine lv_iconst (v := 0) hx hb dX4_lineOnes_2 (by decide) ?_
  refine lv_istore_n (lv' := [(2, .int 0), (1, .int 0), (0, .ref (ad 0))]) hx hb dX4_lineOnes_3 rfl hl (by decide) rfl (fun ls hl => ?_)
  exact hL4 1000 0 0 _ _ _ hF hf (lv_sub hl [2, 1, 0] rfl)
def f_X4_sumOf_L4 (μ0 : K2) : Nat → Int32 → Int32 → Int32 → Option (Int32)
  | 0, _, _, _ => none
  | n + 1, x1, x2, x3 => if ((μ0 0) 1) ≤ x3 then (some (x2)) else (Option.bind (f_X4_birdIs μ0 x3 x1) (fun q2 => f_X4_sumOf_L4 μ0 n x1 (x2 + q2) (x3 + 1)))
def f_X4_sumOf (μ0 : K2) (a1 : Int32) : Option (Int32) := f_X4_sumOf_L4 μ0 1000 a1 0 0
set_option maxHeartbeats 4000000 in
set_option maxRecDepth 100000 in
theorem c_X4_sumOf (l : Launch) (G : GT) (ad : Nat → Nat) (μ0 : K2) (a1 : Int32) (q : Int32) (hF : f_X4_sumOf μ0 a1 = some q) : Ct l G yX4_sumOf wsX4_sumOf ({ frames := 2, cells := 0, slots := 0, locals := 43 } : Room) ([.ref (ad 0), .int a1] : List Value) (wM G ad μ0) (some (.int q)) (wM G ad μ0) := by
  have k9 : Cond.fieldLink RX4 9 "PigeonRollsModel" "now" "[I" ∈ wsX4_sumOf := by decide +kernel
  have hinX4 : ∀ w ∈ u_ws RX4 TX4 21, w ∈ wsX4_sumOf := by decide +kernel
  refine Ct.of cX4_sumOf 4 (some .int) (by decide) rfl (Nat.le_of_ble_eq_true rfl) ?_
  intro p e s m below meth c ls S hr hlocks hf hl
  have S : CallFix p m c cX4_sumOf 4 s ([.ref (ad 0), .int a1] : List Value).toArray wsX4_sumOf RX4 := S
  obtain ⟨hx, hb, hml, hown, hts⟩ := id S
  have hl : lv_has ls 4 [(0, .ref (ad 0)), (1, .int a1)] := hl
  have hL4 : ∀ (n : Nat) (x1 : Int32) (x2 : Int32) (x3 : Int32)  (H : Heap) (locs : List Loc) (ls : Array Slot), f_X4_sumOf_L4 μ0 n x1 x2 x3 = some q → Fr G (va_A (wM G ad μ0) s.heap.size) s (wM G ad μ0) H locs → lv_has ls 4 [(0, .ref (ad 0)), (1, .int x1), (2, .int x2), (3, .int x3)] → W p l e ({ frames := 2, cells := 0, slots := 0, locals := 43 } : Room) s m ([.ref (ad 0), .int a1] : List Value).toArray below meth c H locs 0 0 (MQ below (CPost G (wM G ad μ0) s.heap.size (some (.int q)) (wM G ad μ0)) ([.ref (ad 0), .int a1] : List Value).toArray s 0 0 (va_A (wM G ad μ0) s.heap.size)) (F0 m 4 ls []) := by
    intro n
    induction n with
    | zero =>
      intro x1 x2 x3 H locs ls hF hf hl
      exact absurd hF (by simp [f_X4_sumOf_L4])
    | succ n ih4 =>
      intro x1 x2 x3 H locs ls hF hf hl
      rw [f_X4_sumOf_L4] at hF
      refine lv_iload_n hx hb dX4_sumOf_4 rfl (lv_at hl 3 rfl) ?_
      refine lv_aload_n hx hb dX4_sumOf_5 rfl (lv_at hl 0 rfl) ?_
      refine g_get (ci := 4) (C := RX4) (T := TX4) (N := 21) (v := .ref (ad 1)) S hf hinX4 0 rfl rfl 0 (by decide) k9 rfl rfl dX4_sumOf_6 ?_
      refine lv_iconst (v := 1) hx hb dX4_sumOf_9 (by decide) ?_
      refine g_ald (v := (μ0 0) 1) S hf 2 rfl (by decide) rfl dX4_sumOf_10 ?_
      refine lv_icmp_ge (tgt := 29) hx hb dX4_sumOf_11 (by decide) (fun c1 => ?_) (fun c1 => ?_)
      · replace hF := (if_pos c1).symm.trans hF
        refine lv_iload_n hx hb dX4_sumOf_29 rfl (lv_at hl 2 rfl) ?_
        have hE := Option.some.inj hF
        have hV := congrArg (fun z : Int32 => z) hE
        exact g_iret S hr hlocks hf hV rfl dX4_sumOf_30
      · replace hF := (if_neg c1).symm.trans hF
        refine lv_iload_n hx hb dX4_sumOf_14 rfl (lv_at hl 2 rfl) ?_
        refine lv_aload_n hx hb dX4_sumOf_15 rfl (lv_at hl 0 rfl) ?_
        refine lv_iload_n hx hb dX4_sumOf_16 rfl (lv_at hl 3 rfl) ?_
        refine lv_iload_n hx hb dX4_sumOf_17 rfl (lv_at hl 1 rfl) ?_
        obtain ⟨q2, h3, hF⟩ := Option.bind_eq_some_iff.mp hF
        refine g_cv0 (o := some (.int q2)) (As := [.int x3, .int x1]) (rest := [.int x2]) (st1 := [.int q2, .int x2]) (ci := 4) S hf (c_X4_birdIs l G ad μ0 x3 x1 q2 h3) (cwV 2 hts gX4_sumOf_X4_birdIs rfl rfl rfl (by decide +kernel) ⟨Nat.le_of_ble_eq_true rfl, Nat.le_of_ble_eq_true rfl⟩) rfl rfl rfl 0 rfl rfl hl.1 rfl rfl (Nat.le_of_ble_eq_true rfl) ⟨Nat.zero_le _, Nat.zero_le _⟩ dX4_sumOf_18 (fun H locs hf => ?_)
        have hf : Fr G (va_A (wM G ad μ0) s.heap.size) s (wM G ad μ0) H locs := hf
        refine lv_iadd hx hb dX4_sumOf_21 ?_
        refine lv_istore_n (lv' := [(2, .int (x2 + q2)), (0, .ref (ad 0)), (1, .int x1), (3, .int x3)]) hx hb dX4_sumOf_22 rfl hl (by decide) rfl (fun ls hl => ?_)
        refine lv_iinc (v := x3 + 1) (lv' := [(3, .int (x3 + 1)), (2, .int (x2 + q2)), (0, .ref (ad 0)), (1, .int x1)]) hx hb dX4_sumOf_23 hl (k := 3) rfl rfl (by decide) rfl (fun ls hl => ?_)
        refine lv_goto (tgt := 4) hx hb dX4_sumOf_26 (by decide) ?_
        exact ih4 x1 (x2 + q2) (x3 + 1) _ _ _ hF hf (lv_sub hl [2, 3, 1, 0] rfl)
  unfold f_X4_sumOf at hF
  refine lv_iconst (v := 0) hx hb dX4_sumOf_0 (by decide) ?_
  refine lv_istore_n (lv' := [(2, .int 0), (0, .ref (ad 0)), (1, .int a1)]) hx hb dX4_sumOf_1 rfl hl (by decide) rfl (fun ls hl => ?_)
  refine lv_iconst (v := 0) hx hb dX4_sumOf_2 (by decide) ?_
  refine lv_istore_n (lv' := [(3, .int 0), (2, .int 0), (0, .ref (ad 0)), (1, .int a1)]) hx hb dX4_sumOf_3 rfl hl (by decide) rfl (fun ls hl => ?_)
  exact hL4 1000 a1 0 0 _ _ _ hF hf (lv_sub hl [2, 3, 1, 0] rfl)
def f_X4_rates_L4 (μ0 : K2) : Nat → Int32 → Int32 → Option (Int32)
  | 0, _, _ => none
  | n + 1, x1, x2 => if ((μ0 0) 1) ≤ x2 then (some (x1)) else (Option.bind (f_X4_doesDraw μ0 x2) (fun q2 => if q2 = 0 then (f_X4_rates_L4 μ0 n (x1 + 0) (x2 + 1)) else (Option.bind (f_X4_rate μ0 x2) (fun q5 => f_X4_rates_L4 μ0 n (x1 + q5) (x2 + 1)))))
def f_X4_rates (μ0 : K2) : Option (Int32) := f_X4_rates_L4 μ0 1000 0 0
set_option maxHeartbeats 4000000 in
set_option maxRecDepth 100000 in
theorem c_X4_rates (l : Launch) (G : GT) (ad : Nat → Nat) (μ0 : K2) (q : Int32) (hF : f_X4_rates μ0 = some q) : Ct l G yX4_rates wsX4_rates ({ frames := 6, cells := 0, slots := 0, locals := 130 } : Room) ([.ref (ad 0)] : List Value) (wM G ad μ0) (some (.int q)) (wM G ad μ0) := by
  have k9 : Cond.fieldLink RX4 9 "PigeonRollsModel" "now" "[I" ∈ wsX4_rates := by decide +kernel
  have hinX4 : ∀ w ∈ u_ws RX4 TX4 21, w ∈ wsX4_rates := by decide +kernel
  refine Ct.of cX4_rates 3 (some .int) (by decide) rfl (Nat.le_of_ble_eq_true rfl) ?_
  intro p e s m below meth c ls S hr hlocks hf hl
  have S : CallFix p m c cX4_rates 3 s ([.ref (ad 0)] : List Value).toArray wsX4_rates RX4 := S
  obtain ⟨hx, hb, hml, hown, hts⟩ := id S
  have hl : lv_has ls 3 [(0, .ref (ad 0))] := hl
  have hL4 : ∀ (n : Nat) (x1 : Int32) (x2 : Int32)  (H : Heap) (locs : List Loc) (ls : Array Slot), f_X4_rates_L4 μ0 n x1 x2 = some q → Fr G (va_A (wM G ad μ0) s.heap.size) s (wM G ad μ0) H locs → lv_has ls 3 [(0, .ref (ad 0)), (1, .int x1), (2, .int x2)] → W p l e ({ frames := 6, cells := 0, slots := 0, locals := 130 } : Room) s m ([.ref (ad 0)] : List Value).toArray below meth c H locs 0 0 (MQ below (CPost G (wM G ad μ0) s.heap.size (some (.int q)) (wM G ad μ0)) ([.ref (ad 0)] : List Value).toArray s 0 0 (va_A (wM G ad μ0) s.heap.size)) (F0 m 4 ls []) := by
    intro n
    induction n with
    | zero =>
      intro x1 x2 H locs ls hF hf hl
      exact absurd hF (by simp [f_X4_rates_L4])
    | succ n ih4 =>
      intro x1 x2 H locs ls hF hf hl
      rw [f_X4_rates_L4] at hF
      refine lv_iload_n hx hb dX4_rates_4 rfl (lv_at hl 2 rfl) ?_
      refine lv_aload_n hx hb dX4_rates_5 rfl (lv_at hl 0 rfl) ?_
      refine g_get (ci := 4) (C := RX4) (T := TX4) (N := 21) (v := .ref (ad 1)) S hf hinX4 0 rfl rfl 0 (by decide) k9 rfl rfl dX4_rates_6 ?_
      refine lv_iconst (v := 1) hx hb dX4_rates_9 (by decide) ?_
      refine g_ald (v := (μ0 0) 1) S hf 2 rfl (by decide) rfl dX4_rates_10 ?_
      refine lv_icmp_ge (tgt := 40) hx hb dX4_rates_11 (by decide) (fun c1 => ?_) (fun c1 => ?_)
      · replace hF := (if_pos c1).symm.trans hF
        refine lv_iload_n hx hb dX4_rates_40 rfl (lv_at hl 1 rfl) ?_
        have hE := Option.some.inj hF
        have hV := congrArg (fun z : Int32 => z) hE
        exact g_iret S hr hlocks hf hV rfl dX4_rates_41
      · replace hF := (if_neg c1).symm.trans hF
        refine lv_iload_n hx hb dX4_rates_14 rfl (lv_at hl 1 rfl) ?_
        refine lv_aload_n hx hb dX4_rates_15 rfl (lv_at hl 0 rfl) ?_
        refine lv_iload_n hx hb dX4_rates_16 rfl (lv_at hl 2 rfl) ?_
        obtain ⟨q2, h3, hF⟩ := Option.bind_eq_some_iff.mp hF
        refine g_cv0 (o := some (.int q2)) (As := [.int x2]) (rest := [.int x1]) (st1 := [.int q2, .int x1]) (ci := 4) S hf (c_X4_doesDraw l G ad μ0 x2 q2 h3) (cwV 1 hts gX4_rates_X4_doesDraw rfl rfl rfl (by decide +kernel) ⟨Nat.le_of_ble_eq_true rfl, Nat.le_of_ble_eq_true rfl⟩) rfl rfl rfl 0 rfl rfl hl.1 rfl rfl (Nat.le_of_ble_eq_true rfl) ⟨Nat.zero_le _, Nat.zero_le _⟩ dX4_rates_17 (fun H locs hf => ?_)
        have hf : Fr G (va_A (wM G ad μ0) s.heap.size) s (wM G ad μ0) H locs := hf
        refine lv_if_eq (tgt := 31) hx hb dX4_rates_20 (by decide) (fun c4 => ?_) (fun c4 => ?_)
        · replace hF := (if_pos c4).symm.trans hF
          refine lv_iconst (v := 0) hx hb dX4_rates_31 (by decide) ?_
          refine lv_iadd hx hb dX4_rates_32 ?_
          refine lv_istore_n (lv' := [(1, .int (x1 + 0)), (0, .ref (ad 0)), (2, .int x2)]) hx hb dX4_rates_33 rfl hl (by decide) rfl (fun ls hl => ?_)
          refine lv_iinc (v := x2 + 1) (lv' := [(2, .int (x2 + 1)), (1, .int (x1 + 0)), (0, .ref (ad 0))]) hx hb dX4_rates_34 hl (k := 2) rfl rfl (by decide) rfl (fun ls hl => ?_)
          refine lv_goto (tgt := 4) hx hb dX4_rates_37 (by decide) ?_
          exact ih4 (x1 + 0) (x2 + 1) _ _ _ hF hf (lv_sub hl [2, 1, 0] rfl)
        · replace hF := (if_neg c4).symm.trans hF
          refine lv_aload_n hx hb dX4_rates_23 rfl (lv_at hl 0 rfl) ?_
          refine lv_iload_n hx hb dX4_rates_24 rfl (lv_at hl 2 rfl) ?_
          obtain ⟨q5, h6, hF⟩ := Option.bind_eq_some_iff.mp hF
          refine g_cv0 (o := some (.int q5)) (As := [.int x2]) (rest := [.int x1]) (st1 := [.int q5, .int x1]) (ci := 4) S hf (c_X4_rate l G ad μ0 x2 q5 h6) (cwV 1 hts gX4_rates_X4_rate rfl rfl rfl (by decide +kernel) ⟨Nat.le_of_ble_eq_true rfl, Nat.le_of_ble_eq_true rfl⟩) rfl rfl rfl 0 rfl rfl hl.1 rfl rfl (Nat.le_of_ble_eq_true rfl) ⟨Nat.zero_le _, Nat.zero_le _⟩ dX4_rates_25 (fun H locs hf => ?_)
          have hf : Fr G (va_A (wM G ad μ0) s.heap.size) s (wM G ad μ0) H locs := hf
          refine lv_goto (tgt := 32) hx hb dX4_rates_28 (by decide) ?_
          refine lv_iadd hx hb dX4_rates_32 ?_
          refine lv_istore_n (lv' := [(1, .int (x1 + q5)), (0, .ref (ad 0)), (2, .int x2)]) hx hb dX4_rates_33 rfl hl (by decide) rfl (fun ls hl => ?_)
          refine lv_iinc (v := x2 + 1) (lv' := [(2, .int (x2 + 1)), (1, .int (x1 + q5)), (0, .ref (ad 0))]) hx hb dX4_rates_34 hl (k := 2) rfl rfl (by decide) rfl (fun ls hl => ?_)
          refine lv_goto (tgt := 4) hx hb dX4_rates_37 (by decide) ?_
          exact ih4 (x1 + q5) (x2 + 1) _ _ _ hF hf (lv_sub hl [2, 1, 0] rfl)
  unfold f_X4_rates at hF
  refine lv_iconst (v := 0) hx hb dX4_rates_0 (by decide) ?_
  refine lv_istore_n (lv' := [(1, .int 0), (0, .ref (ad 0))]) hx hb dX4_rates_1 rfl hl (by decide) rfl (fun ls hl => ?_)
  refine lv_iconst (v := 0) hx hb dX4_rates_2 (by decide) ?_
  refine lv_istore_n (lv' := [(2, .int 0), (1, .int 0), (0, .ref (ad 0))]) hx hb dX4_rates_3 rfl hl (by decide) rfl (fun ls hl => ?_)
  exact hL4 1000 0 0 _ _ _ hF hf (lv_sub hl [2, 1, 0] rfl)
def f_X4_now (μ0 : K2) (a1 : Int32) : Option (Int32 × K2) := if a1 = 0 then (some ((μ0 0) 0, μ0)) else (if a1 = 1 then (some ((μ0 0) 3, μ0)) else (if a1 = 2 then (Option.bind (f_X4_drawers μ0) (fun q4 => some (q4, μ0))) else (if a1 = 3 then (Option.bind (f_X4_deadOnes μ0) (fun q7 => some (q7, μ0))) else (if a1 = 4 then (Option.bind (f_X4_sumOf μ0 7) (fun q10 => some (q10, μ0))) else (if a1 = 5 then (Option.bind (f_X4_rates μ0) (fun q13 => some (q13, μ0))) else (if a1 = 6 then (Option.bind (f_X4_lineOnes μ0) (fun q16 => some (q16, μ0))) else (if a1 = 7 then (Option.bind (f_X4_sumOf μ0 8) (fun q19 => some (q19, μ0))) else (Option.bind (f_X4_finding μ0 (-1000001)) (fun q21 => some (q21.1, q21.2))))))))))
set_option maxHeartbeats 4000000 in
set_option maxRecDepth 100000 in
theorem c_X4_now (l : Launch) (G : GT) (ad : Nat → Nat) (μ0 : K2) (a1 : Int32) (q : Int32 × K2) (hF : f_X4_now μ0 a1 = some q) : Ct l G yX4_now wsX4_now ({ frames := 7, cells := 0, slots := 0, locals := 152 } : Room) ([.ref (ad 0), .int a1] : List Value) (wM G ad μ0) (some (.int q.1)) (wM G ad q.2) := by
  have k9 : Cond.fieldLink RX4 9 "PigeonRollsModel" "now" "[I" ∈ wsX4_now := by decide +kernel
  have kc63 : Cond.constant RX4 63 (-1000001) ∈ wsX4_now := by decide +kernel
  have hinX4 : ∀ w ∈ u_ws RX4 TX4 21, w ∈ wsX4_now := by decide +kernel
  refine Ct.of cX4_now 2 (some .int) (by decide) rfl (Nat.le_of_ble_eq_true rfl) ?_
  intro p e s m below meth c ls S hr hlocks hf hl
  have S : CallFix p m c cX4_now 2 s ([.ref (ad 0), .int a1] : List Value).toArray wsX4_now RX4 := S
  obtain ⟨hx, hb, hml, hown, hts⟩ := id S
  have hl : lv_has ls 2 [(0, .ref (ad 0)), (1, .int a1)] := hl
  unfold f_X4_now at hF
  refine lv_iload_n hx hb dX4_now_0 rfl (lv_at hl 1 rfl) ?_
  by_cases c1 : a1 = 0
  · replace hF := (if_pos c1).symm.trans hF
    refine lv_tableIn (tgt := 48) hx hb dX4_now_1 (by rw [c1]; decide) (by rw [c1]; decide) (by rw [c1]; rfl) (by decide) ?_
    refine lv_aload_n hx hb dX4_now_48 rfl (lv_at hl 0 rfl) ?_
    refine g_get (ci := 4) (C := RX4) (T := TX4) (N := 21) (v := .ref (ad 1)) S hf hinX4 0 rfl rfl 0 (by decide) k9 rfl rfl dX4_now_49 ?_
    refine lv_iconst (v := 0) hx hb dX4_now_52 (by decide) ?_
    refine g_ald (v := (μ0 0) 0) S hf 2 rfl (by decide) rfl dX4_now_53 ?_
    have hE := Option.some.inj hF
    have hV := congrArg (fun z : Int32 × K2 => z.1) hE
    have hW := congrArg (fun z : Int32 × K2 => wM G ad z.2) hE
    exact g_iret S hr hlocks hf hV hW dX4_now_54
  replace hF := (if_neg c1).symm.trans hF
  by_cases c2 : a1 = 1
  · replace hF := (if_pos c2).symm.trans hF
    refine lv_tableIn (tgt := 55) hx hb dX4_now_1 (by rw [c2]; decide) (by rw [c2]; decide) (by rw [c2]; rfl) (by decide) ?_
    refine lv_aload_n hx hb dX4_now_55 rfl (lv_at hl 0 rfl) ?_
    refine g_get (ci := 4) (C := RX4) (T := TX4) (N := 21) (v := .ref (ad 1)) S hf hinX4 0 rfl rfl 0 (by decide) k9 rfl rfl dX4_now_56 ?_
    refine lv_iconst (v := 3) hx hb dX4_now_59 (by decide) ?_
    refine g_ald (v := (μ0 0) 3) S hf 2 rfl (by decide) rfl dX4_now_60 ?_
    have hE := Option.some.inj hF
    have hV := congrArg (fun z : Int32 × K2 => z.1) hE
    have hW := congrArg (fun z : Int32 × K2 => wM G ad z.2) hE
    exact g_iret S hr hlocks hf hV hW dX4_now_61
  replace hF := (if_neg c2).symm.trans hF
  by_cases c3 : a1 = 2
  · replace hF := (if_pos c3).symm.trans hF
    refine lv_tableIn (tgt := 62) hx hb dX4_now_1 (by rw [c3]; decide) (by rw [c3]; decide) (by rw [c3]; rfl) (by decide) ?_
    refine lv_aload_n hx hb dX4_now_62 rfl (lv_at hl 0 rfl) ?_
    obtain ⟨q4, h5, hF⟩ := Option.bind_eq_some_iff.mp hF
    refine g_cv0 (o := some (.int q4)) (As := []) (rest := []) (st1 := [.int q4]) (ci := 4) S hf (c_X4_drawers l G ad μ0 q4 h5) (cwV 0 hts gX4_now_X4_drawers rfl rfl rfl (by decide +kernel) ⟨Nat.le_of_ble_eq_true rfl, Nat.le_of_ble_eq_true rfl⟩) rfl rfl rfl 0 rfl rfl hl.1 rfl rfl (Nat.le_of_ble_eq_true rfl) ⟨Nat.zero_le _, Nat.zero_le _⟩ dX4_now_63 (fun H locs hf => ?_)
    have hf : Fr G (va_A (wM G ad μ0) s.heap.size) s (wM G ad μ0) H locs := hf
    have hE := Option.some.inj hF
    have hV := congrArg (fun z : Int32 × K2 => z.1) hE
    have hW := congrArg (fun z : Int32 × K2 => wM G ad z.2) hE
    exact g_iret S hr hlocks hf hV hW dX4_now_66
  replace hF := (if_neg c3).symm.trans hF
  by_cases c6 : a1 = 3
  · replace hF := (if_pos c6).symm.trans hF
    refine lv_tableIn (tgt := 67) hx hb dX4_now_1 (by rw [c6]; decide) (by rw [c6]; decide) (by rw [c6]; rfl) (by decide) ?_
    refine lv_aload_n hx hb dX4_now_67 rfl (lv_at hl 0 rfl) ?_
    obtain ⟨q7, h8, hF⟩ := Option.bind_eq_some_iff.mp hF
    refine g_cv0 (o := some (.int q7)) (As := []) (rest := []) (st1 := [.int q7]) (ci := 4) S hf (c_X4_deadOnes l G ad μ0 q7 h8) (cwV 0 hts gX4_now_X4_deadOnes rfl rfl rfl (by decide +kernel) ⟨Nat.le_of_ble_eq_true rfl, Nat.le_of_ble_eq_true rfl⟩) rfl rfl rfl 0 rfl rfl hl.1 rfl rfl (Nat.le_of_ble_eq_true rfl) ⟨Nat.zero_le _, Nat.zero_le _⟩ dX4_now_68 (fun H locs hf => ?_)
    have hf : Fr G (va_A (wM G ad μ0) s.heap.size) s (wM G ad μ0) H locs := hf
    have hE := Option.some.inj hF
    have hV := congrArg (fun z : Int32 × K2 => z.1) hE
    have hW := congrArg (fun z : Int32 × K2 => wM G ad z.2) hE
    exact g_iret S hr hlocks hf hV hW dX4_now_71
  replace hF := (if_neg c6).symm.trans hF
  by_cases c9 : a1 = 4
  · replace hF := (if_pos c9).symm.trans hF
    refine lv_tableIn (tgt := 72) hx hb dX4_now_1 (by rw [c9]; decide) (by rw [c9]; decide) (by rw [c9]; rfl) (by decide) ?_
    refine lv_aload_n hx hb dX4_now_72 rfl (lv_at hl 0 rfl) ?_
    refine lv_bipush (v := 7) hx hb dX4_now_73 (by decide) ?_
    obtain ⟨q10, h11, hF⟩ := Option.bind_eq_some_iff.mp hF
    refine g_cv0 (o := some (.int q10)) (As := [.int 7]) (rest := []) (st1 := [.int q10]) (ci := 4) S hf (c_X4_sumOf l G ad μ0 7 q10 h11) (cwV 1 hts gX4_now_X4_sumOf rfl rfl rfl (by decide +kernel) ⟨Nat.le_of_ble_eq_true rfl, Nat.le_of_ble_eq_true rfl⟩) rfl rfl rfl 0 rfl rfl hl.1 rfl rfl (Nat.le_of_ble_eq_true rfl) ⟨Nat.zero_le _, Nat.zero_le _⟩ dX4_now_75 (fun H locs hf => ?_)
    have hf : Fr G (va_A (wM G ad μ0) s.heap.size) s (wM G ad μ0) H locs := hf
    have hE := Option.some.inj hF
    have hV := congrArg (fun z : Int32 × K2 => z.1) hE
    have hW := congrArg (fun z : Int32 × K2 => wM G ad z.2) hE
    exact g_iret S hr hlocks hf hV hW dX4_now_78
  replace hF := (if_neg c9).symm.trans hF
  by_cases c12 : a1 = 5
  · replace hF := (if_pos c12).symm.trans hF
    refine lv_tableIn (tgt := 79) hx hb dX4_now_1 (by rw [c12]; decide) (by rw [c12]; decide) (by rw [c12]; rfl) (by decide) ?_
    refine lv_aload_n hx hb dX4_now_79 rfl (lv_at hl 0 rfl) ?_
    obtain ⟨q13, h14, hF⟩ := Option.bind_eq_some_iff.mp hF
    refine g_cv0 (o := some (.int q13)) (As := []) (rest := []) (st1 := [.int q13]) (ci := 4) S hf (c_X4_rates l G ad μ0 q13 h14) (cwV 0 hts gX4_now_X4_rates rfl rfl rfl (by decide +kernel) ⟨Nat.le_of_ble_eq_true rfl, Nat.le_of_ble_eq_true rfl⟩) rfl rfl rfl 0 rfl rfl hl.1 rfl rfl (Nat.le_of_ble_eq_true rfl) ⟨Nat.zero_le _, Nat.zero_le _⟩ dX4_now_80 (fun H locs hf => ?_)
    have hf : Fr G (va_A (wM G ad μ0) s.heap.size) s (wM G ad μ0) H locs := hf
    have hE := Option.some.inj hF
    have hV := congrArg (fun z : Int32 × K2 => z.1) hE
    have hW := congrArg (fun z : Int32 × K2 => wM G ad z.2) hE
    exact g_iret S hr hlocks hf hV hW dX4_now_83
  replace hF := (if_neg c12).symm.trans hF
  by_cases c15 : a1 = 6
  · replace hF := (if_pos c15).symm.trans hF
    refine lv_tableIn (tgt := 84) hx hb dX4_now_1 (by rw [c15]; decide) (by rw [c15]; decide) (by rw [c15]; rfl) (by decide) ?_
    refine lv_aload_n hx hb dX4_now_84 rfl (lv_at hl 0 rfl) ?_
    obtain ⟨q16, h17, hF⟩ := Option.bind_eq_some_iff.mp hF
    refine g_cv0 (o := some (.int q16)) (As := []) (rest := []) (st1 := [.int q16]) (ci := 4) S hf (c_X4_lineOnes l G ad μ0 q16 h17) (cwV 0 hts gX4_now_X4_lineOnes rfl rfl rfl (by decide +kernel) ⟨Nat.le_of_ble_eq_true rfl, Nat.le_of_ble_eq_true rfl⟩) rfl rfl rfl 0 rfl rfl hl.1 rfl rfl (Nat.le_of_ble_eq_true rfl) ⟨Nat.zero_le _, Nat.zero_le _⟩ dX4_now_85 (fun H locs hf => ?_)
    have hf : Fr G (va_A (wM G ad μ0) s.heap.size) s (wM G ad μ0) H locs := hf
    have hE := Option.some.inj hF
    have hV := congrArg (fun z : Int32 × K2 => z.1) hE
    have hW := congrArg (fun z : Int32 × K2 => wM G ad z.2) hE
    exact g_iret S hr hlocks hf hV hW dX4_now_88
  replace hF := (if_neg c15).symm.trans hF
  by_cases c18 : a1 = 7
  · replace hF := (if_pos c18).symm.trans hF
    refine lv_tableIn (tgt := 89) hx hb dX4_now_1 (by rw [c18]; decide) (by rw [c18]; decide) (by rw [c18]; rfl) (by decide) ?_
    refine lv_aload_n hx hb dX4_now_89 rfl (lv_at hl 0 rfl) ?_
    refine lv_bipush (v := 8) hx hb dX4_now_90 (by decide) ?_
    obtain ⟨q19, h20, hF⟩ := Option.bind_eq_some_iff.mp hF
    refine g_cv0 (o := some (.int q19)) (As := [.int 8]) (rest := []) (st1 := [.int q19]) (ci := 4) S hf (c_X4_sumOf l G ad μ0 8 q19 h20) (cwV 1 hts gX4_now_X4_sumOf rfl rfl rfl (by decide +kernel) ⟨Nat.le_of_ble_eq_true rfl, Nat.le_of_ble_eq_true rfl⟩) rfl rfl rfl 0 rfl rfl hl.1 rfl rfl (Nat.le_of_ble_eq_true rfl) ⟨Nat.zero_le _, Nat.zero_le _⟩ dX4_now_92 (fun H locs hf => ?_)
    have hf : Fr G (va_A (wM G ad μ0) s.heap.size) s (wM G ad μ0) H locs := hf
    have hE := Option.some.inj hF
    have hV := congrArg (fun z : Int32 × K2 => z.1) hE
    have hW := congrArg (fun z : Int32 × K2 => wM G ad z.2) hE
    exact g_iret S hr hlocks hf hV hW dX4_now_95
  replace hF := (if_neg c18).symm.trans hF
  refine lv_tableOut (tgt := 96) hx hb dX4_now_1 (by have t0 := lv_neT (a := 0) c1 (by decide); have t1 := lv_neT (a := 1) c2 (by decide); have t2 := lv_neT (a := 2) c3 (by decide); have t3 := lv_neT (a := 3) c6 (by decide); have t4 := lv_neT (a := 4) c9 (by decide); have t5 := lv_neT (a := 5) c12 (by decide); have t6 := lv_neT (a := 6) c15 (by decide); have t7 := lv_neT (a := 7) c18 (by decide); omega) (by decide) ?_
  refine lv_aload_n hx hb dX4_now_96 rfl (lv_at hl 0 rfl) ?_
  refine lv_ldc (v := -1000001) hx hb hown (hts _ kc63) dX4_now_97 ?_
  obtain ⟨q21, h22, hF⟩ := Option.bind_eq_some_iff.mp hF
  refine g_cv0 (o := some (.int q21.1)) (As := [.int (-1000001)]) (rest := []) (st1 := [.int q21.1]) (ci := 4) S hf (c_X4_finding l G ad μ0 (-1000001) q21 h22) (cwV 1 hts gX4_now_X4_finding rfl rfl rfl (by decide +kernel) ⟨Nat.le_of_ble_eq_true rfl, Nat.le_of_ble_eq_true rfl⟩) rfl rfl rfl 0 rfl rfl hl.1 rfl rfl (Nat.le_of_ble_eq_true rfl) ⟨Nat.zero_le _, Nat.zero_le _⟩ dX4_now_99 (fun H locs hf => ?_)
  have hf : Fr G (va_A (wM G ad μ0) s.heap.size) s (wM G ad q21.2) H locs := hf
  have hE := Option.some.inj hF
  have hV := congrArg (fun z : Int32 × K2 => z.1) hE
  have hW := congrArg (fun z : Int32 × K2 => wM G ad z.2) hE
  exact g_iret S hr hlocks hf hV hW dX4_now_102
def f_X4_behind (μ0 : K2) (a1 : Int32) (a2 : Int32) : Option (Int32 × K2) := Option.bind (f_X4_copyRow (μ0 0) (μ0 2)) (fun q1 => Option.bind (f_X4_daysGo (va_up μ0 2 q1) a2) (fun q3 => if ix a1 92 then (Option.bind (f_X4_putBack q3 ((q3 0) a1.toNatClampNeg)) (fun q6 => some (q6.1, q6.2))) else none))
set_option maxHeartbeats 4000000 in
set_option maxRecDepth 100000 in
theorem c_X4_behind (l : Launch) (G : GT) (ad : Nat → Nat) (μ0 : K2) (a1 : Int32) (a2 : Int32) (q : Int32 × K2) (hF : f_X4_behind μ0 a1 a2 = some q) : Ct l G yX4_behind wsX4_behind ({ frames := 9, cells := 0, slots := 0, locals := 197 } : Room) ([.ref (ad 0), .int a1, .int a2] : List Value) (wM G ad μ0) (some (.int q.1)) (wM G ad q.2) := by
  have k9 : Cond.fieldLink RX4 9 "PigeonRollsModel" "now" "[I" ∈ wsX4_behind := by decide +kernel
  have k16 : Cond.fieldLink RX4 16 "PigeonRollsModel" "aside" "[I" ∈ wsX4_behind := by decide +kernel
  have hinX4 : ∀ w ∈ u_ws RX4 TX4 21, w ∈ wsX4_behind := by decide +kernel
  refine Ct.of cX4_behind 3 (some .int) (by decide) rfl (Nat.le_of_ble_eq_true rfl) ?_
  intro p e s m below meth c ls S hr hlocks hf hl
  have S : CallFix p m c cX4_behind 3 s ([.ref (ad 0), .int a1, .int a2] : List Value).toArray wsX4_behind RX4 := S
  obtain ⟨hx, hb, hml, hown, hts⟩ := id S
  have hl : lv_has ls 3 [(0, .ref (ad 0)), (1, .int a1), (2, .int a2)] := hl
  unfold f_X4_behind at hF
  refine lv_aload_n hx hb dX4_behind_0 rfl (lv_at hl 0 rfl) ?_
  refine g_get (ci := 4) (C := RX4) (T := TX4) (N := 21) (v := .ref (ad 1)) S hf hinX4 0 rfl rfl 0 (by decide) k9 rfl rfl dX4_behind_1 ?_
  refine lv_aload_n hx hb dX4_behind_4 rfl (lv_at hl 0 rfl) ?_
  refine g_get (ci := 4) (C := RX4) (T := TX4) (N := 21) (v := .ref (ad 3)) S hf hinX4 0 rfl rfl 2 (by decide) k16 rfl rfl dX4_behind_5 ?_
  obtain ⟨q1, h2, hF⟩ := Option.bind_eq_some_iff.mp hF
  refine g_cs (o := none) (As := [.ref (ad 1), .ref (ad 3)]) (rest := []) (st1 := []) (a := List.take 2 (wM G ad μ0)) (b := List.drop 4 (wM G ad μ0)) S hf (c_X4_copyRow l G (ad 1) (ad 3) (μ0 0) (μ0 2) q1 h2) (va_cwS 2 hts gX4_behind_X4_copyRow rfl rfl rfl (by decide +kernel) ⟨Nat.le_of_ble_eq_true rfl, Nat.le_of_ble_eq_true rfl⟩) rfl rfl rfl hl.1 rfl rfl (Nat.le_of_ble_eq_true rfl) ⟨Nat.zero_le _, Nat.zero_le _⟩ dX4_behind_8 (fun H locs hf => ?_)
  have hf : Fr G (va_A (wM G ad μ0) s.heap.size) s (wM G ad (va_up μ0 2 q1)) H locs := hf
  refine lv_aload_n hx hb dX4_behind_11 rfl (lv_at hl 0 rfl) ?_
  refine lv_iload_n hx hb dX4_behind_12 rfl (lv_at hl 2 rfl) ?_
  obtain ⟨q3, h4, hF⟩ := Option.bind_eq_some_iff.mp hF
  refine g_cv0 (o := none) (As := [.int a2]) (rest := []) (st1 := []) (ci := 4) S hf (c_X4_daysGo l G ad (va_up μ0 2 q1) a2 q3 h4) (cwV 1 hts gX4_behind_X4_daysGo rfl rfl rfl (by decide +kernel) ⟨Nat.le_of_ble_eq_true rfl, Nat.le_of_ble_eq_true rfl⟩) rfl rfl rfl 0 rfl rfl hl.1 rfl rfl (Nat.le_of_ble_eq_true rfl) ⟨Nat.zero_le _, Nat.zero_le _⟩ dX4_behind_13 (fun H locs hf => ?_)
  have hf : Fr G (va_A (wM G ad μ0) s.heap.size) s (wM G ad q3) H locs := hf
  refine lv_aload_n hx hb dX4_behind_16 rfl (lv_at hl 0 rfl) ?_
  refine lv_aload_n hx hb dX4_behind_17 rfl (lv_at hl 0 rfl) ?_
  refine g_get (ci := 4) (C := RX4) (T := TX4) (N := 21) (v := .ref (ad 1)) S hf hinX4 0 rfl rfl 0 (by decide) k9 rfl rfl dX4_behind_18 ?_
  refine lv_iload_n hx hb dX4_behind_21 rfl (lv_at hl 1 rfl) ?_
  obtain ⟨g5, hF⟩ := gd_some hF
  refine g_ald (v := (q3 0) a1.toNatClampNeg) S hf 2 rfl g5 rfl dX4_behind_22 ?_
  obtain ⟨q6, h7, hF⟩ := Option.bind_eq_some_iff.mp hF
  refine g_cv0 (o := some (.int q6.1)) (As := [.int ((q3 0) a1.toNatClampNeg)]) (rest := []) (st1 := [.int q6.1]) (ci := 4) S hf (c_X4_putBack l G ad q3 ((q3 0) a1.toNatClampNeg) q6 h7) (cwV 1 hts gX4_behind_X4_putBack rfl rfl rfl (by decide +kernel) ⟨Nat.le_of_ble_eq_true rfl, Nat.le_of_ble_eq_true rfl⟩) rfl rfl rfl 0 rfl rfl hl.1 rfl rfl (Nat.le_of_ble_eq_true rfl) ⟨Nat.zero_le _, Nat.zero_le _⟩ dX4_behind_23 (fun H locs hf => ?_)
  have hf : Fr G (va_A (wM G ad μ0) s.heap.size) s (wM G ad q6.2) H locs := hf
  have hE := Option.some.inj hF
  have hV := congrArg (fun z : Int32 × K2 => z.1) hE
  have hW := congrArg (fun z : Int32 × K2 => wM G ad z.2) hE
  exact g_iret S hr hlocks hf hV hW dX4_behind_26
