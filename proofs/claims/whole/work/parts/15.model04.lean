def f_X4_owedBehind_B56 (μ : K2) (x2 : Int32) : Option (Int32 × K2) := Option.bind (f_X4_putBack μ x2) (fun q6 => some (q6.1, q6.2))
def f_X4_owedBehind_L20 : Nat → K2 → Int32 → Int32 → Option (Int32 × K2)
  | 0, _, _, _ => none
  | n + 1, μ, x2, x3 => if ((μ 0) 1) ≤ x3 then (f_X4_owedBehind_B56 μ x2) else (Option.bind (f_X4_birdIs μ x3 7) (fun q8 => if q8 ≤ 0 then (f_X4_owedBehind_L20 n μ (x2 ||| 0) (x3 + 1)) else (f_X4_owedBehind_L20 n μ (x2 ||| (1 <<< (x3 &&& 31))) (x3 + 1))))
def f_X4_owedBehind (μ0 : K2) (a1 : Int32) : Option (Int32 × K2) := Option.bind (f_X4_copyRow (μ0 0) (μ0 2)) (fun q1 => Option.bind (f_X4_daysGo (va_up μ0 2 q1) a1) (fun q3 => f_X4_owedBehind_L20 1000 q3 0 0))
set_option maxHeartbeats 4000000 in
set_option maxRecDepth 100000 in
theorem c_X4_owedBehind (l : Launch) (G : GT) (ad : Nat → Nat) (μ0 : K2) (a1 : Int32) (q : Int32 × K2) (hF : f_X4_owedBehind μ0 a1 = some q) : Ct l G yX4_owedBehind wsX4_owedBehind ({ frames := 9, cells := 0, slots := 0, locals := 197 } : Room) ([.ref (ad 0), .int a1] : List Value) (wM G ad μ0) (some (.int q.1)) (wM G ad q.2) := by
  have k9 : Cond.fieldLink RX4 9 "PigeonRollsModel" "now" "[I" ∈ wsX4_owedBehind := by decide +kernel
  have k16 : Cond.fieldLink RX4 16 "PigeonRollsModel" "aside" "[I" ∈ wsX4_owedBehind := by decide +kernel
  have hinX4 : ∀ w ∈ u_ws RX4 TX4 21, w ∈ wsX4_owedBehind := by decide +kernel
  refine Ct.of cX4_owedBehind 4 (some .int) (by decide) rfl (Nat.le_of_ble_eq_true rfl) ?_
  intro p e s m below meth c ls S hr hlocks hf hl
  have S : CallFix p m c cX4_owedBehind 4 s ([.ref (ad 0), .int a1] : List Value).toArray wsX4_owedBehind RX4 := S
  obtain ⟨hx, hb, hml, hown, hts⟩ := id S
  have hl : lv_has ls 4 [(0, .ref (ad 0)), (1, .int a1)] := hl
  have hL56 : ∀ (μ : K2) (x2 : Int32)  (H : Heap) (locs : List Loc) (ls : Array Slot), f_X4_owedBehind_B56 μ x2 = some q → Fr G (va_A (wM G ad μ0) s.heap.size) s (wM G ad μ) H locs → lv_has ls 4 [(0, .ref (ad 0)), (2, .int x2)] → W p l e ({ frames := 9, cells := 0, slots := 0, locals := 197 } : Room) s m ([.ref (ad 0), .int a1] : List Value).toArray below meth c H locs 0 0 (MQ below (CPost G (wM G ad μ0) s.heap.size (some (.int q.1)) (wM G ad q.2)) ([.ref (ad 0), .int a1] : List Value).toArray s 0 0 (va_A (wM G ad μ0) s.heap.size)) (F0 m 56 ls []) := by
    intro μ x2 H locs ls hF hf hl
    unfold f_X4_owedBehind_B56 at hF
    refine lv_aload_n hx hb dX4_owedBehind_56 rfl (lv_at hl 0 rfl) ?_
    refine lv_iload_n hx hb dX4_owedBehind_57 rfl (lv_at hl 1 rfl) ?_
    obtain ⟨q6, h7, hF⟩ := Option.bind_eq_some_iff.mp hF
    refine g_cv0 (o := some (.int q6.1)) (As := [.int x2]) (rest := []) (st1 := [.int q6.1]) (ci := 4) S hf (c_X4_putBack l G ad μ x2 q6 h7) (cwV 1 hts gX4_owedBehind_X4_putBack rfl rfl rfl (by decide +kernel) ⟨Nat.le_of_ble_eq_true rfl, Nat.le_of_ble_eq_true rfl⟩) rfl rfl rfl 0 rfl rfl hl.1 rfl rfl (Nat.le_of_ble_eq_true rfl) ⟨Nat.zero_le _, Nat.zero_le _⟩ dX4_owedBehind_58 (fun H locs hf => ?_)
    have hf : Fr G (va_A (wM G ad μ0) s.heap.size) s (wM G ad q6.2) H locs := hf
    have hE := Option.some.inj hF
    have hV := congrArg (fun z : Int32 × K2 => z.1) hE
    have hW := congrArg (fun z : Int32 × K2 => wM G ad z.2) hE
    exact g_iret S hr hlocks hf hV hW dX4_owedBehind_61
  have hL20 : ∀ (n : Nat) (μ : K2) (x2 : Int32) (x3 : Int32)  (H : Heap) (locs : List Loc) (ls : Array Slot), f_X4_owedBehind_L20 n μ x2 x3 = some q → Fr G (va_A (wM G ad μ0) s.heap.size) s (wM G ad μ) H locs → lv_has ls 4 [(0, .ref (ad 0)), (2, .int x2), (3, .int x3)] → W p l e ({ frames := 9, cells := 0, slots := 0, locals := 197 } : Room) s m ([.ref (ad 0), .int a1] : List Value).toArray below meth c H locs 0 0 (MQ below (CPost G (wM G ad μ0) s.heap.size (some (.int q.1)) (wM G ad q.2)) ([.ref (ad 0), .int a1] : List Value).toArray s 0 0 (va_A (wM G ad μ0) s.heap.size)) (F0 m 20 ls []) := by
    intro n
    induction n with
    | zero =>
      intro μ x2 x3 H locs ls hF hf hl
      exact absurd hF (by simp [f_X4_owedBehind_L20])
    | succ n ih20 =>
      intro μ x2 x3 H locs ls hF hf hl
      rw [f_X4_owedBehind_L20] at hF
      refine lv_iload_n hx hb dX4_owedBehind_20 rfl (lv_at hl 2 rfl) ?_
      refine lv_aload_n hx hb dX4_owedBehind_21 rfl (lv_at hl 0 rfl) ?_
      refine g_get (ci := 4) (C := RX4) (T := TX4) (N := 21) (v := .ref (ad 1)) S hf hinX4 0 rfl rfl 0 (by decide) k9 rfl rfl dX4_owedBehind_22 ?_
      refine lv_iconst (v := 1) hx hb dX4_owedBehind_25 (by decide) ?_
      refine g_ald (v := (μ 0) 1) S hf 2 rfl (by decide) rfl dX4_owedBehind_26 ?_
      refine lv_icmp_ge (tgt := 56) hx hb dX4_owedBehind_27 (by decide) (fun c5 => ?_) (fun c5 => ?_)
      · replace hF := (if_pos c5).symm.trans hF
        exact hL56 μ x2 _ _ _ hF hf (lv_sub hl [0, 1] rfl)
      · replace hF := (if_neg c5).symm.trans hF
        refine lv_iload_n hx hb dX4_owedBehind_30 rfl (lv_at hl 1 rfl) ?_
        refine lv_aload_n hx hb dX4_owedBehind_31 rfl (lv_at hl 0 rfl) ?_
        refine lv_iload_n hx hb dX4_owedBehind_32 rfl (lv_at hl 2 rfl) ?_
        refine lv_bipush (v := 7) hx hb dX4_owedBehind_33 (by decide) ?_
        obtain ⟨q8, h9, hF⟩ := Option.bind_eq_some_iff.mp hF
        refine g_cv0 (o := some (.int q8)) (As := [.int x3, .int 7]) (rest := [.int x2]) (st1 := [.int q8, .int x2]) (ci := 4) S hf (c_X4_birdIs l G ad μ x3 7 q8 h9) (cwV 2 hts gX4_owedBehind_X4_birdIs rfl rfl rfl (by decide +kernel) ⟨Nat.le_of_ble_eq_true rfl, Nat.le_of_ble_eq_true rfl⟩) rfl rfl rfl 0 rfl rfl hl.1 rfl rfl (Nat.le_of_ble_eq_true rfl) ⟨Nat.zero_le _, Nat.zero_le _⟩ dX4_owedBehind_35 (fun H locs hf => ?_)
        have hf : Fr G (va_A (wM G ad μ0) s.heap.size) s (wM G ad μ) H locs := hf
        refine lv_if_le (tgt := 47) hx hb dX4_owedBehind_38 (by decide) (fun c10 => ?_) (fun c10 => ?_)
        · replace hF := (if_pos c10).symm.trans hF
          refine lv_iconst (v := 0) hx hb dX4_owedBehind_47 (by decide) ?_
          refine lv_ior hx hb dX4_owedBehind_48 ?_
          refine lv_istore_n (lv' := [(2, .int (x2 ||| 0)), (0, .ref (ad 0)), (3, .int x3)]) hx hb dX4_owedBehind_49 rfl hl (by decide) rfl (fun ls hl => ?_)
          refine lv_iinc (v := x3 + 1) (lv' := [(3, .int (x3 + 1)), (2, .int (x2 ||| 0)), (0, .ref (ad 0))]) hx hb dX4_owedBehind_50 hl (k := 2) rfl rfl (by decide) rfl (fun ls hl => ?_)
          refine lv_goto (tgt := 20) hx hb dX4_owedBehind_53 (by decide) ?_
          exact ih20 μ (x2 ||| 0) (x3 + 1) _ _ _ hF hf (lv_sub hl [2, 1, 0] rfl)
        · replace hF := (if_neg c10).symm.trans hF
          refine lv_iconst (v := 1) hx hb dX4_owedBehind_41 (by decide) ?_
          refine lv_iload_n hx hb dX4_owedBehind_42 rfl (lv_at hl 2 rfl) ?_
          refine lv_ishl hx hb dX4_owedBehind_43 ?_
          refine lv_goto (tgt := 48) hx hb dX4_owedBehind_44 (by decide) ?_
          refine lv_ior hx hb dX4_owedBehind_48 ?_
          refine lv_istore_n (lv' := [(2, .int (x2 ||| (1 <<< (x3 &&& 31)))), (0, .ref (ad 0)), (3, .int x3)]) hx hb dX4_owedBehind_49 rfl hl (by decide) rfl (fun ls hl => ?_)
          refine lv_iinc (v := x3 + 1) (lv' := [(3, .int (x3 + 1)), (2, .int (x2 ||| (1 <<< (x3 &&& 31)))), (0, .ref (ad 0))]) hx hb dX4_owedBehind_50 hl (k := 2) rfl rfl (by decide) rfl (fun ls hl => ?_)
          refine lv_goto (tgt := 20) hx hb dX4_owedBehind_53 (by decide) ?_
          exact ih20 μ (x2 ||| (1 <<< (x3 &&& 31))) (x3 + 1) _ _ _ hF hf (lv_sub hl [2, 1, 0] rfl)
  unfold f_X4_owedBehind at hF
  refine lv_aload_n hx hb dX4_owedBehind_0 rfl (lv_at hl 0 rfl) ?_
  refine g_get (ci := 4) (C := RX4) (T := TX4) (N := 21) (v := .ref (ad 1)) S hf hinX4 0 rfl rfl 0 (by decide) k9 rfl rfl dX4_owedBehind_1 ?_
  refine lv_aload_n hx hb dX4_owedBehind_4 rfl (lv_at hl 0 rfl) ?_
  refine g_get (ci := 4) (C := RX4) (T := TX4) (N := 21) (v := .ref (ad 3)) S hf hinX4 0 rfl rfl 2 (by decide) k16 rfl rfl dX4_owedBehind_5 ?_
  obtain ⟨q1, h2, hF⟩ := Option.bind_eq_some_iff.mp hF
  refine g_cs (o := none) (As := [.ref (ad 1), .ref (ad 3)]) (rest := []) (st1 := []) (a := List.take 2 (wM G ad μ0)) (b := List.drop 4 (wM G ad μ0)) S hf (c_X4_copyRow l G (ad 1) (ad 3) (μ0 0) (μ0 2) q1 h2) (va_cwS 2 hts gX4_owedBehind_X4_copyRow rfl rfl rfl (by decide +kernel) ⟨Nat.le_of_ble_eq_true rfl, Nat.le_of_ble_eq_true rfl⟩) rfl rfl rfl hl.1 rfl rfl (Nat.le_of_ble_eq_true rfl) ⟨Nat.zero_le _, Nat.zero_le _⟩ dX4_owedBehind_8 (fun H locs hf => ?_)
  have hf : Fr G (va_A (wM G ad μ0) s.heap.size) s (wM G ad (va_up μ0 2 q1)) H locs := hf
  refine lv_aload_n hx hb dX4_owedBehind_11 rfl (lv_at hl 0 rfl) ?_
  refine lv_iload_n hx hb dX4_owedBehind_12 rfl (lv_at hl 1 rfl) ?_
  obtain ⟨q3, h4, hF⟩ := Option.bind_eq_some_iff.mp hF
  refine g_cv0 (o := none) (As := [.int a1]) (rest := []) (st1 := []) (ci := 4) S hf (c_X4_daysGo l G ad (va_up μ0 2 q1) a1 q3 h4) (cwV 1 hts gX4_owedBehind_X4_daysGo rfl rfl rfl (by decide +kernel) ⟨Nat.le_of_ble_eq_true rfl, Nat.le_of_ble_eq_true rfl⟩) rfl rfl rfl 0 rfl rfl hl.1 rfl rfl (Nat.le_of_ble_eq_true rfl) ⟨Nat.zero_le _, Nat.zero_le _⟩ dX4_owedBehind_13 (fun H locs hf => ?_)
  have hf : Fr G (va_A (wM G ad μ0) s.heap.size) s (wM G ad q3) H locs := hf
  refine lv_iconst (v := 0) hx hb dX4_owedBehind_16 (by decide) ?_
  refine lv_istore_n (lv' := [(2, .int 0), (0, .ref (ad 0)), (1, .int a1)]) hx hb dX4_owedBehind_17 rfl hl (by decide) rfl (fun ls hl => ?_)
  refine lv_iconst (v := 0) hx hb dX4_owedBehind_18 (by decide) ?_
  refine lv_istore_n (lv' := [(3, .int 0), (2, .int 0), (0, .ref (ad 0)), (1, .int a1)]) hx hb dX4_owedBehind_19 rfl hl (by decide) rfl (fun ls hl => ?_)
  exact hL20 1000 q3 0 0 _ _ _ hF hf (lv_sub hl [2, 1, 0] rfl)
def f_X4_harvestFor_B75 (μ : K2) (x1 : Int32) (x3 : Int32) (x4 : Int32) : Option (Int32 × K2) := if ix (4 + x1) 92 then (Option.bind (f_X4_orNone (va_up μ 0 (upd (μ 0) ((4 + x1).toNatClampNeg) x3)) x4) (fun q12 => some (q12.1, q12.2))) else none
def f_X4_harvestFor_L37 : Nat → K2 → Int32 → Int32 → Int32 → Int32 → Int32 → Option (Int32 × K2)
  | 0, _, _, _, _, _, _ => none
  | n + 1, μ, x1, x2, x3, x4, x5 => if x5 < 0 then (f_X4_harvestFor_B75 μ x1 x3 x4) else (if ix (4 + x1) 92 then (Option.bind (f_X4_owedBehind (va_up μ 0 (upd (μ 0) ((4 + x1).toNatClampNeg) x5)) x2) (fun q15 => if q15.1 = 0 then (f_X4_harvestFor_L37 n q15.2 x1 x2 x3 x5 (x5 + (-1))) else (f_X4_harvestFor_L37 n q15.2 x1 x2 x3 x4 (x5 + (-1))))) else none)
def f_X4_harvestFor (μ0 : K2) (a1 : Int32) (a2 : Int32) : Option (Int32 × K2) := Option.bind (f_X4_isPlace a1) (fun q1 => if q1 = 0 then (Option.bind (f_X4_finding μ0 (-1000001)) (fun q4 => some (q4.1, q4.2))) else (Option.bind (f_X4_isThought a2) (fun q6 => if q6 = 0 then (Option.bind (f_X4_finding μ0 (-1000001)) (fun q18 => some (q18.1, q18.2))) else (if ix (4 + a1) 92 then (f_X4_harvestFor_L37 1000 μ0 a1 a2 ((μ0 0) (4 + a1).toNatClampNeg) (-1) 99) else none))))
set_option maxHeartbeats 4000000 in
set_option maxRecDepth 100000 in
theorem c_X4_harvestFor (l : Launch) (G : GT) (ad : Nat → Nat) (μ0 : K2) (a1 : Int32) (a2 : Int32) (q : Int32 × K2) (hF : f_X4_harvestFor μ0 a1 a2 = some q) : Ct l G yX4_harvestFor wsX4_harvestFor ({ frames := 10, cells := 0, slots := 0, locals := 220 } : Room) ([.ref (ad 0), .int a1, .int a2] : List Value) (wM G ad μ0) (some (.int q.1)) (wM G ad q.2) := by
  have kc63 : Cond.constant RX4 63 (-1000001) ∈ wsX4_harvestFor := by decide +kernel
  have k9 : Cond.fieldLink RX4 9 "PigeonRollsModel" "now" "[I" ∈ wsX4_harvestFor := by decide +kernel
  have hinX4 : ∀ w ∈ u_ws RX4 TX4 21, w ∈ wsX4_harvestFor := by decide +kernel
  refine Ct.of cX4_harvestFor 6 (some .int) (by decide) rfl (Nat.le_of_ble_eq_true rfl) ?_
  intro p e s m below meth c ls S hr hlocks hf hl
  have S : CallFix p m c cX4_harvestFor 6 s ([.ref (ad 0), .int a1, .int a2] : List Value).toArray wsX4_harvestFor RX4 := S
  obtain ⟨hx, hb, hml, hown, hts⟩ := id S
  have hl : lv_has ls 6 [(0, .ref (ad 0)), (1, .int a1), (2, .int a2)] := hl
  have hL75 : ∀ (μ : K2) (x1 : Int32) (x3 : Int32) (x4 : Int32)  (H : Heap) (locs : List Loc) (ls : Array Slot), f_X4_harvestFor_B75 μ x1 x3 x4 = some q → Fr G (va_A (wM G ad μ0) s.heap.size) s (wM G ad μ) H locs → lv_has ls 6 [(0, .ref (ad 0)), (1, .int x1), (3, .int x3), (4, .int x4)] → W p l e ({ frames := 10, cells := 0, slots := 0, locals := 220 } : Room) s m ([.ref (ad 0), .int a1, .int a2] : List Value).toArray below meth c H locs 0 0 (MQ below (CPost G (wM G ad μ0) s.heap.size (some (.int q.1)) (wM G ad q.2)) ([.ref (ad 0), .int a1, .int a2] : List Value).toArray s 0 0 (va_A (wM G ad μ0) s.heap.size)) (F0 m 75 ls []) := by
    intro μ x1 x3 x4 H locs ls hF hf hl
    unfold f_X4_harvestFor_B75 at hF
    refine lv_aload_n hx hb dX4_harvestFor_75 rfl (lv_at hl 0 rfl) ?_
    refine g_get (ci := 4) (C := RX4) (T := TX4) (N := 21) (v := .ref (ad 1)) S hf hinX4 0 rfl rfl 0 (by decide) k9 rfl rfl dX4_harvestFor_76 ?_
    refine lv_iconst (v := 4) hx hb dX4_harvestFor_79 (by decide) ?_
    refine lv_iload_n hx hb dX4_harvestFor_80 rfl (lv_at hl 1 rfl) ?_
    refine lv_iadd hx hb dX4_harvestFor_81 ?_
    refine lv_iload_n hx hb dX4_harvestFor_82 rfl (lv_at hl 2 rfl) ?_
    obtain ⟨g11, hF⟩ := gd_some hF
    refine g_ast (ww' := wM G ad (va_up μ 0 (upd (μ 0) ((4 + x1).toNatClampNeg) x3))) S hf 2 rfl g11 rfl dX4_harvestFor_83 (fun H locs hf => ?_)
    refine lv_aload_n hx hb dX4_harvestFor_84 rfl (lv_at hl 0 rfl) ?_
    refine lv_iload hx hb dX4_harvestFor_85 (lv_at hl 3 rfl) ?_
    obtain ⟨q12, h13, hF⟩ := Option.bind_eq_some_iff.mp hF
    refine g_cv0 (o := some (.int q12.1)) (As := [.int x4]) (rest := []) (st1 := [.int q12.1]) (ci := 4) S hf (c_X4_orNone l G ad (va_up μ 0 (upd (μ 0) ((4 + x1).toNatClampNeg) x3)) x4 q12 h13) (cwV 1 hts gX4_harvestFor_X4_orNone rfl rfl rfl (by decide +kernel) ⟨Nat.le_of_ble_eq_true rfl, Nat.le_of_ble_eq_true rfl⟩) rfl rfl rfl 0 rfl rfl hl.1 rfl rfl (Nat.le_of_ble_eq_true rfl) ⟨Nat.zero_le _, Nat.zero_le _⟩ dX4_harvestFor_87 (fun H locs hf => ?_)
    have hf : Fr G (va_A (wM G ad μ0) s.heap.size) s (wM G ad q12.2) H locs := hf
    have hE := Option.some.inj hF
    have hV := congrArg (fun z : Int32 × K2 => z.1) hE
    have hW := congrArg (fun z : Int32 × K2 => wM G ad z.2) hE
    exact g_iret S hr hlocks hf hV hW dX4_harvestFor_90
  have hL37 : ∀ (n : Nat) (μ : K2) (x1 : Int32) (x2 : Int32) (x3 : Int32) (x4 : Int32) (x5 : Int32)  (H : Heap) (locs : List Loc) (ls : Array Slot), f_X4_harvestFor_L37 n μ x1 x2 x3 x4 x5 = some q → Fr G (va_A (wM G ad μ0) s.heap.size) s (wM G ad μ) H locs → lv_has ls 6 [(0, .ref (ad 0)), (1, .int x1), (2, .int x2), (3, .int x3), (4, .int x4), (5, .int x5)] → W p l e ({ frames := 10, cells := 0, slots := 0, locals := 220 } : Room) s m ([.ref (ad 0), .int a1, .int a2] : List Value).toArray below meth c H locs 0 0 (MQ below (CPost G (wM G ad μ0) s.heap.size (some (.int q.1)) (wM G ad q.2)) ([.ref (ad 0), .int a1, .int a2] : List Value).toArray s 0 0 (va_A (wM G ad μ0) s.heap.size)) (F0 m 37 ls []) := by
    intro n
    induction n with
    | zero =>
      intro μ x1 x2 x3 x4 x5 H locs ls hF hf hl
      exact absurd hF (by simp [f_X4_harvestFor_L37])
    | succ n ih37 =>
      intro μ x1 x2 x3 x4 x5 H locs ls hF hf hl
      rw [f_X4_harvestFor_L37] at hF
      refine lv_iload hx hb dX4_harvestFor_37 (lv_at hl 5 rfl) ?_
      refine lv_if_lt (tgt := 75) hx hb dX4_harvestFor_39 (by decide) (fun c10 => ?_) (fun c10 => ?_)
      · replace hF := (if_pos c10).symm.trans hF
        exact hL75 μ x1 x3 x4 _ _ _ hF hf (lv_sub hl [0, 1, 3, 4] rfl)
      · replace hF := (if_neg c10).symm.trans hF
        refine lv_aload_n hx hb dX4_harvestFor_42 rfl (lv_at hl 0 rfl) ?_
        refine g_get (ci := 4) (C := RX4) (T := TX4) (N := 21) (v := .ref (ad 1)) S hf hinX4 0 rfl rfl 0 (by decide) k9 rfl rfl dX4_harvestFor_43 ?_
        refine lv_iconst (v := 4) hx hb dX4_harvestFor_46 (by decide) ?_
        refine lv_iload_n hx hb dX4_harvestFor_47 rfl (lv_at hl 1 rfl) ?_
        refine lv_iadd hx hb dX4_harvestFor_48 ?_
        refine lv_iload hx hb dX4_harvestFor_49 (lv_at hl 5 rfl) ?_
        obtain ⟨g14, hF⟩ := gd_some hF
        refine g_ast (ww' := wM G ad (va_up μ 0 (upd (μ 0) ((4 + x1).toNatClampNeg) x5))) S hf 2 rfl g14 rfl dX4_harvestFor_51 (fun H locs hf => ?_)
        refine lv_aload_n hx hb dX4_harvestFor_52 rfl (lv_at hl 0 rfl) ?_
        refine lv_iload_n hx hb dX4_harvestFor_53 rfl (lv_at hl 2 rfl) ?_
        obtain ⟨q15, h16, hF⟩ := Option.bind_eq_some_iff.mp hF
        refine g_cv0 (o := some (.int q15.1)) (As := [.int x2]) (rest := []) (st1 := [.int q15.1]) (ci := 4) S hf (c_X4_owedBehind l G ad (va_up μ 0 (upd (μ 0) ((4 + x1).toNatClampNeg) x5)) x2 q15 h16) (cwV 1 hts gX4_harvestFor_X4_owedBehind rfl rfl rfl (by decide +kernel) ⟨Nat.le_of_ble_eq_true rfl, Nat.le_of_ble_eq_true rfl⟩) rfl rfl rfl 0 rfl rfl hl.1 rfl rfl (Nat.le_of_ble_eq_true rfl) ⟨Nat.zero_le _, Nat.zero_le _⟩ dX4_harvestFor_54 (fun H locs hf => ?_)
        have hf : Fr G (va_A (wM G ad μ0) s.heap.size) s (wM G ad q15.2) H locs := hf
        refine lv_if_ne (tgt := 65) hx hb dX4_harvestFor_57 (by decide) (fun c17 => ?_) (fun c17 => ?_)
        · replace hF := (if_neg c17).symm.trans hF
          refine lv_iload hx hb dX4_harvestFor_65 (lv_at hl 4 rfl) ?_
          refine lv_istore (lv' := [(4, .int x4), (0, .ref (ad 0)), (1, .int x1), (2, .int x2), (3, .int x3), (5, .int x5)]) hx hb dX4_harvestFor_67 hl (by decide) rfl (fun ls hl => ?_)
          refine lv_iinc (v := x5 + (-1)) (lv' := [(5, .int (x5 + (-1))), (4, .int x4), (0, .ref (ad 0)), (1, .int x1), (2, .int x2), (3, .int x3)]) hx hb dX4_harvestFor_69 hl (k := 5) rfl rfl (by decide) rfl (fun ls hl => ?_)
          refine lv_goto (tgt := 37) hx hb dX4_harvestFor_72 (by decide) ?_
          exact ih37 q15.2 x1 x2 x3 x4 (x5 + (-1)) _ _ _ hF hf (lv_sub hl [2, 3, 4, 5, 1, 0] rfl)
        · replace hF := (if_pos c17).symm.trans hF
          refine lv_iload hx hb dX4_harvestFor_60 (lv_at hl 5 rfl) ?_
          refine lv_goto (tgt := 67) hx hb dX4_harvestFor_62 (by decide) ?_
          refine lv_istore (lv' := [(4, .int x5), (0, .ref (ad 0)), (1, .int x1), (2, .int x2), (3, .int x3), (5, .int x5)]) hx hb dX4_harvestFor_67 hl (by decide) rfl (fun ls hl => ?_)
          refine lv_iinc (v := x5 + (-1)) (lv' := [(5, .int (x5 + (-1))), (4, .int x5), (0, .ref (ad 0)), (1, .int x1), (2, .int x2), (3, .int x3)]) hx hb dX4_harvestFor_69 hl (k := 5) rfl rfl (by decide) rfl (fun ls hl => ?_)
          refine lv_goto (tgt := 37) hx hb dX4_harvestFor_72 (by decide) ?_
          exact ih37 q15.2 x1 x2 x3 x5 (x5 + (-1)) _ _ _ hF hf (lv_sub hl [2, 3, 4, 5, 1, 0] rfl)
  unfold f_X4_harvestFor at hF
  refine lv_iload_n hx hb dX4_harvestFor_0 rfl (lv_at hl 1 rfl) ?_
  obtain ⟨q1, h2, hF⟩ := Option.bind_eq_some_iff.mp hF
  refine g_cs0 (o := some (.int q1)) (As := [.int a1]) (rest := []) (st1 := [.int q1]) S hf (c_X4_isPlace l G  a1 q1 h2) (va_cwS 1 hts gX4_harvestFor_X4_isPlace rfl rfl rfl (by decide +kernel) ⟨Nat.le_of_ble_eq_true rfl, Nat.le_of_ble_eq_true rfl⟩) rfl hl.1 rfl rfl (Nat.le_of_ble_eq_true rfl) ⟨Nat.zero_le _, Nat.zero_le _⟩ dX4_harvestFor_1 (fun H locs hf => ?_)
  refine lv_if_eq (tgt := 14) hx hb dX4_harvestFor_4 (by decide) (fun c3 => ?_) (fun c3 => ?_)
  · replace hF := (if_pos c3).symm.trans hF
    refine lv_aload_n hx hb dX4_harvestFor_14 rfl (lv_at hl 0 rfl) ?_
    refine lv_ldc (v := -1000001) hx hb hown (hts _ kc63) dX4_harvestFor_15 ?_
    obtain ⟨q4, h5, hF⟩ := Option.bind_eq_some_iff.mp hF
    refine g_cv0 (o := some (.int q4.1)) (As := [.int (-1000001)]) (rest := []) (st1 := [.int q4.1]) (ci := 4) S hf (c_X4_finding l G ad μ0 (-1000001) q4 h5) (cwV 1 hts gX4_harvestFor_X4_finding rfl rfl rfl (by decide +kernel) ⟨Nat.le_of_ble_eq_true rfl, Nat.le_of_ble_eq_true rfl⟩) rfl rfl rfl 0 rfl rfl hl.1 rfl rfl (Nat.le_of_ble_eq_true rfl) ⟨Nat.zero_le _, Nat.zero_le _⟩ dX4_harvestFor_17 (fun H locs hf => ?_)
    have hf : Fr G (va_A (wM G ad μ0) s.heap.size) s (wM G ad q4.2) H locs := hf
    have hE := Option.some.inj hF
    have hV := congrArg (fun z : Int32 × K2 => z.1) hE
    have hW := congrArg (fun z : Int32 × K2 => wM G ad z.2) hE
    exact g_iret S hr hlocks hf hV hW dX4_harvestFor_20
  · replace hF := (if_neg c3).symm.trans hF
    refine lv_iload_n hx hb dX4_harvestFor_7 rfl (lv_at hl 2 rfl) ?_
    obtain ⟨q6, h7, hF⟩ := Option.bind_eq_some_iff.mp hF
    refine g_cs0 (o := some (.int q6)) (As := [.int a2]) (rest := []) (st1 := [.int q6]) S hf (c_X4_isThought l G  a2 q6 h7) (va_cwS 1 hts gX4_harvestFor_X4_isThought rfl rfl rfl (by decide +kernel) ⟨Nat.le_of_ble_eq_true rfl, Nat.le_of_ble_eq_true rfl⟩) rfl hl.1 rfl rfl (Nat.le_of_ble_eq_true rfl) ⟨Nat.zero_le _, Nat.zero_le _⟩ dX4_harvestFor_8 (fun H locs hf => ?_)
    refine lv_if_ne (tgt := 21) hx hb dX4_harvestFor_11 (by decide) (fun c8 => ?_) (fun c8 => ?_)
    · replace hF := (if_neg c8).symm.trans hF
      refine lv_aload_n hx hb dX4_harvestFor_21 rfl (lv_at hl 0 rfl) ?_
      refine g_get (ci := 4) (C := RX4) (T := TX4) (N := 21) (v := .ref (ad 1)) S hf hinX4 0 rfl rfl 0 (by decide) k9 rfl rfl dX4_harvestFor_22 ?_
      refine lv_iconst (v := 4) hx hb dX4_harvestFor_25 (by decide) ?_
      refine lv_iload_n hx hb dX4_harvestFor_26 rfl (lv_at hl 1 rfl) ?_
      refine lv_iadd hx hb dX4_harvestFor_27 ?_
      obtain ⟨g9, hF⟩ := gd_some hF
      refine g_ald (v := (μ0 0) (4 + a1).toNatClampNeg) S hf 2 rfl g9 rfl dX4_harvestFor_28 ?_
      refine lv_istore_n (lv' := [(3, .int ((μ0 0) (4 + a1).toNatClampNeg)), (0, .ref (ad 0)), (1, .int a1), (2, .int a2)]) hx hb dX4_harvestFor_29 rfl hl (by decide) rfl (fun ls hl => ?_)
      refine lv_iconst (v := -1) hx hb dX4_harvestFor_30 (by decide) ?_
      refine lv_istore (lv' := [(4, .int (-1)), (3, .int ((μ0 0) (4 + a1).toNatClampNeg)), (0, .ref (ad 0)), (1, .int a1), (2, .int a2)]) hx hb dX4_harvestFor_31 hl (by decide) rfl (fun ls hl => ?_)
      refine lv_bipush (v := 99) hx hb dX4_harvestFor_33 (by decide) ?_
      refine lv_istore (lv' := [(5, .int 99), (4, .int (-1)), (3, .int ((μ0 0) (4 + a1).toNatClampNeg)), (0, .ref (ad 0)), (1, .int a1), (2, .int a2)]) hx hb dX4_harvestFor_35 hl (by decide) rfl (fun ls hl => ?_)
      exact hL37 1000 μ0 a1 a2 ((μ0 0) (4 + a1).toNatClampNeg) (-1) 99 _ _ _ hF hf (lv_sub hl [3, 4, 5, 2, 1, 0] rfl)
    · replace hF := (if_pos c8).symm.trans hF
      refine lv_aload_n hx hb dX4_harvestFor_14 rfl (lv_at hl 0 rfl) ?_
      refine lv_ldc (v := -1000001) hx hb hown (hts _ kc63) dX4_harvestFor_15 ?_
      obtain ⟨q18, h19, hF⟩ := Option.bind_eq_some_iff.mp hF
      refine g_cv0 (o := some (.int q18.1)) (As := [.int (-1000001)]) (rest := []) (st1 := [.int q18.1]) (ci := 4) S hf (c_X4_finding l G ad μ0 (-1000001) q18 h19) (cwV 1 hts gX4_harvestFor_X4_finding rfl rfl rfl (by decide +kernel) ⟨Nat.le_of_ble_eq_true rfl, Nat.le_of_ble_eq_true rfl⟩) rfl rfl rfl 0 rfl rfl hl.1 rfl rfl (Nat.le_of_ble_eq_true rfl) ⟨Nat.zero_le _, Nat.zero_le _⟩ dX4_harvestFor_17 (fun H locs hf => ?_)
      have hf : Fr G (va_A (wM G ad μ0) s.heap.size) s (wM G ad q18.2) H locs := hf
      have hE := Option.some.inj hF
      have hV := congrArg (fun z : Int32 × K2 => z.1) hE
      have hW := congrArg (fun z : Int32 × K2 => wM G ad z.2) hE
      exact g_iret S hr hlocks hf hV hW dX4_harvestFor_20
def f_X4_kindFor_B94 (μ : K2) (x3 : Int32) (x4 : Int32) (x5 : Int32) : Option (Int32 × K2) := if ix x3 92 then (some (x5, va_up μ 0 (upd (μ 0) x3.toNatClampNeg x4))) else none
def f_X4_kindFor_L45 : Nat → K2 → Int32 → Int32 → Int32 → Int32 → Int32 → Int32 → Int32 → Option (Int32 × K2)
  | 0, _, _, _, _, _, _, _, _ => none
  | n + 1, μ, x1, x2, x3, x4, x5, x6, x7 => if 6 < x7 then (f_X4_kindFor_B94 μ x3 x4 x5) else (if ix x3 92 then (Option.bind (f_X4_birdAt x1 8) (fun q15 => Option.bind (f_X4_behind (va_up μ 0 (upd (μ 0) x3.toNatClampNeg x7)) q15 x2) (fun q17 => if q17.1 ≤ x6 then (f_X4_kindFor_L45 n q17.2 x1 x2 x3 x4 x5 x6 (x7 + 1)) else (f_X4_kindFor_L45 n q17.2 x1 x2 x3 x4 x7 q17.1 (x7 + 1))))) else none)
def f_X4_kindFor (μ0 : K2) (a1 : Int32) (a2 : Int32) : Option (Int32 × K2) := Option.bind (f_X4_isBird μ0 a1) (fun q1 => if q1 = 0 then (Option.bind (f_X4_finding μ0 (-1000001)) (fun q4 => some (q4.1, q4.2))) else (Option.bind (f_X4_isThought a2) (fun q6 => if q6 = 0 then (Option.bind (f_X4_finding μ0 (-1000001)) (fun q20 => some (q20.1, q20.2))) else (Option.bind (f_X4_birdAt a1 0) (fun q9 => if ix q9 92 then (f_X4_kindFor_L45 1000 μ0 a1 a2 q9 ((μ0 0) q9.toNatClampNeg) 0 (-1) 0) else none)))))
set_option maxHeartbeats 4000000 in
set_option maxRecDepth 100000 in
theorem c_X4_kindFor (l : Launch) (G : GT) (ad : Nat → Nat) (μ0 : K2) (a1 : Int32) (a2 : Int32) (q : Int32 × K2) (hF : f_X4_kindFor μ0 a1 a2 = some q) : Ct l G yX4_kindFor wsX4_kindFor ({ frames := 10, cells := 0, slots := 0, locals := 219 } : Room) ([.ref (ad 0), .int a1, .int a2] : List Value) (wM G ad μ0) (some (.int q.1)) (wM G ad q.2) := by
  have kc63 : Cond.constant RX4 63 (-1000001) ∈ wsX4_kindFor := by decide +kernel
  have k9 : Cond.fieldLink RX4 9 "PigeonRollsModel" "now" "[I" ∈ wsX4_kindFor := by decide +kernel
  have hinX4 : ∀ w ∈ u_ws RX4 TX4 21, w ∈ wsX4_kindFor := by decide +kernel
  refine Ct.of cX4_kindFor 9 (some .int) (by decide) rfl (Nat.le_of_ble_eq_true rfl) ?_
  intro p e s m below meth c ls S hr hlocks hf hl
  have S : CallFix p m c cX4_kindFor 9 s ([.ref (ad 0), .int a1, .int a2] : List Value).toArray wsX4_kindFor RX4 := S
  obtain ⟨hx, hb, hml, hown, hts⟩ := id S
  have hl : lv_has ls 9 [(0, .ref (ad 0)), (1, .int a1), (2, .int a2)] := hl
  have hL94 : ∀ (μ : K2) (x3 : Int32) (x4 : Int32) (x5 : Int32)  (H : Heap) (locs : List Loc) (ls : Array Slot), f_X4_kindFor_B94 μ x3 x4 x5 = some q → Fr G (va_A (wM G ad μ0) s.heap.size) s (wM G ad μ) H locs → lv_has ls 9 [(0, .ref (ad 0)), (3, .int x3), (4, .int x4), (5, .int x5)] → W p l e ({ frames := 10, cells := 0, slots := 0, locals := 219 } : Room) s m ([.ref (ad 0), .int a1, .int a2] : List Value).toArray below meth c H locs 0 0 (MQ below (CPost G (wM G ad μ0) s.heap.size (some (.int q.1)) (wM G ad q.2)) ([.ref (ad 0), .int a1, .int a2] : List Value).toArray s 0 0 (va_A (wM G ad μ0) s.heap.size)) (F0 m 94 ls []) := by
    intro μ x3 x4 x5 H locs ls hF hf hl
    unfold f_X4_kindFor_B94 at hF
    refine lv_aload_n hx hb dX4_kindFor_94 rfl (lv_at hl 0 rfl) ?_
    refine g_get (ci := 4) (C := RX4) (T := TX4) (N := 21) (v := .ref (ad 1)) S hf hinX4 0 rfl rfl 0 (by decide) k9 rfl rfl dX4_kindFor_95 ?_
    refine lv_iload_n hx hb dX4_kindFor_98 rfl (lv_at hl 1 rfl) ?_
    refine lv_iload hx hb dX4_kindFor_99 (lv_at hl 2 rfl) ?_
    obtain ⟨g13, hF⟩ := gd_some hF
    refine g_ast (ww' := wM G ad (va_up μ 0 (upd (μ 0) x3.toNatClampNeg x4))) S hf 2 rfl g13 rfl dX4_kindFor_101 (fun H locs hf => ?_)
    refine lv_iload hx hb dX4_kindFor_102 (lv_at hl 3 rfl) ?_
    have hE := Option.some.inj hF
    have hV := congrArg (fun z : Int32 × K2 => z.1) hE
    have hW := congrArg (fun z : Int32 × K2 => wM G ad z.2) hE
    exact g_iret S hr hlocks hf hV hW dX4_kindFor_104
  have hL45 : ∀ (n : Nat) (μ : K2) (x1 : Int32) (x2 : Int32) (x3 : Int32) (x4 : Int32) (x5 : Int32) (x6 : Int32) (x7 : Int32)  (H : Heap) (locs : List Loc) (ls : Array Slot), f_X4_kindFor_L45 n μ x1 x2 x3 x4 x5 x6 x7 = some q → Fr G (va_A (wM G ad μ0) s.heap.size) s (wM G ad μ) H locs → lv_has ls 9 [(0, .ref (ad 0)), (1, .int x1), (2, .int x2), (3, .int x3), (4, .int x4), (5, .int x5), (6, .int x6), (7, .int x7)] → W p l e ({ frames := 10, cells := 0, slots := 0, locals := 219 } : Room) s m ([.ref (ad 0), .int a1, .int a2] : List Value).toArray below meth c H locs 0 0 (MQ below (CPost G (wM G ad μ0) s.heap.size (some (.int q.1)) (wM G ad q.2)) ([.ref (ad 0), .int a1, .int a2] : List Value).toArray s 0 0 (va_A (wM G ad μ0) s.heap.size)) (F0 m 45 ls []) := by
    intro n
    induction n with
    | zero =>
      intro μ x1 x2 x3 x4 x5 x6 x7 H locs ls hF hf hl
      exact absurd hF (by simp [f_X4_kindFor_L45])
    | succ n ih45 =>
      intro μ x1 x2 x3 x4 x5 x6 x7 H locs ls hF hf hl
      rw [f_X4_kindFor_L45] at hF
      refine lv_iload hx hb dX4_kindFor_45 (lv_at hl 7 rfl) ?_
      refine lv_bipush (v := 6) hx hb dX4_kindFor_47 (by decide) ?_
      refine lv_icmp_gt (tgt := 94) hx hb dX4_kindFor_49 (by decide) (fun c12 => ?_) (fun c12 => ?_)
      · replace hF := (if_pos c12).symm.trans hF
        exact hL94 μ x3 x4 x5 _ _ _ hF hf (lv_sub hl [0, 3, 4, 5] rfl)
      · replace hF := (if_neg c12).symm.trans hF
        refine lv_aload_n hx hb dX4_kindFor_52 rfl (lv_at hl 0 rfl) ?_
        refine g_get (ci := 4) (C := RX4) (T := TX4) (N := 21) (v := .ref (ad 1)) S hf hinX4 0 rfl rfl 0 (by decide) k9 rfl rfl dX4_kindFor_53 ?_
        refine lv_iload_n hx hb dX4_kindFor_56 rfl (lv_at hl 3 rfl) ?_
        refine lv_iload hx hb dX4_kindFor_57 (lv_at hl 7 rfl) ?_
        obtain ⟨g14, hF⟩ := gd_some hF
        refine g_ast (ww' := wM G ad (va_up μ 0 (upd (μ 0) x3.toNatClampNeg x7))) S hf 2 rfl g14 rfl dX4_kindFor_59 (fun H locs hf => ?_)
        refine lv_aload_n hx hb dX4_kindFor_60 rfl (lv_at hl 0 rfl) ?_
        refine lv_iload_n hx hb dX4_kindFor_61 rfl (lv_at hl 1 rfl) ?_
        refine lv_bipush (v := 8) hx hb dX4_kindFor_62 (by decide) ?_
        obtain ⟨q15, h16, hF⟩ := Option.bind_eq_some_iff.mp hF
        refine g_cs0 (o := some (.int q15)) (As := [.int x1, .int 8]) (rest := [.ref (ad 0)]) (st1 := [.int q15, .ref (ad 0)]) S hf (c_X4_birdAt l G  x1 8 q15 h16) (va_cwS 2 hts gX4_kindFor_X4_birdAt rfl rfl rfl (by decide +kernel) ⟨Nat.le_of_ble_eq_true rfl, Nat.le_of_ble_eq_true rfl⟩) rfl hl.1 rfl rfl (Nat.le_of_ble_eq_true rfl) ⟨Nat.zero_le _, Nat.zero_le _⟩ dX4_kindFor_64 (fun H locs hf => ?_)
        refine lv_iload_n hx hb dX4_kindFor_67 rfl (lv_at hl 2 rfl) ?_
        obtain ⟨q17, h18, hF⟩ := Option.bind_eq_some_iff.mp hF
        refine g_cv0 (o := some (.int q17.1)) (As := [.int q15, .int x2]) (rest := []) (st1 := [.int q17.1]) (ci := 4) S hf (c_X4_behind l G ad (va_up μ 0 (upd (μ 0) x3.toNatClampNeg x7)) q15 x2 q17 h18) (cwV 2 hts gX4_kindFor_X4_behind rfl rfl rfl (by decide +kernel) ⟨Nat.le_of_ble_eq_true rfl, Nat.le_of_ble_eq_true rfl⟩) rfl rfl rfl 0 rfl rfl hl.1 rfl rfl (Nat.le_of_ble_eq_true rfl) ⟨Nat.zero_le _, Nat.zero_le _⟩ dX4_kindFor_68 (fun H locs hf => ?_)
        have hf : Fr G (va_A (wM G ad μ0) s.heap.size) s (wM G ad q17.2) H locs := hf
        refine lv_istore (lv' := [(8, .int q17.1), (0, .ref (ad 0)), (1, .int x1), (2, .int x2), (3, .int x3), (4, .int x4), (5, .int x5), (6, .int x6), (7, .int x7)]) hx hb dX4_kindFor_71 hl (by decide) rfl (fun ls hl => ?_)
        refine lv_iload hx hb dX4_kindFor_73 (lv_at hl 0 rfl) ?_
        refine lv_iload hx hb dX4_kindFor_75 (lv_at hl 7 rfl) ?_
        refine lv_icmp_le (tgt := 88) hx hb dX4_kindFor_77 (by decide) (fun c19 => ?_) (fun c19 => ?_)
        · replace hF := (if_pos c19).symm.trans hF
          refine lv_iinc (v := x7 + 1) (lv' := [(7, .int (x7 + 1)), (8, .int q17.1), (0, .ref (ad 0)), (1, .int x1), (2, .int x2), (3, .int x3), (4, .int x4), (5, .int x5), (6, .int x6)]) hx hb dX4_kindFor_88 hl (k := 8) rfl rfl (by decide) rfl (fun ls hl => ?_)
          refine lv_goto (tgt := 45) hx hb dX4_kindFor_91 (by decide) ?_
          exact ih45 q17.2 x1 x2 x3 x4 x5 x6 (x7 + 1) _ _ _ hF hf (lv_sub hl [2, 3, 4, 5, 6, 7, 8, 0] rfl)
        · replace hF := (if_neg c19).symm.trans hF
          refine lv_iload hx hb dX4_kindFor_80 (lv_at hl 8 rfl) ?_
          refine lv_istore (lv' := [(5, .int x7), (8, .int q17.1), (0, .ref (ad 0)), (1, .int x1), (2, .int x2), (3, .int x3), (4, .int x4), (6, .int x6), (7, .int x7)]) hx hb dX4_kindFor_82 hl (by decide) rfl (fun ls hl => ?_)
          refine lv_iload hx hb dX4_kindFor_84 (lv_at hl 1 rfl) ?_
          refine lv_istore (lv' := [(6, .int q17.1), (5, .int x7), (8, .int q17.1), (0, .ref (ad 0)), (1, .int x1), (2, .int x2), (3, .int x3), (4, .int x4), (7, .int x7)]) hx hb dX4_kindFor_86 hl (by decide) rfl (fun ls hl => ?_)
          refine lv_iinc (v := x7 + 1) (lv' := [(7, .int (x7 + 1)), (6, .int q17.1), (5, .int x7), (8, .int q17.1), (0, .ref (ad 0)), (1, .int x1), (2, .int x2), (3, .int x3), (4, .int x4)]) hx hb dX4_kindFor_88 hl (k := 8) rfl rfl (by decide) rfl (fun ls hl => ?_)
          refine lv_goto (tgt := 45) hx hb dX4_kindFor_91 (by decide) ?_
          exact ih45 q17.2 x1 x2 x3 x4 x7 q17.1 (x7 + 1) _ _ _ hF hf (lv_sub hl [4, 5, 6, 7, 8, 2, 1, 0] rfl)
  unfold f_X4_kindFor at hF
  refine lv_aload_n hx hb dX4_kindFor_0 rfl (lv_at hl 0 rfl) ?_
  refine lv_iload_n hx hb dX4_kindFor_1 rfl (lv_at hl 1 rfl) ?_
  obtain ⟨q1, h2, hF⟩ := Option.bind_eq_some_iff.mp hF
  refine g_cv0 (o := some (.int q1)) (As := [.int a1]) (rest := []) (st1 := [.int q1]) (ci := 4) S hf (c_X4_isBird l G ad μ0 a1 q1 h2) (cwV 1 hts gX4_kindFor_X4_isBird rfl rfl rfl (by decide +kernel) ⟨Nat.le_of_ble_eq_true rfl, Nat.le_of_ble_eq_true rfl⟩) rfl rfl rfl 0 rfl rfl hl.1 rfl rfl (Nat.le_of_ble_eq_true rfl) ⟨Nat.zero_le _, Nat.zero_le _⟩ dX4_kindFor_2 (fun H locs hf => ?_)
  have hf : Fr G (va_A (wM G ad μ0) s.heap.size) s (wM G ad μ0) H locs := hf
  refine lv_if_eq (tgt := 15) hx hb dX4_kindFor_5 (by decide) (fun c3 => ?_) (fun c3 => ?_)
  · replace hF := (if_pos c3).symm.trans hF
    refine lv_aload_n hx hb dX4_kindFor_15 rfl (lv_at hl 0 rfl) ?_
    refine lv_ldc (v := -1000001) hx hb hown (hts _ kc63) dX4_kindFor_16 ?_
    obtain ⟨q4, h5, hF⟩ := Option.bind_eq_some_iff.mp hF
    refine g_cv0 (o := some (.int q4.1)) (As := [.int (-1000001)]) (rest := []) (st1 := [.int q4.1]) (ci := 4) S hf (c_X4_finding l G ad μ0 (-1000001) q4 h5) (cwV 1 hts gX4_kindFor_X4_finding rfl rfl rfl (by decide +kernel) ⟨Nat.le_of_ble_eq_true rfl, Nat.le_of_ble_eq_true rfl⟩) rfl rfl rfl 0 rfl rfl hl.1 rfl rfl (Nat.le_of_ble_eq_true rfl) ⟨Nat.zero_le _, Nat.zero_le _⟩ dX4_kindFor_18 (fun H locs hf => ?_)
    have hf : Fr G (va_A (wM G ad μ0) s.heap.size) s (wM G ad q4.2) H locs := hf
    have hE := Option.some.inj hF
    have hV := congrArg (fun z : Int32 × K2 => z.1) hE
    have hW := congrArg (fun z : Int32 × K2 => wM G ad z.2) hE
    exact g_iret S hr hlocks hf hV hW dX4_kindFor_21
  · replace hF := (if_neg c3).symm.trans hF
    refine lv_iload_n hx hb dX4_kindFor_8 rfl (lv_at hl 2 rfl) ?_
    obtain ⟨q6, h7, hF⟩ := Option.bind_eq_some_iff.mp hF
    refine g_cs0 (o := some (.int q6)) (As := [.int a2]) (rest := []) (st1 := [.int q6]) S hf (c_X4_isThought l G  a2 q6 h7) (va_cwS 1 hts gX4_kindFor_X4_isThought rfl rfl rfl (by decide +kernel) ⟨Nat.le_of_ble_eq_true rfl, Nat.le_of_ble_eq_true rfl⟩) rfl hl.1 rfl rfl (Nat.le_of_ble_eq_true rfl) ⟨Nat.zero_le _, Nat.zero_le _⟩ dX4_kindFor_9 (fun H locs hf => ?_)
    refine lv_if_ne (tgt := 22) hx hb dX4_kindFor_12 (by decide) (fun c8 => ?_) (fun c8 => ?_)
    · replace hF := (if_neg c8).symm.trans hF
      refine lv_iload_n hx hb dX4_kindFor_22 rfl (lv_at hl 1 rfl) ?_
      refine lv_iconst (v := 0) hx hb dX4_kindFor_23 (by decide) ?_
      obtain ⟨q9, h10, hF⟩ := Option.bind_eq_some_iff.mp hF
      refine g_cs0 (o := some (.int q9)) (As := [.int a1, .int 0]) (rest := []) (st1 := [.int q9]) S hf (c_X4_birdAt l G  a1 0 q9 h10) (va_cwS 2 hts gX4_kindFor_X4_birdAt rfl rfl rfl (by decide +kernel) ⟨Nat.le_of_ble_eq_true rfl, Nat.le_of_ble_eq_true rfl⟩) rfl hl.1 rfl rfl (Nat.le_of_ble_eq_true rfl) ⟨Nat.zero_le _, Nat.zero_le _⟩ dX4_kindFor_24 (fun H locs hf => ?_)
      refine lv_istore_n (lv' := [(3, .int q9), (0, .ref (ad 0)), (1, .int a1), (2, .int a2)]) hx hb dX4_kindFor_27 rfl hl (by decide) rfl (fun ls hl => ?_)
      refine lv_aload_n hx hb dX4_kindFor_28 rfl (lv_at hl 1 rfl) ?_
      refine g_get (ci := 4) (C := RX4) (T := TX4) (N := 21) (v := .ref (ad 1)) S hf hinX4 0 rfl rfl 0 (by decide) k9 rfl rfl dX4_kindFor_29 ?_
      refine lv_iload_n hx hb dX4_kindFor_32 rfl (lv_at hl 0 rfl) ?_
      obtain ⟨g11, hF⟩ := gd_some hF
      refine g_ald (v := (μ0 0) q9.toNatClampNeg) S hf 2 rfl g11 rfl dX4_kindFor_33 ?_
      refine lv_istore (lv' := [(4, .int ((μ0 0) q9.toNatClampNeg)), (3, .int q9), (0, .ref (ad 0)), (1, .int a1), (2, .int a2)]) hx hb dX4_kindFor_34 hl (by decide) rfl (fun ls hl => ?_)
      refine lv_iconst (v := 0) hx hb dX4_kindFor_36 (by decide) ?_
      refine lv_istore (lv' := [(5, .int 0), (4, .int ((μ0 0) q9.toNatClampNeg)), (3, .int q9), (0, .ref (ad 0)), (1, .int a1), (2, .int a2)]) hx hb dX4_kindFor_37 hl (by decide) rfl (fun ls hl => ?_)
      refine lv_iconst (v := -1) hx hb dX4_kindFor_39 (by decide) ?_
      refine lv_istore (lv' := [(6, .int (-1)), (5, .int 0), (4, .int ((μ0 0) q9.toNatClampNeg)), (3, .int q9), (0, .ref (ad 0)), (1, .int a1), (2, .int a2)]) hx hb dX4_kindFor_40 hl (by decide) rfl (fun ls hl => ?_)
      refine lv_iconst (v := 0) hx hb dX4_kindFor_42 (by decide) ?_
      refine lv_istore (lv' := [(7, .int 0), (6, .int (-1)), (5, .int 0), (4, .int ((μ0 0) q9.toNatClampNeg)), (3, .int q9), (0, .ref (ad 0)), (1, .int a1), (2, .int a2)]) hx hb dX4_kindFor_43 hl (by decide) rfl (fun ls hl => ?_)
      exact hL45 1000 μ0 a1 a2 q9 ((μ0 0) q9.toNatClampNeg) 0 (-1) 0 _ _ _ hF hf (lv_sub hl [5, 6, 7, 4, 3, 2, 1, 0] rfl)
    · replace hF := (if_pos c8).symm.trans hF
      refine lv_aload_n hx hb dX4_kindFor_15 rfl (lv_at hl 0 rfl) ?_
      refine lv_ldc (v := -1000001) hx hb hown (hts _ kc63) dX4_kindFor_16 ?_
      obtain ⟨q20, h21, hF⟩ := Option.bind_eq_some_iff.mp hF
      refine g_cv0 (o := some (.int q20.1)) (As := [.int (-1000001)]) (rest := []) (st1 := [.int q20.1]) (ci := 4) S hf (c_X4_finding l G ad μ0 (-1000001) q20 h21) (cwV 1 hts gX4_kindFor_X4_finding rfl rfl rfl (by decide +kernel) ⟨Nat.le_of_ble_eq_true rfl, Nat.le_of_ble_eq_true rfl⟩) rfl rfl rfl 0 rfl rfl hl.1 rfl rfl (Nat.le_of_ble_eq_true rfl) ⟨Nat.zero_le _, Nat.zero_le _⟩ dX4_kindFor_18 (fun H locs hf => ?_)
      have hf : Fr G (va_A (wM G ad μ0) s.heap.size) s (wM G ad q20.2) H locs := hf
      have hE := Option.some.inj hF
      have hV := congrArg (fun z : Int32 × K2 => z.1) hE
      have hW := congrArg (fun z : Int32 × K2 => wM G ad z.2) hE
      exact g_iret S hr hlocks hf hV hW dX4_kindFor_21
def f_X4_parentFor_B107 (μ : K2) (x3 : Int32) (x4 : Int32) (x5 : Int32) : Option (Int32 × K2) := if ix x3 92 then (some (x5, va_up μ 0 (upd (μ 0) x3.toNatClampNeg x4))) else none
def f_X4_parentFor_L45 : Nat → K2 → Int32 → Int32 → Int32 → Int32 → Int32 → Int32 → Int32 → Option (Int32 × K2)
  | 0, _, _, _, _, _, _, _, _ => none
  | n + 1, μ, x1, x2, x3, x4, x5, x6, x7 => if x1 < x7 then (f_X4_parentFor_B107 μ x3 x4 x5) else (if x7 = x1 then (if ix x3 92 then (Option.bind (f_X4_birdAt x1 8) (fun q22 => Option.bind (f_X4_behind (va_up μ 0 (upd (μ 0) x3.toNatClampNeg (-1))) q22 x2) (fun q24 => if q24.1 ≤ x6 then (f_X4_parentFor_L45 n q24.2 x1 x2 x3 x4 x5 x6 (x7 + 1)) else (f_X4_parentFor_L45 n q24.2 x1 x2 x3 x4 ((q24.2 0) x3.toNatClampNeg) q24.1 (x7 + 1))))) else none) else (if ix x3 92 then (Option.bind (f_X4_birdAt x1 8) (fun q16 => Option.bind (f_X4_behind (va_up μ 0 (upd (μ 0) x3.toNatClampNeg x7)) q16 x2) (fun q18 => if q18.1 ≤ x6 then (f_X4_parentFor_L45 n q18.2 x1 x2 x3 x4 x5 x6 (x7 + 1)) else (f_X4_parentFor_L45 n q18.2 x1 x2 x3 x4 ((q18.2 0) x3.toNatClampNeg) q18.1 (x7 + 1))))) else none))
def f_X4_parentFor (μ0 : K2) (a1 : Int32) (a2 : Int32) : Option (Int32 × K2) := Option.bind (f_X4_isBird μ0 a1) (fun q1 => if q1 = 0 then (Option.bind (f_X4_finding μ0 (-1000001)) (fun q4 => some (q4.1, q4.2))) else (Option.bind (f_X4_isThought a2) (fun q6 => if q6 = 0 then (Option.bind (f_X4_finding μ0 (-1000001)) (fun q27 => some (q27.1, q27.2))) else (Option.bind (f_X4_birdAt a1 2) (fun q9 => if ix q9 92 then (f_X4_parentFor_L45 1000 μ0 a1 a2 q9 ((μ0 0) q9.toNatClampNeg) (-1) (-1) 0) else none)))))
set_option maxHeartbeats 4000000 in
set_option maxRecDepth 100000 in
theorem c_X4_parentFor (l : Launch) (G : GT) (ad : Nat → Nat) (μ0 : K2) (a1 : Int32) (a2 : Int32) (q : Int32 × K2) (hF : f_X4_parentFor μ0 a1 a2 = some q) : Ct l G yX4_parentFor wsX4_parentFor ({ frames := 10, cells := 0, slots := 0, locals := 219 } : Room) ([.ref (ad 0), .int a1, .int a2] : List Value) (wM G ad μ0) (some (.int q.1)) (wM G ad q.2) := by
  have kc63 : Cond.constant RX4 63 (-1000001) ∈ wsX4_parentFor := by decide +kernel
  have k9 : Cond.fieldLink RX4 9 "PigeonRollsModel" "now" "[I" ∈ wsX4_parentFor := by decide +kernel
  have hinX4 : ∀ w ∈ u_ws RX4 TX4 21, w ∈ wsX4_parentFor := by decide +kernel
  refine Ct.of cX4_parentFor 9 (some .int) (by decide) rfl (Nat.le_of_ble_eq_true rfl) ?_
  intro p e s m below meth c ls S hr hlocks hf hl
  have S : CallFix p m c cX4_parentFor 9 s ([.ref (ad 0), .int a1, .int a2] : List Value).toArray wsX4_parentFor RX4 := S
  obtain ⟨hx, hb, hml, hown, hts⟩ := id S
  have hl : lv_has ls 9 [(0, .ref (ad 0)), (1, .int a1), (2, .int a2)] := hl
  have hL107 : ∀ (μ : K2) (x3 : Int32) (x4 : Int32) (x5 : Int32)  (H : Heap) (locs : List Loc) (ls : Array Slot), f_X4_parentFor_B107 μ x3 x4 x5 = some q → Fr G (va_A (wM G ad μ0) s.heap.size) s (wM G ad μ) H locs → lv_has ls 9 [(0, .ref (ad 0)), (3, .int x3), (4, .int x4), (5, .int x5)] → W p l e ({ frames := 10, cells := 0, slots := 0, locals := 219 } : Room) s m ([.ref (ad 0), .int a1, .int a2] : List Value).toArray below meth c H locs 0 0 (MQ below (CPost G (wM G ad μ0) s.heap.size (some (.int q.1)) (wM G ad q.2)) ([.ref (ad 0), .int a1, .int a2] : List Value).toArray s 0 0 (va_A (wM G ad μ0) s.heap.size)) (F0 m 107 ls []) := by
    intro μ x3 x4 x5 H locs ls hF hf hl
    unfold f_X4_parentFor_B107 at hF
    refine lv_aload_n hx hb dX4_parentFor_107 rfl (lv_at hl 0 rfl) ?_
    refine g_get (ci := 4) (C := RX4) (T := TX4) (N := 21) (v := .ref (ad 1)) S hf hinX4 0 rfl rfl 0 (by decide) k9 rfl rfl dX4_parentFor_108 ?_
    refine lv_iload_n hx hb dX4_parentFor_111 rfl (lv_at hl 1 rfl) ?_
    refine lv_iload hx hb dX4_parentFor_112 (lv_at hl 2 rfl) ?_
    obtain ⟨g13, hF⟩ := gd_some hF
    refine g_ast (ww' := wM G ad (va_up μ 0 (upd (μ 0) x3.toNatClampNeg x4))) S hf 2 rfl g13 rfl dX4_parentFor_114 (fun H locs hf => ?_)
    refine lv_iload hx hb dX4_parentFor_115 (lv_at hl 3 rfl) ?_
    have hE := Option.some.inj hF
    have hV := congrArg (fun z : Int32 × K2 => z.1) hE
    have hW := congrArg (fun z : Int32 × K2 => wM G ad z.2) hE
    exact g_iret S hr hlocks hf hV hW dX4_parentFor_117
  have hL45 : ∀ (n : Nat) (μ : K2) (x1 : Int32) (x2 : Int32) (x3 : Int32) (x4 : Int32) (x5 : Int32) (x6 : Int32) (x7 : Int32)  (H : Heap) (locs : List Loc) (ls : Array Slot), f_X4_parentFor_L45 n μ x1 x2 x3 x4 x5 x6 x7 = some q → Fr G (va_A (wM G ad μ0) s.heap.size) s (wM G ad μ) H locs → lv_has ls 9 [(0, .ref (ad 0)), (1, .int x1), (2, .int x2), (3, .int x3), (4, .int x4), (5, .int x5), (6, .int x6), (7, .int x7)] → W p l e ({ frames := 10, cells := 0, slots := 0, locals := 219 } : Room) s m ([.ref (ad 0), .int a1, .int a2] : List Value).toArray below meth c H locs 0 0 (MQ below (CPost G (wM G ad μ0) s.heap.size (some (.int q.1)) (wM G ad q.2)) ([.ref (ad 0), .int a1, .int a2] : List Value).toArray s 0 0 (va_A (wM G ad μ0) s.heap.size)) (F0 m 45 ls []) := by
    intro n
    induction n with
    | zero =>
      intro μ x1 x2 x3 x4 x5 x6 x7 H locs ls hF hf hl
      exact absurd hF (by simp [f_X4_parentFor_L45])
    | succ n ih45 =>
      intro μ x1 x2 x3 x4 x5 x6 x7 H locs ls hF hf hl
      rw [f_X4_parentFor_L45] at hF
      refine lv_iload hx hb dX4_parentFor_45 (lv_at hl 7 rfl) ?_
      refine lv_iload_n hx hb dX4_parentFor_47 rfl (lv_at hl 1 rfl) ?_
      refine lv_icmp_gt (tgt := 107) hx hb dX4_parentFor_48 (by decide) (fun c12 => ?_) (fun c12 => ?_)
      · replace hF := (if_pos c12).symm.trans hF
        exact hL107 μ x3 x4 x5 _ _ _ hF hf (lv_sub hl [0, 3, 4, 5] rfl)
      · replace hF := (if_neg c12).symm.trans hF
        refine lv_aload_n hx hb dX4_parentFor_51 rfl (lv_at hl 0 rfl) ?_
        refine g_get (ci := 4) (C := RX4) (T := TX4) (N := 21) (v := .ref (ad 1)) S hf hinX4 0 rfl rfl 0 (by decide) k9 rfl rfl dX4_parentFor_52 ?_
        refine lv_iload_n hx hb dX4_parentFor_55 rfl (lv_at hl 3 rfl) ?_
        refine lv_iload hx hb dX4_parentFor_56 (lv_at hl 7 rfl) ?_
        refine lv_iload_n hx hb dX4_parentFor_58 rfl (lv_at hl 1 rfl) ?_
        refine lv_icmp_ne (tgt := 66) hx hb dX4_parentFor_59 (by decide) (fun c14 => ?_) (fun c14 => ?_)
        · replace hF := (if_neg c14).symm.trans hF
          refine lv_iload hx hb dX4_parentFor_66 (lv_at hl 7 rfl) ?_
          obtain ⟨g15, hF⟩ := gd_some hF
          refine g_ast (ww' := wM G ad (va_up μ 0 (upd (μ 0) x3.toNatClampNeg x7))) S hf 2 rfl g15 rfl dX4_parentFor_68 (fun H locs hf => ?_)
          refine lv_aload_n hx hb dX4_parentFor_69 rfl (lv_at hl 0 rfl) ?_
          refine lv_iload_n hx hb dX4_parentFor_70 rfl (lv_at hl 1 rfl) ?_
          refine lv_bipush (v := 8) hx hb dX4_parentFor_71 (by decide) ?_
          obtain ⟨q16, h17, hF⟩ := Option.bind_eq_some_iff.mp hF
          refine g_cs0 (o := some (.int q16)) (As := [.int x1, .int 8]) (rest := [.ref (ad 0)]) (st1 := [.int q16, .ref (ad 0)]) S hf (c_X4_birdAt l G  x1 8 q16 h17) (va_cwS 2 hts gX4_parentFor_X4_birdAt rfl rfl rfl (by decide +kernel) ⟨Nat.le_of_ble_eq_true rfl, Nat.le_of_ble_eq_true rfl⟩) rfl hl.1 rfl rfl (Nat.le_of_ble_eq_true rfl) ⟨Nat.zero_le _, Nat.zero_le _⟩ dX4_parentFor_73 (fun H locs hf => ?_)
          refine lv_iload_n hx hb dX4_parentFor_76 rfl (lv_at hl 2 rfl) ?_
          obtain ⟨q18, h19, hF⟩ := Option.bind_eq_some_iff.mp hF
          refine g_cv0 (o := some (.int q18.1)) (As := [.int q16, .int x2]) (rest := []) (st1 := [.int q18.1]) (ci := 4) S hf (c_X4_behind l G ad (va_up μ 0 (upd (μ 0) x3.toNatClampNeg x7)) q16 x2 q18 h19) (cwV 2 hts gX4_parentFor_X4_behind rfl rfl rfl (by decide +kernel) ⟨Nat.le_of_ble_eq_true rfl, Nat.le_of_ble_eq_true rfl⟩) rfl rfl rfl 0 rfl rfl hl.1 rfl rfl (Nat.le_of_ble_eq_true rfl) ⟨Nat.zero_le _, Nat.zero_le _⟩ dX4_parentFor_77 (fun H locs hf => ?_)
          have hf : Fr G (va_A (wM G ad μ0) s.heap.size) s (wM G ad q18.2) H locs := hf
          refine lv_istore (lv' := [(8, .int q18.1), (0, .ref (ad 0)), (1, .int x1), (2, .int x2), (3, .int x3), (4, .int x4), (5, .int x5), (6, .int x6), (7, .int x7)]) hx hb dX4_parentFor_80 hl (by decide) rfl (fun ls hl => ?_)
          refine lv_iload hx hb dX4_parentFor_82 (lv_at hl 0 rfl) ?_
          refine lv_iload hx hb dX4_parentFor_84 (lv_at hl 7 rfl) ?_
          refine lv_icmp_le (tgt := 101) hx hb dX4_parentFor_86 (by decide) (fun c20 => ?_) (fun c20 => ?_)
          · replace hF := (if_pos c20).symm.trans hF
            refine lv_iinc (v := x7 + 1) (lv' := [(7, .int (x7 + 1)), (8, .int q18.1), (0, .ref (ad 0)), (1, .int x1), (2, .int x2), (3, .int x3), (4, .int x4), (5, .int x5), (6, .int x6)]) hx hb dX4_parentFor_101 hl (k := 8) rfl rfl (by decide) rfl (fun ls hl => ?_)
            refine lv_goto (tgt := 45) hx hb dX4_parentFor_104 (by decide) ?_
            exact ih45 q18.2 x1 x2 x3 x4 x5 x6 (x7 + 1) _ _ _ hF hf (lv_sub hl [2, 3, 4, 5, 6, 7, 8, 0] rfl)
          · replace hF := (if_neg c20).symm.trans hF
            refine lv_aload_n hx hb dX4_parentFor_89 rfl (lv_at hl 1 rfl) ?_
            refine g_get (ci := 4) (C := RX4) (T := TX4) (N := 21) (v := .ref (ad 1)) S hf hinX4 0 rfl rfl 0 (by decide) k9 rfl rfl dX4_parentFor_90 ?_
            refine lv_iload_n hx hb dX4_parentFor_93 rfl (lv_at hl 4 rfl) ?_
            refine g_ald (v := (q18.2 0) x3.toNatClampNeg) S hf 2 rfl g15 rfl dX4_parentFor_94 ?_
            refine lv_istore (lv' := [(5, .int ((q18.2 0) x3.toNatClampNeg)), (8, .int q18.1), (0, .ref (ad 0)), (1, .int x1), (2, .int x2), (3, .int x3), (4, .int x4), (6, .int x6), (7, .int x7)]) hx hb dX4_parentFor_95 hl (by decide) rfl (fun ls hl => ?_)
            refine lv_iload hx hb dX4_parentFor_97 (lv_at hl 1 rfl) ?_
            refine lv_istore (lv' := [(6, .int q18.1), (5, .int ((q18.2 0) x3.toNatClampNeg)), (8, .int q18.1), (0, .ref (ad 0)), (1, .int x1), (2, .int x2), (3, .int x3), (4, .int x4), (7, .int x7)]) hx hb dX4_parentFor_99 hl (by decide) rfl (fun ls hl => ?_)
            refine lv_iinc (v := x7 + 1) (lv' := [(7, .int (x7 + 1)), (6, .int q18.1), (5, .int ((q18.2 0) x3.toNatClampNeg)), (8, .int q18.1), (0, .ref (ad 0)), (1, .int x1), (2, .int x2), (3, .int x3), (4, .int x4)]) hx hb dX4_parentFor_101 hl (k := 8) rfl rfl (by decide) rfl (fun ls hl => ?_)
            refine lv_goto (tgt := 45) hx hb dX4_parentFor_104 (by decide) ?_
            exact ih45 q18.2 x1 x2 x3 x4 ((q18.2 0) x3.toNatClampNeg) q18.1 (x7 + 1) _ _ _ hF hf (lv_sub hl [4, 5, 6, 7, 8, 2, 1, 0] rfl)
        · replace hF := (if_pos c14).symm.trans hF
          refine lv_iconst (v := -1) hx hb dX4_parentFor_62 (by decide) ?_
          refine lv_goto (tgt := 68) hx hb dX4_parentFor_63 (by decide) ?_
          obtain ⟨g21, hF⟩ := gd_some hF
          refine g_ast (ww' := wM G ad (va_up μ 0 (upd (μ 0) x3.toNatClampNeg (-1)))) S hf 2 rfl g21 rfl dX4_parentFor_68 (fun H locs hf => ?_)
          refine lv_aload_n hx hb dX4_parentFor_69 rfl (lv_at hl 0 rfl) ?_
          refine lv_iload_n hx hb dX4_parentFor_70 rfl (lv_at hl 1 rfl) ?_
          refine lv_bipush (v := 8) hx hb dX4_parentFor_71 (by decide) ?_
          obtain ⟨q22, h23, hF⟩ := Option.bind_eq_some_iff.mp hF
          refine g_cs0 (o := some (.int q22)) (As := [.int x1, .int 8]) (rest := [.ref (ad 0)]) (st1 := [.int q22, .ref (ad 0)]) S hf (c_X4_birdAt l G  x1 8 q22 h23) (va_cwS 2 hts gX4_parentFor_X4_birdAt rfl rfl rfl (by decide +kernel) ⟨Nat.le_of_ble_eq_true rfl, Nat.le_of_ble_eq_true rfl⟩) rfl hl.1 rfl rfl (Nat.le_of_ble_eq_true rfl) ⟨Nat.zero_le _, Nat.zero_le _⟩ dX4_parentFor_73 (fun H locs hf => ?_)
          refine lv_iload_n hx hb dX4_parentFor_76 rfl (lv_at hl 2 rfl) ?_
          obtain ⟨q24, h25, hF⟩ := Option.bind_eq_some_iff.mp hF
          refine g_cv0 (o := some (.int q24.1)) (As := [.int q22, .int x2]) (rest := []) (st1 := [.int q24.1]) (ci := 4) S hf (c_X4_behind l G ad (va_up μ 0 (upd (μ 0) x3.toNatClampNeg (-1))) q22 x2 q24 h25) (cwV 2 hts gX4_parentFor_X4_behind rfl rfl rfl (by decide +kernel) ⟨Nat.le_of_ble_eq_true rfl, Nat.le_of_ble_eq_true rfl⟩) rfl rfl rfl 0 rfl rfl hl.1 rfl rfl (Nat.le_of_ble_eq_true rfl) ⟨Nat.zero_le _, Nat.zero_le _⟩ dX4_parentFor_77 (fun H locs hf => ?_)
          have hf : Fr G (va_A (wM G ad μ0) s.heap.size) s (wM G ad q24.2) H locs := hf
          refine lv_istore (lv' := [(8, .int q24.1), (0, .ref (ad 0)), (1, .int x1), (2, .int x2), (3, .int x3), (4, .int x4), (5, .int x5), (6, .int x6), (7, .int x7)]) hx hb dX4_parentFor_80 hl (by decide) rfl (fun ls hl => ?_)
          refine lv_iload hx hb dX4_parentFor_82 (lv_at hl 0 rfl) ?_
          refine lv_iload hx hb dX4_parentFor_84 (lv_at hl 7 rfl) ?_
          refine lv_icmp_le (tgt := 101) hx hb dX4_parentFor_86 (by decide) (fun c26 => ?_) (fun c26 => ?_)
          · replace hF := (if_pos c26).symm.trans hF
            refine lv_iinc (v := x7 + 1) (lv' := [(7, .int (x7 + 1)), (8, .int q24.1), (0, .ref (ad 0)), (1, .int x1), (2, .int x2), (3, .int x3), (4, .int x4), (5, .int x5), (6, .int x6)]) hx hb dX4_parentFor_101 hl (k := 8) rfl rfl (by decide) rfl (fun ls hl => ?_)
            refine lv_goto (tgt := 45) hx hb dX4_parentFor_104 (by decide) ?_
            exact ih45 q24.2 x1 x2 x3 x4 x5 x6 (x7 + 1) _ _ _ hF hf (lv_sub hl [2, 3, 4, 5, 6, 7, 8, 0] rfl)
          · replace hF := (if_neg c26).symm.trans hF
            refine lv_aload_n hx hb dX4_parentFor_89 rfl (lv_at hl 1 rfl) ?_
            refine g_get (ci := 4) (C := RX4) (T := TX4) (N := 21) (v := .ref (ad 1)) S hf hinX4 0 rfl rfl 0 (by decide) k9 rfl rfl dX4_parentFor_90 ?_
            refine lv_iload_n hx hb dX4_parentFor_93 rfl (lv_at hl 4 rfl) ?_
            refine g_ald (v := (q24.2 0) x3.toNatClampNeg) S hf 2 rfl g21 rfl dX4_parentFor_94 ?_
            refine lv_istore (lv' := [(5, .int ((q24.2 0) x3.toNatClampNeg)), (8, .int q24.1), (0, .ref (ad 0)), (1, .int x1), (2, .int x2), (3, .int x3), (4, .int x4), (6, .int x6), (7, .int x7)]) hx hb dX4_parentFor_95 hl (by decide) rfl (fun ls hl => ?_)
            refine lv_iload hx hb dX4_parentFor_97 (lv_at hl 1 rfl) ?_
            refine lv_istore (lv' := [(6, .int q24.1), (5, .int ((q24.2 0) x3.toNatClampNeg)), (8, .int q24.1), (0, .ref (ad 0)), (1, .int x1), (2, .int x2), (3, .int x3), (4, .int x4), (7, .int x7)]) hx hb dX4_parentFor_99 hl (by decide) rfl (fun ls hl => ?_)
            refine lv_iinc (v := x7 + 1) (lv' := [(7, .int (x7 + 1)), (6, .int q24.1), (5, .int ((q24.2 0) x3.toNatClampNeg)), (8, .int q24.1), (0, .ref (ad 0)), (1, .int x1), (2, .int x2), (3, .int x3), (4, .int x4)]) hx hb dX4_parentFor_101 hl (k := 8) rfl rfl (by decide) rfl (fun ls hl => ?_)
            refine lv_goto (tgt := 45) hx hb dX4_parentFor_104 (by decide) ?_
            exact ih45 q24.2 x1 x2 x3 x4 ((q24.2 0) x3.toNatClampNeg) q24.1 (x7 + 1) _ _ _ hF hf (lv_sub hl [4, 5, 6, 7, 8, 2, 1, 0] rfl)
  unfold f_X4_parentFor at hF
  refine lv_aload_n hx hb dX4_parentFor_0 rfl (lv_at hl 0 rfl) ?_
  refine lv_iload_n hx hb dX4_parentFor_1 rfl (lv_at hl 1 rfl) ?_
  obtain ⟨q1, h2, hF⟩ := Option.bind_eq_some_iff.mp hF
  refine g_cv0 (o := some (.int q1)) (As := [.int a1]) (rest := []) (st1 := [.int q1]) (ci := 4) S hf (c_X4_isBird l G ad μ0 a1 q1 h2) (cwV 1 hts gX4_parentFor_X4_isBird rfl rfl rfl (by decide +kernel) ⟨Nat.le_of_ble_eq_true rfl, Nat.le_of_ble_eq_true rfl⟩) rfl rfl rfl 0 rfl rfl hl.1 rfl rfl (Nat.le_of_ble_eq_true rfl) ⟨Nat.zero_le _, Nat.zero_le _⟩ dX4_parentFor_2 (fun H locs hf => ?_)
  have hf : Fr G (va_A (wM G ad μ0) s.heap.size) s (wM G ad μ0) H locs := hf
  refine lv_if_eq (tgt := 15) hx hb dX4_parentFor_5 (by decide) (fun c3 => ?_) (fun c3 => ?_)
  · replace hF := (if_pos c3).symm.trans hF
    refine lv_aload_n hx hb dX4_parentFor_15 rfl (lv_at hl 0 rfl) ?_
    refine lv_ldc (v := -1000001) hx hb hown (hts _ kc63) dX4_parentFor_16 ?_
    obtain ⟨q4, h5, hF⟩ := Option.bind_eq_some_iff.mp hF
    refine g_cv0 (o := some (.int q4.1)) (As := [.int (-1000001)]) (rest := []) (st1 := [.int q4.1]) (ci := 4) S hf (c_X4_finding l G ad μ0 (-1000001) q4 h5) (cwV 1 hts gX4_parentFor_X4_finding rfl rfl rfl (by decide +kernel) ⟨Nat.le_of_ble_eq_true rfl, Nat.le_of_ble_eq_true rfl⟩) rfl rfl rfl 0 rfl rfl hl.1 rfl rfl (Nat.le_of_ble_eq_true rfl) ⟨Nat.zero_le _, Nat.zero_le _⟩ dX4_parentFor_18 (fun H locs hf => ?_)
    have hf : Fr G (va_A (wM G ad μ0) s.heap.size) s (wM G ad q4.2) H locs := hf
    have hE := Option.some.inj hF
    have hV := congrArg (fun z : Int32 × K2 => z.1) hE
    have hW := congrArg (fun z : Int32 × K2 => wM G ad z.2) hE
    exact g_iret S hr hlocks hf hV hW dX4_parentFor_21
  · replace hF := (if_neg c3).symm.trans hF
    refine lv_iload_n hx hb dX4_parentFor_8 rfl (lv_at hl 2 rfl) ?_
    obtain ⟨q6, h7, hF⟩ := Option.bind_eq_some_iff.mp hF
    refine g_cs0 (o := some (.int q6)) (As := [.int a2]) (rest := []) (st1 := [.int q6]) S hf (c_X4_isThought l G  a2 q6 h7) (va_cwS 1 hts gX4_parentFor_X4_isThought rfl rfl rfl (by decide +kernel) ⟨Nat.le_of_ble_eq_true rfl, Nat.le_of_ble_eq_true rfl⟩) rfl hl.1 rfl rfl (Nat.le_of_ble_eq_true rfl) ⟨Nat.zero_le _, Nat.zero_le _⟩ dX4_parentFor_9 (fun H locs hf => ?_)
    refine lv_if_ne (tgt := 22) hx hb dX4_parentFor_12 (by decide) (fun c8 => ?_) (fun c8 => ?_)
    · replace hF := (if_neg c8).symm.trans hF
      refine lv_iload_n hx hb dX4_parentFor_22 rfl (lv_at hl 1 rfl) ?_
      refine lv_iconst (v := 2) hx hb dX4_parentFor_23 (by decide) ?_
      obtain ⟨q9, h10, hF⟩ := Option.bind_eq_some_iff.mp hF
      refine g_cs0 (o := some (.int q9)) (As := [.int a1, .int 2]) (rest := []) (st1 := [.int q9]) S hf (c_X4_birdAt l G  a1 2 q9 h10) (va_cwS 2 hts gX4_parentFor_X4_birdAt rfl rfl rfl (by decide +kernel) ⟨Nat.le_of_ble_eq_true rfl, Nat.le_of_ble_eq_true rfl⟩) rfl hl.1 rfl rfl (Nat.le_of_ble_eq_true rfl) ⟨Nat.zero_le _, Nat.zero_le _⟩ dX4_parentFor_24 (fun H locs hf => ?_)
      refine lv_istore_n (lv' := [(3, .int q9), (0, .ref (ad 0)), (1, .int a1), (2, .int a2)]) hx hb dX4_parentFor_27 rfl hl (by decide) rfl (fun ls hl => ?_)
      refine lv_aload_n hx hb dX4_parentFor_28 rfl (lv_at hl 1 rfl) ?_
      refine g_get (ci := 4) (C := RX4) (T := TX4) (N := 21) (v := .ref (ad 1)) S hf hinX4 0 rfl rfl 0 (by decide) k9 rfl rfl dX4_parentFor_29 ?_
      refine lv_iload_n hx hb dX4_parentFor_32 rfl (lv_at hl 0 rfl) ?_
      obtain ⟨g11, hF⟩ := gd_some hF
      refine g_ald (v := (μ0 0) q9.toNatClampNeg) S hf 2 rfl g11 rfl dX4_parentFor_33 ?_
      refine lv_istore (lv' := [(4, .int ((μ0 0) q9.toNatClampNeg)), (3, .int q9), (0, .ref (ad 0)), (1, .int a1), (2, .int a2)]) hx hb dX4_parentFor_34 hl (by decide) rfl (fun ls hl => ?_)
      refine lv_iconst (v := -1) hx hb dX4_parentFor_36 (by decide) ?_
      refine lv_istore (lv' := [(5, .int (-1)), (4, .int ((μ0 0) q9.toNatClampNeg)), (3, .int q9), (0, .ref (ad 0)), (1, .int a1), (2, .int a2)]) hx hb dX4_parentFor_37 hl (by decide) rfl (fun ls hl => ?_)
      refine lv_iconst (v := -1) hx hb dX4_parentFor_39 (by decide) ?_
      refine lv_istore (lv' := [(6, .int (-1)), (5, .int (-1)), (4, .int ((μ0 0) q9.toNatClampNeg)), (3, .int q9), (0, .ref (ad 0)), (1, .int a1), (2, .int a2)]) hx hb dX4_parentFor_40 hl (by decide) rfl (fun ls hl => ?_)
      refine lv_iconst (v := 0) hx hb dX4_parentFor_42 (by decide) ?_
      refine lv_istore (lv' := [(7, .int 0), (6, .int (-1)), (5, .int (-1)), (4, .int ((μ0 0) q9.toNatClampNeg)), (3, .int q9), (0, .ref (ad 0)), (1, .int a1), (2, .int a2)]) hx hb dX4_parentFor_43 hl (by decide) rfl (fun ls hl => ?_)
      exact hL45 1000 μ0 a1 a2 q9 ((μ0 0) q9.toNatClampNeg) (-1) (-1) 0 _ _ _ hF hf (lv_sub hl [5, 6, 7, 4, 3, 2, 1, 0] rfl)
    · replace hF := (if_pos c8).symm.trans hF
      refine lv_aload_n hx hb dX4_parentFor_15 rfl (lv_at hl 0 rfl) ?_
      refine lv_ldc (v := -1000001) hx hb hown (hts _ kc63) dX4_parentFor_16 ?_
      obtain ⟨q27, h28, hF⟩ := Option.bind_eq_some_iff.mp hF
      refine g_cv0 (o := some (.int q27.1)) (As := [.int (-1000001)]) (rest := []) (st1 := [.int q27.1]) (ci := 4) S hf (c_X4_finding l G ad μ0 (-1000001) q27 h28) (cwV 1 hts gX4_parentFor_X4_finding rfl rfl rfl (by decide +kernel) ⟨Nat.le_of_ble_eq_true rfl, Nat.le_of_ble_eq_true rfl⟩) rfl rfl rfl 0 rfl rfl hl.1 rfl rfl (Nat.le_of_ble_eq_true rfl) ⟨Nat.zero_le _, Nat.zero_le _⟩ dX4_parentFor_18 (fun H locs hf => ?_)
      have hf : Fr G (va_A (wM G ad μ0) s.heap.size) s (wM G ad q27.2) H locs := hf
      have hE := Option.some.inj hF
      have hV := congrArg (fun z : Int32 × K2 => z.1) hE
      have hW := congrArg (fun z : Int32 × K2 => wM G ad z.2) hE
      exact g_iret S hr hlocks hf hV hW dX4_parentFor_21
def f_X4_isEnough_L71 : Nat → K2 → Int32 → Int32 → Option (Int32 × K2)
  | 0, _, _, _ => none
  | n + 1, μ, x3, x4 => if ((μ 0) 1) ≤ x4 then (if x3 = 0 ∨ x3 = 1 then some (x3, μ) else none) else (Option.bind (f_X4_birdAt x4 6) (fun q7 => if ix x4 8 then (if ix q7 92 then (f_X4_isEnough_L71 n (va_up μ 0 (upd (μ 0) q7.toNatClampNeg ((μ 4) x4.toNatClampNeg))) x3 (x4 + 1)) else none) else none))
def f_X4_isEnough_B50 (μ : K2) (x1 : Int32) (x2 : Int32) : Option (Int32 × K2) := Option.bind (f_X4_owedBehind μ x2) (fun q2 => if (q2.1 &&& (x1 ^^^ (-1))) = 0 then (f_X4_isEnough_L71 1000 q2.2 1 0) else (f_X4_isEnough_L71 1000 q2.2 0 0))
def f_X4_isEnough_L2 : Nat → K2 → Int32 → Int32 → Int32 → Option (Int32 × K2)
  | 0, _, _, _, _ => none
  | n + 1, μ, x1, x2, x3 => if ((μ 0) 1) ≤ x3 then (f_X4_isEnough_B50 μ x1 x2) else (Option.bind (f_X4_birdIs μ x3 6) (fun q11 => if ix x3 8 then (Option.bind (f_X4_birdAt x3 6) (fun q14 => if ix q14 92 then (f_X4_isEnough_L2 n (va_up (va_up μ 0 (upd (μ 0) q14.toNatClampNeg (((μ 0) q14.toNatClampNeg) ||| ((x1 >>> (x3 &&& 31)) &&& 1)))) 4 (upd (μ 4) x3.toNatClampNeg q11)) x1 x2 (x3 + 1)) else none)) else none))
def f_X4_isEnough (μ0 : K2) (a1 : Int32) (a2 : Int32) : Option (Int32 × K2) := f_X4_isEnough_L2 1000 μ0 a1 a2 0
set_option maxHeartbeats 4000000 in
set_option maxRecDepth 100000 in
theorem c_X4_isEnough (l : Launch) (G : GT) (ad : Nat → Nat) (μ0 : K2) (a1 : Int32) (a2 : Int32) (q : Int32 × K2) (hF : f_X4_isEnough μ0 a1 a2 = some q) : Ct l G yX4_isEnough wsX4_isEnough ({ frames := 10, cells := 0, slots := 0, locals := 220 } : Room) ([.ref (ad 0), .int a1, .int a2] : List Value) (wM G ad μ0) (some (.int q.1)) (wM G ad q.2) := by
  have k9 : Cond.fieldLink RX4 9 "PigeonRollsModel" "now" "[I" ∈ wsX4_isEnough := by decide +kernel
  have k22 : Cond.fieldLink RX4 22 "PigeonRollsModel" "offs" "[I" ∈ wsX4_isEnough := by decide +kernel
  have hinX4 : ∀ w ∈ u_ws RX4 TX4 21, w ∈ wsX4_isEnough := by decide +kernel
  refine Ct.of cX4_isEnough 5 (some .boolean) (by decide) rfl (Nat.le_of_ble_eq_true rfl) ?_
  intro p e s m below meth c ls S hr hlocks hf hl
  have S : CallFix p m c cX4_isEnough 5 s ([.ref (ad 0), .int a1, .int a2] : List Value).toArray wsX4_isEnough RX4 := S
  obtain ⟨hx, hb, hml, hown, hts⟩ := id S
  have hl : lv_has ls 5 [(0, .ref (ad 0)), (1, .int a1), (2, .int a2)] := hl
  have hL71 : ∀ (n : Nat) (μ : K2) (x3 : Int32) (x4 : Int32)  (H : Heap) (locs : List Loc) (ls : Array Slot), f_X4_isEnough_L71 n μ x3 x4 = some q → Fr G (va_A (wM G ad μ0) s.heap.size) s (wM G ad μ) H locs → lv_has ls 5 [(0, .ref (ad 0)), (3, .int x3), (4, .int x4)] → W p l e ({ frames := 10, cells := 0, slots := 0, locals := 220 } : Room) s m ([.ref (ad 0), .int a1, .int a2] : List Value).toArray below meth c H locs 0 0 (MQ below (CPost G (wM G ad μ0) s.heap.size (some (.int q.1)) (wM G ad q.2)) ([.ref (ad 0), .int a1, .int a2] : List Value).toArray s 0 0 (va_A (wM G ad μ0) s.heap.size)) (F0 m 71 ls []) := by
    intro n
    induction n with
    | zero =>
      intro μ x3 x4 H locs ls hF hf hl
      exact absurd hF (by simp [f_X4_isEnough_L71])
    | succ n ih71 =>
      intro μ x3 x4 H locs ls hF hf hl
      rw [f_X4_isEnough_L71] at hF
      refine lv_iload hx hb dX4_isEnough_71 (lv_at hl 2 rfl) ?_
      refine lv_aload_n hx hb dX4_isEnough_73 rfl (lv_at hl 0 rfl) ?_
      refine g_get (ci := 4) (C := RX4) (T := TX4) (N := 21) (v := .ref (ad 1)) S hf hinX4 0 rfl rfl 0 (by decide) k9 rfl rfl dX4_isEnough_74 ?_
      refine lv_iconst (v := 1) hx hb dX4_isEnough_77 (by decide) ?_
      refine g_ald (v := (μ 0) 1) S hf 2 rfl (by decide) rfl dX4_isEnough_78 ?_
      refine lv_icmp_ge (tgt := 107) hx hb dX4_isEnough_79 (by decide) (fun c5 => ?_) (fun c5 => ?_)
      · replace hF := (if_pos c5).symm.trans hF
        refine lv_iload_n hx hb dX4_isEnough_107 rfl (lv_at hl 1 rfl) ?_
        obtain ⟨g6, hF⟩ := gd_some hF
        have hE := Option.some.inj hF
        have hV := congrArg (fun z : Int32 × K2 => z.1) hE
        have hW := congrArg (fun z : Int32 × K2 => wM G ad z.2) hE
        exact g_zret S hr hlocks hf (nz g6) hV hW dX4_isEnough_108
      · replace hF := (if_neg c5).symm.trans hF
        refine lv_aload_n hx hb dX4_isEnough_82 rfl (lv_at hl 0 rfl) ?_
        refine g_get (ci := 4) (C := RX4) (T := TX4) (N := 21) (v := .ref (ad 1)) S hf hinX4 0 rfl rfl 0 (by decide) k9 rfl rfl dX4_isEnough_83 ?_
        refine lv_iload hx hb dX4_isEnough_86 (lv_at hl 2 rfl) ?_
        refine lv_bipush (v := 6) hx hb dX4_isEnough_88 (by decide) ?_
        obtain ⟨q7, h8, hF⟩ := Option.bind_eq_some_iff.mp hF
        refine g_cs0 (o := some (.int q7)) (As := [.int x4, .int 6]) (rest := [.ref (ad 1)]) (st1 := [.int q7, .ref (ad 1)]) S hf (c_X4_birdAt l G  x4 6 q7 h8) (va_cwS 2 hts gX4_isEnough_X4_birdAt rfl rfl rfl (by decide +kernel) ⟨Nat.le_of_ble_eq_true rfl, Nat.le_of_ble_eq_true rfl⟩) rfl hl.1 rfl rfl (Nat.le_of_ble_eq_true rfl) ⟨Nat.zero_le _, Nat.zero_le _⟩ dX4_isEnough_90 (fun H locs hf => ?_)
        refine lv_aload_n hx hb dX4_isEnough_93 rfl (lv_at hl 0 rfl) ?_
        refine g_get (ci := 4) (C := RX4) (T := TX4) (N := 21) (v := .ref (ad 5)) S hf hinX4 0 rfl rfl 5 (by decide) k22 rfl rfl dX4_isEnough_94 ?_
        refine lv_iload hx hb dX4_isEnough_97 (lv_at hl 2 rfl) ?_
        obtain ⟨g9, hF⟩ := gd_some hF
        refine g_ald (v := (μ 4) x4.toNatClampNeg) S hf 5 rfl g9 rfl dX4_isEnough_99 ?_
        obtain ⟨g10, hF⟩ := gd_some hF
        refine g_ast (ww' := wM G ad (va_up μ 0 (upd (μ 0) q7.toNatClampNeg ((μ 4) x4.toNatClampNeg)))) S hf 2 rfl g10 rfl dX4_isEnough_100 (fun H locs hf => ?_)
        refine lv_iinc (v := x4 + 1) (lv' := [(4, .int (x4 + 1)), (0, .ref (ad 0)), (3, .int x3)]) hx hb dX4_isEnough_101 hl (k := 2) rfl rfl (by decide) rfl (fun ls hl => ?_)
        refine lv_goto (tgt := 71) hx hb dX4_isEnough_104 (by decide) ?_
        exact ih71 (va_up μ 0 (upd (μ 0) q7.toNatClampNeg ((μ 4) x4.toNatClampNeg))) x3 (x4 + 1) _ _ _ hF hf (lv_sub hl [1, 2, 0] rfl)
  have hL50 : ∀ (μ : K2) (x1 : Int32) (x2 : Int32)  (H : Heap) (locs : List Loc) (ls : Array Slot), f_X4_isEnough_B50 μ x1 x2 = some q → Fr G (va_A (wM G ad μ0) s.heap.size) s (wM G ad μ) H locs → lv_has ls 5 [(0, .ref (ad 0)), (1, .int x1), (2, .int x2)] → W p l e ({ frames := 10, cells := 0, slots := 0, locals := 220 } : Room) s m ([.ref (ad 0), .int a1, .int a2] : List Value).toArray below meth c H locs 0 0 (MQ below (CPost G (wM G ad μ0) s.heap.size (some (.int q.1)) (wM G ad q.2)) ([.ref (ad 0), .int a1, .int a2] : List Value).toArray s 0 0 (va_A (wM G ad μ0) s.heap.size)) (F0 m 50 ls []) := by
    intro μ x1 x2 H locs ls hF hf hl
    unfold f_X4_isEnough_B50 at hF
    refine lv_aload_n hx hb dX4_isEnough_50 rfl (lv_at hl 0 rfl) ?_
    refine lv_iload_n hx hb dX4_isEnough_51 rfl (lv_at hl 2 rfl) ?_
    obtain ⟨q2, h3, hF⟩ := Option.bind_eq_some_iff.mp hF
    refine g_cv0 (o := some (.int q2.1)) (As := [.int x2]) (rest := []) (st1 := [.int q2.1]) (ci := 4) S hf (c_X4_owedBehind l G ad μ x2 q2 h3) (cwV 1 hts gX4_isEnough_X4_owedBehind rfl rfl rfl (by decide +kernel) ⟨Nat.le_of_ble_eq_true rfl, Nat.le_of_ble_eq_true rfl⟩) rfl rfl rfl 0 rfl rfl hl.1 rfl rfl (Nat.le_of_ble_eq_true rfl) ⟨Nat.zero_le _, Nat.zero_le _⟩ dX4_isEnough_52 (fun H locs hf => ?_)
    have hf : Fr G (va_A (wM G ad μ0) s.heap.size) s (wM G ad q2.2) H locs := hf
    refine lv_iload_n hx hb dX4_isEnough_55 rfl (lv_at hl 1 rfl) ?_
    refine lv_iconst (v := -1) hx hb dX4_isEnough_56 (by decide) ?_
    refine lv_ixor hx hb dX4_isEnough_57 ?_
    refine lv_iand hx hb dX4_isEnough_58 ?_
    refine lv_if_ne (tgt := 66) hx hb dX4_isEnough_59 (by decide) (fun c4 => ?_) (fun c4 => ?_)
    · replace hF := (if_neg c4).symm.trans hF
      refine lv_iconst (v := 0) hx hb dX4_isEnough_66 (by decide) ?_
      refine lv_istore_n (lv' := [(3, .int 0), (0, .ref (ad 0)), (1, .int x1), (2, .int x2)]) hx hb dX4_isEnough_67 rfl hl (by decide) rfl (fun ls hl => ?_)
      refine lv_iconst (v := 0) hx hb dX4_isEnough_68 (by decide) ?_
      refine lv_istore (lv' := [(4, .int 0), (3, .int 0), (0, .ref (ad 0)), (1, .int x1), (2, .int x2)]) hx hb dX4_isEnough_69 hl (by decide) rfl (fun ls hl => ?_)
      exact hL71 1000 q2.2 0 0 _ _ _ hF hf (lv_sub hl [2, 1, 0] rfl)
    · replace hF := (if_pos c4).symm.trans hF
      refine lv_iconst (v := 1) hx hb dX4_isEnough_62 (by decide) ?_
      refine lv_goto (tgt := 67) hx hb dX4_isEnough_63 (by decide) ?_
      refine lv_istore_n (lv' := [(3, .int 1), (0, .ref (ad 0)), (1, .int x1), (2, .int x2)]) hx hb dX4_isEnough_67 rfl hl (by decide) rfl (fun ls hl => ?_)
      refine lv_iconst (v := 0) hx hb dX4_isEnough_68 (by decide) ?_
      refine lv_istore (lv' := [(4, .int 0), (3, .int 1), (0, .ref (ad 0)), (1, .int x1), (2, .int x2)]) hx hb dX4_isEnough_69 hl (by decide) rfl (fun ls hl => ?_)
      exact hL71 1000 q2.2 1 0 _ _ _ hF hf (lv_sub hl [2, 1, 0] rfl)
  have hL2 : ∀ (n : Nat) (μ : K2) (x1 : Int32) (x2 : Int32) (x3 : Int32)  (H : Heap) (locs : List Loc) (ls : Array Slot), f_X4_isEnough_L2 n μ x1 x2 x3 = some q → Fr G (va_A (wM G ad μ0) s.heap.size) s (wM G ad μ) H locs → lv_has ls 5 [(0, .ref (ad 0)), (1, .int x1), (2, .int x2), (3, .int x3)] → W p l e ({ frames := 10, cells := 0, slots := 0, locals := 220 } : Room) s m ([.ref (ad 0), .int a1, .int a2] : List Value).toArray below meth c H locs 0 0 (MQ below (CPost G (wM G ad μ0) s.heap.size (some (.int q.1)) (wM G ad q.2)) ([.ref (ad 0), .int a1, .int a2] : List Value).toArray s 0 0 (va_A (wM G ad μ0) s.heap.size)) (F0 m 2 ls []) := by
    intro n
    induction n with
    | zero =>
      intro μ x1 x2 x3 H locs ls hF hf hl
      exact absurd hF (by simp [f_X4_isEnough_L2])
    | succ n ih2 =>
      intro μ x1 x2 x3 H locs ls hF hf hl
      rw [f_X4_isEnough_L2] at hF
      refine lv_iload_n hx hb dX4_isEnough_2 rfl (lv_at hl 3 rfl) ?_
      refine lv_aload_n hx hb dX4_isEnough_3 rfl (lv_at hl 0 rfl) ?_
      refine g_get (ci := 4) (C := RX4) (T := TX4) (N := 21) (v := .ref (ad 1)) S hf hinX4 0 rfl rfl 0 (by decide) k9 rfl rfl dX4_isEnough_4 ?_
      refine lv_iconst (v := 1) hx hb dX4_isEnough_7 (by decide) ?_
      refine g_ald (v := (μ 0) 1) S hf 2 rfl (by decide) rfl dX4_isEnough_8 ?_
      refine lv_icmp_ge (tgt := 50) hx hb dX4_isEnough_9 (by decide) (fun c1 => ?_) (fun c1 => ?_)
      · replace hF := (if_pos c1).symm.trans hF
        exact hL50 μ x1 x2 _ _ _ hF hf (lv_sub hl [0, 1, 2] rfl)
      · replace hF := (if_neg c1).symm.trans hF
        refine lv_aload_n hx hb dX4_isEnough_12 rfl (lv_at hl 0 rfl) ?_
        refine g_get (ci := 4) (C := RX4) (T := TX4) (N := 21) (v := .ref (ad 5)) S hf hinX4 0 rfl rfl 5 (by decide) k22 rfl rfl dX4_isEnough_13 ?_
        refine lv_iload_n hx hb dX4_isEnough_16 rfl (lv_at hl 3 rfl) ?_
        refine lv_aload_n hx hb dX4_isEnough_17 rfl (lv_at hl 0 rfl) ?_
        refine lv_iload_n hx hb dX4_isEnough_18 rfl (lv_at hl 3 rfl) ?_
        refine lv_bipush (v := 6) hx hb dX4_isEnough_19 (by decide) ?_
        obtain ⟨q11, h12, hF⟩ := Option.bind_eq_some_iff.mp hF
        refine g_cv0 (o := some (.int q11)) (As := [.int x3, .int 6]) (rest := [.int x3, .ref (ad 5)]) (st1 := [.int q11, .int x3, .ref (ad 5)]) (ci := 4) S hf (c_X4_birdIs l G ad μ x3 6 q11 h12) (cwV 2 hts gX4_isEnough_X4_birdIs rfl rfl rfl (by decide +kernel) ⟨Nat.le_of_ble_eq_true rfl, Nat.le_of_ble_eq_true rfl⟩) rfl rfl rfl 0 rfl rfl hl.1 rfl rfl (Nat.le_of_ble_eq_true rfl) ⟨Nat.zero_le _, Nat.zero_le _⟩ dX4_isEnough_21 (fun H locs hf => ?_)
        have hf : Fr G (va_A (wM G ad μ0) s.heap.size) s (wM G ad μ) H locs := hf
        obtain ⟨g13, hF⟩ := gd_some hF
        refine g_ast (ww' := wM G ad (va_up μ 4 (upd (μ 4) x3.toNatClampNeg q11))) S hf 5 rfl g13 rfl dX4_isEnough_24 (fun H locs hf => ?_)
        refine lv_aload_n hx hb dX4_isEnough_25 rfl (lv_at hl 0 rfl) ?_
        refine g_get (ci := 4) (C := RX4) (T := TX4) (N := 21) (v := .ref (ad 1)) S hf hinX4 0 rfl rfl 0 (by decide) k9 rfl rfl dX4_isEnough_26 ?_
        refine lv_iload_n hx hb dX4_isEnough_29 rfl (lv_at hl 3 rfl) ?_
        refine lv_bipush (v := 6) hx hb dX4_isEnough_30 (by decide) ?_
        obtain ⟨q14, h15, hF⟩ := Option.bind_eq_some_iff.mp hF
        refine g_cs0 (o := some (.int q14)) (As := [.int x3, .int 6]) (rest := [.ref (ad 1)]) (st1 := [.int q14, .ref (ad 1)]) S hf (c_X4_birdAt l G  x3 6 q14 h15) (va_cwS 2 hts gX4_isEnough_X4_birdAt rfl rfl rfl (by decide +kernel) ⟨Nat.le_of_ble_eq_true rfl, Nat.le_of_ble_eq_true rfl⟩) rfl hl.1 rfl rfl (Nat.le_of_ble_eq_true rfl) ⟨Nat.zero_le _, Nat.zero_le _⟩ dX4_isEnough_32 (fun H locs hf => ?_)
        refine lv_dup2_11 hx hb dX4_isEnough_35 rfl rfl ?_
        obtain ⟨g16, hF⟩ := gd_some hF
        refine g_ald (v := (μ 0) q14.toNatClampNeg) S hf 2 rfl g16 rfl dX4_isEnough_36 ?_
        refine lv_iload_n hx hb dX4_isEnough_37 rfl (lv_at hl 1 rfl) ?_
        refine lv_iload_n hx hb dX4_isEnough_38 rfl (lv_at hl 3 rfl) ?_
        refine lv_ishr hx hb dX4_isEnough_39 ?_
        refine lv_iconst (v := 1) hx hb dX4_isEnough_40 (by decide) ?_
        refine lv_iand hx hb dX4_isEnough_41 ?_
        refine lv_ior hx hb dX4_isEnough_42 ?_
        refine g_ast (ww' := wM G ad (va_up (va_up μ 0 (upd (μ 0) q14.toNatClampNeg (((μ 0) q14.toNatClampNeg) ||| ((x1 >>> (x3 &&& 31)) &&& 1)))) 4 (upd (μ 4) x3.toNatClampNeg q11))) S hf 2 rfl g16 rfl dX4_isEnough_43 (fun H locs hf => ?_)
        refine lv_iinc (v := x3 + 1) (lv' := [(3, .int (x3 + 1)), (0, .ref (ad 0)), (1, .int x1), (2, .int x2)]) hx hb dX4_isEnough_44 hl (k := 3) rfl rfl (by decide) rfl (fun ls hl => ?_)
        refine lv_goto (tgt := 2) hx hb dX4_isEnough_47 (by decide) ?_
        exact ih2 (va_up (va_up μ 0 (upd (μ 0) q14.toNatClampNeg (((μ 0) q14.toNatClampNeg) ||| ((x1 >>> (x3 &&& 31)) &&& 1)))) 4 (upd (μ 4) x3.toNatClampNeg q11)) x1 x2 (x3 + 1) _ _ _ hF hf (lv_sub hl [1, 2, 3, 0] rfl)
  unfold f_X4_isEnough at hF
  refine lv_iconst (v := 0) hx hb dX4_isEnough_0 (by decide) ?_
  refine lv_istore_n (lv' := [(3, .int 0), (0, .ref (ad 0)), (1, .int a1), (2, .int a2)]) hx hb dX4_isEnough_1 rfl hl (by decide) rfl (fun ls hl => ?_)
  exact hL2 1000 μ0 a1 a2 0 _ _ _ hF hf (lv_sub hl [1, 2, 3, 0] rfl)
def f_X4_strike_B70 (μ : K2) (x2 : Int32) : Option (Int32 × K2) := Option.bind (f_X4_orNone μ x2) (fun q5 => some (q5.1, q5.2))
def f_X4_strike_L30 : Nat → K2 → Int32 → Int32 → Int32 → Option (Int32 × K2)
  | 0, _, _, _, _ => none
  | n + 1, μ, x1, x2, x3 => if x3 < 0 then (f_X4_strike_B70 μ x2) else (if x2 < 0 then (Option.bind (f_X4_isEnough μ x3 x1) (fun q8 => if q8.1 = 0 then (f_X4_strike_L30 n q8.2 x1 x2 (x3 + (-1))) else (f_X4_strike_L30 n q8.2 x1 x3 (x3 + (-1))))) else (Option.bind (f_X4_bits x3) (fun q11 => Option.bind (f_X4_bits x2) (fun q13 => if q13 < q11 then (f_X4_strike_L30 n μ x1 x2 (x3 + (-1))) else (Option.bind (f_X4_isEnough μ x3 x1) (fun q16 => if q16.1 = 0 then (f_X4_strike_L30 n q16.2 x1 x2 (x3 + (-1))) else (f_X4_strike_L30 n q16.2 x1 x3 (x3 + (-1)))))))))
def f_X4_strike (μ0 : K2) (a1 : Int32) : Option (Int32 × K2) := Option.bind (f_X4_within a1 0 24) (fun q1 => if q1 = 0 then (Option.bind (f_X4_finding μ0 (-1000001)) (fun q19 => some (q19.1, q19.2))) else (f_X4_strike_L30 1000 μ0 a1 (-1) ((1 <<< (((μ0 0) 1) &&& 31)) - 1)))
set_option maxHeartbeats 4000000 in
set_option maxRecDepth 100000 in
theorem c_X4_strike (l : Launch) (G : GT) (ad : Nat → Nat) (μ0 : K2) (a1 : Int32) (q : Int32 × K2) (hF : f_X4_strike μ0 a1 = some q) : Ct l G yX4_strike wsX4_strike ({ frames := 11, cells := 0, slots := 0, locals := 244 } : Room) ([.ref (ad 0), .int a1] : List Value) (wM G ad μ0) (some (.int q.1)) (wM G ad q.2) := by
  have k9 : Cond.fieldLink RX4 9 "PigeonRollsModel" "now" "[I" ∈ wsX4_strike := by decide +kernel
  have kc63 : Cond.constant RX4 63 (-1000001) ∈ wsX4_strike := by decide +kernel
  have hinX4 : ∀ w ∈ u_ws RX4 TX4 21, w ∈ wsX4_strike := by decide +kernel
  refine Ct.of cX4_strike 4 (some .int) (by decide) rfl (Nat.le_of_ble_eq_true rfl) ?_
  intro p e s m below meth c ls S hr hlocks hf hl
  have S : CallFix p m c cX4_strike 4 s ([.ref (ad 0), .int a1] : List Value).toArray wsX4_strike RX4 := S
  obtain ⟨hx, hb, hml, hown, hts⟩ := id S
  have hl : lv_has ls 4 [(0, .ref (ad 0)), (1, .int a1)] := hl
  have hL70 : ∀ (μ : K2) (x2 : Int32)  (H : Heap) (locs : List Loc) (ls : Array Slot), f_X4_strike_B70 μ x2 = some q → Fr G (va_A (wM G ad μ0) s.heap.size) s (wM G ad μ) H locs → lv_has ls 4 [(0, .ref (ad 0)), (2, .int x2)] → W p l e ({ frames := 11, cells := 0, slots := 0, locals := 244 } : Room) s m ([.ref (ad 0), .int a1] : List Value).toArray below meth c H locs 0 0 (MQ below (CPost G (wM G ad μ0) s.heap.size (some (.int q.1)) (wM G ad q.2)) ([.ref (ad 0), .int a1] : List Value).toArray s 0 0 (va_A (wM G ad μ0) s.heap.size)) (F0 m 70 ls []) := by
    intro μ x2 H locs ls hF hf hl
    unfold f_X4_strike_B70 at hF
    refine lv_aload_n hx hb dX4_strike_70 rfl (lv_at hl 0 rfl) ?_
    refine lv_iload_n hx hb dX4_strike_71 rfl (lv_at hl 1 rfl) ?_
    obtain ⟨q5, h6, hF⟩ := Option.bind_eq_some_iff.mp hF
    refine g_cv0 (o := some (.int q5.1)) (As := [.int x2]) (rest := []) (st1 := [.int q5.1]) (ci := 4) S hf (c_X4_orNone l G ad μ x2 q5 h6) (cwV 1 hts gX4_strike_X4_orNone rfl rfl rfl (by decide +kernel) ⟨Nat.le_of_ble_eq_true rfl, Nat.le_of_ble_eq_true rfl⟩) rfl rfl rfl 0 rfl rfl hl.1 rfl rfl (Nat.le_of_ble_eq_true rfl) ⟨Nat.zero_le _, Nat.zero_le _⟩ dX4_strike_72 (fun H locs hf => ?_)
    have hf : Fr G (va_A (wM G ad μ0) s.heap.size) s (wM G ad q5.2) H locs := hf
    have hE := Option.some.inj hF
    have hV := congrArg (fun z : Int32 × K2 => z.1) hE
    have hW := congrArg (fun z : Int32 × K2 => wM G ad z.2) hE
    exact g_iret S hr hlocks hf hV hW dX4_strike_75
  have hL30 : ∀ (n : Nat) (μ : K2) (x1 : Int32) (x2 : Int32) (x3 : Int32)  (H : Heap) (locs : List Loc) (ls : Array Slot), f_X4_strike_L30 n μ x1 x2 x3 = some q → Fr G (va_A (wM G ad μ0) s.heap.size) s (wM G ad μ) H locs → lv_has ls 4 [(0, .ref (ad 0)), (1, .int x1), (2, .int x2), (3, .int x3)] → W p l e ({ frames := 11, cells := 0, slots := 0, locals := 244 } : Room) s m ([.ref (ad 0), .int a1] : List Value).toArray below meth c H locs 0 0 (MQ below (CPost G (wM G ad μ0) s.heap.size (some (.int q.1)) (wM G ad q.2)) ([.ref (ad 0), .int a1] : List Value).toArray s 0 0 (va_A (wM G ad μ0) s.heap.size)) (F0 m 30 ls []) := by
    intro n
    induction n with
    | zero =>
      intro μ x1 x2 x3 H locs ls hF hf hl
      exact absurd hF (by simp [f_X4_strike_L30])
    | succ n ih30 =>
      intro μ x1 x2 x3 H locs ls hF hf hl
      rw [f_X4_strike_L30] at hF
      refine lv_iload_n hx hb dX4_strike_30 rfl (lv_at hl 3 rfl) ?_
      refine lv_if_lt (tgt := 70) hx hb dX4_strike_31 (by decide) (fun c4 => ?_) (fun c4 => ?_)
      · replace hF := (if_pos c4).symm.trans hF
        exact hL70 μ x2 _ _ _ hF hf (lv_sub hl [0, 2] rfl)
      · replace hF := (if_neg c4).symm.trans hF
        refine lv_iload_n hx hb dX4_strike_34 rfl (lv_at hl 2 rfl) ?_
        refine lv_if_lt (tgt := 49) hx hb dX4_strike_35 (by decide) (fun c7 => ?_) (fun c7 => ?_)
        · replace hF := (if_pos c7).symm.trans hF
          refine lv_aload_n hx hb dX4_strike_49 rfl (lv_at hl 0 rfl) ?_
          refine lv_iload_n hx hb dX4_strike_50 rfl (lv_at hl 3 rfl) ?_
          refine lv_iload_n hx hb dX4_strike_51 rfl (lv_at hl 1 rfl) ?_
          obtain ⟨q8, h9, hF⟩ := Option.bind_eq_some_iff.mp hF
          refine g_cv0 (o := some (.int q8.1)) (As := [.int x3, .int x1]) (rest := []) (st1 := [.int q8.1]) (ci := 4) S hf (c_X4_isEnough l G ad μ x3 x1 q8 h9) (cwV 2 hts gX4_strike_X4_isEnough rfl rfl rfl (by decide +kernel) ⟨Nat.le_of_ble_eq_true rfl, Nat.le_of_ble_eq_true rfl⟩) rfl rfl rfl 0 rfl rfl hl.1 rfl rfl (Nat.le_of_ble_eq_true rfl) ⟨Nat.zero_le _, Nat.zero_le _⟩ dX4_strike_52 (fun H locs hf => ?_)
          have hf : Fr G (va_A (wM G ad μ0) s.heap.size) s (wM G ad q8.2) H locs := hf
          refine lv_if_eq (tgt := 62) hx hb dX4_strike_55 (by decide) (fun c10 => ?_) (fun c10 => ?_)
          · replace hF := (if_pos c10).symm.trans hF
            refine lv_iload_n hx hb dX4_strike_62 rfl (lv_at hl 2 rfl) ?_
            refine lv_istore_n (lv' := [(2, .int x2), (0, .ref (ad 0)), (1, .int x1), (3, .int x3)]) hx hb dX4_strike_63 rfl hl (by decide) rfl (fun ls hl => ?_)
            refine lv_iinc (v := x3 + (-1)) (lv' := [(3, .int (x3 + (-1))), (2, .int x2), (0, .ref (ad 0)), (1, .int x1)]) hx hb dX4_strike_64 hl (k := 3) rfl rfl (by decide) rfl (fun ls hl => ?_)
            refine lv_goto (tgt := 30) hx hb dX4_strike_67 (by decide) ?_
            exact ih30 q8.2 x1 x2 (x3 + (-1)) _ _ _ hF hf (lv_sub hl [2, 3, 1, 0] rfl)
          · replace hF := (if_neg c10).symm.trans hF
            refine lv_iload_n hx hb dX4_strike_58 rfl (lv_at hl 3 rfl) ?_
            refine lv_goto (tgt := 63) hx hb dX4_strike_59 (by decide) ?_
            refine lv_istore_n (lv' := [(2, .int x3), (0, .ref (ad 0)), (1, .int x1), (3, .int x3)]) hx hb dX4_strike_63 rfl hl (by decide) rfl (fun ls hl => ?_)
            refine lv_iinc (v := x3 + (-1)) (lv' := [(3, .int (x3 + (-1))), (2, .int x3), (0, .ref (ad 0)), (1, .int x1)]) hx hb dX4_strike_64 hl (k := 3) rfl rfl (by decide) rfl (fun ls hl => ?_)
            refine lv_goto (tgt := 30) hx hb dX4_strike_67 (by decide) ?_
            exact ih30 q8.2 x1 x3 (x3 + (-1)) _ _ _ hF hf (lv_sub hl [2, 3, 1, 0] rfl)
        · replace hF := (if_neg c7).symm.trans hF
          refine lv_iload_n hx hb dX4_strike_38 rfl (lv_at hl 3 rfl) ?_
          obtain ⟨q11, h12, hF⟩ := Option.bind_eq_some_iff.mp hF
          refine g_cs0 (o := some (.int q11)) (As := [.int x3]) (rest := []) (st1 := [.int q11]) S hf (c_X4_bits l G  x3 q11 h12) (va_cwS 1 hts gX4_strike_X4_bits rfl rfl rfl (by decide +kernel) ⟨Nat.le_of_ble_eq_true rfl, Nat.le_of_ble_eq_true rfl⟩) rfl hl.1 rfl rfl (Nat.le_of_ble_eq_true rfl) ⟨Nat.zero_le _, Nat.zero_le _⟩ dX4_strike_39 (fun H locs hf => ?_)
          refine lv_iload_n hx hb dX4_strike_42 rfl (lv_at hl 2 rfl) ?_
          obtain ⟨q13, h14, hF⟩ := Option.bind_eq_some_iff.mp hF
          refine g_cs0 (o := some (.int q13)) (As := [.int x2]) (rest := [.int q11]) (st1 := [.int q13, .int q11]) S hf (c_X4_bits l G  x2 q13 h14) (va_cwS 1 hts gX4_strike_X4_bits rfl rfl rfl (by decide +kernel) ⟨Nat.le_of_ble_eq_true rfl, Nat.le_of_ble_eq_true rfl⟩) rfl hl.1 rfl rfl (Nat.le_of_ble_eq_true rfl) ⟨Nat.zero_le _, Nat.zero_le _⟩ dX4_strike_43 (fun H locs hf => ?_)
          refine lv_icmp_gt (tgt := 62) hx hb dX4_strike_46 (by decide) (fun c15 => ?_) (fun c15 => ?_)
          · replace hF := (if_pos c15).symm.trans hF
            refine lv_iload_n hx hb dX4_strike_62 rfl (lv_at hl 2 rfl) ?_
            refine lv_istore_n (lv' := [(2, .int x2), (0, .ref (ad 0)), (1, .int x1), (3, .int x3)]) hx hb dX4_strike_63 rfl hl (by decide) rfl (fun ls hl => ?_)
            refine lv_iinc (v := x3 + (-1)) (lv' := [(3, .int (x3 + (-1))), (2, .int x2), (0, .ref (ad 0)), (1, .int x1)]) hx hb dX4_strike_64 hl (k := 3) rfl rfl (by decide) rfl (fun ls hl => ?_)
            refine lv_goto (tgt := 30) hx hb dX4_strike_67 (by decide) ?_
            exact ih30 μ x1 x2 (x3 + (-1)) _ _ _ hF hf (lv_sub hl [2, 3, 1, 0] rfl)
          · replace hF := (if_neg c15).symm.trans hF
            refine lv_aload_n hx hb dX4_strike_49 rfl (lv_at hl 0 rfl) ?_
            refine lv_iload_n hx hb dX4_strike_50 rfl (lv_at hl 3 rfl) ?_
            refine lv_iload_n hx hb dX4_strike_51 rfl (lv_at hl 1 rfl) ?_
            obtain ⟨q16, h17, hF⟩ := Option.bind_eq_some_iff.mp hF
            refine g_cv0 (o := some (.int q16.1)) (As := [.int x3, .int x1]) (rest := []) (st1 := [.int q16.1]) (ci := 4) S hf (c_X4_isEnough l G ad μ x3 x1 q16 h17) (cwV 2 hts gX4_strike_X4_isEnough rfl rfl rfl (by decide +kernel) ⟨Nat.le_of_ble_eq_true rfl, Nat.le_of_ble_eq_true rfl⟩) rfl rfl rfl 0 rfl rfl hl.1 rfl rfl (Nat.le_of_ble_eq_true rfl) ⟨Nat.zero_le _, Nat.zero_le _⟩ dX4_strike_52 (fun H locs hf => ?_)
            have hf : Fr G (va_A (wM G ad μ0) s.heap.size) s (wM G ad q16.2) H locs := hf
            refine lv_if_eq (tgt := 62) hx hb dX4_strike_55 (by decide) (fun c18 => ?_) (fun c18 => ?_)
            · replace hF := (if_pos c18).symm.trans hF
              refine lv_iload_n hx hb dX4_strike_62 rfl (lv_at hl 2 rfl) ?_
              refine lv_istore_n (lv' := [(2, .int x2), (0, .ref (ad 0)), (1, .int x1), (3, .int x3)]) hx hb dX4_strike_63 rfl hl (by decide) rfl (fun ls hl => ?_)
              refine lv_iinc (v := x3 + (-1)) (lv' := [(3, .int (x3 + (-1))), (2, .int x2), (0, .ref (ad 0)), (1, .int x1)]) hx hb dX4_strike_64 hl (k := 3) rfl rfl (by decide) rfl (fun ls hl => ?_)
              refine lv_goto (tgt := 30) hx hb dX4_strike_67 (by decide) ?_
              exact ih30 q16.2 x1 x2 (x3 + (-1)) _ _ _ hF hf (lv_sub hl [2, 3, 1, 0] rfl)
            · replace hF := (if_neg c18).symm.trans hF
              refine lv_iload_n hx hb dX4_strike_58 rfl (lv_at hl 3 rfl) ?_
              refine lv_goto (tgt := 63) hx hb dX4_strike_59 (by decide) ?_
              refine lv_istore_n (lv' := [(2, .int x3), (0, .ref (ad 0)), (1, .int x1), (3, .int x3)]) hx hb dX4_strike_63 rfl hl (by decide) rfl (fun ls hl => ?_)
              refine lv_iinc (v := x3 + (-1)) (lv' := [(3, .int (x3 + (-1))), (2, .int x3), (0, .ref (ad 0)), (1, .int x1)]) hx hb dX4_strike_64 hl (k := 3) rfl rfl (by decide) rfl (fun ls hl => ?_)
              refine lv_goto (tgt := 30) hx hb dX4_strike_67 (by decide) ?_
              exact ih30 q16.2 x1 x3 (x3 + (-1)) _ _ _ hF hf (lv_sub hl [2, 3, 1, 0] rfl)
  unfold f_X4_strike at hF
  refine lv_iload_n hx hb dX4_strike_0 rfl (lv_at hl 1 rfl) ?_
  refine lv_iconst (v := 0) hx hb dX4_strike_1 (by decide) ?_
  refine lv_bipush (v := 24) hx hb dX4_strike_2 (by decide) ?_
  obtain ⟨q1, h2, hF⟩ := Option.bind_eq_some_iff.mp hF
  refine g_cs0 (o := some (.int q1)) (As := [.int a1, .int 0, .int 24]) (rest := []) (st1 := [.int q1]) S hf (c_X4_within l G  a1 0 24 q1 h2) (va_cwS 3 hts gX4_strike_X4_within rfl rfl rfl (by decide +kernel) ⟨Nat.le_of_ble_eq_true rfl, Nat.le_of_ble_eq_true rfl⟩) rfl hl.1 rfl rfl (Nat.le_of_ble_eq_true rfl) ⟨Nat.zero_le _, Nat.zero_le _⟩ dX4_strike_4 (fun H locs hf => ?_)
  refine lv_if_ne (tgt := 17) hx hb dX4_strike_7 (by decide) (fun c3 => ?_) (fun c3 => ?_)
  · replace hF := (if_neg c3).symm.trans hF
    refine lv_iconst (v := -1) hx hb dX4_strike_17 (by decide) ?_
    refine lv_istore_n (lv' := [(2, .int (-1)), (0, .ref (ad 0)), (1, .int a1)]) hx hb dX4_strike_18 rfl hl (by decide) rfl (fun ls hl => ?_)
    refine lv_iconst (v := 1) hx hb dX4_strike_19 (by decide) ?_
    refine lv_aload_n hx hb dX4_strike_20 rfl (lv_at hl 1 rfl) ?_
    refine g_get (ci := 4) (C := RX4) (T := TX4) (N := 21) (v := .ref (ad 1)) S hf hinX4 0 rfl rfl 0 (by decide) k9 rfl rfl dX4_strike_21 ?_
    refine lv_iconst (v := 1) hx hb dX4_strike_24 (by decide) ?_
    refine g_ald (v := (μ0 0) 1) S hf 2 rfl (by decide) rfl dX4_strike_25 ?_
    refine lv_ishl hx hb dX4_strike_26 ?_
    refine lv_iconst (v := 1) hx hb dX4_strike_27 (by decide) ?_
    refine lv_isub hx hb dX4_strike_28 ?_
    refine lv_istore_n (lv' := [(3, .int ((1 <<< (((μ0 0) 1) &&& 31)) - 1)), (2, .int (-1)), (0, .ref (ad 0)), (1, .int a1)]) hx hb dX4_strike_29 rfl hl (by decide) rfl (fun ls hl => ?_)
    exact hL30 1000 μ0 a1 (-1) ((1 <<< (((μ0 0) 1) &&& 31)) - 1) _ _ _ hF hf (lv_sub hl [2, 3, 1, 0] rfl)
  · replace hF := (if_pos c3).symm.trans hF
    refine lv_aload_n hx hb dX4_strike_10 rfl (lv_at hl 0 rfl) ?_
    refine lv_ldc (v := -1000001) hx hb hown (hts _ kc63) dX4_strike_11 ?_
    obtain ⟨q19, h20, hF⟩ := Option.bind_eq_some_iff.mp hF
    refine g_cv0 (o := some (.int q19.1)) (As := [.int (-1000001)]) (rest := []) (st1 := [.int q19.1]) (ci := 4) S hf (c_X4_finding l G ad μ0 (-1000001) q19 h20) (cwV 1 hts gX4_strike_X4_finding rfl rfl rfl (by decide +kernel) ⟨Nat.le_of_ble_eq_true rfl, Nat.le_of_ble_eq_true rfl⟩) rfl rfl rfl 0 rfl rfl hl.1 rfl rfl (Nat.le_of_ble_eq_true rfl) ⟨Nat.zero_le _, Nat.zero_le _⟩ dX4_strike_13 (fun H locs hf => ?_)
    have hf : Fr G (va_A (wM G ad μ0) s.heap.size) s (wM G ad q19.2) H locs := hf
    have hE := Option.some.inj hF
    have hV := congrArg (fun z : Int32 × K2 => z.1) hE
    have hW := congrArg (fun z : Int32 × K2 => wM G ad z.2) hE
    exact g_iret S hr hlocks hf hV hW dX4_strike_16
