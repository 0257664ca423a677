def f_X4_takesWord (μ0 : K2) (a1 : Nat) : Option (Int32 × K2) := if (μ0 11 6) = 0 then (Option.bind (f_X4_isWord μ0 a1) (fun q2 => if q2 = 0 then (some (0, μ0)) else (Option.bind (f_X4_must μ0 1) (fun q5 => some (1, q5))))) else (some (0, μ0))
set_option maxHeartbeats 4000000 in
set_option maxRecDepth 100000 in
theorem c_X4_takesWord (l : Launch) (G : GT) (ad : Nat → Nat) (μ0 : K2) (a1 : Nat) (q : Int32 × K2) (hF : f_X4_takesWord μ0 a1 = some q) (h_a1 : a1 < 15) : Ct l G yX4_takesWord wsX4_takesWord ({ frames := 5, cells := 0, slots := 0, locals := 108 } : Room) ([.ref (ad 0), .ref (gk G a1)] : List Value) (wM G ad μ0) (some (.int q.1)) (wM G ad q.2) := by
  have k244 : Cond.fieldLink RX4 244 "PigeonRollsModel" "isWrong" "Z" ∈ wsX4_takesWord := by decide +kernel
  have hinX4 : ∀ w ∈ u_ws RX4 TX4 21, w ∈ wsX4_takesWord := by decide +kernel
  refine Ct.of cX4_takesWord 3 (some .boolean) (by decide) rfl (Nat.le_of_ble_eq_true rfl) ?_
  intro p e s m below meth c ls S hr hlocks hf hl
  have S : CallFix p m c cX4_takesWord 3 s ([.ref (ad 0), .ref (gk G a1)] : List Value).toArray wsX4_takesWord RX4 := S
  obtain ⟨hx, hb, hml, hown, hts⟩ := id S
  have hl : lv_has ls 3 [(0, .ref (ad 0)), (1, .ref (gk G a1))] := hl
  unfold f_X4_takesWord at hF
  refine lv_aload_n hx hb dX4_takesWord_0 rfl (lv_at hl 0 rfl) ?_
  refine g_get (ci := 4) (C := RX4) (T := TX4) (N := 21) (v := .int (μ0 11 6)) S hf hinX4 0 rfl rfl 12 (by decide) k244 rfl rfl dX4_takesWord_1 ?_
  refine lv_if_ne (tgt := 19) hx hb dX4_takesWord_4 (by decide) (fun c1 => ?_) (fun c1 => ?_)
  · replace hF := (if_neg c1).symm.trans hF
    refine lv_iconst (v := 0) hx hb dX4_takesWord_19 (by decide) ?_
    refine lv_istore_n (lv' := [(2, .int 0), (0, .ref (ad 0)), (1, .ref (gk G a1))]) hx hb dX4_takesWord_20 rfl hl (by decide) rfl (fun ls hl => ?_)
    refine lv_iload_n hx hb dX4_takesWord_21 rfl (lv_at hl 0 rfl) ?_
    refine lv_if_eq (tgt := 30) hx hb dX4_takesWord_22 (by decide) (fun c => ?_) (fun c => absurd c (by decide))
    refine lv_iload_n hx hb dX4_takesWord_30 rfl (lv_at hl 0 rfl) ?_
    have hE := Option.some.inj hF
    have hV := congrArg (fun z : Int32 × K2 => z.1) hE
    have hW := congrArg (fun z : Int32 × K2 => wM G ad z.2) hE
    exact g_zret S hr hlocks hf (by decide) hV hW dX4_takesWord_31
  · replace hF := (if_pos c1).symm.trans hF
    refine lv_aload_n hx hb dX4_takesWord_7 rfl (lv_at hl 0 rfl) ?_
    refine lv_aload_n hx hb dX4_takesWord_8 rfl (lv_at hl 1 rfl) ?_
    obtain ⟨q2, h3, hF⟩ := Option.bind_eq_some_iff.mp hF
    refine g_cv0 (o := some (.int q2)) (As := [.ref (gk G a1)]) (rest := []) (st1 := [.int q2]) (ci := 4) S hf (c_X4_isWord l G ad μ0 a1 q2 h3 h_a1) (cwV 1 hts gX4_takesWord_X4_isWord rfl rfl rfl (by decide +kernel) ⟨Nat.le_of_ble_eq_true rfl, Nat.le_of_ble_eq_true rfl⟩) rfl rfl rfl 0 rfl rfl hl.1 rfl rfl (Nat.le_of_ble_eq_true rfl) ⟨Nat.zero_le _, Nat.zero_le _⟩ dX4_takesWord_9 (fun H locs hf => ?_)
    have hf : Fr G (va_A (wM G ad μ0) s.heap.size) s (wM G ad μ0) H locs := hf
    refine lv_if_eq (tgt := 19) hx hb dX4_takesWord_12 (by decide) (fun c4 => ?_) (fun c4 => ?_)
    · replace hF := (if_pos c4).symm.trans hF
      refine lv_iconst (v := 0) hx hb dX4_takesWord_19 (by decide) ?_
      refine lv_istore_n (lv' := [(2, .int 0), (0, .ref (ad 0)), (1, .ref (gk G a1))]) hx hb dX4_takesWord_20 rfl hl (by decide) rfl (fun ls hl => ?_)
      refine lv_iload_n hx hb dX4_takesWord_21 rfl (lv_at hl 0 rfl) ?_
      refine lv_if_eq (tgt := 30) hx hb dX4_takesWord_22 (by decide) (fun c => ?_) (fun c => absurd c (by decide))
      refine lv_iload_n hx hb dX4_takesWord_30 rfl (lv_at hl 0 rfl) ?_
      have hE := Option.some.inj hF
      have hV := congrArg (fun z : Int32 × K2 => z.1) hE
      have hW := congrArg (fun z : Int32 × K2 => wM G ad z.2) hE
      exact g_zret S hr hlocks hf (by decide) hV hW dX4_takesWord_31
    · replace hF := (if_neg c4).symm.trans hF
      refine lv_iconst (v := 1) hx hb dX4_takesWord_15 (by decide) ?_
      refine lv_goto (tgt := 20) hx hb dX4_takesWord_16 (by decide) ?_
      refine lv_istore_n (lv' := [(2, .int 1), (0, .ref (ad 0)), (1, .ref (gk G a1))]) hx hb dX4_takesWord_20 rfl hl (by decide) rfl (fun ls hl => ?_)
      refine lv_iload_n hx hb dX4_takesWord_21 rfl (lv_at hl 0 rfl) ?_
      refine lv_if_eq (tgt := 30) hx hb dX4_takesWord_22 (by decide) (fun c => absurd c (by decide)) (fun c => ?_)
      refine lv_aload_n hx hb dX4_takesWord_25 rfl (lv_at hl 1 rfl) ?_
      refine lv_iconst (v := 1) hx hb dX4_takesWord_26 (by decide) ?_
      obtain ⟨q5, h6, hF⟩ := Option.bind_eq_some_iff.mp hF
      refine g_cv0 (o := none) (As := [.int 1]) (rest := []) (st1 := []) (ci := 4) S hf (c_X4_must l G ad μ0 1 q5 h6) (cwV 1 hts gX4_takesWord_X4_must rfl rfl rfl (by decide +kernel) ⟨Nat.le_of_ble_eq_true rfl, Nat.le_of_ble_eq_true rfl⟩) rfl rfl rfl 0 rfl rfl hl.1 rfl rfl (Nat.le_of_ble_eq_true rfl) ⟨Nat.zero_le _, Nat.zero_le _⟩ dX4_takesWord_27 (fun H locs hf => ?_)
      have hf : Fr G (va_A (wM G ad μ0) s.heap.size) s (wM G ad q5) H locs := hf
      refine lv_iload_n hx hb dX4_takesWord_30 rfl (lv_at hl 0 rfl) ?_
      have hE := Option.some.inj hF
      have hV := congrArg (fun z : Int32 × K2 => z.1) hE
      have hW := congrArg (fun z : Int32 × K2 => wM G ad z.2) hE
      exact g_zret S hr hlocks hf (by decide) hV hW dX4_takesWord_31
def f_X4_readBird_B104 (μ : K2) (x1 : Int32) (x2 : Int32) (x3 : Int32) (x4 : Int32) (z0 : Int32) : Option (K2) := Option.bind (f_X4_takesWord μ 11) (fun q16 => if q16.1 = 0 then (Option.bind (f_X4_addItem q16.2 x1 x2 x3 x4 z0 0) (fun q19 => some (va_up q19 11 (upd (q19 11) 8 ((q19 11 8) + 1))))) else (Option.bind (f_X4_addItem q16.2 x1 x2 x3 x4 z0 1) (fun q21 => some (va_up q21 11 (upd (q21 11) 8 ((q21 11 8) + 1))))))
def f_X4_readBird_B87 (μ : K2) (x1 : Int32) (x2 : Int32) (x3 : Int32) (z0 : Int32) : Option (K2) := Option.bind (f_X4_takesWord μ 10) (fun q13 => if q13.1 = 0 then (f_X4_readBird_B104 q13.2 x1 x2 x3 z0 0) else (f_X4_readBird_B104 q13.2 x1 x2 x3 z0 1))
def f_X4_readBird_B64 (μ : K2) (x1 : Int32) (x2 : Int32) (z0 : Int32) : Option (K2) := Option.bind (f_X4_takesWord μ 9) (fun q10 => if q10.1 = 0 then (f_X4_readBird_B87 q10.2 x1 x2 z0 0) else (Option.bind (f_X4_number q10.2 0 9999) (fun q23 => f_X4_readBird_B87 q23.2 x1 x2 z0 q23.1)))
def f_X4_readBird_B38 (μ : K2) (x1 : Int32) (z0 : Int32) : Option (K2) := Option.bind (f_X4_takesWord μ 8) (fun q7 => if q7.1 = 0 then (f_X4_readBird_B64 q7.2 x1 z0 (-1)) else (Option.bind (f_X4_number q7.2 0 ((q7.2 11 8) - 1)) (fun q25 => f_X4_readBird_B64 q25.2 x1 z0 q25.1)))
def f_X4_readBird (μ0 : K2) (a1 : Int32) : Option (K2) := if 8 ≤ (μ0 11 8) then (Option.bind (f_X4_must μ0 0) (fun q2 => Option.bind (f_X4_takesWord q2 7) (fun q4 => if q4.1 = 0 then (f_X4_readBird_B38 q4.2 a1 0) else (Option.bind (f_X4_number q4.2 0 5) (fun q27 => f_X4_readBird_B38 q27.2 a1 q27.1))))) else (Option.bind (f_X4_must μ0 1) (fun q29 => Option.bind (f_X4_takesWord q29 7) (fun q31 => if q31.1 = 0 then (f_X4_readBird_B38 q31.2 a1 0) else (Option.bind (f_X4_number q31.2 0 5) (fun q34 => f_X4_readBird_B38 q34.2 a1 q34.1)))))
set_option maxHeartbeats 4000000 in
set_option maxRecDepth 100000 in
theorem c_X4_readBird (l : Launch) (G : GT) (ad : Nat → Nat) (μ0 : K2) (a1 : Int32) (q : K2) (hF : f_X4_readBird μ0 a1 = some q) : Ct l G yX4_readBird wsX4_readBird ({ frames := 6, cells := 0, slots := 0, locals := 130 } : Room) ([.ref (ad 0), .int a1] : List Value) (wM G ad μ0) (none) (wM G ad q) := by
  have k262 : Cond.fieldLink RX4 262 "PigeonRollsModel" "birdsThen" "I" ∈ wsX4_readBird := by decide +kernel
  have hinX4 : ∀ w ∈ u_ws RX4 TX4 21, w ∈ wsX4_readBird := by decide +kernel
  refine Ct.of cX4_readBird 6 none (by decide) rfl (Nat.le_of_ble_eq_true rfl) ?_
  intro p e s m below meth c ls S hr hlocks hf hl
  have S : CallFix p m c cX4_readBird 6 s ([.ref (ad 0), .int a1] : List Value).toArray wsX4_readBird RX4 := S
  obtain ⟨hx, hb, hml, hown, hts⟩ := id S
  have hl : lv_has ls 6 [(0, .ref (ad 0)), (1, .int a1)] := hl
  have hL104 : ∀ (μ : K2) (x1 : Int32) (x2 : Int32) (x3 : Int32) (x4 : Int32) (z0 : Int32)  (H : Heap) (locs : List Loc) (ls : Array Slot), f_X4_readBird_B104 μ x1 x2 x3 x4 z0 = some q → Fr G (va_A (wM G ad μ0) s.heap.size) s (wM G ad μ) H locs → lv_has ls 6 [(0, .ref (ad 0)), (1, .int x1), (2, .int x2), (3, .int x3), (4, .int x4)] → W p l e ({ frames := 6, cells := 0, slots := 0, locals := 130 } : Room) s m ([.ref (ad 0), .int a1] : List Value).toArray below meth c H locs 0 0 (MQ below (CPost G (wM G ad μ0) s.heap.size (none) (wM G ad q)) ([.ref (ad 0), .int a1] : List Value).toArray s 0 0 (va_A (wM G ad μ0) s.heap.size)) (F0 m 104 ls [.int z0]) := by
    intro μ x1 x2 x3 x4 z0 H locs ls hF hf hl
    unfold f_X4_readBird_B104 at hF
    refine lv_istore (lv' := [(5, .int z0), (0, .ref (ad 0)), (1, .int x1), (2, .int x2), (3, .int x3), (4, .int x4)]) hx hb dX4_readBird_104 hl (by decide) rfl (fun ls hl => ?_)
    refine lv_aload_n hx hb dX4_readBird_106 rfl (lv_at hl 1 rfl) ?_
    refine lv_iload_n hx hb dX4_readBird_107 rfl (lv_at hl 2 rfl) ?_
    refine lv_iload_n hx hb dX4_readBird_108 rfl (lv_at hl 3 rfl) ?_
    refine lv_iload_n hx hb dX4_readBird_109 rfl (lv_at hl 4 rfl) ?_
    refine lv_iload hx hb dX4_readBird_110 (lv_at hl 5 rfl) ?_
    refine lv_iload hx hb dX4_readBird_112 (lv_at hl 0 rfl) ?_
    refine lv_aload_n hx hb dX4_readBird_114 rfl (lv_at hl 1 rfl) ?_
    refine ldcSW (q := gk G 11) (tx := "boy") (own := RX4) (index := 279) hx hb hown (hf.2.2.2.2.2.2.2.2.2.2 ("PigeonRollsModel", 279, "boy", 11) (by decide)) dX4_readBird_115 ?_
    obtain ⟨q16, h17, hF⟩ := Option.bind_eq_some_iff.mp hF
    refine g_cv0 (o := some (.int q16.1)) (As := [.ref (gk G 11)]) (rest := [.int z0, .int x4, .int x3, .int x2, .int x1, .ref (ad 0)]) (st1 := [.int q16.1, .int z0, .int x4, .int x3, .int x2, .int x1, .ref (ad 0)]) (ci := 4) S hf (c_X4_takesWord l G ad μ 11 q16 h17 (by decide)) (cwV 1 hts gX4_readBird_X4_takesWord rfl rfl rfl (by decide +kernel) ⟨Nat.le_of_ble_eq_true rfl, Nat.le_of_ble_eq_true rfl⟩) rfl rfl rfl 0 rfl rfl hl.1 rfl rfl (Nat.le_of_ble_eq_true rfl) ⟨Nat.zero_le _, Nat.zero_le _⟩ dX4_readBird_118 (fun H locs hf => ?_)
    have hf : Fr G (va_A (wM G ad μ0) s.heap.size) s (wM G ad q16.2) H locs := hf
    refine lv_if_eq (tgt := 128) hx hb dX4_readBird_121 (by decide) (fun c18 => ?_) (fun c18 => ?_)
    · replace hF := (if_pos c18).symm.trans hF
      refine lv_iconst (v := 0) hx hb dX4_readBird_128 (by decide) ?_
      obtain ⟨q19, h20, hF⟩ := Option.bind_eq_some_iff.mp hF
      refine g_cv0 (o := none) (As := [.int x1, .int x2, .int x3, .int x4, .int z0, .int 0]) (rest := []) (st1 := []) (ci := 4) S hf (c_X4_addItem l G ad q16.2 x1 x2 x3 x4 z0 0 q19 h20) (cwV 6 hts gX4_readBird_X4_addItem rfl rfl rfl (by decide +kernel) ⟨Nat.le_of_ble_eq_true rfl, Nat.le_of_ble_eq_true rfl⟩) rfl rfl rfl 0 rfl rfl hl.1 rfl rfl (Nat.le_of_ble_eq_true rfl) ⟨Nat.zero_le _, Nat.zero_le _⟩ dX4_readBird_129 (fun H locs hf => ?_)
      have hf : Fr G (va_A (wM G ad μ0) s.heap.size) s (wM G ad q19) H locs := hf
      refine lv_aload_n hx hb dX4_readBird_132 rfl (lv_at hl 1 rfl) ?_
      refine lv_dup hx hb dX4_readBird_133 rfl ?_
      refine g_get (ci := 4) (C := RX4) (T := TX4) (N := 21) (v := .int (q19 11 8)) S hf hinX4 0 rfl rfl 16 (by decide) k262 rfl rfl dX4_readBird_134 ?_
      refine lv_iconst (v := 1) hx hb dX4_readBird_137 (by decide) ?_
      refine lv_iadd hx hb dX4_readBird_138 ?_
      refine g_put (ci := 4) (C := RX4) (T := TX4) (N := 21) (ww' := wM G ad (va_up q19 11 (upd (q19 11) 8 ((q19 11 8) + 1)))) S hf hinX4 tyX4 tyX4_ok nmX4 0 rfl rfl 16 (by decide) k262 rfl rfl rfl rfl (Nat.le_of_ble_eq_true rfl) rfl dX4_readBird_139 (fun H locs hf => ?_)
      have hE := Option.some.inj hF
      have hW := congrArg (fun z : K2 => wM G ad z) hE
      exact g_vret S hr hlocks hf hW dX4_readBird_142
    · replace hF := (if_neg c18).symm.trans hF
      refine lv_iconst (v := 1) hx hb dX4_readBird_124 (by decide) ?_
      refine lv_goto (tgt := 129) hx hb dX4_readBird_125 (by decide) ?_
      obtain ⟨q21, h22, hF⟩ := Option.bind_eq_some_iff.mp hF
      refine g_cv0 (o := none) (As := [.int x1, .int x2, .int x3, .int x4, .int z0, .int 1]) (rest := []) (st1 := []) (ci := 4) S hf (c_X4_addItem l G ad q16.2 x1 x2 x3 x4 z0 1 q21 h22) (cwV 6 hts gX4_readBird_X4_addItem rfl rfl rfl (by decide +kernel) ⟨Nat.le_of_ble_eq_true rfl, Nat.le_of_ble_eq_true rfl⟩) rfl rfl rfl 0 rfl rfl hl.1 rfl rfl (Nat.le_of_ble_eq_true rfl) ⟨Nat.zero_le _, Nat.zero_le _⟩ dX4_readBird_129 (fun H locs hf => ?_)
      have hf : Fr G (va_A (wM G ad μ0) s.heap.size) s (wM G ad q21) H locs := hf
      refine lv_aload_n hx hb dX4_readBird_132 rfl (lv_at hl 1 rfl) ?_
      refine lv_dup hx hb dX4_readBird_133 rfl ?_
      refine g_get (ci := 4) (C := RX4) (T := TX4) (N := 21) (v := .int (q21 11 8)) S hf hinX4 0 rfl rfl 16 (by decide) k262 rfl rfl dX4_readBird_134 ?_
      refine lv_iconst (v := 1) hx hb dX4_readBird_137 (by decide) ?_
      refine lv_iadd hx hb dX4_readBird_138 ?_
      refine g_put (ci := 4) (C := RX4) (T := TX4) (N := 21) (ww' := wM G ad (va_up q21 11 (upd (q21 11) 8 ((q21 11 8) + 1)))) S hf hinX4 tyX4 tyX4_ok nmX4 0 rfl rfl 16 (by decide) k262 rfl rfl rfl rfl (Nat.le_of_ble_eq_true rfl) rfl dX4_readBird_139 (fun H locs hf => ?_)
      have hE := Option.some.inj hF
      have hW := congrArg (fun z : K2 => wM G ad z) hE
      exact g_vret S hr hlocks hf hW dX4_readBird_142
  have hL87 : ∀ (μ : K2) (x1 : Int32) (x2 : Int32) (x3 : Int32) (z0 : Int32)  (H : Heap) (locs : List Loc) (ls : Array Slot), f_X4_readBird_B87 μ x1 x2 x3 z0 = some q → Fr G (va_A (wM G ad μ0) s.heap.size) s (wM G ad μ) H locs → lv_has ls 6 [(0, .ref (ad 0)), (1, .int x1), (2, .int x2), (3, .int x3)] → W p l e ({ frames := 6, cells := 0, slots := 0, locals := 130 } : Room) s m ([.ref (ad 0), .int a1] : List Value).toArray below meth c H locs 0 0 (MQ below (CPost G (wM G ad μ0) s.heap.size (none) (wM G ad q)) ([.ref (ad 0), .int a1] : List Value).toArray s 0 0 (va_A (wM G ad μ0) s.heap.size)) (F0 m 87 ls [.int z0]) := by
    intro μ x1 x2 x3 z0 H locs ls hF hf hl
    unfold f_X4_readBird_B87 at hF
    refine lv_istore (lv' := [(4, .int z0), (0, .ref (ad 0)), (1, .int x1), (2, .int x2), (3, .int x3)]) hx hb dX4_readBird_87 hl (by decide) rfl (fun ls hl => ?_)
    refine lv_aload_n hx hb dX4_readBird_89 rfl (lv_at hl 1 rfl) ?_
    refine ldcSW (q := gk G 10) (tx := "carried") (own := RX4) (index := 277) hx hb hown (hf.2.2.2.2.2.2.2.2.2.2 ("PigeonRollsModel", 277, "carried", 10) (by decide)) dX4_readBird_90 ?_
    obtain ⟨q13, h14, hF⟩ := Option.bind_eq_some_iff.mp hF
    refine g_cv0 (o := some (.int q13.1)) (As := [.ref (gk G 10)]) (rest := []) (st1 := [.int q13.1]) (ci := 4) S hf (c_X4_takesWord l G ad μ 10 q13 h14 (by decide)) (cwV 1 hts gX4_readBird_X4_takesWord rfl rfl rfl (by decide +kernel) ⟨Nat.le_of_ble_eq_true rfl, Nat.le_of_ble_eq_true rfl⟩) rfl rfl rfl 0 rfl rfl hl.1 rfl rfl (Nat.le_of_ble_eq_true rfl) ⟨Nat.zero_le _, Nat.zero_le _⟩ dX4_readBird_93 (fun H locs hf => ?_)
    have hf : Fr G (va_A (wM G ad μ0) s.heap.size) s (wM G ad q13.2) H locs := hf
    refine lv_if_eq (tgt := 103) hx hb dX4_readBird_96 (by decide) (fun c15 => ?_) (fun c15 => ?_)
    · replace hF := (if_pos c15).symm.trans hF
      refine lv_iconst (v := 0) hx hb dX4_readBird_103 (by decide) ?_
      exact hL104 q13.2 x1 x2 x3 z0 0 _ _ _ hF hf (lv_sub hl [1, 2, 3, 4, 0] rfl)
    · replace hF := (if_neg c15).symm.trans hF
      refine lv_iconst (v := 1) hx hb dX4_readBird_99 (by decide) ?_
      refine lv_goto (tgt := 104) hx hb dX4_readBird_100 (by decide) ?_
      exact hL104 q13.2 x1 x2 x3 z0 1 _ _ _ hF hf (lv_sub hl [1, 2, 3, 4, 0] rfl)
  have hL64 : ∀ (μ : K2) (x1 : Int32) (x2 : Int32) (z0 : Int32)  (H : Heap) (locs : List Loc) (ls : Array Slot), f_X4_readBird_B64 μ x1 x2 z0 = some q → Fr G (va_A (wM G ad μ0) s.heap.size) s (wM G ad μ) H locs → lv_has ls 6 [(0, .ref (ad 0)), (1, .int x1), (2, .int x2)] → W p l e ({ frames := 6, cells := 0, slots := 0, locals := 130 } : Room) s m ([.ref (ad 0), .int a1] : List Value).toArray below meth c H locs 0 0 (MQ below (CPost G (wM G ad μ0) s.heap.size (none) (wM G ad q)) ([.ref (ad 0), .int a1] : List Value).toArray s 0 0 (va_A (wM G ad μ0) s.heap.size)) (F0 m 64 ls [.int z0]) := by
    intro μ x1 x2 z0 H locs ls hF hf hl
    unfold f_X4_readBird_B64 at hF
    refine lv_istore_n (lv' := [(3, .int z0), (0, .ref (ad 0)), (1, .int x1), (2, .int x2)]) hx hb dX4_readBird_64 rfl hl (by decide) rfl (fun ls hl => ?_)
    refine lv_aload_n hx hb dX4_readBird_65 rfl (lv_at hl 1 rfl) ?_
    refine ldcSW (q := gk G 9) (tx := "aged") (own := RX4) (index := 275) hx hb hown (hf.2.2.2.2.2.2.2.2.2.2 ("PigeonRollsModel", 275, "aged", 9) (by decide)) dX4_readBird_66 ?_
    obtain ⟨q10, h11, hF⟩ := Option.bind_eq_some_iff.mp hF
    refine g_cv0 (o := some (.int q10.1)) (As := [.ref (gk G 9)]) (rest := []) (st1 := [.int q10.1]) (ci := 4) S hf (c_X4_takesWord l G ad μ 9 q10 h11 (by decide)) (cwV 1 hts gX4_readBird_X4_takesWord rfl rfl rfl (by decide +kernel) ⟨Nat.le_of_ble_eq_true rfl, Nat.le_of_ble_eq_true rfl⟩) rfl rfl rfl 0 rfl rfl hl.1 rfl rfl (Nat.le_of_ble_eq_true rfl) ⟨Nat.zero_le _, Nat.zero_le _⟩ dX4_readBird_69 (fun H locs hf => ?_)
    have hf : Fr G (va_A (wM G ad μ0) s.heap.size) s (wM G ad q10.2) H locs := hf
    refine lv_if_eq (tgt := 86) hx hb dX4_readBird_72 (by decide) (fun c12 => ?_) (fun c12 => ?_)
    · replace hF := (if_pos c12).symm.trans hF
      refine lv_iconst (v := 0) hx hb dX4_readBird_86 (by decide) ?_
      exact hL87 q10.2 x1 x2 z0 0 _ _ _ hF hf (lv_sub hl [1, 2, 3, 0] rfl)
    · replace hF := (if_neg c12).symm.trans hF
      refine lv_aload_n hx hb dX4_readBird_75 rfl (lv_at hl 1 rfl) ?_
      refine lv_iconst (v := 0) hx hb dX4_readBird_76 (by decide) ?_
      refine lv_sipush (v := 9999) hx hb dX4_readBird_77 (by decide) ?_
      obtain ⟨q23, h24, hF⟩ := Option.bind_eq_some_iff.mp hF
      refine g_cv0 (o := some (.int q23.1)) (As := [.int 0, .int 9999]) (rest := []) (st1 := [.int q23.1]) (ci := 4) S hf (c_X4_number l G ad q10.2 0 9999 q23 h24) (cwV 2 hts gX4_readBird_X4_number rfl rfl rfl (by decide +kernel) ⟨Nat.le_of_ble_eq_true rfl, Nat.le_of_ble_eq_true rfl⟩) rfl rfl rfl 0 rfl rfl hl.1 rfl rfl (Nat.le_of_ble_eq_true rfl) ⟨Nat.zero_le _, Nat.zero_le _⟩ dX4_readBird_80 (fun H locs hf => ?_)
      have hf : Fr G (va_A (wM G ad μ0) s.heap.size) s (wM G ad q23.2) H locs := hf
      refine lv_goto (tgt := 87) hx hb dX4_readBird_83 (by decide) ?_
      exact hL87 q23.2 x1 x2 z0 q23.1 _ _ _ hF hf (lv_sub hl [1, 2, 3, 0] rfl)
  have hL38 : ∀ (μ : K2) (x1 : Int32) (z0 : Int32)  (H : Heap) (locs : List Loc) (ls : Array Slot), f_X4_readBird_B38 μ x1 z0 = some q → Fr G (va_A (wM G ad μ0) s.heap.size) s (wM G ad μ) H locs → lv_has ls 6 [(0, .ref (ad 0)), (1, .int x1)] → W p l e ({ frames := 6, cells := 0, slots := 0, locals := 130 } : Room) s m ([.ref (ad 0), .int a1] : List Value).toArray below meth c H locs 0 0 (MQ below (CPost G (wM G ad μ0) s.heap.size (none) (wM G ad q)) ([.ref (ad 0), .int a1] : List Value).toArray s 0 0 (va_A (wM G ad μ0) s.heap.size)) (F0 m 38 ls [.int z0]) := by
    intro μ x1 z0 H locs ls hF hf hl
    unfold f_X4_readBird_B38 at hF
    refine lv_istore_n (lv' := [(2, .int z0), (0, .ref (ad 0)), (1, .int x1)]) hx hb dX4_readBird_38 rfl hl (by decide) rfl (fun ls hl => ?_)
    refine lv_aload_n hx hb dX4_readBird_39 rfl (lv_at hl 1 rfl) ?_
    refine ldcSW (q := gk G 8) (tx := "from") (own := RX4) (index := 273) hx hb hown (hf.2.2.2.2.2.2.2.2.2.2 ("PigeonRollsModel", 273, "from", 8) (by decide)) dX4_readBird_40 ?_
    obtain ⟨q7, h8, hF⟩ := Option.bind_eq_some_iff.mp hF
    refine g_cv0 (o := some (.int q7.1)) (As := [.ref (gk G 8)]) (rest := []) (st1 := [.int q7.1]) (ci := 4) S hf (c_X4_takesWord l G ad μ 8 q7 h8 (by decide)) (cwV 1 hts gX4_readBird_X4_takesWord rfl rfl rfl (by decide +kernel) ⟨Nat.le_of_ble_eq_true rfl, Nat.le_of_ble_eq_true rfl⟩) rfl rfl rfl 0 rfl rfl hl.1 rfl rfl (Nat.le_of_ble_eq_true rfl) ⟨Nat.zero_le _, Nat.zero_le _⟩ dX4_readBird_43 (fun H locs hf => ?_)
    have hf : Fr G (va_A (wM G ad μ0) s.heap.size) s (wM G ad q7.2) H locs := hf
    refine lv_if_eq (tgt := 63) hx hb dX4_readBird_46 (by decide) (fun c9 => ?_) (fun c9 => ?_)
    · replace hF := (if_pos c9).symm.trans hF
      refine lv_iconst (v := -1) hx hb dX4_readBird_63 (by decide) ?_
      exact hL64 q7.2 x1 z0 (-1) _ _ _ hF hf (lv_sub hl [1, 2, 0] rfl)
    · replace hF := (if_neg c9).symm.trans hF
      refine lv_aload_n hx hb dX4_readBird_49 rfl (lv_at hl 1 rfl) ?_
      refine lv_iconst (v := 0) hx hb dX4_readBird_50 (by decide) ?_
      refine lv_aload_n hx hb dX4_readBird_51 rfl (lv_at hl 1 rfl) ?_
      refine g_get (ci := 4) (C := RX4) (T := TX4) (N := 21) (v := .int (q7.2 11 8)) S hf hinX4 0 rfl rfl 16 (by decide) k262 rfl rfl dX4_readBird_52 ?_
      refine lv_iconst (v := 1) hx hb dX4_readBird_55 (by decide) ?_
      refine lv_isub hx hb dX4_readBird_56 ?_
      obtain ⟨q25, h26, hF⟩ := Option.bind_eq_some_iff.mp hF
      refine g_cv0 (o := some (.int q25.1)) (As := [.int 0, .int ((q7.2 11 8) - 1)]) (rest := []) (st1 := [.int q25.1]) (ci := 4) S hf (c_X4_number l G ad q7.2 0 ((q7.2 11 8) - 1) q25 h26) (cwV 2 hts gX4_readBird_X4_number rfl rfl rfl (by decide +kernel) ⟨Nat.le_of_ble_eq_true rfl, Nat.le_of_ble_eq_true rfl⟩) rfl rfl rfl 0 rfl rfl hl.1 rfl rfl (Nat.le_of_ble_eq_true rfl) ⟨Nat.zero_le _, Nat.zero_le _⟩ dX4_readBird_57 (fun H locs hf => ?_)
      have hf : Fr G (va_A (wM G ad μ0) s.heap.size) s (wM G ad q25.2) H locs := hf
      refine lv_goto (tgt := 64) hx hb dX4_readBird_60 (by decide) ?_
      exact hL64 q25.2 x1 z0 q25.1 _ _ _ hF hf (lv_sub hl [1, 2, 0] rfl)
  unfold f_X4_readBird at hF
  refine lv_aload_n hx hb dX4_readBird_0 rfl (lv_at hl 0 rfl) ?_
  refine lv_aload_n hx hb dX4_readBird_1 rfl (lv_at hl 0 rfl) ?_
  refine g_get (ci := 4) (C := RX4) (T := TX4) (N := 21) (v := .int (μ0 11 8)) S hf hinX4 0 rfl rfl 16 (by decide) k262 rfl rfl dX4_readBird_2 ?_
  refine lv_bipush (v := 8) hx hb dX4_readBird_5 (by decide) ?_
  refine lv_icmp_ge (tgt := 14) hx hb dX4_readBird_7 (by decide) (fun c1 => ?_) (fun c1 => ?_)
  · replace hF := (if_pos c1).symm.trans hF
    refine lv_iconst (v := 0) hx hb dX4_readBird_14 (by decide) ?_
    obtain ⟨q2, h3, hF⟩ := Option.bind_eq_some_iff.mp hF
    refine g_cv0 (o := none) (As := [.int 0]) (rest := []) (st1 := []) (ci := 4) S hf (c_X4_must l G ad μ0 0 q2 h3) (cwV 1 hts gX4_readBird_X4_must rfl rfl rfl (by decide +kernel) ⟨Nat.le_of_ble_eq_true rfl, Nat.le_of_ble_eq_true rfl⟩) rfl rfl rfl 0 rfl rfl hl.1 rfl rfl (Nat.le_of_ble_eq_true rfl) ⟨Nat.zero_le _, Nat.zero_le _⟩ dX4_readBird_15 (fun H locs hf => ?_)
    have hf : Fr G (va_A (wM G ad μ0) s.heap.size) s (wM G ad q2) H locs := hf
    refine lv_aload_n hx hb dX4_readBird_18 rfl (lv_at hl 0 rfl) ?_
    refine ldcSW (q := gk G 7) (tx := "loft") (own := RX4) (index := 265) hx hb hown (hf.2.2.2.2.2.2.2.2.2.2 ("PigeonRollsModel", 265, "loft", 7) (by decide)) dX4_readBird_19 ?_
    obtain ⟨q4, h5, hF⟩ := Option.bind_eq_some_iff.mp hF
    refine g_cv0 (o := some (.int q4.1)) (As := [.ref (gk G 7)]) (rest := []) (st1 := [.int q4.1]) (ci := 4) S hf (c_X4_takesWord l G ad q2 7 q4 h5 (by decide)) (cwV 1 hts gX4_readBird_X4_takesWord rfl rfl rfl (by decide +kernel) ⟨Nat.le_of_ble_eq_true rfl, Nat.le_of_ble_eq_true rfl⟩) rfl rfl rfl 0 rfl rfl hl.1 rfl rfl (Nat.le_of_ble_eq_true rfl) ⟨Nat.zero_le _, Nat.zero_le _⟩ dX4_readBird_22 (fun H locs hf => ?_)
    have hf : Fr G (va_A (wM G ad μ0) s.heap.size) s (wM G ad q4.2) H locs := hf
    refine lv_if_eq (tgt := 37) hx hb dX4_readBird_25 (by decide) (fun c6 => ?_) (fun c6 => ?_)
    · replace hF := (if_pos c6).symm.trans hF
      refine lv_iconst (v := 0) hx hb dX4_readBird_37 (by decide) ?_
      exact hL38 q4.2 a1 0 _ _ _ hF hf (lv_sub hl [0, 1] rfl)
    · replace hF := (if_neg c6).symm.trans hF
      refine lv_aload_n hx hb dX4_readBird_28 rfl (lv_at hl 0 rfl) ?_
      refine lv_iconst (v := 0) hx hb dX4_readBird_29 (by decide) ?_
      refine lv_iconst (v := 5) hx hb dX4_readBird_30 (by decide) ?_
      obtain ⟨q27, h28, hF⟩ := Option.bind_eq_some_iff.mp hF
      refine g_cv0 (o := some (.int q27.1)) (As := [.int 0, .int 5]) (rest := []) (st1 := [.int q27.1]) (ci := 4) S hf (c_X4_number l G ad q4.2 0 5 q27 h28) (cwV 2 hts gX4_readBird_X4_number rfl rfl rfl (by decide +kernel) ⟨Nat.le_of_ble_eq_true rfl, Nat.le_of_ble_eq_true rfl⟩) rfl rfl rfl 0 rfl rfl hl.1 rfl rfl (Nat.le_of_ble_eq_true rfl) ⟨Nat.zero_le _, Nat.zero_le _⟩ dX4_readBird_31 (fun H locs hf => ?_)
      have hf : Fr G (va_A (wM G ad μ0) s.heap.size) s (wM G ad q27.2) H locs := hf
      refine lv_goto (tgt := 38) hx hb dX4_readBird_34 (by decide) ?_
      exact hL38 q27.2 a1 q27.1 _ _ _ hF hf (lv_sub hl [0, 1] rfl)
  · replace hF := (if_neg c1).symm.trans hF
    refine lv_iconst (v := 1) hx hb dX4_readBird_10 (by decide) ?_
    refine lv_goto (tgt := 15) hx hb dX4_readBird_11 (by decide) ?_
    obtain ⟨q29, h30, hF⟩ := Option.bind_eq_some_iff.mp hF
    refine g_cv0 (o := none) (As := [.int 1]) (rest := []) (st1 := []) (ci := 4) S hf (c_X4_must l G ad μ0 1 q29 h30) (cwV 1 hts gX4_readBird_X4_must rfl rfl rfl (by decide +kernel) ⟨Nat.le_of_ble_eq_true rfl, Nat.le_of_ble_eq_true rfl⟩) rfl rfl rfl 0 rfl rfl hl.1 rfl rfl (Nat.le_of_ble_eq_true rfl) ⟨Nat.zero_le _, Nat.zero_le _⟩ dX4_readBird_15 (fun H locs hf => ?_)
    have hf : Fr G (va_A (wM G ad μ0) s.heap.size) s (wM G ad q29) H locs := hf
    refine lv_aload_n hx hb dX4_readBird_18 rfl (lv_at hl 0 rfl) ?_
    refine ldcSW (q := gk G 7) (tx := "loft") (own := RX4) (index := 265) hx hb hown (hf.2.2.2.2.2.2.2.2.2.2 ("PigeonRollsModel", 265, "loft", 7) (by decide)) dX4_readBird_19 ?_
    obtain ⟨q31, h32, hF⟩ := Option.bind_eq_some_iff.mp hF
    refine g_cv0 (o := some (.int q31.1)) (As := [.ref (gk G 7)]) (rest := []) (st1 := [.int q31.1]) (ci := 4) S hf (c_X4_takesWord l G ad q29 7 q31 h32 (by decide)) (cwV 1 hts gX4_readBird_X4_takesWord rfl rfl rfl (by decide +kernel) ⟨Nat.le_of_ble_eq_true rfl, Nat.le_of_ble_eq_true rfl⟩) rfl rfl rfl 0 rfl rfl hl.1 rfl rfl (Nat.le_of_ble_eq_true rfl) ⟨Nat.zero_le _, Nat.zero_le _⟩ dX4_readBird_22 (fun H locs hf => ?_)
    have hf : Fr G (va_A (wM G ad μ0) s.heap.size) s (wM G ad q31.2) H locs := hf
    refine lv_if_eq (tgt := 37) hx hb dX4_readBird_25 (by decide) (fun c33 => ?_) (fun c33 => ?_)
    · replace hF := (if_pos c33).symm.trans hF
      refine lv_iconst (v := 0) hx hb dX4_readBird_37 (by decide) ?_
      exact hL38 q31.2 a1 0 _ _ _ hF hf (lv_sub hl [0, 1] rfl)
    · replace hF := (if_neg c33).symm.trans hF
      refine lv_aload_n hx hb dX4_readBird_28 rfl (lv_at hl 0 rfl) ?_
      refine lv_iconst (v := 0) hx hb dX4_readBird_29 (by decide) ?_
      refine lv_iconst (v := 5) hx hb dX4_readBird_30 (by decide) ?_
      obtain ⟨q34, h35, hF⟩ := Option.bind_eq_some_iff.mp hF
      refine g_cv0 (o := some (.int q34.1)) (As := [.int 0, .int 5]) (rest := []) (st1 := [.int q34.1]) (ci := 4) S hf (c_X4_number l G ad q31.2 0 5 q34 h35) (cwV 2 hts gX4_readBird_X4_number rfl rfl rfl (by decide +kernel) ⟨Nat.le_of_ble_eq_true rfl, Nat.le_of_ble_eq_true rfl⟩) rfl rfl rfl 0 rfl rfl hl.1 rfl rfl (Nat.le_of_ble_eq_true rfl) ⟨Nat.zero_le _, Nat.zero_le _⟩ dX4_readBird_31 (fun H locs hf => ?_)
      have hf : Fr G (va_A (wM G ad μ0) s.heap.size) s (wM G ad q34.2) H locs := hf
      refine lv_goto (tgt := 38) hx hb dX4_readBird_34 (by decide) ?_
      exact hL38 q34.2 a1 q34.1 _ _ _ hF hf (lv_sub hl [0, 1] rfl)
def f_X4_readItem_B38 (μ : K2) (x1 : Int32) : Option (K2) := if x1 < 0 then (Option.bind (f_X4_takesWord μ 12) (fun q3 => if q3.1 = 0 then (Option.bind (f_X4_takesWord q3.2 13) (fun q6 => if q6.1 = 0 then (Option.bind (f_X4_takesWord q6.2 14) (fun q9 => if q9.1 = 0 then (Option.bind (f_X4_must q9.2 0) (fun q12 => some (q12))) else (Option.bind (f_X4_number q9.2 0 ((q9.2 11 8) - 1)) (fun q14 => Option.bind (f_X4_addItem q14.2 12 q14.1 0 0 0 0) (fun q16 => some (q16)))))) else (Option.bind (f_X4_number q6.2 0 9999) (fun q18 => Option.bind (f_X4_addItem q18.2 11 q18.1 0 0 0 0) (fun q20 => some (q20)))))) else (Option.bind (f_X4_number q3.2 0 5) (fun q22 => Option.bind (f_X4_number q22.2 0 99) (fun q24 => Option.bind (f_X4_addItem q24.2 10 q22.1 q24.1 0 0 0) (fun q26 => some (q26))))))) else (Option.bind (f_X4_readBird μ x1) (fun q28 => some (q28)))
def f_X4_readItem_L4 : Nat → K2 → Int32 → Int32 → Option (K2)
  | 0, _, _, _ => none
  | n + 1, μ, x1, x2 => if 7 ≤ x2 then (f_X4_readItem_B38 μ x1) else (if ix x2 7 then (Option.bind (f_X4_isWord μ x2.toNatClampNeg) (fun q31 => if q31 = 0 then (f_X4_readItem_L4 n μ x1 (x2 + 1)) else (f_X4_readItem_L4 n μ x2 (x2 + 1)))) else none)
def f_X4_readItem (μ0 : K2) : Option (K2) := f_X4_readItem_L4 1000 μ0 (-1) 0
set_option maxHeartbeats 4000000 in
set_option maxRecDepth 100000 in
theorem c_X4_readItem (l : Launch) (G : GT) (ad : Nat → Nat) (μ0 : K2) (q : K2) (hF : f_X4_readItem μ0 = some q) : Ct l G yX4_readItem wsX4_readItem ({ frames := 7, cells := 0, slots := 0, locals := 155 } : Room) ([.ref (ad 0)] : List Value) (wM G ad μ0) (none) (wM G ad q) := by
  have k44 : Cond.fieldLink RX4 44 "PigeonRollsModel" "kindNames" "[Ljava/lang/String;" ∈ wsX4_readItem := by decide +kernel
  have k262 : Cond.fieldLink RX4 262 "PigeonRollsModel" "birdsThen" "I" ∈ wsX4_readItem := by decide +kernel
  have hinX4 : ∀ w ∈ u_ws RX4 TX4 21, w ∈ wsX4_readItem := by decide +kernel
  refine Ct.of cX4_readItem 3 none (by decide) rfl (Nat.le_of_ble_eq_true rfl) ?_
  intro p e s m below meth c ls S hr hlocks hf hl
  have S : CallFix p m c cX4_readItem 3 s ([.ref (ad 0)] : List Value).toArray wsX4_readItem RX4 := S
  obtain ⟨hx, hb, hml, hown, hts⟩ := id S
  have hl : lv_has ls 3 [(0, .ref (ad 0))] := hl
  have hL38 : ∀ (μ : K2) (x1 : Int32)  (H : Heap) (locs : List Loc) (ls : Array Slot), f_X4_readItem_B38 μ x1 = some q → Fr G (va_A (wM G ad μ0) s.heap.size) s (wM G ad μ) H locs → lv_has ls 3 [(0, .ref (ad 0)), (1, .int x1)] → W p l e ({ frames := 7, cells := 0, slots := 0, locals := 155 } : Room) s m ([.ref (ad 0)] : List Value).toArray below meth c H locs 0 0 (MQ below (CPost G (wM G ad μ0) s.heap.size (none) (wM G ad q)) ([.ref (ad 0)] : List Value).toArray s 0 0 (va_A (wM G ad μ0) s.heap.size)) (F0 m 38 ls []) := by
    intro μ x1 H locs ls hF hf hl
    unfold f_X4_readItem_B38 at hF
    refine lv_iload_n hx hb dX4_readItem_38 rfl (lv_at hl 1 rfl) ?_
    refine lv_if_lt (tgt := 50) hx hb dX4_readItem_39 (by decide) (fun c2 => ?_) (fun c2 => ?_)
    · replace hF := (if_pos c2).symm.trans hF
      refine lv_aload_n hx hb dX4_readItem_50 rfl (lv_at hl 0 rfl) ?_
      refine ldcSW (q := gk G 12) (tx := "harvest") (own := RX4) (index := 288) hx hb hown (hf.2.2.2.2.2.2.2.2.2.2 ("PigeonRollsModel", 288, "harvest", 12) (by decide)) dX4_readItem_51 ?_
      obtain ⟨q3, h4, hF⟩ := Option.bind_eq_some_iff.mp hF
      refine g_cv0 (o := some (.int q3.1)) (As := [.ref (gk G 12)]) (rest := []) (st1 := [.int q3.1]) (ci := 4) S hf (c_X4_takesWord l G ad μ 12 q3 h4 (by decide)) (cwV 1 hts gX4_readItem_X4_takesWord rfl rfl rfl (by decide +kernel) ⟨Nat.le_of_ble_eq_true rfl, Nat.le_of_ble_eq_true rfl⟩) rfl rfl rfl 0 rfl rfl hl.1 rfl rfl (Nat.le_of_ble_eq_true rfl) ⟨Nat.zero_le _, Nat.zero_le _⟩ dX4_readItem_54 (fun H locs hf => ?_)
      have hf : Fr G (va_A (wM G ad μ0) s.heap.size) s (wM G ad q3.2) H locs := hf
      refine lv_if_eq (tgt := 87) hx hb dX4_readItem_57 (by decide) (fun c5 => ?_) (fun c5 => ?_)
      · replace hF := (if_pos c5).symm.trans hF
        refine lv_aload_n hx hb dX4_readItem_87 rfl (lv_at hl 0 rfl) ?_
        refine ldcSW (q := gk G 13) (tx := "corn") (own := RX4) (index := 290) hx hb hown (hf.2.2.2.2.2.2.2.2.2.2 ("PigeonRollsModel", 290, "corn", 13) (by decide)) dX4_readItem_88 ?_
        obtain ⟨q6, h7, hF⟩ := Option.bind_eq_some_iff.mp hF
        refine g_cv0 (o := some (.int q6.1)) (As := [.ref (gk G 13)]) (rest := []) (st1 := [.int q6.1]) (ci := 4) S hf (c_X4_takesWord l G ad q3.2 13 q6 h7 (by decide)) (cwV 1 hts gX4_readItem_X4_takesWord rfl rfl rfl (by decide +kernel) ⟨Nat.le_of_ble_eq_true rfl, Nat.le_of_ble_eq_true rfl⟩) rfl rfl rfl 0 rfl rfl hl.1 rfl rfl (Nat.le_of_ble_eq_true rfl) ⟨Nat.zero_le _, Nat.zero_le _⟩ dX4_readItem_91 (fun H locs hf => ?_)
        have hf : Fr G (va_A (wM G ad μ0) s.heap.size) s (wM G ad q6.2) H locs := hf
        refine lv_if_eq (tgt := 118) hx hb dX4_readItem_94 (by decide) (fun c8 => ?_) (fun c8 => ?_)
        · replace hF := (if_pos c8).symm.trans hF
          refine lv_aload_n hx hb dX4_readItem_118 rfl (lv_at hl 0 rfl) ?_
          refine ldcSW (q := gk G 14) (tx := "strike") (own := RX4) (index := 292) hx hb hown (hf.2.2.2.2.2.2.2.2.2.2 ("PigeonRollsModel", 292, "strike", 14) (by decide)) dX4_readItem_119 ?_
          obtain ⟨q9, h10, hF⟩ := Option.bind_eq_some_iff.mp hF
          refine g_cv0 (o := some (.int q9.1)) (As := [.ref (gk G 14)]) (rest := []) (st1 := [.int q9.1]) (ci := 4) S hf (c_X4_takesWord l G ad q6.2 14 q9 h10 (by decide)) (cwV 1 hts gX4_readItem_X4_takesWord rfl rfl rfl (by decide +kernel) ⟨Nat.le_of_ble_eq_true rfl, Nat.le_of_ble_eq_true rfl⟩) rfl rfl rfl 0 rfl rfl hl.1 rfl rfl (Nat.le_of_ble_eq_true rfl) ⟨Nat.zero_le _, Nat.zero_le _⟩ dX4_readItem_122 (fun H locs hf => ?_)
          have hf : Fr G (va_A (wM G ad μ0) s.heap.size) s (wM G ad q9.2) H locs := hf
          refine lv_if_eq (tgt := 152) hx hb dX4_readItem_125 (by decide) (fun c11 => ?_) (fun c11 => ?_)
          · replace hF := (if_pos c11).symm.trans hF
            refine lv_aload_n hx hb dX4_readItem_152 rfl (lv_at hl 0 rfl) ?_
            refine lv_iconst (v := 0) hx hb dX4_readItem_153 (by decide) ?_
            obtain ⟨q12, h13, hF⟩ := Option.bind_eq_some_iff.mp hF
            refine g_cv0 (o := none) (As := [.int 0]) (rest := []) (st1 := []) (ci := 4) S hf (c_X4_must l G ad q9.2 0 q12 h13) (cwV 1 hts gX4_readItem_X4_must rfl rfl rfl (by decide +kernel) ⟨Nat.le_of_ble_eq_true rfl, Nat.le_of_ble_eq_true rfl⟩) rfl rfl rfl 0 rfl rfl hl.1 rfl rfl (Nat.le_of_ble_eq_true rfl) ⟨Nat.zero_le _, Nat.zero_le _⟩ dX4_readItem_154 (fun H locs hf => ?_)
            have hf : Fr G (va_A (wM G ad μ0) s.heap.size) s (wM G ad q12) H locs := hf
            have hE := Option.some.inj hF
            have hW := congrArg (fun z : K2 => wM G ad z) hE
            exact g_vret S hr hlocks hf hW dX4_readItem_157
          · replace hF := (if_neg c11).symm.trans hF
            refine lv_aload_n hx hb dX4_readItem_128 rfl (lv_at hl 0 rfl) ?_
            refine lv_bipush (v := 12) hx hb dX4_readItem_129 (by decide) ?_
            refine lv_aload_n hx hb dX4_readItem_131 rfl (lv_at hl 0 rfl) ?_
            refine lv_iconst (v := 0) hx hb dX4_readItem_132 (by decide) ?_
            refine lv_aload_n hx hb dX4_readItem_133 rfl (lv_at hl 0 rfl) ?_
            refine g_get (ci := 4) (C := RX4) (T := TX4) (N := 21) (v := .int (q9.2 11 8)) S hf hinX4 0 rfl rfl 16 (by decide) k262 rfl rfl dX4_readItem_134 ?_
            refine lv_iconst (v := 1) hx hb dX4_readItem_137 (by decide) ?_
            refine lv_isub hx hb dX4_readItem_138 ?_
            obtain ⟨q14, h15, hF⟩ := Option.bind_eq_some_iff.mp hF
            refine g_cv0 (o := some (.int q14.1)) (As := [.int 0, .int ((q9.2 11 8) - 1)]) (rest := [.int 12, .ref (ad 0)]) (st1 := [.int q14.1, .int 12, .ref (ad 0)]) (ci := 4) S hf (c_X4_number l G ad q9.2 0 ((q9.2 11 8) - 1) q14 h15) (cwV 2 hts gX4_readItem_X4_number rfl rfl rfl (by decide +kernel) ⟨Nat.le_of_ble_eq_true rfl, Nat.le_of_ble_eq_true rfl⟩) rfl rfl rfl 0 rfl rfl hl.1 rfl rfl (Nat.le_of_ble_eq_true rfl) ⟨Nat.zero_le _, Nat.zero_le _⟩ dX4_readItem_139 (fun H locs hf => ?_)
            have hf : Fr G (va_A (wM G ad μ0) s.heap.size) s (wM G ad q14.2) H locs := hf
            refine lv_iconst (v := 0) hx hb dX4_readItem_142 (by decide) ?_
            refine lv_iconst (v := 0) hx hb dX4_readItem_143 (by decide) ?_
            refine lv_iconst (v := 0) hx hb dX4_readItem_144 (by decide) ?_
            refine lv_iconst (v := 0) hx hb dX4_readItem_145 (by decide) ?_
            obtain ⟨q16, h17, hF⟩ := Option.bind_eq_some_iff.mp hF
            refine g_cv0 (o := none) (As := [.int 12, .int q14.1, .int 0, .int 0, .int 0, .int 0]) (rest := []) (st1 := []) (ci := 4) S hf (c_X4_addItem l G ad q14.2 12 q14.1 0 0 0 0 q16 h17) (cwV 6 hts gX4_readItem_X4_addItem rfl rfl rfl (by decide +kernel) ⟨Nat.le_of_ble_eq_true rfl, Nat.le_of_ble_eq_true rfl⟩) rfl rfl rfl 0 rfl rfl hl.1 rfl rfl (Nat.le_of_ble_eq_true rfl) ⟨Nat.zero_le _, Nat.zero_le _⟩ dX4_readItem_146 (fun H locs hf => ?_)
            have hf : Fr G (va_A (wM G ad μ0) s.heap.size) s (wM G ad q16) H locs := hf
            refine lv_goto (tgt := 157) hx hb dX4_readItem_149 (by decide) ?_
            have hE := Option.some.inj hF
            have hW := congrArg (fun z : K2 => wM G ad z) hE
            exact g_vret S hr hlocks hf hW dX4_readItem_157
        · replace hF := (if_neg c8).symm.trans hF
          refine lv_aload_n hx hb dX4_readItem_97 rfl (lv_at hl 0 rfl) ?_
          refine lv_bipush (v := 11) hx hb dX4_readItem_98 (by decide) ?_
          refine lv_aload_n hx hb dX4_readItem_100 rfl (lv_at hl 0 rfl) ?_
          refine lv_iconst (v := 0) hx hb dX4_readItem_101 (by decide) ?_
          refine lv_sipush (v := 9999) hx hb dX4_readItem_102 (by decide) ?_
          obtain ⟨q18, h19, hF⟩ := Option.bind_eq_some_iff.mp hF
          refine g_cv0 (o := some (.int q18.1)) (As := [.int 0, .int 9999]) (rest := [.int 11, .ref (ad 0)]) (st1 := [.int q18.1, .int 11, .ref (ad 0)]) (ci := 4) S hf (c_X4_number l G ad q6.2 0 9999 q18 h19) (cwV 2 hts gX4_readItem_X4_number rfl rfl rfl (by decide +kernel) ⟨Nat.le_of_ble_eq_true rfl, Nat.le_of_ble_eq_true rfl⟩) rfl rfl rfl 0 rfl rfl hl.1 rfl rfl (Nat.le_of_ble_eq_true rfl) ⟨Nat.zero_le _, Nat.zero_le _⟩ dX4_readItem_105 (fun H locs hf => ?_)
          have hf : Fr G (va_A (wM G ad μ0) s.heap.size) s (wM G ad q18.2) H locs := hf
          refine lv_iconst (v := 0) hx hb dX4_readItem_108 (by decide) ?_
          refine lv_iconst (v := 0) hx hb dX4_readItem_109 (by decide) ?_
          refine lv_iconst (v := 0) hx hb dX4_readItem_110 (by decide) ?_
          refine lv_iconst (v := 0) hx hb dX4_readItem_111 (by decide) ?_
          obtain ⟨q20, h21, hF⟩ := Option.bind_eq_some_iff.mp hF
          refine g_cv0 (o := none) (As := [.int 11, .int q18.1, .int 0, .int 0, .int 0, .int 0]) (rest := []) (st1 := []) (ci := 4) S hf (c_X4_addItem l G ad q18.2 11 q18.1 0 0 0 0 q20 h21) (cwV 6 hts gX4_readItem_X4_addItem rfl rfl rfl (by decide +kernel) ⟨Nat.le_of_ble_eq_true rfl, Nat.le_of_ble_eq_true rfl⟩) rfl rfl rfl 0 rfl rfl hl.1 rfl rfl (Nat.le_of_ble_eq_true rfl) ⟨Nat.zero_le _, Nat.zero_le _⟩ dX4_readItem_112 (fun H locs hf => ?_)
          have hf : Fr G (va_A (wM G ad μ0) s.heap.size) s (wM G ad q20) H locs := hf
          refine lv_goto (tgt := 157) hx hb dX4_readItem_115 (by decide) ?_
          have hE := Option.some.inj hF
          have hW := congrArg (fun z : K2 => wM G ad z) hE
          exact g_vret S hr hlocks hf hW dX4_readItem_157
      · replace hF := (if_neg c5).symm.trans hF
        refine lv_aload_n hx hb dX4_readItem_60 rfl (lv_at hl 0 rfl) ?_
        refine lv_iconst (v := 0) hx hb dX4_readItem_61 (by decide) ?_
        refine lv_iconst (v := 5) hx hb dX4_readItem_62 (by decide) ?_
        obtain ⟨q22, h23, hF⟩ := Option.bind_eq_some_iff.mp hF
        refine g_cv0 (o := some (.int q22.1)) (As := [.int 0, .int 5]) (rest := []) (st1 := [.int q22.1]) (ci := 4) S hf (c_X4_number l G ad q3.2 0 5 q22 h23) (cwV 2 hts gX4_readItem_X4_number rfl rfl rfl (by decide +kernel) ⟨Nat.le_of_ble_eq_true rfl, Nat.le_of_ble_eq_true rfl⟩) rfl rfl rfl 0 rfl rfl hl.1 rfl rfl (Nat.le_of_ble_eq_true rfl) ⟨Nat.zero_le _, Nat.zero_le _⟩ dX4_readItem_63 (fun H locs hf => ?_)
        have hf : Fr G (va_A (wM G ad μ0) s.heap.size) s (wM G ad q22.2) H locs := hf
        refine lv_istore_n (lv' := [(2, .int q22.1), (0, .ref (ad 0)), (1, .int x1)]) hx hb dX4_readItem_66 rfl hl (by decide) rfl (fun ls hl => ?_)
        refine lv_aload_n hx hb dX4_readItem_67 rfl (lv_at hl 1 rfl) ?_
        refine lv_bipush (v := 10) hx hb dX4_readItem_68 (by decide) ?_
        refine lv_iload_n hx hb dX4_readItem_70 rfl (lv_at hl 0 rfl) ?_
        refine lv_aload_n hx hb dX4_readItem_71 rfl (lv_at hl 1 rfl) ?_
        refine lv_iconst (v := 0) hx hb dX4_readItem_72 (by decide) ?_
        refine lv_bipush (v := 99) hx hb dX4_readItem_73 (by decide) ?_
        obtain ⟨q24, h25, hF⟩ := Option.bind_eq_some_iff.mp hF
        refine g_cv0 (o := some (.int q24.1)) (As := [.int 0, .int 99]) (rest := [.int q22.1, .int 10, .ref (ad 0)]) (st1 := [.int q24.1, .int q22.1, .int 10, .ref (ad 0)]) (ci := 4) S hf (c_X4_number l G ad q22.2 0 99 q24 h25) (cwV 2 hts gX4_readItem_X4_number rfl rfl rfl (by decide +kernel) ⟨Nat.le_of_ble_eq_true rfl, Nat.le_of_ble_eq_true rfl⟩) rfl rfl rfl 0 rfl rfl hl.1 rfl rfl (Nat.le_of_ble_eq_true rfl) ⟨Nat.zero_le _, Nat.zero_le _⟩ dX4_readItem_75 (fun H locs hf => ?_)
        have hf : Fr G (va_A (wM G ad μ0) s.heap.size) s (wM G ad q24.2) H locs := hf
        refine lv_iconst (v := 0) hx hb dX4_readItem_78 (by decide) ?_
        refine lv_iconst (v := 0) hx hb dX4_readItem_79 (by decide) ?_
        refine lv_iconst (v := 0) hx hb dX4_readItem_80 (by decide) ?_
        obtain ⟨q26, h27, hF⟩ := Option.bind_eq_some_iff.mp hF
        refine g_cv0 (o := none) (As := [.int 10, .int q22.1, .int q24.1, .int 0, .int 0, .int 0]) (rest := []) (st1 := []) (ci := 4) S hf (c_X4_addItem l G ad q24.2 10 q22.1 q24.1 0 0 0 q26 h27) (cwV 6 hts gX4_readItem_X4_addItem rfl rfl rfl (by decide +kernel) ⟨Nat.le_of_ble_eq_true rfl, Nat.le_of_ble_eq_true rfl⟩) rfl rfl rfl 0 rfl rfl hl.1 rfl rfl (Nat.le_of_ble_eq_true rfl) ⟨Nat.zero_le _, Nat.zero_le _⟩ dX4_readItem_81 (fun H locs hf => ?_)
        have hf : Fr G (va_A (wM G ad μ0) s.heap.size) s (wM G ad q26) H locs := hf
        refine lv_goto (tgt := 157) hx hb dX4_readItem_84 (by decide) ?_
        have hE := Option.some.inj hF
        have hW := congrArg (fun z : K2 => wM G ad z) hE
        exact g_vret S hr hlocks hf hW dX4_readItem_157
    · replace hF := (if_neg c2).symm.trans hF
      refine lv_aload_n hx hb dX4_readItem_42 rfl (lv_at hl 0 rfl) ?_
      refine lv_iload_n hx hb dX4_readItem_43 rfl (lv_at hl 1 rfl) ?_
      obtain ⟨q28, h29, hF⟩ := Option.bind_eq_some_iff.mp hF
      refine g_cv0 (o := none) (As := [.int x1]) (rest := []) (st1 := []) (ci := 4) S hf (c_X4_readBird l G ad μ x1 q28 h29) (cwV 1 hts gX4_readItem_X4_readBird rfl rfl rfl (by decide +kernel) ⟨Nat.le_of_ble_eq_true rfl, Nat.le_of_ble_eq_true rfl⟩) rfl rfl rfl 0 rfl rfl hl.1 rfl rfl (Nat.le_of_ble_eq_true rfl) ⟨Nat.zero_le _, Nat.zero_le _⟩ dX4_readItem_44 (fun H locs hf => ?_)
      have hf : Fr G (va_A (wM G ad μ0) s.heap.size) s (wM G ad q28) H locs := hf
      refine lv_goto (tgt := 157) hx hb dX4_readItem_47 (by decide) ?_
      have hE := Option.some.inj hF
      have hW := congrArg (fun z : K2 => wM G ad z) hE
      exact g_vret S hr hlocks hf hW dX4_readItem_157
  have hL4 : ∀ (n : Nat) (μ : K2) (x1 : Int32) (x2 : Int32)  (H : Heap) (locs : List Loc) (ls : Array Slot), f_X4_readItem_L4 n μ x1 x2 = some q → Fr G (va_A (wM G ad μ0) s.heap.size) s (wM G ad μ) H locs → lv_has ls 3 [(0, .ref (ad 0)), (1, .int x1), (2, .int x2)] → W p l e ({ frames := 7, cells := 0, slots := 0, locals := 155 } : Room) s m ([.ref (ad 0)] : List Value).toArray below meth c H locs 0 0 (MQ below (CPost G (wM G ad μ0) s.heap.size (none) (wM G ad q)) ([.ref (ad 0)] : List Value).toArray s 0 0 (va_A (wM G ad μ0) s.heap.size)) (F0 m 4 ls []) := by
    intro n
    induction n with
    | zero =>
      intro μ x1 x2 H locs ls hF hf hl
      exact absurd hF (by simp [f_X4_readItem_L4])
    | succ n ih4 =>
      intro μ x1 x2 H locs ls hF hf hl
      rw [f_X4_readItem_L4] at hF
      refine lv_iload_n hx hb dX4_readItem_4 rfl (lv_at hl 2 rfl) ?_
      refine lv_aload_n hx hb dX4_readItem_5 rfl (lv_at hl 0 rfl) ?_
      refine g_get (ci := 4) (C := RX4) (T := TX4) (N := 21) (v := .ref (ad 12)) S hf hinX4 0 rfl rfl 13 (by decide) k44 rfl rfl dX4_readItem_6 ?_
      refine g_alen (v := 7) S hf 12 rfl (t0 := 3) rfl rfl dX4_readItem_9 ?_
      refine lv_icmp_ge (tgt := 38) hx hb dX4_readItem_10 (by decide) (fun c1 => ?_) (fun c1 => ?_)
      · replace hF := (if_pos c1).symm.trans hF
        exact hL38 μ x1 _ _ _ hF hf (lv_sub hl [0, 1] rfl)
      · replace hF := (if_neg c1).symm.trans hF
        refine lv_aload_n hx hb dX4_readItem_13 rfl (lv_at hl 0 rfl) ?_
        refine lv_aload_n hx hb dX4_readItem_14 rfl (lv_at hl 0 rfl) ?_
        refine g_get (ci := 4) (C := RX4) (T := TX4) (N := 21) (v := .ref (ad 12)) S hf hinX4 0 rfl rfl 13 (by decide) k44 rfl rfl dX4_readItem_15 ?_
        refine lv_iload_n hx hb dX4_readItem_18 rfl (lv_at hl 2 rfl) ?_
        obtain ⟨g30, hF⟩ := gd_some hF
        refine g_aald (v := gk G x2.toNatClampNeg) (t0 := 3) S hf 12 rfl rfl rfl g30 (if_pos (ix_lt g30)) dX4_readItem_19 ?_
        obtain ⟨q31, h32, hF⟩ := Option.bind_eq_some_iff.mp hF
        refine g_cv0 (o := some (.int q31)) (As := [.ref (gk G x2.toNatClampNeg)]) (rest := []) (st1 := [.int q31]) (ci := 4) S hf (c_X4_isWord l G ad μ x2.toNatClampNeg q31 h32 (Nat.lt_of_lt_of_le (ix_lt g30) (by decide))) (cwV 1 hts gX4_readItem_X4_isWord rfl rfl rfl (by decide +kernel) ⟨Nat.le_of_ble_eq_true rfl, Nat.le_of_ble_eq_true rfl⟩) rfl rfl rfl 0 rfl rfl hl.1 rfl rfl (Nat.le_of_ble_eq_true rfl) ⟨Nat.zero_le _, Nat.zero_le _⟩ dX4_readItem_20 (fun H locs hf => ?_)
        have hf : Fr G (va_A (wM G ad μ0) s.heap.size) s (wM G ad μ) H locs := hf
        refine lv_if_eq (tgt := 30) hx hb dX4_readItem_23 (by decide) (fun c33 => ?_) (fun c33 => ?_)
        · replace hF := (if_pos c33).symm.trans hF
          refine lv_iload_n hx hb dX4_readItem_30 rfl (lv_at hl 1 rfl) ?_
          refine lv_istore_n (lv' := [(1, .int x1), (0, .ref (ad 0)), (2, .int x2)]) hx hb dX4_readItem_31 rfl hl (by decide) rfl (fun ls hl => ?_)
          refine lv_iinc (v := x2 + 1) (lv' := [(2, .int (x2 + 1)), (1, .int x1), (0, .ref (ad 0))]) hx hb dX4_readItem_32 hl (k := 2) rfl rfl (by decide) rfl (fun ls hl => ?_)
          refine lv_goto (tgt := 4) hx hb dX4_readItem_35 (by decide) ?_
          exact ih4 μ x1 (x2 + 1) _ _ _ hF hf (lv_sub hl [2, 1, 0] rfl)
        · replace hF := (if_neg c33).symm.trans hF
          refine lv_iload_n hx hb dX4_readItem_26 rfl (lv_at hl 2 rfl) ?_
          refine lv_goto (tgt := 31) hx hb dX4_readItem_27 (by decide) ?_
          refine lv_istore_n (lv' := [(1, .int x2), (0, .ref (ad 0)), (2, .int x2)]) hx hb dX4_readItem_31 rfl hl (by decide) rfl (fun ls hl => ?_)
          refine lv_iinc (v := x2 + 1) (lv' := [(2, .int (x2 + 1)), (1, .int x2), (0, .ref (ad 0))]) hx hb dX4_readItem_32 hl (k := 2) rfl rfl (by decide) rfl (fun ls hl => ?_)
          refine lv_goto (tgt := 4) hx hb dX4_readItem_35 (by decide) ?_
          exact ih4 μ x2 (x2 + 1) _ _ _ hF hf (lv_sub hl [2, 1, 0] rfl)
  unfold f_X4_readItem at hF
  refine lv_iconst (v := -1) hx hb dX4_readItem_0 (by decide) ?_
  refine lv_istore_n (lv' := [(1, .int (-1)), (0, .ref (ad 0))]) hx hb dX4_readItem_1 rfl hl (by decide) rfl (fun ls hl => ?_)
  refine lv_iconst (v := 0) hx hb dX4_readItem_2 (by decide) ?_
  refine lv_istore_n (lv' := [(2, .int 0), (1, .int (-1)), (0, .ref (ad 0))]) hx hb dX4_readItem_3 rfl hl (by decide) rfl (fun ls hl => ?_)
  exact hL4 1000 μ0 (-1) 0 _ _ _ hF hf (lv_sub hl [2, 1, 0] rfl)
def f_X4_isToldSo (μ0 : K2) (a1 : Int32) : Option (K2) := if ix (a1 + 1) 720 then (if ix a1 720 then (if (μ0 6) a1.toNatClampNeg = 10 then (if ix (a1 + 2) 720 then (if ix (4 + ((μ0 6) (a1 + 1).toNatClampNeg)) 92 then (some (va_up μ0 0 (upd (μ0 0) ((4 + ((μ0 6) (a1 + 1).toNatClampNeg)).toNatClampNeg) ((μ0 6) (a1 + 2).toNatClampNeg)))) else none) else none) else (if (μ0 6) a1.toNatClampNeg = 11 then (some (va_up μ0 0 (upd (μ0 0) 3 ((μ0 6) (a1 + 1).toNatClampNeg)))) else (if (μ0 6) a1.toNatClampNeg = 12 then (Option.bind (f_X4_birdAt ((μ0 6) (a1 + 1).toNatClampNeg) 6) (fun q8 => if ix q8 92 then (some (va_up μ0 0 (upd (μ0 0) q8.toNatClampNeg 1))) else none)) else (if ix (a1 + 2) 720 then (Option.bind (f_X4_comes μ0 ((μ0 6) a1.toNatClampNeg) ((μ0 6) (a1 + 1).toNatClampNeg) ((μ0 6) (a1 + 2).toNatClampNeg)) (fun q12 => Option.bind (f_X4_birdAt q12.1 3) (fun q14 => if ix (a1 + 3) 720 then (if ix q14 92 then (Option.bind (f_X4_birdAt q12.1 4) (fun q18 => if ix (a1 + 4) 720 then (if ix q18 92 then (Option.bind (f_X4_birdAt q12.1 5) (fun q22 => if ix (a1 + 5) 720 then (if ix q22 92 then (some (va_up q12.2 0 (upd (upd (upd (q12.2 0) q14.toNatClampNeg ((q12.2 6) (a1 + 3).toNatClampNeg)) q18.toNatClampNeg ((q12.2 6) (a1 + 4).toNatClampNeg)) q22.toNatClampNeg ((q12.2 6) (a1 + 5).toNatClampNeg)))) else none) else none)) else none) else none)) else none) else none))) else none)))) else none) else none
set_option maxHeartbeats 4000000 in
set_option maxRecDepth 100000 in
theorem c_X4_isToldSo (l : Launch) (G : GT) (ad : Nat → Nat) (μ0 : K2) (a1 : Int32) (q : K2) (hF : f_X4_isToldSo μ0 a1 = some q) : Ct l G yX4_isToldSo wsX4_isToldSo ({ frames := 2, cells := 0, slots := 0, locals := 46 } : Room) ([.ref (ad 0), .int a1] : List Value) (wM G ad μ0) (none) (wM G ad q) := by
  have k48 : Cond.fieldLink RX4 48 "PigeonRollsModel" "items" "[I" ∈ wsX4_isToldSo := by decide +kernel
  have k9 : Cond.fieldLink RX4 9 "PigeonRollsModel" "now" "[I" ∈ wsX4_isToldSo := by decide +kernel
  have hinX4 : ∀ w ∈ u_ws RX4 TX4 21, w ∈ wsX4_isToldSo := by decide +kernel
  refine Ct.of cX4_isToldSo 4 none (by decide) rfl (Nat.le_of_ble_eq_true rfl) ?_
  intro p e s m below meth c ls S hr hlocks hf hl
  have S : CallFix p m c cX4_isToldSo 4 s ([.ref (ad 0), .int a1] : List Value).toArray wsX4_isToldSo RX4 := S
  obtain ⟨hx, hb, hml, hown, hts⟩ := id S
  have hl : lv_has ls 4 [(0, .ref (ad 0)), (1, .int a1)] := hl
  unfold f_X4_isToldSo at hF
  refine lv_aload_n hx hb dX4_isToldSo_0 rfl (lv_at hl 0 rfl) ?_
  refine g_get (ci := 4) (C := RX4) (T := TX4) (N := 21) (v := .ref (ad 7)) S hf hinX4 0 rfl rfl 14 (by decide) k48 rfl rfl dX4_isToldSo_1 ?_
  refine lv_iload_n hx hb dX4_isToldSo_4 rfl (lv_at hl 1 rfl) ?_
  refine lv_iconst (v := 1) hx hb dX4_isToldSo_5 (by decide) ?_
  refine lv_iadd hx hb dX4_isToldSo_6 ?_
  obtain ⟨g1, hF⟩ := gd_some hF
  refine g_ald (v := (μ0 6) (a1 + 1).toNatClampNeg) S hf 7 rfl g1 rfl dX4_isToldSo_7 ?_
  refine lv_istore_n (lv' := [(2, .int ((μ0 6) (a1 + 1).toNatClampNeg)), (0, .ref (ad 0)), (1, .int a1)]) hx hb dX4_isToldSo_8 rfl hl (by decide) rfl (fun ls hl => ?_)
  refine lv_aload_n hx hb dX4_isToldSo_9 rfl (lv_at hl 1 rfl) ?_
  refine g_get (ci := 4) (C := RX4) (T := TX4) (N := 21) (v := .ref (ad 7)) S hf hinX4 0 rfl rfl 14 (by decide) k48 rfl rfl dX4_isToldSo_10 ?_
  refine lv_iload_n hx hb dX4_isToldSo_13 rfl (lv_at hl 2 rfl) ?_
  obtain ⟨g2, hF⟩ := gd_some hF
  refine g_ald (v := (μ0 6) a1.toNatClampNeg) S hf 7 rfl g2 rfl dX4_isToldSo_14 ?_
  by_cases c3 : (μ0 6) a1.toNatClampNeg = 10
  · replace hF := (if_pos c3).symm.trans hF
    refine lv_tableIn (tgt := 40) hx hb dX4_isToldSo_15 (by rw [c3]; decide) (by rw [c3]; decide) (by rw [c3]; rfl) (by decide) ?_
    refine lv_aload_n hx hb dX4_isToldSo_40 rfl (lv_at hl 1 rfl) ?_
    refine g_get (ci := 4) (C := RX4) (T := TX4) (N := 21) (v := .ref (ad 1)) S hf hinX4 0 rfl rfl 0 (by decide) k9 rfl rfl dX4_isToldSo_41 ?_
    refine lv_iconst (v := 4) hx hb dX4_isToldSo_44 (by decide) ?_
    refine lv_iload_n hx hb dX4_isToldSo_45 rfl (lv_at hl 0 rfl) ?_
    refine lv_iadd hx hb dX4_isToldSo_46 ?_
    refine lv_aload_n hx hb dX4_isToldSo_47 rfl (lv_at hl 1 rfl) ?_
    refine g_get (ci := 4) (C := RX4) (T := TX4) (N := 21) (v := .ref (ad 7)) S hf hinX4 0 rfl rfl 14 (by decide) k48 rfl rfl dX4_isToldSo_48 ?_
    refine lv_iload_n hx hb dX4_isToldSo_51 rfl (lv_at hl 2 rfl) ?_
    refine lv_iconst (v := 2) hx hb dX4_isToldSo_52 (by decide) ?_
    refine lv_iadd hx hb dX4_isToldSo_53 ?_
    obtain ⟨g4, hF⟩ := gd_some hF
    refine g_ald (v := (μ0 6) (a1 + 2).toNatClampNeg) S hf 7 rfl g4 rfl dX4_isToldSo_54 ?_
    obtain ⟨g5, hF⟩ := gd_some hF
    refine g_ast (ww' := wM G ad (va_up μ0 0 (upd (μ0 0) ((4 + ((μ0 6) (a1 + 1).toNatClampNeg)).toNatClampNeg) ((μ0 6) (a1 + 2).toNatClampNeg)))) S hf 2 rfl g5 rfl dX4_isToldSo_55 (fun H locs hf => ?_)
    refine lv_goto (tgt := 158) hx hb dX4_isToldSo_56 (by decide) ?_
    have hE := Option.some.inj hF
    have hW := congrArg (fun z : K2 => wM G ad z) hE
    exact g_vret S hr hlocks hf hW dX4_isToldSo_158
  replace hF := (if_neg c3).symm.trans hF
  by_cases c6 : (μ0 6) a1.toNatClampNeg = 11
  · replace hF := (if_pos c6).symm.trans hF
    refine lv_tableIn (tgt := 59) hx hb dX4_isToldSo_15 (by rw [c6]; decide) (by rw [c6]; decide) (by rw [c6]; rfl) (by decide) ?_
    refine lv_aload_n hx hb dX4_isToldSo_59 rfl (lv_at hl 1 rfl) ?_
    refine g_get (ci := 4) (C := RX4) (T := TX4) (N := 21) (v := .ref (ad 1)) S hf hinX4 0 rfl rfl 0 (by decide) k9 rfl rfl dX4_isToldSo_60 ?_
    refine lv_iconst (v := 3) hx hb dX4_isToldSo_63 (by decide) ?_
    refine lv_iload_n hx hb dX4_isToldSo_64 rfl (lv_at hl 0 rfl) ?_
    refine g_ast (ww' := wM G ad (va_up μ0 0 (upd (μ0 0) 3 ((μ0 6) (a1 + 1).toNatClampNeg)))) S hf 2 rfl (by decide) rfl dX4_isToldSo_65 (fun H locs hf => ?_)
    refine lv_goto (tgt := 158) hx hb dX4_isToldSo_66 (by decide) ?_
    have hE := Option.some.inj hF
    have hW := congrArg (fun z : K2 => wM G ad z) hE
    exact g_vret S hr hlocks hf hW dX4_isToldSo_158
  replace hF := (if_neg c6).symm.trans hF
  by_cases c7 : (μ0 6) a1.toNatClampNeg = 12
  · replace hF := (if_pos c7).symm.trans hF
    refine lv_tableIn (tgt := 69) hx hb dX4_isToldSo_15 (by rw [c7]; decide) (by rw [c7]; decide) (by rw [c7]; rfl) (by decide) ?_
    refine lv_aload_n hx hb dX4_isToldSo_69 rfl (lv_at hl 1 rfl) ?_
    refine g_get (ci := 4) (C := RX4) (T := TX4) (N := 21) (v := .ref (ad 1)) S hf hinX4 0 rfl rfl 0 (by decide) k9 rfl rfl dX4_isToldSo_70 ?_
    refine lv_iload_n hx hb dX4_isToldSo_73 rfl (lv_at hl 0 rfl) ?_
    refine lv_bipush (v := 6) hx hb dX4_isToldSo_74 (by decide) ?_
    obtain ⟨q8, h9, hF⟩ := Option.bind_eq_some_iff.mp hF
    refine g_cs0 (o := some (.int q8)) (As := [.int ((μ0 6) (a1 + 1).toNatClampNeg), .int 6]) (rest := [.ref (ad 1)]) (st1 := [.int q8, .ref (ad 1)]) S hf (c_X4_birdAt l G  ((μ0 6) (a1 + 1).toNatClampNeg) 6 q8 h9) (va_cwS 2 hts gX4_isToldSo_X4_birdAt rfl rfl rfl (by decide +kernel) ⟨Nat.le_of_ble_eq_true rfl, Nat.le_of_ble_eq_true rfl⟩) rfl hl.1 rfl rfl (Nat.le_of_ble_eq_true rfl) ⟨Nat.zero_le _, Nat.zero_le _⟩ dX4_isToldSo_76 (fun H locs hf => ?_)
    refine lv_iconst (v := 1) hx hb dX4_isToldSo_79 (by decide) ?_
    obtain ⟨g10, hF⟩ := gd_some hF
    refine g_ast (ww' := wM G ad (va_up μ0 0 (upd (μ0 0) q8.toNatClampNeg 1))) S hf 2 rfl g10 rfl dX4_isToldSo_80 (fun H locs hf => ?_)
    refine lv_goto (tgt := 158) hx hb dX4_isToldSo_81 (by decide) ?_
    have hE := Option.some.inj hF
    have hW := congrArg (fun z : K2 => wM G ad z) hE
    exact g_vret S hr hlocks hf hW dX4_isToldSo_158
  replace hF := (if_neg c7).symm.trans hF
  refine lv_tableOut (tgt := 84) hx hb dX4_isToldSo_15 (by have t0 := lv_neT (a := 10) c3 (by decide); have t1 := lv_neT (a := 11) c6 (by decide); have t2 := lv_neT (a := 12) c7 (by decide); omega) (by decide) ?_
  refine lv_aload_n hx hb dX4_isToldSo_84 rfl (lv_at hl 1 rfl) ?_
  refine lv_aload_n hx hb dX4_isToldSo_85 rfl (lv_at hl 1 rfl) ?_
  refine g_get (ci := 4) (C := RX4) (T := TX4) (N := 21) (v := .ref (ad 7)) S hf hinX4 0 rfl rfl 14 (by decide) k48 rfl rfl dX4_isToldSo_86 ?_
  refine lv_iload_n hx hb dX4_isToldSo_89 rfl (lv_at hl 2 rfl) ?_
  refine g_ald (v := (μ0 6) a1.toNatClampNeg) S hf 7 rfl g2 rfl dX4_isToldSo_90 ?_
  refine lv_iload_n hx hb dX4_isToldSo_91 rfl (lv_at hl 0 rfl) ?_
  refine lv_aload_n hx hb dX4_isToldSo_92 rfl (lv_at hl 1 rfl) ?_
  refine g_get (ci := 4) (C := RX4) (T := TX4) (N := 21) (v := .ref (ad 7)) S hf hinX4 0 rfl rfl 14 (by decide) k48 rfl rfl dX4_isToldSo_93 ?_
  refine lv_iload_n hx hb dX4_isToldSo_96 rfl (lv_at hl 2 rfl) ?_
  refine lv_iconst (v := 2) hx hb dX4_isToldSo_97 (by decide) ?_
  refine lv_iadd hx hb dX4_isToldSo_98 ?_
  obtain ⟨g11, hF⟩ := gd_some hF
  refine g_ald (v := (μ0 6) (a1 + 2).toNatClampNeg) S hf 7 rfl g11 rfl dX4_isToldSo_99 ?_
  obtain ⟨q12, h13, hF⟩ := Option.bind_eq_some_iff.mp hF
  refine g_cv0 (o := some (.int q12.1)) (As := [.int ((μ0 6) a1.toNatClampNeg), .int ((μ0 6) (a1 + 1).toNatClampNeg), .int ((μ0 6) (a1 + 2).toNatClampNeg)]) (rest := []) (st1 := [.int q12.1]) (ci := 4) S hf (c_X4_comes l G ad μ0 ((μ0 6) a1.toNatClampNeg) ((μ0 6) (a1 + 1).toNatClampNeg) ((μ0 6) (a1 + 2).toNatClampNeg) q12 h13) (cwV 3 hts gX4_isToldSo_X4_comes rfl rfl rfl (by decide +kernel) ⟨Nat.le_of_ble_eq_true rfl, Nat.le_of_ble_eq_true rfl⟩) rfl rfl rfl 0 rfl rfl hl.1 rfl rfl (Nat.le_of_ble_eq_true rfl) ⟨Nat.zero_le _, Nat.zero_le _⟩ dX4_isToldSo_100 (fun H locs hf => ?_)
  have hf : Fr G (va_A (wM G ad μ0) s.heap.size) s (wM G ad q12.2) H locs := hf
  refine lv_istore_n (lv' := [(3, .int q12.1), (2, .int ((μ0 6) (a1 + 1).toNatClampNeg)), (0, .ref (ad 0)), (1, .int a1)]) hx hb dX4_isToldSo_103 rfl hl (by decide) rfl (fun ls hl => ?_)
  refine lv_aload_n hx hb dX4_isToldSo_104 rfl (lv_at hl 2 rfl) ?_
  refine g_get (ci := 4) (C := RX4) (T := TX4) (N := 21) (v := .ref (ad 1)) S hf hinX4 0 rfl rfl 0 (by decide) k9 rfl rfl dX4_isToldSo_105 ?_
  refine lv_iload_n hx hb dX4_isToldSo_108 rfl (lv_at hl 0 rfl) ?_
  refine lv_iconst (v := 3) hx hb dX4_isToldSo_109 (by decide) ?_
  obtain ⟨q14, h15, hF⟩ := Option.bind_eq_some_iff.mp hF
  refine g_cs0 (o := some (.int q14)) (As := [.int q12.1, .int 3]) (rest := [.ref (ad 1)]) (st1 := [.int q14, .ref (ad 1)]) S hf (c_X4_birdAt l G  q12.1 3 q14 h15) (va_cwS 2 hts gX4_isToldSo_X4_birdAt rfl rfl rfl (by decide +kernel) ⟨Nat.le_of_ble_eq_true rfl, Nat.le_of_ble_eq_true rfl⟩) rfl hl.1 rfl rfl (Nat.le_of_ble_eq_true rfl) ⟨Nat.zero_le _, Nat.zero_le _⟩ dX4_isToldSo_110 (fun H locs hf => ?_)
  refine lv_aload_n hx hb dX4_isToldSo_113 rfl (lv_at hl 2 rfl) ?_
  refine g_get (ci := 4) (C := RX4) (T := TX4) (N := 21) (v := .ref (ad 7)) S hf hinX4 0 rfl rfl 14 (by decide) k48 rfl rfl dX4_isToldSo_114 ?_
  refine lv_iload_n hx hb dX4_isToldSo_117 rfl (lv_at hl 3 rfl) ?_
  refine lv_iconst (v := 3) hx hb dX4_isToldSo_118 (by decide) ?_
  refine lv_iadd hx hb dX4_isToldSo_119 ?_
  obtain ⟨g16, hF⟩ := gd_some hF
  refine g_ald (v := (q12.2 6) (a1 + 3).toNatClampNeg) S hf 7 rfl g16 rfl dX4_isToldSo_120 ?_
  obtain ⟨g17, hF⟩ := gd_some hF
  refine g_ast (ww' := wM G ad (va_up q12.2 0 (upd (q12.2 0) q14.toNatClampNeg ((q12.2 6) (a1 + 3).toNatClampNeg)))) S hf 2 rfl g17 rfl dX4_isToldSo_121 (fun H locs hf => ?_)
  refine lv_aload_n hx hb dX4_isToldSo_122 rfl (lv_at hl 2 rfl) ?_
  refine g_get (ci := 4) (C := RX4) (T := TX4) (N := 21) (v := .ref (ad 1)) S hf hinX4 0 rfl rfl 0 (by decide) k9 rfl rfl dX4_isToldSo_123 ?_
  refine lv_iload_n hx hb dX4_isToldSo_126 rfl (lv_at hl 0 rfl) ?_
  refine lv_iconst (v := 4) hx hb dX4_isToldSo_127 (by decide) ?_
  obtain ⟨q18, h19, hF⟩ := Option.bind_eq_some_iff.mp hF
  refine g_cs0 (o := some (.int q18)) (As := [.int q12.1, .int 4]) (rest := [.ref (ad 1)]) (st1 := [.int q18, .ref (ad 1)]) S hf (c_X4_birdAt l G  q12.1 4 q18 h19) (va_cwS 2 hts gX4_isToldSo_X4_birdAt rfl rfl rfl (by decide +kernel) ⟨Nat.le_of_ble_eq_true rfl, Nat.le_of_ble_eq_true rfl⟩) rfl hl.1 rfl rfl (Nat.le_of_ble_eq_true rfl) ⟨Nat.zero_le _, Nat.zero_le _⟩ dX4_isToldSo_128 (fun H locs hf => ?_)
  refine lv_aload_n hx hb dX4_isToldSo_131 rfl (lv_at hl 2 rfl) ?_
  refine g_get (ci := 4) (C := RX4) (T := TX4) (N := 21) (v := .ref (ad 7)) S hf hinX4 0 rfl rfl 14 (by decide) k48 rfl rfl dX4_isToldSo_132 ?_
  refine lv_iload_n hx hb dX4_isToldSo_135 rfl (lv_at hl 3 rfl) ?_
  refine lv_iconst (v := 4) hx hb dX4_isToldSo_136 (by decide) ?_
  refine lv_iadd hx hb dX4_isToldSo_137 ?_
  obtain ⟨g20, hF⟩ := gd_some hF
  refine g_ald (v := (q12.2 6) (a1 + 4).toNatClampNeg) S hf 7 rfl g20 rfl dX4_isToldSo_138 ?_
  obtain ⟨g21, hF⟩ := gd_some hF
  refine g_ast (f := upd (q12.2 0) q14.toNatClampNeg ((q12.2 6) (a1 + 3).toNatClampNeg)) (ww' := wM G ad (va_up q12.2 0 (upd (upd (q12.2 0) q14.toNatClampNeg ((q12.2 6) (a1 + 3).toNatClampNeg)) q18.toNatClampNeg ((q12.2 6) (a1 + 4).toNatClampNeg)))) S hf 2 rfl g21 wM_u0 dX4_isToldSo_139 (fun H locs hf => ?_)
  refine lv_aload_n hx hb dX4_isToldSo_140 rfl (lv_at hl 2 rfl) ?_
  refine g_get (ci := 4) (C := RX4) (T := TX4) (N := 21) (v := .ref (ad 1)) S hf hinX4 0 rfl rfl 0 (by decide) k9 rfl rfl dX4_isToldSo_141 ?_
  refine lv_iload_n hx hb dX4_isToldSo_144 rfl (lv_at hl 0 rfl) ?_
  refine lv_iconst (v := 5) hx hb dX4_isToldSo_145 (by decide) ?_
  obtain ⟨q22, h23, hF⟩ := Option.bind_eq_some_iff.mp hF
  refine g_cs0 (o := some (.int q22)) (As := [.int q12.1, .int 5]) (rest := [.ref (ad 1)]) (st1 := [.int q22, .ref (ad 1)]) S hf (c_X4_birdAt l G  q12.1 5 q22 h23) (va_cwS 2 hts gX4_isToldSo_X4_birdAt rfl rfl rfl (by decide +kernel) ⟨Nat.le_of_ble_eq_true rfl, Nat.le_of_ble_eq_true rfl⟩) rfl hl.1 rfl rfl (Nat.le_of_ble_eq_true rfl) ⟨Nat.zero_le _, Nat.zero_le _⟩ dX4_isToldSo_146 (fun H locs hf => ?_)
  refine lv_aload_n hx hb dX4_isToldSo_149 rfl (lv_at hl 2 rfl) ?_
  refine g_get (ci := 4) (C := RX4) (T := TX4) (N := 21) (v := .ref (ad 7)) S hf hinX4 0 rfl rfl 14 (by decide) k48 rfl rfl dX4_isToldSo_150 ?_
  refine lv_iload_n hx hb dX4_isToldSo_153 rfl (lv_at hl 3 rfl) ?_
  refine lv_iconst (v := 5) hx hb dX4_isToldSo_154 (by decide) ?_
  refine lv_iadd hx hb dX4_isToldSo_155 ?_
  obtain ⟨g24, hF⟩ := gd_some hF
  refine g_ald (v := (q12.2 6) (a1 + 5).toNatClampNeg) S hf 7 rfl g24 rfl dX4_isToldSo_156 ?_
  obtain ⟨g25, hF⟩ := gd_some hF
  refine g_ast (f := upd (upd (q12.2 0) q14.toNatClampNeg ((q12.2 6) (a1 + 3).toNatClampNeg)) q18.toNatClampNeg ((q12.2 6) (a1 + 4).toNatClampNeg)) (ww' := wM G ad (va_up q12.2 0 (upd (upd (upd (q12.2 0) q14.toNatClampNeg ((q12.2 6) (a1 + 3).toNatClampNeg)) q18.toNatClampNeg ((q12.2 6) (a1 + 4).toNatClampNeg)) q22.toNatClampNeg ((q12.2 6) (a1 + 5).toNatClampNeg)))) S hf 2 rfl g25 wM_u0 dX4_isToldSo_157 (fun H locs hf => ?_)
  have hE := Option.some.inj hF
  have hW := congrArg (fun z : K2 => wM G ad z) hE
  exact g_vret S hr hlocks hf hW dX4_isToldSo_158
def f_X4_text_B133 (μ : K2) : Option (Int32 × K2) := some (μ 11 7, μ)
def f_X4_text_L111 : Nat → K2 → Int32 → Option (Int32 × K2)
  | 0, _, _ => none
  | n + 1, μ, x1 => if (μ 11 7) ≤ x1 then (f_X4_text_B133 μ) else (Option.bind (f_X4_isToldSo μ (6 * x1)) (fun q11 => f_X4_text_L111 n q11 (x1 + 1)))
def f_X4_text_B74 (μ : K2) : Option (Int32 × K2) := if (μ 11 4) = 0 then (Option.bind (f_X4_must μ 1) (fun q13 => if (q13 11 6) = 0 then (f_X4_text_L111 1000 (va_up q13 11 (upd (q13 11) 1 0)) 0) else (some ((-1) - (q13 11 2), va_up q13 11 (upd (q13 11) 1 0))))) else (Option.bind (f_X4_must μ 0) (fun q7 => if (q7 11 6) = 0 then (f_X4_text_L111 1000 (va_up q7 11 (upd (q7 11) 1 0)) 0) else (some ((-1) - (q7 11 2), va_up q7 11 (upd (q7 11) 1 0)))))
def f_X4_text_L33 : Nat → K2 → Option (Int32 × K2)
  | 0, _ => none
  | n + 1, μ => if (μ 11 6) = 0 then (if (μ 11 4) = 3 then (if ix (μ 11 2) 120 then (if ((μ 5) (μ 11 2).toNatClampNeg) = 59 then (Option.bind (f_X4_must μ 1) (fun q19 => Option.bind (f_X4_readItem q19) (fun q21 => f_X4_text_L33 n q21))) else (f_X4_text_B74 μ)) else none) else (f_X4_text_B74 μ)) else (f_X4_text_B74 μ)
def f_X4_text (μ0 : K2) : Option (Int32 × K2) := Option.bind (f_X4_token (va_up μ0 11 (upd (upd (upd (upd (μ0 11) 3 0) 6 0) 7 0) 8 ((μ0 0) 1)))) (fun q1 => Option.bind (f_X4_readItem q1) (fun q3 => f_X4_text_L33 1000 q3))
set_option maxHeartbeats 4000000 in
set_option maxRecDepth 100000 in
theorem c_X4_text (l : Launch) (G : GT) (ad : Nat → Nat) (μ0 : K2) (q : Int32 × K2) (hF : f_X4_text μ0 = some q) : Ct l G yX4_text wsX4_text ({ frames := 8, cells := 0, slots := 0, locals := 177 } : Room) ([.ref (ad 0)] : List Value) (wM G ad μ0) (some (.int q.1)) (wM G ad q.2) := by
  have k222 : Cond.fieldLink RX4 222 "PigeonRollsModel" "ends" "I" ∈ wsX4_text := by decide +kernel
  have k244 : Cond.fieldLink RX4 244 "PigeonRollsModel" "isWrong" "Z" ∈ wsX4_text := by decide +kernel
  have k255 : Cond.fieldLink RX4 255 "PigeonRollsModel" "itemMany" "I" ∈ wsX4_text := by decide +kernel
  have k9 : Cond.fieldLink RX4 9 "PigeonRollsModel" "now" "[I" ∈ wsX4_text := by decide +kernel
  have k262 : Cond.fieldLink RX4 262 "PigeonRollsModel" "birdsThen" "I" ∈ wsX4_text := by decide +kernel
  have k234 : Cond.fieldLink RX4 234 "PigeonRollsModel" "sort" "I" ∈ wsX4_text := by decide +kernel
  have k218 : Cond.fieldLink RX4 218 "PigeonRollsModel" "taped" "I" ∈ wsX4_text := by decide +kernel
  have k225 : Cond.fieldLink RX4 225 "PigeonRollsModel" "begins" "I" ∈ wsX4_text := by decide +kernel
  have k25 : Cond.fieldLink RX4 25 "PigeonRollsModel" "tape" "[I" ∈ wsX4_text := by decide +kernel
  have hinX4 : ∀ w ∈ u_ws RX4 TX4 21, w ∈ wsX4_text := by decide +kernel
  refine Ct.of cX4_text 2 (some .int) (by decide) rfl (Nat.le_of_ble_eq_true rfl) ?_
  intro p e s m below meth c ls S hr hlocks hf hl
  have S : CallFix p m c cX4_text 2 s ([.ref (ad 0)] : List Value).toArray wsX4_text RX4 := S
  obtain ⟨hx, hb, hml, hown, hts⟩ := id S
  have hl : lv_has ls 2 [(0, .ref (ad 0))] := hl
  have hL133 : ∀ (μ : K2)  (H : Heap) (locs : List Loc) (ls : Array Slot), f_X4_text_B133 μ = some q → Fr G (va_A (wM G ad μ0) s.heap.size) s (wM G ad μ) H locs → lv_has ls 2 [(0, .ref (ad 0))] → W p l e ({ frames := 8, cells := 0, slots := 0, locals := 177 } : Room) s m ([.ref (ad 0)] : List Value).toArray below meth c H locs 0 0 (MQ below (CPost G (wM G ad μ0) s.heap.size (some (.int q.1)) (wM G ad q.2)) ([.ref (ad 0)] : List Value).toArray s 0 0 (va_A (wM G ad μ0) s.heap.size)) (F0 m 133 ls []) := by
    intro μ H locs ls hF hf hl
    unfold f_X4_text_B133 at hF
    refine lv_aload_n hx hb dX4_text_133 rfl (lv_at hl 0 rfl) ?_
    refine g_get (ci := 4) (C := RX4) (T := TX4) (N := 21) (v := .int (μ 11 7)) S hf hinX4 0 rfl rfl 15 (by decide) k255 rfl rfl dX4_text_134 ?_
    have hE := Option.some.inj hF
    have hV := congrArg (fun z : Int32 × K2 => z.1) hE
    have hW := congrArg (fun z : Int32 × K2 => wM G ad z.2) hE
    exact g_iret S hr hlocks hf hV hW dX4_text_137
  have hL111 : ∀ (n : Nat) (μ : K2) (x1 : Int32)  (H : Heap) (locs : List Loc) (ls : Array Slot), f_X4_text_L111 n μ x1 = some q → Fr G (va_A (wM G ad μ0) s.heap.size) s (wM G ad μ) H locs → lv_has ls 2 [(0, .ref (ad 0)), (1, .int x1)] → W p l e ({ frames := 8, cells := 0, slots := 0, locals := 177 } : Room) s m ([.ref (ad 0)] : List Value).toArray below meth c H locs 0 0 (MQ below (CPost G (wM G ad μ0) s.heap.size (some (.int q.1)) (wM G ad q.2)) ([.ref (ad 0)] : List Value).toArray s 0 0 (va_A (wM G ad μ0) s.heap.size)) (F0 m 111 ls []) := by
    intro n
    induction n with
    | zero =>
      intro μ x1 H locs ls hF hf hl
      exact absurd hF (by simp [f_X4_text_L111])
    | succ n ih111 =>
      intro μ x1 H locs ls hF hf hl
      rw [f_X4_text_L111] at hF
      refine lv_iload_n hx hb dX4_text_111 rfl (lv_at hl 1 rfl) ?_
      refine lv_aload_n hx hb dX4_text_112 rfl (lv_at hl 0 rfl) ?_
      refine g_get (ci := 4) (C := RX4) (T := TX4) (N := 21) (v := .int (μ 11 7)) S hf hinX4 0 rfl rfl 15 (by decide) k255 rfl rfl dX4_text_113 ?_
      refine lv_icmp_ge (tgt := 133) hx hb dX4_text_116 (by decide) (fun c10 => ?_) (fun c10 => ?_)
      · replace hF := (if_pos c10).symm.trans hF
        exact hL133 μ _ _ _ hF hf (lv_sub hl [0] rfl)
      · replace hF := (if_neg c10).symm.trans hF
        refine lv_aload_n hx hb dX4_text_119 rfl (lv_at hl 0 rfl) ?_
        refine lv_bipush (v := 6) hx hb dX4_text_120 (by decide) ?_
        refine lv_iload_n hx hb dX4_text_122 rfl (lv_at hl 1 rfl) ?_
        refine lv_imul hx hb dX4_text_123 ?_
        obtain ⟨q11, h12, hF⟩ := Option.bind_eq_some_iff.mp hF
        refine g_cv0 (o := none) (As := [.int (6 * x1)]) (rest := []) (st1 := []) (ci := 4) S hf (c_X4_isToldSo l G ad μ (6 * x1) q11 h12) (cwV 1 hts gX4_text_X4_isToldSo rfl rfl rfl (by decide +kernel) ⟨Nat.le_of_ble_eq_true rfl, Nat.le_of_ble_eq_true rfl⟩) rfl rfl rfl 0 rfl rfl hl.1 rfl rfl (Nat.le_of_ble_eq_true rfl) ⟨Nat.zero_le _, Nat.zero_le _⟩ dX4_text_124 (fun H locs hf => ?_)
        have hf : Fr G (va_A (wM G ad μ0) s.heap.size) s (wM G ad q11) H locs := hf
        refine lv_iinc (v := x1 + 1) (lv' := [(1, .int (x1 + 1)), (0, .ref (ad 0))]) hx hb dX4_text_127 hl (k := 1) rfl rfl (by decide) rfl (fun ls hl => ?_)
        refine lv_goto (tgt := 111) hx hb dX4_text_130 (by decide) ?_
        exact ih111 q11 (x1 + 1) _ _ _ hF hf (lv_sub hl [1, 0] rfl)
  have hL74 : ∀ (μ : K2)  (H : Heap) (locs : List Loc) (ls : Array Slot), f_X4_text_B74 μ = some q → Fr G (va_A (wM G ad μ0) s.heap.size) s (wM G ad μ) H locs → lv_has ls 2 [(0, .ref (ad 0))] → W p l e ({ frames := 8, cells := 0, slots := 0, locals := 177 } : Room) s m ([.ref (ad 0)] : List Value).toArray below meth c H locs 0 0 (MQ below (CPost G (wM G ad μ0) s.heap.size (some (.int q.1)) (wM G ad q.2)) ([.ref (ad 0)] : List Value).toArray s 0 0 (va_A (wM G ad μ0) s.heap.size)) (F0 m 74 ls []) := by
    intro μ H locs ls hF hf hl
    unfold f_X4_text_B74 at hF
    refine lv_aload_n hx hb dX4_text_74 rfl (lv_at hl 0 rfl) ?_
    refine lv_aload_n hx hb dX4_text_75 rfl (lv_at hl 0 rfl) ?_
    refine g_get (ci := 4) (C := RX4) (T := TX4) (N := 21) (v := .int (μ 11 4)) S hf hinX4 0 rfl rfl 10 (by decide) k234 rfl rfl dX4_text_76 ?_
    refine lv_if_ne (tgt := 86) hx hb dX4_text_79 (by decide) (fun c6 => ?_) (fun c6 => ?_)
    · replace hF := (if_neg c6).symm.trans hF
      refine lv_iconst (v := 0) hx hb dX4_text_86 (by decide) ?_
      obtain ⟨q7, h8, hF⟩ := Option.bind_eq_some_iff.mp hF
      refine g_cv0 (o := none) (As := [.int 0]) (rest := []) (st1 := []) (ci := 4) S hf (c_X4_must l G ad μ 0 q7 h8) (cwV 1 hts gX4_text_X4_must rfl rfl rfl (by decide +kernel) ⟨Nat.le_of_ble_eq_true rfl, Nat.le_of_ble_eq_true rfl⟩) rfl rfl rfl 0 rfl rfl hl.1 rfl rfl (Nat.le_of_ble_eq_true rfl) ⟨Nat.zero_le _, Nat.zero_le _⟩ dX4_text_87 (fun H locs hf => ?_)
      have hf : Fr G (va_A (wM G ad μ0) s.heap.size) s (wM G ad q7) H locs := hf
      refine lv_aload_n hx hb dX4_text_90 rfl (lv_at hl 0 rfl) ?_
      refine lv_iconst (v := 0) hx hb dX4_text_91 (by decide) ?_
      refine g_put (ci := 4) (C := RX4) (T := TX4) (N := 21) (ww' := wM G ad (va_up q7 11 (upd (q7 11) 1 0))) S hf hinX4 tyX4 tyX4_ok nmX4 0 rfl rfl 7 (by decide) k218 rfl rfl rfl rfl (Nat.le_of_ble_eq_true rfl) rfl dX4_text_92 (fun H locs hf => ?_)
      refine lv_aload_n hx hb dX4_text_95 rfl (lv_at hl 0 rfl) ?_
      refine g_get (ci := 4) (C := RX4) (T := TX4) (N := 21) (v := .int (q7 11 6)) S hf hinX4 0 rfl rfl 12 (by decide) k244 rfl rfl dX4_text_96 ?_
      refine lv_if_eq (tgt := 109) hx hb dX4_text_99 (by decide) (fun c9 => ?_) (fun c9 => ?_)
      · replace hF := (if_pos c9).symm.trans hF
        refine lv_iconst (v := 0) hx hb dX4_text_109 (by decide) ?_
        refine lv_istore_n (lv' := [(1, .int 0), (0, .ref (ad 0))]) hx hb dX4_text_110 rfl hl (by decide) rfl (fun ls hl => ?_)
        exact hL111 1000 (va_up q7 11 (upd (q7 11) 1 0)) 0 _ _ _ hF hf (lv_sub hl [1, 0] rfl)
      · replace hF := (if_neg c9).symm.trans hF
        refine lv_iconst (v := -1) hx hb dX4_text_102 (by decide) ?_
        refine lv_aload_n hx hb dX4_text_103 rfl (lv_at hl 0 rfl) ?_
        refine g_get (ci := 4) (C := RX4) (T := TX4) (N := 21) (v := .int (q7 11 2)) S hf hinX4 0 rfl rfl 8 (by decide) k225 rfl rfl dX4_text_104 ?_
        refine lv_isub hx hb dX4_text_107 ?_
        have hE := Option.some.inj hF
        have hV := congrArg (fun z : Int32 × K2 => z.1) hE
        have hW := congrArg (fun z : Int32 × K2 => wM G ad z.2) hE
        exact g_iret S hr hlocks hf hV hW dX4_text_108
    · replace hF := (if_pos c6).symm.trans hF
      refine lv_iconst (v := 1) hx hb dX4_text_82 (by decide) ?_
      refine lv_goto (tgt := 87) hx hb dX4_text_83 (by decide) ?_
      obtain ⟨q13, h14, hF⟩ := Option.bind_eq_some_iff.mp hF
      refine g_cv0 (o := none) (As := [.int 1]) (rest := []) (st1 := []) (ci := 4) S hf (c_X4_must l G ad μ 1 q13 h14) (cwV 1 hts gX4_text_X4_must rfl rfl rfl (by decide +kernel) ⟨Nat.le_of_ble_eq_true rfl, Nat.le_of_ble_eq_true rfl⟩) rfl rfl rfl 0 rfl rfl hl.1 rfl rfl (Nat.le_of_ble_eq_true rfl) ⟨Nat.zero_le _, Nat.zero_le _⟩ dX4_text_87 (fun H locs hf => ?_)
      have hf : Fr G (va_A (wM G ad μ0) s.heap.size) s (wM G ad q13) H locs := hf
      refine lv_aload_n hx hb dX4_text_90 rfl (lv_at hl 0 rfl) ?_
      refine lv_iconst (v := 0) hx hb dX4_text_91 (by decide) ?_
      refine g_put (ci := 4) (C := RX4) (T := TX4) (N := 21) (ww' := wM G ad (va_up q13 11 (upd (q13 11) 1 0))) S hf hinX4 tyX4 tyX4_ok nmX4 0 rfl rfl 7 (by decide) k218 rfl rfl rfl rfl (Nat.le_of_ble_eq_true rfl) rfl dX4_text_92 (fun H locs hf => ?_)
      refine lv_aload_n hx hb dX4_text_95 rfl (lv_at hl 0 rfl) ?_
      refine g_get (ci := 4) (C := RX4) (T := TX4) (N := 21) (v := .int (q13 11 6)) S hf hinX4 0 rfl rfl 12 (by decide) k244 rfl rfl dX4_text_96 ?_
      refine lv_if_eq (tgt := 109) hx hb dX4_text_99 (by decide) (fun c15 => ?_) (fun c15 => ?_)
      · replace hF := (if_pos c15).symm.trans hF
        refine lv_iconst (v := 0) hx hb dX4_text_109 (by decide) ?_
        refine lv_istore_n (lv' := [(1, .int 0), (0, .ref (ad 0))]) hx hb dX4_text_110 rfl hl (by decide) rfl (fun ls hl => ?_)
        exact hL111 1000 (va_up q13 11 (upd (q13 11) 1 0)) 0 _ _ _ hF hf (lv_sub hl [1, 0] rfl)
      · replace hF := (if_neg c15).symm.trans hF
        refine lv_iconst (v := -1) hx hb dX4_text_102 (by decide) ?_
        refine lv_aload_n hx hb dX4_text_103 rfl (lv_at hl 0 rfl) ?_
        refine g_get (ci := 4) (C := RX4) (T := TX4) (N := 21) (v := .int (q13 11 2)) S hf hinX4 0 rfl rfl 8 (by decide) k225 rfl rfl dX4_text_104 ?_
        refine lv_isub hx hb dX4_text_107 ?_
        have hE := Option.some.inj hF
        have hV := congrArg (fun z : Int32 × K2 => z.1) hE
        have hW := congrArg (fun z : Int32 × K2 => wM G ad z.2) hE
        exact g_iret S hr hlocks hf hV hW dX4_text_108
  have hL33 : ∀ (n : Nat) (μ : K2)  (H : Heap) (locs : List Loc) (ls : Array Slot), f_X4_text_L33 n μ = some q → Fr G (va_A (wM G ad μ0) s.heap.size) s (wM G ad μ) H locs → lv_has ls 2 [(0, .ref (ad 0))] → W p l e ({ frames := 8, cells := 0, slots := 0, locals := 177 } : Room) s m ([.ref (ad 0)] : List Value).toArray below meth c H locs 0 0 (MQ below (CPost G (wM G ad μ0) s.heap.size (some (.int q.1)) (wM G ad q.2)) ([.ref (ad 0)] : List Value).toArray s 0 0 (va_A (wM G ad μ0) s.heap.size)) (F0 m 33 ls []) := by
    intro n
    induction n with
    | zero =>
      intro μ H locs ls hF hf hl
      exact absurd hF (by simp [f_X4_text_L33])
    | succ n ih33 =>
      intro μ H locs ls hF hf hl
      rw [f_X4_text_L33] at hF
      refine lv_aload_n hx hb dX4_text_33 rfl (lv_at hl 0 rfl) ?_
      refine g_get (ci := 4) (C := RX4) (T := TX4) (N := 21) (v := .int (μ 11 6)) S hf hinX4 0 rfl rfl 12 (by decide) k244 rfl rfl dX4_text_34 ?_
      refine lv_if_ne (tgt := 74) hx hb dX4_text_37 (by decide) (fun c5 => ?_) (fun c5 => ?_)
      · replace hF := (if_neg c5).symm.trans hF
        exact hL74 μ _ _ _ hF hf (lv_sub hl [0] rfl)
      · replace hF := (if_pos c5).symm.trans hF
        refine lv_aload_n hx hb dX4_text_40 rfl (lv_at hl 0 rfl) ?_
        refine g_get (ci := 4) (C := RX4) (T := TX4) (N := 21) (v := .int (μ 11 4)) S hf hinX4 0 rfl rfl 10 (by decide) k234 rfl rfl dX4_text_41 ?_
        refine lv_iconst (v := 3) hx hb dX4_text_44 (by decide) ?_
        refine lv_icmp_ne (tgt := 74) hx hb dX4_text_45 (by decide) (fun c16 => ?_) (fun c16 => ?_)
        · replace hF := (if_neg c16).symm.trans hF
          exact hL74 μ _ _ _ hF hf (lv_sub hl [0] rfl)
        · replace hF := (if_pos c16).symm.trans hF
          refine lv_aload_n hx hb dX4_text_48 rfl (lv_at hl 0 rfl) ?_
          refine g_get (ci := 4) (C := RX4) (T := TX4) (N := 21) (v := .ref (ad 6)) S hf hinX4 0 rfl rfl 6 (by decide) k25 rfl rfl dX4_text_49 ?_
          refine lv_aload_n hx hb dX4_text_52 rfl (lv_at hl 0 rfl) ?_
          refine g_get (ci := 4) (C := RX4) (T := TX4) (N := 21) (v := .int (μ 11 2)) S hf hinX4 0 rfl rfl 8 (by decide) k225 rfl rfl dX4_text_53 ?_
          obtain ⟨g17, hF⟩ := gd_some hF
          refine g_ald (v := (μ 5) (μ 11 2).toNatClampNeg) S hf 6 rfl g17 rfl dX4_text_56 ?_
          refine lv_bipush (v := 59) hx hb dX4_text_57 (by decide) ?_
          refine lv_icmp_ne (tgt := 74) hx hb dX4_text_59 (by decide) (fun c18 => ?_) (fun c18 => ?_)
          · replace hF := (if_neg c18).symm.trans hF
            exact hL74 μ _ _ _ hF hf (lv_sub hl [0] rfl)
          · replace hF := (if_pos c18).symm.trans hF
            refine lv_aload_n hx hb dX4_text_62 rfl (lv_at hl 0 rfl) ?_
            refine lv_iconst (v := 1) hx hb dX4_text_63 (by decide) ?_
            obtain ⟨q19, h20, hF⟩ := Option.bind_eq_some_iff.mp hF
            refine g_cv0 (o := none) (As := [.int 1]) (rest := []) (st1 := []) (ci := 4) S hf (c_X4_must l G ad μ 1 q19 h20) (cwV 1 hts gX4_text_X4_must rfl rfl rfl (by decide +kernel) ⟨Nat.le_of_ble_eq_true rfl, Nat.le_of_ble_eq_true rfl⟩) rfl rfl rfl 0 rfl rfl hl.1 rfl rfl (Nat.le_of_ble_eq_true rfl) ⟨Nat.zero_le _, Nat.zero_le _⟩ dX4_text_64 (fun H locs hf => ?_)
            have hf : Fr G (va_A (wM G ad μ0) s.heap.size) s (wM G ad q19) H locs := hf
            refine lv_aload_n hx hb dX4_text_67 rfl (lv_at hl 0 rfl) ?_
            obtain ⟨q21, h22, hF⟩ := Option.bind_eq_some_iff.mp hF
            refine g_cv0 (o := none) (As := []) (rest := []) (st1 := []) (ci := 4) S hf (c_X4_readItem l G ad q19 q21 h22) (cwV 0 hts gX4_text_X4_readItem rfl rfl rfl (by decide +kernel) ⟨Nat.le_of_ble_eq_true rfl, Nat.le_of_ble_eq_true rfl⟩) rfl rfl rfl 0 rfl rfl hl.1 rfl rfl (Nat.le_of_ble_eq_true rfl) ⟨Nat.zero_le _, Nat.zero_le _⟩ dX4_text_68 (fun H locs hf => ?_)
            have hf : Fr G (va_A (wM G ad μ0) s.heap.size) s (wM G ad q21) H locs := hf
            refine lv_goto (tgt := 33) hx hb dX4_text_71 (by decide) ?_
            exact ih33 q21 _ _ _ hF hf (lv_sub hl [0] rfl)
  unfold f_X4_text at hF
  refine lv_aload_n hx hb dX4_text_0 rfl (lv_at hl 0 rfl) ?_
  refine lv_iconst (v := 0) hx hb dX4_text_1 (by decide) ?_
  refine g_put (ci := 4) (C := RX4) (T := TX4) (N := 21) (ww' := wM G ad (va_up μ0 11 (upd (μ0 11) 3 0))) S hf hinX4 tyX4 tyX4_ok nmX4 0 rfl rfl 9 (by decide) k222 rfl rfl rfl rfl (Nat.le_of_ble_eq_true rfl) rfl dX4_text_2 (fun H locs hf => ?_)
  refine lv_aload_n hx hb dX4_text_5 rfl (lv_at hl 0 rfl) ?_
  refine lv_iconst (v := 0) hx hb dX4_text_6 (by decide) ?_
  refine g_put (ci := 4) (C := RX4) (T := TX4) (N := 21) (ww' := wM G ad (va_up μ0 11 (upd (upd (μ0 11) 3 0) 6 0))) S hf hinX4 tyX4 tyX4_ok nmX4 0 rfl rfl 12 (by decide) k244 rfl rfl (by decide) (by decide) (Nat.le_of_ble_eq_true rfl) rfl dX4_text_7 (fun H locs hf => ?_)
  refine lv_aload_n hx hb dX4_text_10 rfl (lv_at hl 0 rfl) ?_
  refine lv_iconst (v := 0) hx hb dX4_text_11 (by decide) ?_
  refine g_put (ci := 4) (C := RX4) (T := TX4) (N := 21) (ww' := wM G ad (va_up μ0 11 (upd (upd (upd (μ0 11) 3 0) 6 0) 7 0))) S hf hinX4 tyX4 tyX4_ok nmX4 0 rfl rfl 15 (by decide) k255 rfl rfl rfl rfl (Nat.le_of_ble_eq_true rfl) rfl dX4_text_12 (fun H locs hf => ?_)
  refine lv_aload_n hx hb dX4_text_15 rfl (lv_at hl 0 rfl) ?_
  refine lv_aload_n hx hb dX4_text_16 rfl (lv_at hl 0 rfl) ?_
  refine g_get (ci := 4) (C := RX4) (T := TX4) (N := 21) (v := .ref (ad 1)) S hf hinX4 0 rfl rfl 0 (by decide) k9 rfl rfl dX4_text_17 ?_
  refine lv_iconst (v := 1) hx hb dX4_text_20 (by decide) ?_
  refine g_ald (v := (μ0 0) 1) S hf 2 rfl (by decide) rfl dX4_text_21 ?_
  refine g_put (ci := 4) (C := RX4) (T := TX4) (N := 21) (ww' := wM G ad (va_up μ0 11 (upd (upd (upd (upd (μ0 11) 3 0) 6 0) 7 0) 8 ((μ0 0) 1)))) S hf hinX4 tyX4 tyX4_ok nmX4 0 rfl rfl 16 (by decide) k262 rfl rfl rfl rfl (Nat.le_of_ble_eq_true rfl) rfl dX4_text_22 (fun H locs hf => ?_)
  refine lv_aload_n hx hb dX4_text_25 rfl (lv_at hl 0 rfl) ?_
  obtain ⟨q1, h2, hF⟩ := Option.bind_eq_some_iff.mp hF
  refine g_cv0 (o := none) (As := []) (rest := []) (st1 := []) (ci := 4) S hf (c_X4_token l G ad (va_up μ0 11 (upd (upd (upd (upd (μ0 11) 3 0) 6 0) 7 0) 8 ((μ0 0) 1))) q1 h2) (cwV 0 hts gX4_text_X4_token rfl rfl rfl (by decide +kernel) ⟨Nat.le_of_ble_eq_true rfl, Nat.le_of_ble_eq_true rfl⟩) rfl rfl rfl 0 rfl rfl hl.1 rfl rfl (Nat.le_of_ble_eq_true rfl) ⟨Nat.zero_le _, Nat.zero_le _⟩ dX4_text_26 (fun H locs hf => ?_)
  have hf : Fr G (va_A (wM G ad μ0) s.heap.size) s (wM G ad q1) H locs := hf
  refine lv_aload_n hx hb dX4_text_29 rfl (lv_at hl 0 rfl) ?_
  obtain ⟨q3, h4, hF⟩ := Option.bind_eq_some_iff.mp hF
  refine g_cv0 (o := none) (As := []) (rest := []) (st1 := []) (ci := 4) S hf (c_X4_readItem l G ad q1 q3 h4) (cwV 0 hts gX4_text_X4_readItem rfl rfl rfl (by decide +kernel) ⟨Nat.le_of_ble_eq_true rfl, Nat.le_of_ble_eq_true rfl⟩) rfl rfl rfl 0 rfl rfl hl.1 rfl rfl (Nat.le_of_ble_eq_true rfl) ⟨Nat.zero_le _, Nat.zero_le _⟩ dX4_text_30 (fun H locs hf => ?_)
  have hf : Fr G (va_A (wM G ad μ0) s.heap.size) s (wM G ad q3) H locs := hf
  exact hL33 1000 q3 _ _ _ hF hf (lv_sub hl [0] rfl)
def f_X4_isSpot (a0 : Int32) : Option (Int32) := Option.bind (f_X4_within a0 0 9) (fun q1 => if q1 = 0 ∨ q1 = 1 then some (q1) else none)
set_option maxHeartbeats 4000000 in
set_option maxRecDepth 100000 in
theorem c_X4_isSpot (l : Launch) (G : GT)  (a0 : Int32) (q : Int32) (hF : f_X4_isSpot a0 = some q) : Ct l G yX4_isSpot wsX4_isSpot ({ frames := 1, cells := 0, slots := 0, locals := 22 } : Room) ([.int a0] : List Value) (([] : va_W)) (some (.int q)) (([] : va_W)) := by
  refine Ct.of cX4_isSpot 1 (some .boolean) (by decide) rfl (Nat.le_of_ble_eq_true rfl) ?_
  intro p e s m below meth c ls S hr hlocks hf hl
  have S : CallFix p m c cX4_isSpot 1 s ([.int a0] : List Value).toArray wsX4_isSpot RX4 := S
  obtain ⟨hx, hb, hml, hown, hts⟩ := id S
  have hl : lv_has ls 1 [(0, .int a0)] := hl
  unfold f_X4_isSpot at hF
  refine lv_iload_n hx hb dX4_isSpot_0 rfl (lv_at hl 0 rfl) ?_
  refine lv_iconst (v := 0) hx hb dX4_isSpot_1 (by decide) ?_
  refine lv_bipush (v := 9) hx hb dX4_isSpot_2 (by decide) ?_
  obtain ⟨q1, h2, hF⟩ := Option.bind_eq_some_iff.mp hF
  refine g_cs0 (o := some (.int q1)) (As := [.int a0, .int 0, .int 9]) (rest := []) (st1 := [.int q1]) S hf (c_X4_within l G  a0 0 9 q1 h2) (va_cwS 3 hts gX4_isSpot_X4_within rfl rfl rfl (by decide +kernel) ⟨Nat.le_of_ble_eq_true rfl, Nat.le_of_ble_eq_true rfl⟩) rfl hl.1 rfl rfl (Nat.le_of_ble_eq_true rfl) ⟨Nat.zero_le _, Nat.zero_le _⟩ dX4_isSpot_4 (fun H locs hf => ?_)
  obtain ⟨g3, hF⟩ := gd_some hF
  have hE := Option.some.inj hF
  have hV := congrArg (fun z : Int32 => z) hE
  exact g_zret S hr hlocks hf (nz g3) hV rfl dX4_isSpot_7
