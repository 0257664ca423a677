def f_X4_finding (μ0 : K2) (a1 : Int32) : Option (Int32 × K2) := if ix (((-1000001) - a1) + 1) 8 then (some (a1, va_up μ0 3 (upd (upd (μ0 3) ((((-1000001) - a1) + 1).toNatClampNeg) (((μ0 3) (((-1000001) - a1) + 1).toNatClampNeg) + 1)) 0 (((upd (μ0 3) ((((-1000001) - a1) + 1).toNatClampNeg) (((μ0 3) (((-1000001) - a1) + 1).toNatClampNeg) + 1)) 0) + 1)))) else none
set_option maxHeartbeats 4000000 in
set_option maxRecDepth 100000 in
theorem c_X4_finding (l : Launch) (G : GT) (ad : Nat → Nat) (μ0 : K2) (a1 : Int32) (q : Int32 × K2) (hF : f_X4_finding μ0 a1 = some q) : Ct l G yX4_finding wsX4_finding ({ frames := 0, cells := 0, slots := 0, locals := 0 } : Room) ([.ref (ad 0), .int a1] : List Value) (wM G ad μ0) (some (.int q.1)) (wM G ad q.2) := by
  have k19 : Cond.fieldLink RX4 19 "PigeonRollsModel" "found" "[I" ∈ wsX4_finding := by decide +kernel
  have kc63 : Cond.constant RX4 63 (-1000001) ∈ wsX4_finding := by decide +kernel
  have hinX4 : ∀ w ∈ u_ws RX4 TX4 21, w ∈ wsX4_finding := by decide +kernel
  refine Ct.of cX4_finding 2 (some .int) (by decide) rfl (Nat.le_of_ble_eq_true rfl) ?_
  intro p e s m below meth c ls S hr hlocks hf hl
  have S : CallFix p m c cX4_finding 2 s ([.ref (ad 0), .int a1] : List Value).toArray wsX4_finding RX4 := S
  obtain ⟨hx, hb, hml, hown, hts⟩ := id S
  have hl : lv_has ls 2 [(0, .ref (ad 0)), (1, .int a1)] := hl
  unfold f_X4_finding at hF
  refine lv_aload_n hx hb dX4_finding_0 rfl (lv_at hl 0 rfl) ?_
  refine g_get (ci := 4) (C := RX4) (T := TX4) (N := 21) (v := .ref (ad 4)) S hf hinX4 0 rfl rfl 4 (by decide) k19 rfl rfl dX4_finding_1 ?_
  refine lv_ldc (v := -1000001) hx hb hown (hts _ kc63) dX4_finding_4 ?_
  refine lv_iload_n hx hb dX4_finding_6 rfl (lv_at hl 1 rfl) ?_
  refine lv_isub hx hb dX4_finding_7 ?_
  refine lv_iconst (v := 1) hx hb dX4_finding_8 (by decide) ?_
  refine lv_iadd hx hb dX4_finding_9 ?_
  refine lv_dup2_11 hx hb dX4_finding_10 rfl rfl ?_
  obtain ⟨g1, hF⟩ := gd_some hF
  refine g_ald (v := (μ0 3) (((-1000001) - a1) + 1).toNatClampNeg) S hf 4 rfl g1 rfl dX4_finding_11 ?_
  refine lv_iconst (v := 1) hx hb dX4_finding_12 (by decide) ?_
  refine lv_iadd hx hb dX4_finding_13 ?_
  refine g_ast (ww' := wM G ad (va_up μ0 3 (upd (μ0 3) ((((-1000001) - a1) + 1).toNatClampNeg) (((μ0 3) (((-1000001) - a1) + 1).toNatClampNeg) + 1)))) S hf 4 rfl g1 rfl dX4_finding_14 (fun H locs hf => ?_)
  refine lv_aload_n hx hb dX4_finding_15 rfl (lv_at hl 0 rfl) ?_
  refine g_get (ci := 4) (C := RX4) (T := TX4) (N := 21) (v := .ref (ad 4)) S hf hinX4 0 rfl rfl 4 (by decide) k19 rfl rfl dX4_finding_16 ?_
  refine lv_iconst (v := 0) hx hb dX4_finding_19 (by decide) ?_
  refine lv_dup2_11 hx hb dX4_finding_20 rfl rfl ?_
  refine g_ald (f := upd (μ0 3) ((((-1000001) - a1) + 1).toNatClampNeg) (((μ0 3) (((-1000001) - a1) + 1).toNatClampNeg) + 1)) (v := (upd (μ0 3) ((((-1000001) - a1) + 1).toNatClampNeg) (((μ0 3) (((-1000001) - a1) + 1).toNatClampNeg) + 1)) 0) S hf 4 rfl (by decide) rfl dX4_finding_21 ?_
  refine lv_iconst (v := 1) hx hb dX4_finding_22 (by decide) ?_
  refine lv_iadd hx hb dX4_finding_23 ?_
  refine g_ast (f := upd (μ0 3) ((((-1000001) - a1) + 1).toNatClampNeg) (((μ0 3) (((-1000001) - a1) + 1).toNatClampNeg) + 1)) (ww' := wM G ad (va_up μ0 3 (upd (upd (μ0 3) ((((-1000001) - a1) + 1).toNatClampNeg) (((μ0 3) (((-1000001) - a1) + 1).toNatClampNeg) + 1)) 0 (((upd (μ0 3) ((((-1000001) - a1) + 1).toNatClampNeg) (((μ0 3) (((-1000001) - a1) + 1).toNatClampNeg) + 1)) 0) + 1)))) S hf 4 rfl (by decide) wM_u3 dX4_finding_24 (fun H locs hf => ?_)
  refine lv_iload_n hx hb dX4_finding_25 rfl (lv_at hl 1 rfl) ?_
  have hE := Option.some.inj hF
  have hV := congrArg (fun z : Int32 × K2 => z.1) hE
  have hW := congrArg (fun z : Int32 × K2 => wM G ad z.2) hE
  exact g_iret S hr hlocks hf hV hW dX4_finding_26
def f_X4_within (a0 : Int32) (a1 : Int32) (a2 : Int32) : Option (Int32) := if a0 < a1 then (some (0)) else (if a2 < a0 then (some (0)) else (some (1)))
set_option maxHeartbeats 4000000 in
set_option maxRecDepth 100000 in
theorem c_X4_within (l : Launch) (G : GT)  (a0 : Int32) (a1 : Int32) (a2 : Int32) (q : Int32) (hF : f_X4_within a0 a1 a2 = some q) : Ct l G yX4_within wsX4_within ({ frames := 0, cells := 0, slots := 0, locals := 0 } : Room) ([.int a0, .int a1, .int a2] : List Value) (([] : va_W)) (some (.int q)) (([] : va_W)) := by
  refine Ct.of cX4_within 3 (some .boolean) (by decide) rfl (Nat.le_of_ble_eq_true rfl) ?_
  intro p e s m below meth c ls S hr hlocks hf hl
  have S : CallFix p m c cX4_within 3 s ([.int a0, .int a1, .int a2] : List Value).toArray wsX4_within RX4 := S
  obtain ⟨hx, hb, hml, hown, hts⟩ := id S
  have hl : lv_has ls 3 [(0, .int a0), (1, .int a1), (2, .int a2)] := hl
  unfold f_X4_within at hF
  refine lv_iload_n hx hb dX4_within_0 rfl (lv_at hl 0 rfl) ?_
  refine lv_iload_n hx hb dX4_within_1 rfl (lv_at hl 1 rfl) ?_
  refine lv_icmp_lt (tgt := 14) hx hb dX4_within_2 (by decide) (fun c1 => ?_) (fun c1 => ?_)
  · replace hF := (if_pos c1).symm.trans hF
    refine lv_iconst (v := 0) hx hb dX4_within_14 (by decide) ?_
    have hE := Option.some.inj hF
    have hV := congrArg (fun z : Int32 => z) hE
    exact g_zret S hr hlocks hf (by decide) hV rfl dX4_within_15
  · replace hF := (if_neg c1).symm.trans hF
    refine lv_iload_n hx hb dX4_within_5 rfl (lv_at hl 0 rfl) ?_
    refine lv_iload_n hx hb dX4_within_6 rfl (lv_at hl 2 rfl) ?_
    refine lv_icmp_gt (tgt := 14) hx hb dX4_within_7 (by decide) (fun c2 => ?_) (fun c2 => ?_)
    · replace hF := (if_pos c2).symm.trans hF
      refine lv_iconst (v := 0) hx hb dX4_within_14 (by decide) ?_
      have hE := Option.some.inj hF
      have hV := congrArg (fun z : Int32 => z) hE
      exact g_zret S hr hlocks hf (by decide) hV rfl dX4_within_15
    · replace hF := (if_neg c2).symm.trans hF
      refine lv_iconst (v := 1) hx hb dX4_within_10 (by decide) ?_
      refine lv_goto (tgt := 15) hx hb dX4_within_11 (by decide) ?_
      have hE := Option.some.inj hF
      have hV := congrArg (fun z : Int32 => z) hE
      exact g_zret S hr hlocks hf (by decide) hV rfl dX4_within_15
def f_X4_become (μ0 : K2) (a1 : Int32) (a2 : Int32) : Option (Int32 × K2) := if ix a1 92 then (some ((μ0 0) a1.toNatClampNeg, va_up μ0 0 (upd (μ0 0) a1.toNatClampNeg a2))) else none
set_option maxHeartbeats 4000000 in
set_option maxRecDepth 100000 in
theorem c_X4_become (l : Launch) (G : GT) (ad : Nat → Nat) (μ0 : K2) (a1 : Int32) (a2 : Int32) (q : Int32 × K2) (hF : f_X4_become μ0 a1 a2 = some q) : Ct l G yX4_become wsX4_become ({ frames := 0, cells := 0, slots := 0, locals := 0 } : Room) ([.ref (ad 0), .int a1, .int a2] : List Value) (wM G ad μ0) (some (.int q.1)) (wM G ad q.2) := by
  have k9 : Cond.fieldLink RX4 9 "PigeonRollsModel" "now" "[I" ∈ wsX4_become := by decide +kernel
  have hinX4 : ∀ w ∈ u_ws RX4 TX4 21, w ∈ wsX4_become := by decide +kernel
  refine Ct.of cX4_become 4 (some .int) (by decide) rfl (Nat.le_of_ble_eq_true rfl) ?_
  intro p e s m below meth c ls S hr hlocks hf hl
  have S : CallFix p m c cX4_become 4 s ([.ref (ad 0), .int a1, .int a2] : List Value).toArray wsX4_become RX4 := S
  obtain ⟨hx, hb, hml, hown, hts⟩ := id S
  have hl : lv_has ls 4 [(0, .ref (ad 0)), (1, .int a1), (2, .int a2)] := hl
  unfold f_X4_become at hF
  refine lv_aload_n hx hb dX4_become_0 rfl (lv_at hl 0 rfl) ?_
  refine g_get (ci := 4) (C := RX4) (T := TX4) (N := 21) (v := .ref (ad 1)) S hf hinX4 0 rfl rfl 0 (by decide) k9 rfl rfl dX4_become_1 ?_
  refine lv_iload_n hx hb dX4_become_4 rfl (lv_at hl 1 rfl) ?_
  obtain ⟨g1, hF⟩ := gd_some hF
  refine g_ald (v := (μ0 0) a1.toNatClampNeg) S hf 2 rfl g1 rfl dX4_become_5 ?_
  refine lv_istore_n (lv' := [(3, .int ((μ0 0) a1.toNatClampNeg)), (0, .ref (ad 0)), (1, .int a1), (2, .int a2)]) hx hb dX4_become_6 rfl hl (by decide) rfl (fun ls hl => ?_)
  refine lv_aload_n hx hb dX4_become_7 rfl (lv_at hl 1 rfl) ?_
  refine g_get (ci := 4) (C := RX4) (T := TX4) (N := 21) (v := .ref (ad 1)) S hf hinX4 0 rfl rfl 0 (by decide) k9 rfl rfl dX4_become_8 ?_
  refine lv_iload_n hx hb dX4_become_11 rfl (lv_at hl 2 rfl) ?_
  refine lv_iload_n hx hb dX4_become_12 rfl (lv_at hl 3 rfl) ?_
  refine g_ast (ww' := wM G ad (va_up μ0 0 (upd (μ0 0) a1.toNatClampNeg a2))) S hf 2 rfl g1 rfl dX4_become_13 (fun H locs hf => ?_)
  refine lv_iload_n hx hb dX4_become_14 rfl (lv_at hl 0 rfl) ?_
  have hE := Option.some.inj hF
  have hV := congrArg (fun z : Int32 × K2 => z.1) hE
  have hW := congrArg (fun z : Int32 × K2 => wM G ad z.2) hE
  exact g_iret S hr hlocks hf hV hW dX4_become_15
def f_X4_copyRow_L2 (f0 : Nat → Int32) : Nat → (Nat → Int32) → Int32 → Option ((Nat → Int32))
  | 0, _, _ => none
  | n + 1, g, x2 => if 92 ≤ x2 then (some (g)) else (if ix x2 92 then (f_X4_copyRow_L2 f0 n (upd g x2.toNatClampNeg (f0 x2.toNatClampNeg)) (x2 + 1)) else none)
def f_X4_copyRow (f0 : Nat → Int32) (g0 : Nat → Int32) : Option ((Nat → Int32)) := f_X4_copyRow_L2 f0 1000 g0 0
set_option maxHeartbeats 4000000 in
set_option maxRecDepth 100000 in
theorem c_X4_copyRow (l : Launch) (G : GT) (a b : Nat) (f0 : Nat → Int32) (g0 : Nat → Int32) (q : (Nat → Int32)) (hF : f_X4_copyRow f0 g0 = some q) : Ct l G yX4_copyRow wsX4_copyRow ({ frames := 0, cells := 0, slots := 0, locals := 0 } : Room) ([.ref a, .ref b] : List Value) (([(a, .inl (gc G 0, 92, .inl f0)), (b, .inl (gc G 0, 92, .inl g0))] : va_W)) (none) (([(a, .inl (gc G 0, 92, .inl f0)), (b, .inl (gc G 0, 92, .inl q))] : va_W)) := by
  refine Ct.of cX4_copyRow 3 none (by decide) rfl (Nat.le_of_ble_eq_true rfl) ?_
  intro p e s m below meth c ls S hr hlocks hf hl
  have S : CallFix p m c cX4_copyRow 3 s ([.ref a, .ref b] : List Value).toArray wsX4_copyRow RX4 := S
  obtain ⟨hx, hb, hml, hown, hts⟩ := id S
  have hl : lv_has ls 3 [(0, .ref a), (1, .ref b)] := hl
  have hL2 : ∀ (n : Nat) (g : Nat → Int32) (x2 : Int32)  (H : Heap) (locs : List Loc) (ls : Array Slot), f_X4_copyRow_L2 f0 n g x2 = some q → Fr G (va_A (([(a, .inl (gc G 0, 92, .inl f0)), (b, .inl (gc G 0, 92, .inl g0))] : va_W)) s.heap.size) s (([(a, .inl (gc G 0, 92, .inl f0)), (b, .inl (gc G 0, 92, .inl g))] : va_W)) H locs → lv_has ls 3 [(0, .ref a), (1, .ref b), (2, .int x2)] → W p l e ({ frames := 0, cells := 0, slots := 0, locals := 0 } : Room) s m ([.ref a, .ref b] : List Value).toArray below meth c H locs 0 0 (MQ below (CPost G (([(a, .inl (gc G 0, 92, .inl f0)), (b, .inl (gc G 0, 92, .inl g0))] : va_W)) s.heap.size (none) (([(a, .inl (gc G 0, 92, .inl f0)), (b, .inl (gc G 0, 92, .inl q))] : va_W))) ([.ref a, .ref b] : List Value).toArray s 0 0 (va_A (([(a, .inl (gc G 0, 92, .inl f0)), (b, .inl (gc G 0, 92, .inl g0))] : va_W)) s.heap.size)) (F0 m 2 ls []) := by
    intro n
    induction n with
    | zero =>
      intro g x2 H locs ls hF hf hl
      exact absurd hF (by simp [f_X4_copyRow_L2])
    | succ n ih2 =>
      intro g x2 H locs ls hF hf hl
      rw [f_X4_copyRow_L2] at hF
      refine lv_iload_n hx hb dX4_copyRow_2 rfl (lv_at hl 2 rfl) ?_
      refine lv_bipush (v := 92) hx hb dX4_copyRow_3 (by decide) ?_
      refine lv_icmp_ge (tgt := 20) hx hb dX4_copyRow_5 (by decide) (fun c1 => ?_) (fun c1 => ?_)
      · replace hF := (if_pos c1).symm.trans hF
        have hE := Option.some.inj hF
        have hW := congrArg (fun z : (Nat → Int32) => ([(a, .inl (gc G 0, 92, .inl f0)), (b, .inl (gc G 0, 92, .inl z))] : va_W)) hE
        exact g_vret S hr hlocks hf hW dX4_copyRow_20
      · replace hF := (if_neg c1).symm.trans hF
        refine lv_aload_n hx hb dX4_copyRow_8 rfl (lv_at hl 1 rfl) ?_
        refine lv_iload_n hx hb dX4_copyRow_9 rfl (lv_at hl 2 rfl) ?_
        refine lv_aload_n hx hb dX4_copyRow_10 rfl (lv_at hl 0 rfl) ?_
        refine lv_iload_n hx hb dX4_copyRow_11 rfl (lv_at hl 2 rfl) ?_
        obtain ⟨g2, hF⟩ := gd_some hF
        refine g_ald (v := f0 x2.toNatClampNeg) S hf 0 rfl g2 rfl dX4_copyRow_12 ?_
        refine g_ast (ww' := ([(a, .inl (gc G 0, 92, .inl f0)), (b, .inl (gc G 0, 92, .inl (upd g x2.toNatClampNeg (f0 x2.toNatClampNeg))))] : va_W)) S hf 1 rfl g2 rfl dX4_copyRow_13 (fun H locs hf => ?_)
        refine lv_iinc (v := x2 + 1) (lv' := [(2, .int (x2 + 1)), (0, .ref a), (1, .ref b)]) hx hb dX4_copyRow_14 hl (k := 2) rfl rfl (by decide) rfl (fun ls hl => ?_)
        refine lv_goto (tgt := 2) hx hb dX4_copyRow_17 (by decide) ?_
        exact ih2 (upd g x2.toNatClampNeg (f0 x2.toNatClampNeg)) (x2 + 1) _ _ _ hF hf (lv_sub hl [1, 2, 0] rfl)
  unfold f_X4_copyRow at hF
  refine lv_iconst (v := 0) hx hb dX4_copyRow_0 (by decide) ?_
  refine lv_istore_n (lv' := [(2, .int 0), (0, .ref a), (1, .ref b)]) hx hb dX4_copyRow_1 rfl hl (by decide) rfl (fun ls hl => ?_)
  exact hL2 1000 g0 0 _ _ _ hF hf (lv_sub hl [1, 2, 0] rfl)
def f_X4_copyRow2_L2 (f0 : Nat → Int32) : Nat → (Nat → Int32) → Int32 → Option ((Nat → Int32))
  | 0, _, _ => none
  | n + 1, g, x2 => if 92 ≤ x2 then (some (g)) else (if ix x2 92 then (f_X4_copyRow2_L2 f0 n (upd g x2.toNatClampNeg (f0 x2.toNatClampNeg)) (x2 + 1)) else none)
def f_X4_copyRow2 (f0 : Nat → Int32) (g0 : Nat → Int32) : Option ((Nat → Int32)) := f_X4_copyRow2_L2 f0 1000 g0 0
set_option maxHeartbeats 4000000 in
set_option maxRecDepth 100000 in
theorem c_X4_copyRow2 (l : Launch) (G : GT) (a b : Nat) (f0 : Nat → Int32) (g0 : Nat → Int32) (q : (Nat → Int32)) (hF : f_X4_copyRow2 f0 g0 = some q) : Ct l G yX4_copyRow wsX4_copyRow ({ frames := 0, cells := 0, slots := 0, locals := 0 } : Room) ([.ref a, .ref b] : List Value) (([(b, .inl (gc G 0, 92, .inl g0)), (a, .inl (gc G 0, 92, .inl f0))] : va_W)) (none) (([(b, .inl (gc G 0, 92, .inl q)), (a, .inl (gc G 0, 92, .inl f0))] : va_W)) := by
  refine Ct.of cX4_copyRow 3 none (by decide) rfl (Nat.le_of_ble_eq_true rfl) ?_
  intro p e s m below meth c ls S hr hlocks hf hl
  have S : CallFix p m c cX4_copyRow 3 s ([.ref a, .ref b] : List Value).toArray wsX4_copyRow RX4 := S
  obtain ⟨hx, hb, hml, hown, hts⟩ := id S
  have hl : lv_has ls 3 [(0, .ref a), (1, .ref b)] := hl
  have hL2 : ∀ (n : Nat) (g : Nat → Int32) (x2 : Int32)  (H : Heap) (locs : List Loc) (ls : Array Slot), f_X4_copyRow2_L2 f0 n g x2 = some q → Fr G (va_A (([(b, .inl (gc G 0, 92, .inl g0)), (a, .inl (gc G 0, 92, .inl f0))] : va_W)) s.heap.size) s (([(b, .inl (gc G 0, 92, .inl g)), (a, .inl (gc G 0, 92, .inl f0))] : va_W)) H locs → lv_has ls 3 [(0, .ref a), (1, .ref b), (2, .int x2)] → W p l e ({ frames := 0, cells := 0, slots := 0, locals := 0 } : Room) s m ([.ref a, .ref b] : List Value).toArray below meth c H locs 0 0 (MQ below (CPost G (([(b, .inl (gc G 0, 92, .inl g0)), (a, .inl (gc G 0, 92, .inl f0))] : va_W)) s.heap.size (none) (([(b, .inl (gc G 0, 92, .inl q)), (a, .inl (gc G 0, 92, .inl f0))] : va_W))) ([.ref a, .ref b] : List Value).toArray s 0 0 (va_A (([(b, .inl (gc G 0, 92, .inl g0)), (a, .inl (gc G 0, 92, .inl f0))] : va_W)) s.heap.size)) (F0 m 2 ls []) := by
    intro n
    induction n with
    | zero =>
      intro g x2 H locs ls hF hf hl
      exact absurd hF (by simp [f_X4_copyRow2_L2])
    | succ n ih2 =>
      intro g x2 H locs ls hF hf hl
      rw [f_X4_copyRow2_L2] at hF
      refine lv_iload_n hx hb dX4_copyRow_2 rfl (lv_at hl 2 rfl) ?_
      refine lv_bipush (v := 92) hx hb dX4_copyRow_3 (by decide) ?_
      refine lv_icmp_ge (tgt := 20) hx hb dX4_copyRow_5 (by decide) (fun c1 => ?_) (fun c1 => ?_)
      · replace hF := (if_pos c1).symm.trans hF
        have hE := Option.some.inj hF
        have hW := congrArg (fun z : (Nat → Int32) => ([(b, .inl (gc G 0, 92, .inl z)), (a, .inl (gc G 0, 92, .inl f0))] : va_W)) hE
        exact g_vret S hr hlocks hf hW dX4_copyRow_20
      · replace hF := (if_neg c1).symm.trans hF
        refine lv_aload_n hx hb dX4_copyRow_8 rfl (lv_at hl 1 rfl) ?_
        refine lv_iload_n hx hb dX4_copyRow_9 rfl (lv_at hl 2 rfl) ?_
        refine lv_aload_n hx hb dX4_copyRow_10 rfl (lv_at hl 0 rfl) ?_
        refine lv_iload_n hx hb dX4_copyRow_11 rfl (lv_at hl 2 rfl) ?_
        obtain ⟨g2, hF⟩ := gd_some hF
        refine g_ald (v := f0 x2.toNatClampNeg) S hf 1 rfl g2 rfl dX4_copyRow_12 ?_
        refine g_ast (ww' := ([(b, .inl (gc G 0, 92, .inl (upd g x2.toNatClampNeg (f0 x2.toNatClampNeg)))), (a, .inl (gc G 0, 92, .inl f0))] : va_W)) S hf 0 rfl g2 rfl dX4_copyRow_13 (fun H locs hf => ?_)
        refine lv_iinc (v := x2 + 1) (lv' := [(2, .int (x2 + 1)), (0, .ref a), (1, .ref b)]) hx hb dX4_copyRow_14 hl (k := 2) rfl rfl (by decide) rfl (fun ls hl => ?_)
        refine lv_goto (tgt := 2) hx hb dX4_copyRow_17 (by decide) ?_
        exact ih2 (upd g x2.toNatClampNeg (f0 x2.toNatClampNeg)) (x2 + 1) _ _ _ hF hf (lv_sub hl [1, 2, 0] rfl)
  unfold f_X4_copyRow2 at hF
  refine lv_iconst (v := 0) hx hb dX4_copyRow_0 (by decide) ?_
  refine lv_istore_n (lv' := [(2, .int 0), (0, .ref a), (1, .ref b)]) hx hb dX4_copyRow_1 rfl hl (by decide) rfl (fun ls hl => ?_)
  exact hL2 1000 g0 0 _ _ _ hF hf (lv_sub hl [1, 2, 0] rfl)
def f_X4_putBack (μ0 : K2) (a1 : Int32) : Option (Int32 × K2) := Option.bind (f_X4_copyRow2 (μ0 2) (μ0 0)) (fun q1 => some (a1, va_up μ0 0 q1))
set_option maxHeartbeats 4000000 in
set_option maxRecDepth 100000 in
theorem c_X4_putBack (l : Launch) (G : GT) (ad : Nat → Nat) (μ0 : K2) (a1 : Int32) (q : Int32 × K2) (hF : f_X4_putBack μ0 a1 = some q) : Ct l G yX4_putBack wsX4_putBack ({ frames := 1, cells := 0, slots := 0, locals := 22 } : Room) ([.ref (ad 0), .int a1] : List Value) (wM G ad μ0) (some (.int q.1)) (wM G ad q.2) := by
  have k16 : Cond.fieldLink RX4 16 "PigeonRollsModel" "aside" "[I" ∈ wsX4_putBack := by decide +kernel
  have k9 : Cond.fieldLink RX4 9 "PigeonRollsModel" "now" "[I" ∈ wsX4_putBack := by decide +kernel
  have hinX4 : ∀ w ∈ u_ws RX4 TX4 21, w ∈ wsX4_putBack := by decide +kernel
  refine Ct.of cX4_putBack 2 (some .int) (by decide) rfl (Nat.le_of_ble_eq_true rfl) ?_
  intro p e s m below meth c ls S hr hlocks hf hl
  have S : CallFix p m c cX4_putBack 2 s ([.ref (ad 0), .int a1] : List Value).toArray wsX4_putBack RX4 := S
  obtain ⟨hx, hb, hml, hown, hts⟩ := id S
  have hl : lv_has ls 2 [(0, .ref (ad 0)), (1, .int a1)] := hl
  unfold f_X4_putBack at hF
  refine lv_aload_n hx hb dX4_putBack_0 rfl (lv_at hl 0 rfl) ?_
  refine g_get (ci := 4) (C := RX4) (T := TX4) (N := 21) (v := .ref (ad 3)) S hf hinX4 0 rfl rfl 2 (by decide) k16 rfl rfl dX4_putBack_1 ?_
  refine lv_aload_n hx hb dX4_putBack_4 rfl (lv_at hl 0 rfl) ?_
  refine g_get (ci := 4) (C := RX4) (T := TX4) (N := 21) (v := .ref (ad 1)) S hf hinX4 0 rfl rfl 0 (by decide) k9 rfl rfl dX4_putBack_5 ?_
  obtain ⟨q1, h2, hF⟩ := Option.bind_eq_some_iff.mp hF
  refine g_cs (o := none) (As := [.ref (ad 3), .ref (ad 1)]) (rest := []) (st1 := []) (a := List.take 2 (wM G ad μ0)) (b := List.drop 4 (wM G ad μ0)) S hf (c_X4_copyRow2 l G (ad 3) (ad 1) (μ0 2) (μ0 0) q1 h2) (va_cwS 2 hts gX4_putBack_X4_copyRow rfl rfl rfl (by decide +kernel) ⟨Nat.le_of_ble_eq_true rfl, Nat.le_of_ble_eq_true rfl⟩) rfl rfl rfl hl.1 rfl rfl (Nat.le_of_ble_eq_true rfl) ⟨Nat.zero_le _, Nat.zero_le _⟩ dX4_putBack_8 (fun H locs hf => ?_)
  have hf : Fr G (va_A (wM G ad μ0) s.heap.size) s (wM G ad (va_up μ0 0 q1)) H locs := hf
  refine lv_iload_n hx hb dX4_putBack_11 rfl (lv_at hl 1 rfl) ?_
  have hE := Option.some.inj hF
  have hV := congrArg (fun z : Int32 × K2 => z.1) hE
  have hW := congrArg (fun z : Int32 × K2 => wM G ad z.2) hE
  exact g_iret S hr hlocks hf hV hW dX4_putBack_12
def f_X4_orNone (μ0 : K2) (a1 : Int32) : Option (Int32 × K2) := if 0 ≤ a1 then (some (a1, μ0)) else (Option.bind (f_X4_finding μ0 (-1000004)) (fun q2 => some (q2.1, q2.2)))
set_option maxHeartbeats 4000000 in
set_option maxRecDepth 100000 in
theorem c_X4_orNone (l : Launch) (G : GT) (ad : Nat → Nat) (μ0 : K2) (a1 : Int32) (q : Int32 × K2) (hF : f_X4_orNone μ0 a1 = some q) : Ct l G yX4_orNone wsX4_orNone ({ frames := 1, cells := 0, slots := 0, locals := 21 } : Room) ([.ref (ad 0), .int a1] : List Value) (wM G ad μ0) (some (.int q.1)) (wM G ad q.2) := by
  have kc68 : Cond.constant RX4 68 (-1000004) ∈ wsX4_orNone := by decide +kernel
  refine Ct.of cX4_orNone 2 (some .int) (by decide) rfl (Nat.le_of_ble_eq_true rfl) ?_
  intro p e s m below meth c ls S hr hlocks hf hl
  have S : CallFix p m c cX4_orNone 2 s ([.ref (ad 0), .int a1] : List Value).toArray wsX4_orNone RX4 := S
  obtain ⟨hx, hb, hml, hown, hts⟩ := id S
  have hl : lv_has ls 2 [(0, .ref (ad 0)), (1, .int a1)] := hl
  unfold f_X4_orNone at hF
  refine lv_iload_n hx hb dX4_orNone_0 rfl (lv_at hl 1 rfl) ?_
  refine lv_if_ge (tgt := 13) hx hb dX4_orNone_1 (by decide) (fun c1 => ?_) (fun c1 => ?_)
  · replace hF := (if_pos c1).symm.trans hF
    refine lv_iload_n hx hb dX4_orNone_13 rfl (lv_at hl 1 rfl) ?_
    have hE := Option.some.inj hF
    have hV := congrArg (fun z : Int32 × K2 => z.1) hE
    have hW := congrArg (fun z : Int32 × K2 => wM G ad z.2) hE
    exact g_iret S hr hlocks hf hV hW dX4_orNone_14
  · replace hF := (if_neg c1).symm.trans hF
    refine lv_aload_n hx hb dX4_orNone_4 rfl (lv_at hl 0 rfl) ?_
    refine lv_ldc (v := -1000004) hx hb hown (hts _ kc68) dX4_orNone_5 ?_
    obtain ⟨q2, h3, hF⟩ := Option.bind_eq_some_iff.mp hF
    refine g_cv0 (o := some (.int q2.1)) (As := [.int (-1000004)]) (rest := []) (st1 := [.int q2.1]) (ci := 4) S hf (c_X4_finding l G ad μ0 (-1000004) q2 h3) (cwV 1 hts gX4_orNone_X4_finding rfl rfl rfl (by decide +kernel) ⟨Nat.le_of_ble_eq_true rfl, Nat.le_of_ble_eq_true rfl⟩) rfl rfl rfl 0 rfl rfl hl.1 rfl rfl (Nat.le_of_ble_eq_true rfl) ⟨Nat.zero_le _, Nat.zero_le _⟩ dX4_orNone_7 (fun H locs hf => ?_)
    have hf : Fr G (va_A (wM G ad μ0) s.heap.size) s (wM G ad q2.2) H locs := hf
    refine lv_goto (tgt := 14) hx hb dX4_orNone_10 (by decide) ?_
    have hE := Option.some.inj hF
    have hV := congrArg (fun z : Int32 × K2 => z.1) hE
    have hW := congrArg (fun z : Int32 × K2 => wM G ad z.2) hE
    exact g_iret S hr hlocks hf hV hW dX4_orNone_14
def f_X4_bits_L4 : Nat → Int32 → Int32 → Option (Int32)
  | 0, _, _ => none
  | n + 1, x1, x2 => if x2 = 0 then (some (x1)) else (f_X4_bits_L4 n (x1 + 1) (x2 &&& (x2 - 1)))
def f_X4_bits (a0 : Int32) : Option (Int32) := f_X4_bits_L4 1000 0 a0
set_option maxHeartbeats 4000000 in
set_option maxRecDepth 100000 in
theorem c_X4_bits (l : Launch) (G : GT)  (a0 : Int32) (q : Int32) (hF : f_X4_bits a0 = some q) : Ct l G yX4_bits wsX4_bits ({ frames := 0, cells := 0, slots := 0, locals := 0 } : Room) ([.int a0] : List Value) (([] : va_W)) (some (.int q)) (([] : va_W)) := by
  refine Ct.of cX4_bits 3 (some .int) (by decide) rfl (Nat.le_of_ble_eq_true rfl) ?_
  intro p e s m below meth c ls S hr hlocks hf hl
  have S : CallFix p m c cX4_bits 3 s ([.int a0] : List Value).toArray wsX4_bits RX4 := S
  obtain ⟨hx, hb, hml, hown, hts⟩ := id S
  have hl : lv_has ls 3 [(0, .int a0)] := hl
  have hL4 : ∀ (n : Nat) (x1 : Int32) (x2 : Int32)  (H : Heap) (locs : List Loc) (ls : Array Slot), f_X4_bits_L4 n x1 x2 = some q → Fr G (va_A (([] : va_W)) s.heap.size) s (([] : va_W)) H locs → lv_has ls 3 [(1, .int x1), (2, .int x2)] → W p l e ({ frames := 0, cells := 0, slots := 0, locals := 0 } : Room) s m ([.int a0] : List Value).toArray below meth c H locs 0 0 (MQ below (CPost G (([] : va_W)) s.heap.size (some (.int q)) (([] : va_W))) ([.int a0] : List Value).toArray s 0 0 (va_A (([] : va_W)) s.heap.size)) (F0 m 4 ls []) := by
    intro n
    induction n with
    | zero =>
      intro x1 x2 H locs ls hF hf hl
      exact absurd hF (by simp [f_X4_bits_L4])
    | succ n ih4 =>
      intro x1 x2 H locs ls hF hf hl
      rw [f_X4_bits_L4] at hF
      refine lv_iload_n hx hb dX4_bits_4 rfl (lv_at hl 1 rfl) ?_
      refine lv_if_eq (tgt := 20) hx hb dX4_bits_5 (by decide) (fun c1 => ?_) (fun c1 => ?_)
      · replace hF := (if_pos c1).symm.trans hF
        refine lv_iload_n hx hb dX4_bits_20 rfl (lv_at hl 0 rfl) ?_
        have hE := Option.some.inj hF
        have hV := congrArg (fun z : Int32 => z) hE
        exact g_iret S hr hlocks hf hV rfl dX4_bits_21
      · replace hF := (if_neg c1).symm.trans hF
        refine lv_iinc (v := x1 + 1) (lv' := [(1, .int (x1 + 1)), (2, .int x2)]) hx hb dX4_bits_8 hl (k := 0) rfl rfl (by decide) rfl (fun ls hl => ?_)
        refine lv_iload_n hx hb dX4_bits_11 rfl (lv_at hl 1 rfl) ?_
        refine lv_iload_n hx hb dX4_bits_12 rfl (lv_at hl 1 rfl) ?_
        refine lv_iconst (v := 1) hx hb dX4_bits_13 (by decide) ?_
        refine lv_isub hx hb dX4_bits_14 ?_
        refine lv_iand hx hb dX4_bits_15 ?_
        refine lv_istore_n (lv' := [(2, .int (x2 &&& (x2 - 1))), (1, .int (x1 + 1))]) hx hb dX4_bits_16 rfl hl (by decide) rfl (fun ls hl => ?_)
        refine lv_goto (tgt := 4) hx hb dX4_bits_17 (by decide) ?_
        exact ih4 (x1 + 1) (x2 &&& (x2 - 1)) _ _ _ hF hf (lv_sub hl [1, 0] rfl)
  unfold f_X4_bits at hF
  refine lv_iconst (v := 0) hx hb dX4_bits_0 (by decide) ?_
  refine lv_istore_n (lv' := [(1, .int 0), (0, .int a0)]) hx hb dX4_bits_1 rfl hl (by decide) rfl (fun ls hl => ?_)
  refine lv_iload_n hx hb dX4_bits_2 rfl (lv_at hl 1 rfl) ?_
  refine lv_istore_n (lv' := [(2, .int a0), (1, .int 0), (0, .int a0)]) hx hb dX4_bits_3 rfl hl (by decide) rfl (fun ls hl => ?_)
  exact hL4 1000 0 a0 _ _ _ hF hf (lv_sub hl [1, 0] rfl)
def f_X4_isPlace (a0 : Int32) : Option (Int32) := Option.bind (f_X4_within a0 0 5) (fun q1 => if q1 = 0 ∨ q1 = 1 then some (q1) else none)
set_option maxHeartbeats 4000000 in
set_option maxRecDepth 100000 in
theorem c_X4_isPlace (l : Launch) (G : GT)  (a0 : Int32) (q : Int32) (hF : f_X4_isPlace a0 = some q) : Ct l G yX4_isPlace wsX4_isPlace ({ frames := 1, cells := 0, slots := 0, locals := 22 } : Room) ([.int a0] : List Value) (([] : va_W)) (some (.int q)) (([] : va_W)) := by
  refine Ct.of cX4_isPlace 1 (some .boolean) (by decide) rfl (Nat.le_of_ble_eq_true rfl) ?_
  intro p e s m below meth c ls S hr hlocks hf hl
  have S : CallFix p m c cX4_isPlace 1 s ([.int a0] : List Value).toArray wsX4_isPlace RX4 := S
  obtain ⟨hx, hb, hml, hown, hts⟩ := id S
  have hl : lv_has ls 1 [(0, .int a0)] := hl
  unfold f_X4_isPlace at hF
  refine lv_iload_n hx hb dX4_isPlace_0 rfl (lv_at hl 0 rfl) ?_
  refine lv_iconst (v := 0) hx hb dX4_isPlace_1 (by decide) ?_
  refine lv_iconst (v := 5) hx hb dX4_isPlace_2 (by decide) ?_
  obtain ⟨q1, h2, hF⟩ := Option.bind_eq_some_iff.mp hF
  refine g_cs0 (o := some (.int q1)) (As := [.int a0, .int 0, .int 5]) (rest := []) (st1 := [.int q1]) S hf (c_X4_within l G  a0 0 5 q1 h2) (va_cwS 3 hts gX4_isPlace_X4_within rfl rfl rfl (by decide +kernel) ⟨Nat.le_of_ble_eq_true rfl, Nat.le_of_ble_eq_true rfl⟩) rfl hl.1 rfl rfl (Nat.le_of_ble_eq_true rfl) ⟨Nat.zero_le _, Nat.zero_le _⟩ dX4_isPlace_3 (fun H locs hf => ?_)
  obtain ⟨g3, hF⟩ := gd_some hF
  have hE := Option.some.inj hF
  have hV := congrArg (fun z : Int32 => z) hE
  exact g_zret S hr hlocks hf (nz g3) hV rfl dX4_isPlace_6
def f_X4_isHarvest (a0 : Int32) : Option (Int32) := Option.bind (f_X4_within a0 0 99) (fun q1 => if q1 = 0 ∨ q1 = 1 then some (q1) else none)
set_option maxHeartbeats 4000000 in
set_option maxRecDepth 100000 in
theorem c_X4_isHarvest (l : Launch) (G : GT)  (a0 : Int32) (q : Int32) (hF : f_X4_isHarvest a0 = some q) : Ct l G yX4_isHarvest wsX4_isHarvest ({ frames := 1, cells := 0, slots := 0, locals := 22 } : Room) ([.int a0] : List Value) (([] : va_W)) (some (.int q)) (([] : va_W)) := by
  refine Ct.of cX4_isHarvest 1 (some .boolean) (by decide) rfl (Nat.le_of_ble_eq_true rfl) ?_
  intro p e s m below meth c ls S hr hlocks hf hl
  have S : CallFix p m c cX4_isHarvest 1 s ([.int a0] : List Value).toArray wsX4_isHarvest RX4 := S
  obtain ⟨hx, hb, hml, hown, hts⟩ := id S
  have hl : lv_has ls 1 [(0, .int a0)] := hl
  unfold f_X4_isHarvest at hF
  refine lv_iload_n hx hb dX4_isHarvest_0 rfl (lv_at hl 0 rfl) ?_
  refine lv_iconst (v := 0) hx hb dX4_isHarvest_1 (by decide) ?_
  refine lv_bipush (v := 99) hx hb dX4_isHarvest_2 (by decide) ?_
  obtain ⟨q1, h2, hF⟩ := Option.bind_eq_some_iff.mp hF
  refine g_cs0 (o := some (.int q1)) (As := [.int a0, .int 0, .int 99]) (rest := []) (st1 := [.int q1]) S hf (c_X4_within l G  a0 0 99 q1 h2) (va_cwS 3 hts gX4_isHarvest_X4_within rfl rfl rfl (by decide +kernel) ⟨Nat.le_of_ble_eq_true rfl, Nat.le_of_ble_eq_true rfl⟩) rfl hl.1 rfl rfl (Nat.le_of_ble_eq_true rfl) ⟨Nat.zero_le _, Nat.zero_le _⟩ dX4_isHarvest_4 (fun H locs hf => ?_)
  obtain ⟨g3, hF⟩ := gd_some hF
  have hE := Option.some.inj hF
  have hV := congrArg (fun z : Int32 => z) hE
  exact g_zret S hr hlocks hf (nz g3) hV rfl dX4_isHarvest_7
def f_X4_harvest (μ0 : K2) (a1 : Int32) (a2 : Int32) : Option (Int32 × K2) := Option.bind (f_X4_isPlace a1) (fun q1 => if q1 = 0 then (Option.bind (f_X4_finding μ0 (-1000001)) (fun q4 => some (q4.1, q4.2))) else (Option.bind (f_X4_isHarvest a2) (fun q6 => if q6 = 0 then (Option.bind (f_X4_finding μ0 (-1000001)) (fun q9 => some (q9.1, q9.2))) else (Option.bind (f_X4_become μ0 (4 + a1) a2) (fun q11 => some (q11.1, q11.2))))))
set_option maxHeartbeats 4000000 in
set_option maxRecDepth 100000 in
theorem c_X4_harvest (l : Launch) (G : GT) (ad : Nat → Nat) (μ0 : K2) (a1 : Int32) (a2 : Int32) (q : Int32 × K2) (hF : f_X4_harvest μ0 a1 a2 = some q) : Ct l G yX4_harvest wsX4_harvest ({ frames := 2, cells := 0, slots := 0, locals := 42 } : Room) ([.ref (ad 0), .int a1, .int a2] : List Value) (wM G ad μ0) (some (.int q.1)) (wM G ad q.2) := by
  have kc63 : Cond.constant RX4 63 (-1000001) ∈ wsX4_harvest := by decide +kernel
  refine Ct.of cX4_harvest 3 (some .int) (by decide) rfl (Nat.le_of_ble_eq_true rfl) ?_
  intro p e s m below meth c ls S hr hlocks hf hl
  have S : CallFix p m c cX4_harvest 3 s ([.ref (ad 0), .int a1, .int a2] : List Value).toArray wsX4_harvest RX4 := S
  obtain ⟨hx, hb, hml, hown, hts⟩ := id S
  have hl : lv_has ls 3 [(0, .ref (ad 0)), (1, .int a1), (2, .int a2)] := hl
  unfold f_X4_harvest at hF
  refine lv_iload_n hx hb dX4_harvest_0 rfl (lv_at hl 1 rfl) ?_
  obtain ⟨q1, h2, hF⟩ := Option.bind_eq_some_iff.mp hF
  refine g_cs0 (o := some (.int q1)) (As := [.int a1]) (rest := []) (st1 := [.int q1]) S hf (c_X4_isPlace l G  a1 q1 h2) (va_cwS 1 hts gX4_harvest_X4_isPlace rfl rfl rfl (by decide +kernel) ⟨Nat.le_of_ble_eq_true rfl, Nat.le_of_ble_eq_true rfl⟩) rfl hl.1 rfl rfl (Nat.le_of_ble_eq_true rfl) ⟨Nat.zero_le _, Nat.zero_le _⟩ dX4_harvest_1 (fun H locs hf => ?_)
  refine lv_if_eq (tgt := 25) hx hb dX4_harvest_4 (by decide) (fun c3 => ?_) (fun c3 => ?_)
  · replace hF := (if_pos c3).symm.trans hF
    refine lv_aload_n hx hb dX4_harvest_25 rfl (lv_at hl 0 rfl) ?_
    refine lv_ldc (v := -1000001) hx hb hown (hts _ kc63) dX4_harvest_26 ?_
    obtain ⟨q4, h5, hF⟩ := Option.bind_eq_some_iff.mp hF
    refine g_cv0 (o := some (.int q4.1)) (As := [.int (-1000001)]) (rest := []) (st1 := [.int q4.1]) (ci := 4) S hf (c_X4_finding l G ad μ0 (-1000001) q4 h5) (cwV 1 hts gX4_harvest_X4_finding rfl rfl rfl (by decide +kernel) ⟨Nat.le_of_ble_eq_true rfl, Nat.le_of_ble_eq_true rfl⟩) rfl rfl rfl 0 rfl rfl hl.1 rfl rfl (Nat.le_of_ble_eq_true rfl) ⟨Nat.zero_le _, Nat.zero_le _⟩ dX4_harvest_28 (fun H locs hf => ?_)
    have hf : Fr G (va_A (wM G ad μ0) s.heap.size) s (wM G ad q4.2) H locs := hf
    have hE := Option.some.inj hF
    have hV := congrArg (fun z : Int32 × K2 => z.1) hE
    have hW := congrArg (fun z : Int32 × K2 => wM G ad z.2) hE
    exact g_iret S hr hlocks hf hV hW dX4_harvest_31
  · replace hF := (if_neg c3).symm.trans hF
    refine lv_iload_n hx hb dX4_harvest_7 rfl (lv_at hl 2 rfl) ?_
    obtain ⟨q6, h7, hF⟩ := Option.bind_eq_some_iff.mp hF
    refine g_cs0 (o := some (.int q6)) (As := [.int a2]) (rest := []) (st1 := [.int q6]) S hf (c_X4_isHarvest l G  a2 q6 h7) (va_cwS 1 hts gX4_harvest_X4_isHarvest rfl rfl rfl (by decide +kernel) ⟨Nat.le_of_ble_eq_true rfl, Nat.le_of_ble_eq_true rfl⟩) rfl hl.1 rfl rfl (Nat.le_of_ble_eq_true rfl) ⟨Nat.zero_le _, Nat.zero_le _⟩ dX4_harvest_8 (fun H locs hf => ?_)
    refine lv_if_eq (tgt := 25) hx hb dX4_harvest_11 (by decide) (fun c8 => ?_) (fun c8 => ?_)
    · replace hF := (if_pos c8).symm.trans hF
      refine lv_aload_n hx hb dX4_harvest_25 rfl (lv_at hl 0 rfl) ?_
      refine lv_ldc (v := -1000001) hx hb hown (hts _ kc63) dX4_harvest_26 ?_
      obtain ⟨q9, h10, hF⟩ := Option.bind_eq_some_iff.mp hF
      refine g_cv0 (o := some (.int q9.1)) (As := [.int (-1000001)]) (rest := []) (st1 := [.int q9.1]) (ci := 4) S hf (c_X4_finding l G ad μ0 (-1000001) q9 h10) (cwV 1 hts gX4_harvest_X4_finding rfl rfl rfl (by decide +kernel) ⟨Nat.le_of_ble_eq_true rfl, Nat.le_of_ble_eq_true rfl⟩) rfl rfl rfl 0 rfl rfl hl.1 rfl rfl (Nat.le_of_ble_eq_true rfl) ⟨Nat.zero_le _, Nat.zero_le _⟩ dX4_harvest_28 (fun H locs hf => ?_)
      have hf : Fr G (va_A (wM G ad μ0) s.heap.size) s (wM G ad q9.2) H locs := hf
      have hE := Option.some.inj hF
      have hV := congrArg (fun z : Int32 × K2 => z.1) hE
      have hW := congrArg (fun z : Int32 × K2 => wM G ad z.2) hE
      exact g_iret S hr hlocks hf hV hW dX4_harvest_31
    · replace hF := (if_neg c8).symm.trans hF
      refine lv_aload_n hx hb dX4_harvest_14 rfl (lv_at hl 0 rfl) ?_
      refine lv_iconst (v := 4) hx hb dX4_harvest_15 (by decide) ?_
      refine lv_iload_n hx hb dX4_harvest_16 rfl (lv_at hl 1 rfl) ?_
      refine lv_iadd hx hb dX4_harvest_17 ?_
      refine lv_iload_n hx hb dX4_harvest_18 rfl (lv_at hl 2 rfl) ?_
      obtain ⟨q11, h12, hF⟩ := Option.bind_eq_some_iff.mp hF
      refine g_cv0 (o := some (.int q11.1)) (As := [.int (4 + a1), .int a2]) (rest := []) (st1 := [.int q11.1]) (ci := 4) S hf (c_X4_become l G ad μ0 (4 + a1) a2 q11 h12) (cwV 2 hts gX4_harvest_X4_become rfl rfl rfl (by decide +kernel) ⟨Nat.le_of_ble_eq_true rfl, Nat.le_of_ble_eq_true rfl⟩) rfl rfl rfl 0 rfl rfl hl.1 rfl rfl (Nat.le_of_ble_eq_true rfl) ⟨Nat.zero_le _, Nat.zero_le _⟩ dX4_harvest_19 (fun H locs hf => ?_)
      have hf : Fr G (va_A (wM G ad μ0) s.heap.size) s (wM G ad q11.2) H locs := hf
      refine lv_goto (tgt := 31) hx hb dX4_harvest_22 (by decide) ?_
      have hE := Option.some.inj hF
      have hV := congrArg (fun z : Int32 × K2 => z.1) hE
      have hW := congrArg (fun z : Int32 × K2 => wM G ad z.2) hE
      exact g_iret S hr hlocks hf hV hW dX4_harvest_31
def f_X4_listed (μ0 : K2) (a1 : Int32) : Option (Int32 × K2) := Option.bind (f_X4_isPlace a1) (fun q1 => if q1 = 0 then (Option.bind (f_X4_finding μ0 (-1000001)) (fun q4 => some (q4.1, q4.2))) else (if ix (4 + a1) 92 then (some ((μ0 0) (4 + a1).toNatClampNeg, μ0)) else none))
set_option maxHeartbeats 4000000 in
set_option maxRecDepth 100000 in
theorem c_X4_listed (l : Launch) (G : GT) (ad : Nat → Nat) (μ0 : K2) (a1 : Int32) (q : Int32 × K2) (hF : f_X4_listed μ0 a1 = some q) : Ct l G yX4_listed wsX4_listed ({ frames := 2, cells := 0, slots := 0, locals := 42 } : Room) ([.ref (ad 0), .int a1] : List Value) (wM G ad μ0) (some (.int q.1)) (wM G ad q.2) := by
  have kc63 : Cond.constant RX4 63 (-1000001) ∈ wsX4_listed := by decide +kernel
  have k9 : Cond.fieldLink RX4 9 "PigeonRollsModel" "now" "[I" ∈ wsX4_listed := by decide +kernel
  have hinX4 : ∀ w ∈ u_ws RX4 TX4 21, w ∈ wsX4_listed := by decide +kernel
  refine Ct.of cX4_listed 2 (some .int) (by decide) rfl (Nat.le_of_ble_eq_true rfl) ?_
  intro p e s m below meth c ls S hr hlocks hf hl
  have S : CallFix p m c cX4_listed 2 s ([.ref (ad 0), .int a1] : List Value).toArray wsX4_listed RX4 := S
  obtain ⟨hx, hb, hml, hown, hts⟩ := id S
  have hl : lv_has ls 2 [(0, .ref (ad 0)), (1, .int a1)] := hl
  unfold f_X4_listed at hF
  refine lv_iload_n hx hb dX4_listed_0 rfl (lv_at hl 1 rfl) ?_
  obtain ⟨q1, h2, hF⟩ := Option.bind_eq_some_iff.mp hF
  refine g_cs0 (o := some (.int q1)) (As := [.int a1]) (rest := []) (st1 := [.int q1]) S hf (c_X4_isPlace l G  a1 q1 h2) (va_cwS 1 hts gX4_listed_X4_isPlace rfl rfl rfl (by decide +kernel) ⟨Nat.le_of_ble_eq_true rfl, Nat.le_of_ble_eq_true rfl⟩) rfl hl.1 rfl rfl (Nat.le_of_ble_eq_true rfl) ⟨Nat.zero_le _, Nat.zero_le _⟩ dX4_listed_1 (fun H locs hf => ?_)
  refine lv_if_eq (tgt := 18) hx hb dX4_listed_4 (by decide) (fun c3 => ?_) (fun c3 => ?_)
  · replace hF := (if_pos c3).symm.trans hF
    refine lv_aload_n hx hb dX4_listed_18 rfl (lv_at hl 0 rfl) ?_
    refine lv_ldc (v := -1000001) hx hb hown (hts _ kc63) dX4_listed_19 ?_
    obtain ⟨q4, h5, hF⟩ := Option.bind_eq_some_iff.mp hF
    refine g_cv0 (o := some (.int q4.1)) (As := [.int (-1000001)]) (rest := []) (st1 := [.int q4.1]) (ci := 4) S hf (c_X4_finding l G ad μ0 (-1000001) q4 h5) (cwV 1 hts gX4_listed_X4_finding rfl rfl rfl (by decide +kernel) ⟨Nat.le_of_ble_eq_true rfl, Nat.le_of_ble_eq_true rfl⟩) rfl rfl rfl 0 rfl rfl hl.1 rfl rfl (Nat.le_of_ble_eq_true rfl) ⟨Nat.zero_le _, Nat.zero_le _⟩ dX4_listed_21 (fun H locs hf => ?_)
    have hf : Fr G (va_A (wM G ad μ0) s.heap.size) s (wM G ad q4.2) H locs := hf
    have hE := Option.some.inj hF
    have hV := congrArg (fun z : Int32 × K2 => z.1) hE
    have hW := congrArg (fun z : Int32 × K2 => wM G ad z.2) hE
    exact g_iret S hr hlocks hf hV hW dX4_listed_24
  · replace hF := (if_neg c3).symm.trans hF
    refine lv_aload_n hx hb dX4_listed_7 rfl (lv_at hl 0 rfl) ?_
    refine g_get (ci := 4) (C := RX4) (T := TX4) (N := 21) (v := .ref (ad 1)) S hf hinX4 0 rfl rfl 0 (by decide) k9 rfl rfl dX4_listed_8 ?_
    refine lv_iconst (v := 4) hx hb dX4_listed_11 (by decide) ?_
    refine lv_iload_n hx hb dX4_listed_12 rfl (lv_at hl 1 rfl) ?_
    refine lv_iadd hx hb dX4_listed_13 ?_
    obtain ⟨g6, hF⟩ := gd_some hF
    refine g_ald (v := (μ0 0) (4 + a1).toNatClampNeg) S hf 2 rfl g6 rfl dX4_listed_14 ?_
    refine lv_goto (tgt := 24) hx hb dX4_listed_15 (by decide) ?_
    have hE := Option.some.inj hF
    have hV := congrArg (fun z : Int32 × K2 => z.1) hE
    have hW := congrArg (fun z : Int32 × K2 => wM G ad z.2) hE
    exact g_iret S hr hlocks hf hV hW dX4_listed_24
def f_X4_placeNow (μ0 : K2) : Option (Int32) := some (4 + (irem ((μ0 0) 0) 6))
set_option maxHeartbeats 4000000 in
set_option maxRecDepth 100000 in
theorem c_X4_placeNow (l : Launch) (G : GT) (ad : Nat → Nat) (μ0 : K2) (q : Int32) (hF : f_X4_placeNow μ0 = some q) : Ct l G yX4_placeNow wsX4_placeNow ({ frames := 0, cells := 0, slots := 0, locals := 0 } : Room) ([.ref (ad 0)] : List Value) (wM G ad μ0) (some (.int q)) (wM G ad μ0) := by
  have k9 : Cond.fieldLink RX4 9 "PigeonRollsModel" "now" "[I" ∈ wsX4_placeNow := by decide +kernel
  have hinX4 : ∀ w ∈ u_ws RX4 TX4 21, w ∈ wsX4_placeNow := by decide +kernel
  refine Ct.of cX4_placeNow 1 (some .int) (by decide) rfl (Nat.le_of_ble_eq_true rfl) ?_
  intro p e s m below meth c ls S hr hlocks hf hl
  have S : CallFix p m c cX4_placeNow 1 s ([.ref (ad 0)] : List Value).toArray wsX4_placeNow RX4 := S
  obtain ⟨hx, hb, hml, hown, hts⟩ := id S
  have hl : lv_has ls 1 [(0, .ref (ad 0))] := hl
  unfold f_X4_placeNow at hF
  refine lv_iconst (v := 4) hx hb dX4_placeNow_0 (by decide) ?_
  refine lv_aload_n hx hb dX4_placeNow_1 rfl (lv_at hl 0 rfl) ?_
  refine g_get (ci := 4) (C := RX4) (T := TX4) (N := 21) (v := .ref (ad 1)) S hf hinX4 0 rfl rfl 0 (by decide) k9 rfl rfl dX4_placeNow_2 ?_
  refine lv_iconst (v := 0) hx hb dX4_placeNow_5 (by decide) ?_
  refine g_ald (v := (μ0 0) 0) S hf 2 rfl (by decide) rfl dX4_placeNow_6 ?_
  refine lv_bipush (v := 6) hx hb dX4_placeNow_7 (by decide) ?_
  refine lv_irem hx hb dX4_placeNow_9 (by decide) ?_
  refine lv_iadd hx hb dX4_placeNow_10 ?_
  have hE := Option.some.inj hF
  have hV := congrArg (fun z : Int32 => z) hE
  exact g_iret S hr hlocks hf hV rfl dX4_placeNow_11
def f_X4_corn (μ0 : K2) (a1 : Int32) : Option (Int32 × K2) := Option.bind (f_X4_within a1 0 99999) (fun q1 => if q1 = 0 then (Option.bind (f_X4_finding μ0 (-1000001)) (fun q4 => some (q4.1, q4.2))) else (Option.bind (f_X4_become μ0 3 a1) (fun q6 => some (q6.1, q6.2))))
set_option maxHeartbeats 4000000 in
set_option maxRecDepth 100000 in
theorem c_X4_corn (l : Launch) (G : GT) (ad : Nat → Nat) (μ0 : K2) (a1 : Int32) (q : Int32 × K2) (hF : f_X4_corn μ0 a1 = some q) : Ct l G yX4_corn wsX4_corn ({ frames := 1, cells := 0, slots := 0, locals := 23 } : Room) ([.ref (ad 0), .int a1] : List Value) (wM G ad μ0) (some (.int q.1)) (wM G ad q.2) := by
  have kc88 : Cond.constant RX4 88 (99999) ∈ wsX4_corn := by decide +kernel
  have kc63 : Cond.constant RX4 63 (-1000001) ∈ wsX4_corn := by decide +kernel
  refine Ct.of cX4_corn 2 (some .int) (by decide) rfl (Nat.le_of_ble_eq_true rfl) ?_
  intro p e s m below meth c ls S hr hlocks hf hl
  have S : CallFix p m c cX4_corn 2 s ([.ref (ad 0), .int a1] : List Value).toArray wsX4_corn RX4 := S
  obtain ⟨hx, hb, hml, hown, hts⟩ := id S
  have hl : lv_has ls 2 [(0, .ref (ad 0)), (1, .int a1)] := hl
  unfold f_X4_corn at hF
  refine lv_iload_n hx hb dX4_corn_0 rfl (lv_at hl 1 rfl) ?_
  refine lv_iconst (v := 0) hx hb dX4_corn_1 (by decide) ?_
  refine lv_ldc (v := 99999) hx hb hown (hts _ kc88) dX4_corn_2 ?_
  obtain ⟨q1, h2, hF⟩ := Option.bind_eq_some_iff.mp hF
  refine g_cs0 (o := some (.int q1)) (As := [.int a1, .int 0, .int 99999]) (rest := []) (st1 := [.int q1]) S hf (c_X4_within l G  a1 0 99999 q1 h2) (va_cwS 3 hts gX4_corn_X4_within rfl rfl rfl (by decide +kernel) ⟨Nat.le_of_ble_eq_true rfl, Nat.le_of_ble_eq_true rfl⟩) rfl hl.1 rfl rfl (Nat.le_of_ble_eq_true rfl) ⟨Nat.zero_le _, Nat.zero_le _⟩ dX4_corn_4 (fun H locs hf => ?_)
  refine lv_if_eq (tgt := 19) hx hb dX4_corn_7 (by decide) (fun c3 => ?_) (fun c3 => ?_)
  · replace hF := (if_pos c3).symm.trans hF
    refine lv_aload_n hx hb dX4_corn_19 rfl (lv_at hl 0 rfl) ?_
    refine lv_ldc (v := -1000001) hx hb hown (hts _ kc63) dX4_corn_20 ?_
    obtain ⟨q4, h5, hF⟩ := Option.bind_eq_some_iff.mp hF
    refine g_cv0 (o := some (.int q4.1)) (As := [.int (-1000001)]) (rest := []) (st1 := [.int q4.1]) (ci := 4) S hf (c_X4_finding l G ad μ0 (-1000001) q4 h5) (cwV 1 hts gX4_corn_X4_finding rfl rfl rfl (by decide +kernel) ⟨Nat.le_of_ble_eq_true rfl, Nat.le_of_ble_eq_true rfl⟩) rfl rfl rfl 0 rfl rfl hl.1 rfl rfl (Nat.le_of_ble_eq_true rfl) ⟨Nat.zero_le _, Nat.zero_le _⟩ dX4_corn_22 (fun H locs hf => ?_)
    have hf : Fr G (va_A (wM G ad μ0) s.heap.size) s (wM G ad q4.2) H locs := hf
    have hE := Option.some.inj hF
    have hV := congrArg (fun z : Int32 × K2 => z.1) hE
    have hW := congrArg (fun z : Int32 × K2 => wM G ad z.2) hE
    exact g_iret S hr hlocks hf hV hW dX4_corn_25
  · replace hF := (if_neg c3).symm.trans hF
    refine lv_aload_n hx hb dX4_corn_10 rfl (lv_at hl 0 rfl) ?_
    refine lv_iconst (v := 3) hx hb dX4_corn_11 (by decide) ?_
    refine lv_iload_n hx hb dX4_corn_12 rfl (lv_at hl 1 rfl) ?_
    obtain ⟨q6, h7, hF⟩ := Option.bind_eq_some_iff.mp hF
    refine g_cv0 (o := some (.int q6.1)) (As := [.int 3, .int a1]) (rest := []) (st1 := [.int q6.1]) (ci := 4) S hf (c_X4_become l G ad μ0 3 a1 q6 h7) (cwV 2 hts gX4_corn_X4_become rfl rfl rfl (by decide +kernel) ⟨Nat.le_of_ble_eq_true rfl, Nat.le_of_ble_eq_true rfl⟩) rfl rfl rfl 0 rfl rfl hl.1 rfl rfl (Nat.le_of_ble_eq_true rfl) ⟨Nat.zero_le _, Nat.zero_le _⟩ dX4_corn_13 (fun H locs hf => ?_)
    have hf : Fr G (va_A (wM G ad μ0) s.heap.size) s (wM G ad q6.2) H locs := hf
    refine lv_goto (tgt := 25) hx hb dX4_corn_16 (by decide) ?_
    have hE := Option.some.inj hF
    have hV := congrArg (fun z : Int32 × K2 => z.1) hE
    have hW := congrArg (fun z : Int32 × K2 => wM G ad z.2) hE
    exact g_iret S hr hlocks hf hV hW dX4_corn_25
def f_X4_birdAt (a0 : Int32) (a1 : Int32) : Option (Int32) := some ((20 + (9 * a0)) + a1)
set_option maxHeartbeats 4000000 in
set_option maxRecDepth 100000 in
theorem c_X4_birdAt (l : Launch) (G : GT)  (a0 : Int32) (a1 : Int32) (q : Int32) (hF : f_X4_birdAt a0 a1 = some q) : Ct l G yX4_birdAt wsX4_birdAt ({ frames := 0, cells := 0, slots := 0, locals := 0 } : Room) ([.int a0, .int a1] : List Value) (([] : va_W)) (some (.int q)) (([] : va_W)) := by
  refine Ct.of cX4_birdAt 2 (some .int) (by decide) rfl (Nat.le_of_ble_eq_true rfl) ?_
  intro p e s m below meth c ls S hr hlocks hf hl
  have S : CallFix p m c cX4_birdAt 2 s ([.int a0, .int a1] : List Value).toArray wsX4_birdAt RX4 := S
  obtain ⟨hx, hb, hml, hown, hts⟩ := id S
  have hl : lv_has ls 2 [(0, .int a0), (1, .int a1)] := hl
  unfold f_X4_birdAt at hF
  refine lv_bipush (v := 20) hx hb dX4_birdAt_0 (by decide) ?_
  refine lv_bipush (v := 9) hx hb dX4_birdAt_2 (by decide) ?_
  refine lv_iload_n hx hb dX4_birdAt_4 rfl (lv_at hl 0 rfl) ?_
  refine lv_imul hx hb dX4_birdAt_5 ?_
  refine lv_iadd hx hb dX4_birdAt_6 ?_
  refine lv_iload_n hx hb dX4_birdAt_7 rfl (lv_at hl 1 rfl) ?_
  refine lv_iadd hx hb dX4_birdAt_8 ?_
  have hE := Option.some.inj hF
  have hV := congrArg (fun z : Int32 => z) hE
  exact g_iret S hr hlocks hf hV rfl dX4_birdAt_9
def f_X4_birdIs (μ0 : K2) (a1 : Int32) (a2 : Int32) : Option (Int32) := Option.bind (f_X4_birdAt a1 a2) (fun q1 => if ix q1 92 then (some ((μ0 0) q1.toNatClampNeg)) else none)
set_option maxHeartbeats 4000000 in
set_option maxRecDepth 100000 in
theorem c_X4_birdIs (l : Launch) (G : GT) (ad : Nat → Nat) (μ0 : K2) (a1 : Int32) (a2 : Int32) (q : Int32) (hF : f_X4_birdIs μ0 a1 a2 = some q) : Ct l G yX4_birdIs wsX4_birdIs ({ frames := 1, cells := 0, slots := 0, locals := 21 } : Room) ([.ref (ad 0), .int a1, .int a2] : List Value) (wM G ad μ0) (some (.int q)) (wM G ad μ0) := by
  have k9 : Cond.fieldLink RX4 9 "PigeonRollsModel" "now" "[I" ∈ wsX4_birdIs := by decide +kernel
  have hinX4 : ∀ w ∈ u_ws RX4 TX4 21, w ∈ wsX4_birdIs := by decide +kernel
  refine Ct.of cX4_birdIs 3 (some .int) (by decide) rfl (Nat.le_of_ble_eq_true rfl) ?_
  intro p e s m below meth c ls S hr hlocks hf hl
  have S : CallFix p m c cX4_birdIs 3 s ([.ref (ad 0), .int a1, .int a2] : List Value).toArray wsX4_birdIs RX4 := S
  obtain ⟨hx, hb, hml, hown, hts⟩ := id S
  have hl : lv_has ls 3 [(0, .ref (ad 0)), (1, .int a1), (2, .int a2)] := hl
  unfold f_X4_birdIs at hF
  refine lv_aload_n hx hb dX4_birdIs_0 rfl (lv_at hl 0 rfl) ?_
  refine g_get (ci := 4) (C := RX4) (T := TX4) (N := 21) (v := .ref (ad 1)) S hf hinX4 0 rfl rfl 0 (by decide) k9 rfl rfl dX4_birdIs_1 ?_
  refine lv_iload_n hx hb dX4_birdIs_4 rfl (lv_at hl 1 rfl) ?_
  refine lv_iload_n hx hb dX4_birdIs_5 rfl (lv_at hl 2 rfl) ?_
  obtain ⟨q1, h2, hF⟩ := Option.bind_eq_some_iff.mp hF
  refine g_cs0 (o := some (.int q1)) (As := [.int a1, .int a2]) (rest := [.ref (ad 1)]) (st1 := [.int q1, .ref (ad 1)]) S hf (c_X4_birdAt l G  a1 a2 q1 h2) (va_cwS 2 hts gX4_birdIs_X4_birdAt rfl rfl rfl (by decide +kernel) ⟨Nat.le_of_ble_eq_true rfl, Nat.le_of_ble_eq_true rfl⟩) rfl hl.1 rfl rfl (Nat.le_of_ble_eq_true rfl) ⟨Nat.zero_le _, Nat.zero_le _⟩ dX4_birdIs_6 (fun H locs hf => ?_)
  obtain ⟨g3, hF⟩ := gd_some hF
  refine g_ald (v := (μ0 0) q1.toNatClampNeg) S hf 2 rfl g3 rfl dX4_birdIs_9 ?_
  have hE := Option.some.inj hF
  have hV := congrArg (fun z : Int32 => z) hE
  exact g_iret S hr hlocks hf hV rfl dX4_birdIs_10
def f_X4_isBird (μ0 : K2) (a1 : Int32) : Option (Int32) := Option.bind (f_X4_within a1 0 (((μ0 0) 1) - 1)) (fun q1 => if q1 = 0 ∨ q1 = 1 then some (q1) else none)
set_option maxHeartbeats 4000000 in
set_option maxRecDepth 100000 in
theorem c_X4_isBird (l : Launch) (G : GT) (ad : Nat → Nat) (μ0 : K2) (a1 : Int32) (q : Int32) (hF : f_X4_isBird μ0 a1 = some q) : Ct l G yX4_isBird wsX4_isBird ({ frames := 1, cells := 0, slots := 0, locals := 22 } : Room) ([.ref (ad 0), .int a1] : List Value) (wM G ad μ0) (some (.int q)) (wM G ad μ0) := by
  have k9 : Cond.fieldLink RX4 9 "PigeonRollsModel" "now" "[I" ∈ wsX4_isBird := by decide +kernel
  have hinX4 : ∀ w ∈ u_ws RX4 TX4 21, w ∈ wsX4_isBird := by decide +kernel
  refine Ct.of cX4_isBird 2 (some .boolean) (by decide) rfl (Nat.le_of_ble_eq_true rfl) ?_
  intro p e s m below meth c ls S hr hlocks hf hl
  have S : CallFix p m c cX4_isBird 2 s ([.ref (ad 0), .int a1] : List Value).toArray wsX4_isBird RX4 := S
  obtain ⟨hx, hb, hml, hown, hts⟩ := id S
  have hl : lv_has ls 2 [(0, .ref (ad 0)), (1, .int a1)] := hl
  unfold f_X4_isBird at hF
  refine lv_iload_n hx hb dX4_isBird_0 rfl (lv_at hl 1 rfl) ?_
  refine lv_iconst (v := 0) hx hb dX4_isBird_1 (by decide) ?_
  refine lv_aload_n hx hb dX4_isBird_2 rfl (lv_at hl 0 rfl) ?_
  refine g_get (ci := 4) (C := RX4) (T := TX4) (N := 21) (v := .ref (ad 1)) S hf hinX4 0 rfl rfl 0 (by decide) k9 rfl rfl dX4_isBird_3 ?_
  refine lv_iconst (v := 1) hx hb dX4_isBird_6 (by decide) ?_
  refine g_ald (v := (μ0 0) 1) S hf 2 rfl (by decide) rfl dX4_isBird_7 ?_
  refine lv_iconst (v := 1) hx hb dX4_isBird_8 (by decide) ?_
  refine lv_isub hx hb dX4_isBird_9 ?_
  obtain ⟨q1, h2, hF⟩ := Option.bind_eq_some_iff.mp hF
  refine g_cs0 (o := some (.int q1)) (As := [.int a1, .int 0, .int (((μ0 0) 1) - 1)]) (rest := []) (st1 := [.int q1]) S hf (c_X4_within l G  a1 0 (((μ0 0) 1) - 1) q1 h2) (va_cwS 3 hts gX4_isBird_X4_within rfl rfl rfl (by decide +kernel) ⟨Nat.le_of_ble_eq_true rfl, Nat.le_of_ble_eq_true rfl⟩) rfl hl.1 rfl rfl (Nat.le_of_ble_eq_true rfl) ⟨Nat.zero_le _, Nat.zero_le _⟩ dX4_isBird_10 (fun H locs hf => ?_)
  obtain ⟨g3, hF⟩ := gd_some hF
  have hE := Option.some.inj hF
  have hV := congrArg (fun z : Int32 => z) hE
  exact g_zret S hr hlocks hf (nz g3) hV rfl dX4_isBird_13
def f_X4_isKind (a0 : Int32) : Option (Int32) := Option.bind (f_X4_within a0 0 6) (fun q1 => if q1 = 0 ∨ q1 = 1 then some (q1) else none)
set_option maxHeartbeats 4000000 in
set_option maxRecDepth 100000 in
theorem c_X4_isKind (l : Launch) (G : GT)  (a0 : Int32) (q : Int32) (hF : f_X4_isKind a0 = some q) : Ct l G yX4_isKind wsX4_isKind ({ frames := 1, cells := 0, slots := 0, locals := 22 } : Room) ([.int a0] : List Value) (([] : va_W)) (some (.int q)) (([] : va_W)) := by
  refine Ct.of cX4_isKind 1 (some .boolean) (by decide) rfl (Nat.le_of_ble_eq_true rfl) ?_
  intro p e s m below meth c ls S hr hlocks hf hl
  have S : CallFix p m c cX4_isKind 1 s ([.int a0] : List Value).toArray wsX4_isKind RX4 := S
  obtain ⟨hx, hb, hml, hown, hts⟩ := id S
  have hl : lv_has ls 1 [(0, .int a0)] := hl
  unfold f_X4_isKind at hF
  refine lv_iload_n hx hb dX4_isKind_0 rfl (lv_at hl 0 rfl) ?_
  refine lv_iconst (v := 0) hx hb dX4_isKind_1 (by decide) ?_
  refine lv_bipush (v := 6) hx hb dX4_isKind_2 (by decide) ?_
  obtain ⟨q1, h2, hF⟩ := Option.bind_eq_some_iff.mp hF
  refine g_cs0 (o := some (.int q1)) (As := [.int a0, .int 0, .int 6]) (rest := []) (st1 := [.int q1]) S hf (c_X4_within l G  a0 0 6 q1 h2) (va_cwS 3 hts gX4_isKind_X4_within rfl rfl rfl (by decide +kernel) ⟨Nat.le_of_ble_eq_true rfl, Nat.le_of_ble_eq_true rfl⟩) rfl hl.1 rfl rfl (Nat.le_of_ble_eq_true rfl) ⟨Nat.zero_le _, Nat.zero_le _⟩ dX4_isKind_4 (fun H locs hf => ?_)
  obtain ⟨g3, hF⟩ := gd_some hF
  have hE := Option.some.inj hF
  have hV := congrArg (fun z : Int32 => z) hE
  exact g_zret S hr hlocks hf (nz g3) hV rfl dX4_isKind_7
def f_X4_isLoft (a0 : Int32) : Option (Int32) := Option.bind (f_X4_within a0 0 5) (fun q1 => if q1 = 0 ∨ q1 = 1 then some (q1) else none)
set_option maxHeartbeats 4000000 in
set_option maxRecDepth 100000 in
theorem c_X4_isLoft (l : Launch) (G : GT)  (a0 : Int32) (q : Int32) (hF : f_X4_isLoft a0 = some q) : Ct l G yX4_isLoft wsX4_isLoft ({ frames := 1, cells := 0, slots := 0, locals := 22 } : Room) ([.int a0] : List Value) (([] : va_W)) (some (.int q)) (([] : va_W)) := by
  refine Ct.of cX4_isLoft 1 (some .boolean) (by decide) rfl (Nat.le_of_ble_eq_true rfl) ?_
  intro p e s m below meth c ls S hr hlocks hf hl
  have S : CallFix p m c cX4_isLoft 1 s ([.int a0] : List Value).toArray wsX4_isLoft RX4 := S
  obtain ⟨hx, hb, hml, hown, hts⟩ := id S
  have hl : lv_has ls 1 [(0, .int a0)] := hl
  unfold f_X4_isLoft at hF
  refine lv_iload_n hx hb dX4_isLoft_0 rfl (lv_at hl 0 rfl) ?_
  refine lv_iconst (v := 0) hx hb dX4_isLoft_1 (by decide) ?_
  refine lv_iconst (v := 5) hx hb dX4_isLoft_2 (by decide) ?_
  obtain ⟨q1, h2, hF⟩ := Option.bind_eq_some_iff.mp hF
  refine g_cs0 (o := some (.int q1)) (As := [.int a0, .int 0, .int 5]) (rest := []) (st1 := [.int q1]) S hf (c_X4_within l G  a0 0 5 q1 h2) (va_cwS 3 hts gX4_isLoft_X4_within rfl rfl rfl (by decide +kernel) ⟨Nat.le_of_ble_eq_true rfl, Nat.le_of_ble_eq_true rfl⟩) rfl hl.1 rfl rfl (Nat.le_of_ble_eq_true rfl) ⟨Nat.zero_le _, Nat.zero_le _⟩ dX4_isLoft_3 (fun H locs hf => ?_)
  obtain ⟨g3, hF⟩ := gd_some hF
  have hE := Option.some.inj hF
  have hV := congrArg (fun z : Int32 => z) hE
  exact g_zret S hr hlocks hf (nz g3) hV rfl dX4_isLoft_6
def f_X4_comes_B37 (μ : K2) (x1 : Int32) (x2 : Int32) (x3 : Int32) (x4 : Int32) : Option (Int32 × K2) := Option.bind (f_X4_birdAt x4 0) (fun q2 => if ix q2 92 then (Option.bind (f_X4_birdAt x4 1) (fun q5 => if ix q5 92 then (Option.bind (f_X4_birdAt x4 2) (fun q8 => if ix q8 92 then (some (x4, va_up μ 0 (upd (upd (upd (upd (μ 0) q2.toNatClampNeg x1) q5.toNatClampNeg x2) q8.toNatClampNeg x3) 1 (((upd (upd (upd (μ 0) q2.toNatClampNeg x1) q5.toNatClampNeg x2) q8.toNatClampNeg x3) 1) + 1)))) else none)) else none)) else none)
def f_X4_comes_L11 : Nat → K2 → Int32 → Int32 → Int32 → Int32 → Int32 → Option (Int32 × K2)
  | 0, _, _, _, _, _, _ => none
  | n + 1, μ, x1, x2, x3, x4, x5 => if 9 ≤ x5 then (f_X4_comes_B37 μ x1 x2 x3 x4) else (Option.bind (f_X4_birdAt x4 x5) (fun q11 => if ix q11 92 then (f_X4_comes_L11 n (va_up μ 0 (upd (μ 0) q11.toNatClampNeg 0)) x1 x2 x3 x4 (x5 + 1)) else none))
def f_X4_comes (μ0 : K2) (a1 : Int32) (a2 : Int32) (a3 : Int32) : Option (Int32 × K2) := f_X4_comes_L11 1000 μ0 a1 a2 a3 ((μ0 0) 1) 0
set_option maxHeartbeats 4000000 in
set_option maxRecDepth 100000 in
theorem c_X4_comes (l : Launch) (G : GT) (ad : Nat → Nat) (μ0 : K2) (a1 : Int32) (a2 : Int32) (a3 : Int32) (q : Int32 × K2) (hF : f_X4_comes μ0 a1 a2 a3 = some q) : Ct l G yX4_comes wsX4_comes ({ frames := 1, cells := 0, slots := 0, locals := 21 } : Room) ([.ref (ad 0), .int a1, .int a2, .int a3] : List Value) (wM G ad μ0) (some (.int q.1)) (wM G ad q.2) := by
  have k9 : Cond.fieldLink RX4 9 "PigeonRollsModel" "now" "[I" ∈ wsX4_comes := by decide +kernel
  have hinX4 : ∀ w ∈ u_ws RX4 TX4 21, w ∈ wsX4_comes := by decide +kernel
  refine Ct.of cX4_comes 6 (some .int) (by decide) rfl (Nat.le_of_ble_eq_true rfl) ?_
  intro p e s m below meth c ls S hr hlocks hf hl
  have S : CallFix p m c cX4_comes 6 s ([.ref (ad 0), .int a1, .int a2, .int a3] : List Value).toArray wsX4_comes RX4 := S
  obtain ⟨hx, hb, hml, hown, hts⟩ := id S
  have hl : lv_has ls 6 [(0, .ref (ad 0)), (1, .int a1), (2, .int a2), (3, .int a3)] := hl
  have hL37 : ∀ (μ : K2) (x1 : Int32) (x2 : Int32) (x3 : Int32) (x4 : Int32)  (H : Heap) (locs : List Loc) (ls : Array Slot), f_X4_comes_B37 μ x1 x2 x3 x4 = some q → Fr G (va_A (wM G ad μ0) s.heap.size) s (wM G ad μ) H locs → lv_has ls 6 [(0, .ref (ad 0)), (1, .int x1), (2, .int x2), (3, .int x3), (4, .int x4)] → W p l e ({ frames := 1, cells := 0, slots := 0, locals := 21 } : Room) s m ([.ref (ad 0), .int a1, .int a2, .int a3] : List Value).toArray below meth c H locs 0 0 (MQ below (CPost G (wM G ad μ0) s.heap.size (some (.int q.1)) (wM G ad q.2)) ([.ref (ad 0), .int a1, .int a2, .int a3] : List Value).toArray s 0 0 (va_A (wM G ad μ0) s.heap.size)) (F0 m 37 ls []) := by
    intro μ x1 x2 x3 x4 H locs ls hF hf hl
    unfold f_X4_comes_B37 at hF
    refine lv_aload_n hx hb dX4_comes_37 rfl (lv_at hl 0 rfl) ?_
    refine g_get (ci := 4) (C := RX4) (T := TX4) (N := 21) (v := .ref (ad 1)) S hf hinX4 0 rfl rfl 0 (by decide) k9 rfl rfl dX4_comes_38 ?_
    refine lv_iload hx hb dX4_comes_41 (lv_at hl 4 rfl) ?_
    refine lv_iconst (v := 0) hx hb dX4_comes_43 (by decide) ?_
    obtain ⟨q2, h3, hF⟩ := Option.bind_eq_some_iff.mp hF
    refine g_cs0 (o := some (.int q2)) (As := [.int x4, .int 0]) (rest := [.ref (ad 1)]) (st1 := [.int q2, .ref (ad 1)]) S hf (c_X4_birdAt l G  x4 0 q2 h3) (va_cwS 2 hts gX4_comes_X4_birdAt rfl rfl rfl (by decide +kernel) ⟨Nat.le_of_ble_eq_true rfl, Nat.le_of_ble_eq_true rfl⟩) rfl hl.1 rfl rfl (Nat.le_of_ble_eq_true rfl) ⟨Nat.zero_le _, Nat.zero_le _⟩ dX4_comes_44 (fun H locs hf => ?_)
    refine lv_iload_n hx hb dX4_comes_47 rfl (lv_at hl 1 rfl) ?_
    obtain ⟨g4, hF⟩ := gd_some hF
    refine g_ast (ww' := wM G ad (va_up μ 0 (upd (μ 0) q2.toNatClampNeg x1))) S hf 2 rfl g4 rfl dX4_comes_48 (fun H locs hf => ?_)
    refine lv_aload_n hx hb dX4_comes_49 rfl (lv_at hl 0 rfl) ?_
    refine g_get (ci := 4) (C := RX4) (T := TX4) (N := 21) (v := .ref (ad 1)) S hf hinX4 0 rfl rfl 0 (by decide) k9 rfl rfl dX4_comes_50 ?_
    refine lv_iload hx hb dX4_comes_53 (lv_at hl 4 rfl) ?_
    refine lv_iconst (v := 1) hx hb dX4_comes_55 (by decide) ?_
    obtain ⟨q5, h6, hF⟩ := Option.bind_eq_some_iff.mp hF
    refine g_cs0 (o := some (.int q5)) (As := [.int x4, .int 1]) (rest := [.ref (ad 1)]) (st1 := [.int q5, .ref (ad 1)]) S hf (c_X4_birdAt l G  x4 1 q5 h6) (va_cwS 2 hts gX4_comes_X4_birdAt rfl rfl rfl (by decide +kernel) ⟨Nat.le_of_ble_eq_true rfl, Nat.le_of_ble_eq_true rfl⟩) rfl hl.1 rfl rfl (Nat.le_of_ble_eq_true rfl) ⟨Nat.zero_le _, Nat.zero_le _⟩ dX4_comes_56 (fun H locs hf => ?_)
    refine lv_iload_n hx hb dX4_comes_59 rfl (lv_at hl 2 rfl) ?_
    obtain ⟨g7, hF⟩ := gd_some hF
    refine g_ast (f := upd (μ 0) q2.toNatClampNeg x1) (ww' := wM G ad (va_up μ 0 (upd (upd (μ 0) q2.toNatClampNeg x1) q5.toNatClampNeg x2))) S hf 2 rfl g7 wM_u0 dX4_comes_60 (fun H locs hf => ?_)
    refine lv_aload_n hx hb dX4_comes_61 rfl (lv_at hl 0 rfl) ?_
    refine g_get (ci := 4) (C := RX4) (T := TX4) (N := 21) (v := .ref (ad 1)) S hf hinX4 0 rfl rfl 0 (by decide) k9 rfl rfl dX4_comes_62 ?_
    refine lv_iload hx hb dX4_comes_65 (lv_at hl 4 rfl) ?_
    refine lv_iconst (v := 2) hx hb dX4_comes_67 (by decide) ?_
    obtain ⟨q8, h9, hF⟩ := Option.bind_eq_some_iff.mp hF
    refine g_cs0 (o := some (.int q8)) (As := [.int x4, .int 2]) (rest := [.ref (ad 1)]) (st1 := [.int q8, .ref (ad 1)]) S hf (c_X4_birdAt l G  x4 2 q8 h9) (va_cwS 2 hts gX4_comes_X4_birdAt rfl rfl rfl (by decide +kernel) ⟨Nat.le_of_ble_eq_true rfl, Nat.le_of_ble_eq_true rfl⟩) rfl hl.1 rfl rfl (Nat.le_of_ble_eq_true rfl) ⟨Nat.zero_le _, Nat.zero_le _⟩ dX4_comes_68 (fun H locs hf => ?_)
    refine lv_iload_n hx hb dX4_comes_71 rfl (lv_at hl 3 rfl) ?_
    obtain ⟨g10, hF⟩ := gd_some hF
    refine g_ast (f := upd (upd (μ 0) q2.toNatClampNeg x1) q5.toNatClampNeg x2) (ww' := wM G ad (va_up μ 0 (upd (upd (upd (μ 0) q2.toNatClampNeg x1) q5.toNatClampNeg x2) q8.toNatClampNeg x3))) S hf 2 rfl g10 wM_u0 dX4_comes_72 (fun H locs hf => ?_)
    refine lv_aload_n hx hb dX4_comes_73 rfl (lv_at hl 0 rfl) ?_
    refine g_get (ci := 4) (C := RX4) (T := TX4) (N := 21) (v := .ref (ad 1)) S hf hinX4 0 rfl rfl 0 (by decide) k9 rfl rfl dX4_comes_74 ?_
    refine lv_iconst (v := 1) hx hb dX4_comes_77 (by decide) ?_
    refine lv_dup2_11 hx hb dX4_comes_78 rfl rfl ?_
    refine g_ald (f := upd (upd (upd (μ 0) q2.toNatClampNeg x1) q5.toNatClampNeg x2) q8.toNatClampNeg x3) (v := (upd (upd (upd (μ 0) q2.toNatClampNeg x1) q5.toNatClampNeg x2) q8.toNatClampNeg x3) 1) S hf 2 rfl (by decide) rfl dX4_comes_79 ?_
    refine lv_iconst (v := 1) hx hb dX4_comes_80 (by decide) ?_
    refine lv_iadd hx hb dX4_comes_81 ?_
    refine g_ast (f := upd (upd (upd (μ 0) q2.toNatClampNeg x1) q5.toNatClampNeg x2) q8.toNatClampNeg x3) (ww' := wM G ad (va_up μ 0 (upd (upd (upd (upd (μ 0) q2.toNatClampNeg x1) q5.toNatClampNeg x2) q8.toNatClampNeg x3) 1 (((upd (upd (upd (μ 0) q2.toNatClampNeg x1) q5.toNatClampNeg x2) q8.toNatClampNeg x3) 1) + 1)))) S hf 2 rfl (by decide) wM_u0 dX4_comes_82 (fun H locs hf => ?_)
    refine lv_iload hx hb dX4_comes_83 (lv_at hl 4 rfl) ?_
    have hE := Option.some.inj hF
    have hV := congrArg (fun z : Int32 × K2 => z.1) hE
    have hW := congrArg (fun z : Int32 × K2 => wM G ad z.2) hE
    exact g_iret S hr hlocks hf hV hW dX4_comes_85
  have hL11 : ∀ (n : Nat) (μ : K2) (x1 : Int32) (x2 : Int32) (x3 : Int32) (x4 : Int32) (x5 : Int32)  (H : Heap) (locs : List Loc) (ls : Array Slot), f_X4_comes_L11 n μ x1 x2 x3 x4 x5 = some q → Fr G (va_A (wM G ad μ0) s.heap.size) s (wM G ad μ) H locs → lv_has ls 6 [(0, .ref (ad 0)), (1, .int x1), (2, .int x2), (3, .int x3), (4, .int x4), (5, .int x5)] → W p l e ({ frames := 1, cells := 0, slots := 0, locals := 21 } : Room) s m ([.ref (ad 0), .int a1, .int a2, .int a3] : List Value).toArray below meth c H locs 0 0 (MQ below (CPost G (wM G ad μ0) s.heap.size (some (.int q.1)) (wM G ad q.2)) ([.ref (ad 0), .int a1, .int a2, .int a3] : List Value).toArray s 0 0 (va_A (wM G ad μ0) s.heap.size)) (F0 m 11 ls []) := by
    intro n
    induction n with
    | zero =>
      intro μ x1 x2 x3 x4 x5 H locs ls hF hf hl
      exact absurd hF (by simp [f_X4_comes_L11])
    | succ n ih11 =>
      intro μ x1 x2 x3 x4 x5 H locs ls hF hf hl
      rw [f_X4_comes_L11] at hF
      refine lv_iload hx hb dX4_comes_11 (lv_at hl 5 rfl) ?_
      refine lv_bipush (v := 9) hx hb dX4_comes_13 (by decide) ?_
      refine lv_icmp_ge (tgt := 37) hx hb dX4_comes_15 (by decide) (fun c1 => ?_) (fun c1 => ?_)
      · replace hF := (if_pos c1).symm.trans hF
        exact hL37 μ x1 x2 x3 x4 _ _ _ hF hf (lv_sub hl [0, 1, 2, 3, 4] rfl)
      · replace hF := (if_neg c1).symm.trans hF
        refine lv_aload_n hx hb dX4_comes_18 rfl (lv_at hl 0 rfl) ?_
        refine g_get (ci := 4) (C := RX4) (T := TX4) (N := 21) (v := .ref (ad 1)) S hf hinX4 0 rfl rfl 0 (by decide) k9 rfl rfl dX4_comes_19 ?_
        refine lv_iload hx hb dX4_comes_22 (lv_at hl 4 rfl) ?_
        refine lv_iload hx hb dX4_comes_24 (lv_at hl 5 rfl) ?_
        obtain ⟨q11, h12, hF⟩ := Option.bind_eq_some_iff.mp hF
        refine g_cs0 (o := some (.int q11)) (As := [.int x4, .int x5]) (rest := [.ref (ad 1)]) (st1 := [.int q11, .ref (ad 1)]) S hf (c_X4_birdAt l G  x4 x5 q11 h12) (va_cwS 2 hts gX4_comes_X4_birdAt rfl rfl rfl (by decide +kernel) ⟨Nat.le_of_ble_eq_true rfl, Nat.le_of_ble_eq_true rfl⟩) rfl hl.1 rfl rfl (Nat.le_of_ble_eq_true rfl) ⟨Nat.zero_le _, Nat.zero_le _⟩ dX4_comes_26 (fun H locs hf => ?_)
        refine lv_iconst (v := 0) hx hb dX4_comes_29 (by decide) ?_
        obtain ⟨g13, hF⟩ := gd_some hF
        refine g_ast (ww' := wM G ad (va_up μ 0 (upd (μ 0) q11.toNatClampNeg 0))) S hf 2 rfl g13 rfl dX4_comes_30 (fun H locs hf => ?_)
        refine lv_iinc (v := x5 + 1) (lv' := [(5, .int (x5 + 1)), (0, .ref (ad 0)), (1, .int x1), (2, .int x2), (3, .int x3), (4, .int x4)]) hx hb dX4_comes_31 hl (k := 5) rfl rfl (by decide) rfl (fun ls hl => ?_)
        refine lv_goto (tgt := 11) hx hb dX4_comes_34 (by decide) ?_
        exact ih11 (va_up μ 0 (upd (μ 0) q11.toNatClampNeg 0)) x1 x2 x3 x4 (x5 + 1) _ _ _ hF hf (lv_sub hl [1, 2, 3, 4, 5, 0] rfl)
  unfold f_X4_comes at hF
  refine lv_aload_n hx hb dX4_comes_0 rfl (lv_at hl 0 rfl) ?_
  refine g_get (ci := 4) (C := RX4) (T := TX4) (N := 21) (v := .ref (ad 1)) S hf hinX4 0 rfl rfl 0 (by decide) k9 rfl rfl dX4_comes_1 ?_
  refine lv_iconst (v := 1) hx hb dX4_comes_4 (by decide) ?_
  refine g_ald (v := (μ0 0) 1) S hf 2 rfl (by decide) rfl dX4_comes_5 ?_
  refine lv_istore (lv' := [(4, .int ((μ0 0) 1)), (0, .ref (ad 0)), (1, .int a1), (2, .int a2), (3, .int a3)]) hx hb dX4_comes_6 hl (by decide) rfl (fun ls hl => ?_)
  refine lv_iconst (v := 0) hx hb dX4_comes_8 (by decide) ?_
  refine lv_istore (lv' := [(5, .int 0), (4, .int ((μ0 0) 1)), (0, .ref (ad 0)), (1, .int a1), (2, .int a2), (3, .int a3)]) hx hb dX4_comes_9 hl (by decide) rfl (fun ls hl => ?_)
  exact hL11 1000 μ0 a1 a2 a3 ((μ0 0) 1) 0 _ _ _ hF hf (lv_sub hl [2, 3, 4, 5, 1, 0] rfl)
def f_X4_bird (μ0 : K2) (a1 : Int32) (a2 : Int32) : Option (Int32 × K2) := Option.bind (f_X4_isKind a1) (fun q1 => if q1 = 0 then (Option.bind (f_X4_finding μ0 (-1000001)) (fun q4 => some (q4.1, q4.2))) else (Option.bind (f_X4_isLoft a2) (fun q6 => if q6 = 0 then (Option.bind (f_X4_finding μ0 (-1000001)) (fun q14 => some (q14.1, q14.2))) else (if ((μ0 0) 1) = 8 then (Option.bind (f_X4_finding μ0 (-1000002)) (fun q12 => some (q12.1, q12.2))) else (Option.bind (f_X4_comes μ0 a1 a2 (-1)) (fun q10 => some (q10.1, q10.2)))))))
set_option maxHeartbeats 4000000 in
set_option maxRecDepth 100000 in
theorem c_X4_bird (l : Launch) (G : GT) (ad : Nat → Nat) (μ0 : K2) (a1 : Int32) (a2 : Int32) (q : Int32 × K2) (hF : f_X4_bird μ0 a1 a2 = some q) : Ct l G yX4_bird wsX4_bird ({ frames := 2, cells := 0, slots := 0, locals := 46 } : Room) ([.ref (ad 0), .int a1, .int a2] : List Value) (wM G ad μ0) (some (.int q.1)) (wM G ad q.2) := by
  have kc63 : Cond.constant RX4 63 (-1000001) ∈ wsX4_bird := by decide +kernel
  have k9 : Cond.fieldLink RX4 9 "PigeonRollsModel" "now" "[I" ∈ wsX4_bird := by decide +kernel
  have kc98 : Cond.constant RX4 98 (-1000002) ∈ wsX4_bird := by decide +kernel
  have hinX4 : ∀ w ∈ u_ws RX4 TX4 21, w ∈ wsX4_bird := by decide +kernel
  refine Ct.of cX4_bird 3 (some .int) (by decide) rfl (Nat.le_of_ble_eq_true rfl) ?_
  intro p e s m below meth c ls S hr hlocks hf hl
  have S : CallFix p m c cX4_bird 3 s ([.ref (ad 0), .int a1, .int a2] : List Value).toArray wsX4_bird RX4 := S
  obtain ⟨hx, hb, hml, hown, hts⟩ := id S
  have hl : lv_has ls 3 [(0, .ref (ad 0)), (1, .int a1), (2, .int a2)] := hl
  unfold f_X4_bird at hF
  refine lv_iload_n hx hb dX4_bird_0 rfl (lv_at hl 1 rfl) ?_
  obtain ⟨q1, h2, hF⟩ := Option.bind_eq_some_iff.mp hF
  refine g_cs0 (o := some (.int q1)) (As := [.int a1]) (rest := []) (st1 := [.int q1]) S hf (c_X4_isKind l G  a1 q1 h2) (va_cwS 1 hts gX4_bird_X4_isKind rfl rfl rfl (by decide +kernel) ⟨Nat.le_of_ble_eq_true rfl, Nat.le_of_ble_eq_true rfl⟩) rfl hl.1 rfl rfl (Nat.le_of_ble_eq_true rfl) ⟨Nat.zero_le _, Nat.zero_le _⟩ dX4_bird_1 (fun H locs hf => ?_)
  refine lv_if_eq (tgt := 14) hx hb dX4_bird_4 (by decide) (fun c3 => ?_) (fun c3 => ?_)
  · replace hF := (if_pos c3).symm.trans hF
    refine lv_aload_n hx hb dX4_bird_14 rfl (lv_at hl 0 rfl) ?_
    refine lv_ldc (v := -1000001) hx hb hown (hts _ kc63) dX4_bird_15 ?_
    obtain ⟨q4, h5, hF⟩ := Option.bind_eq_some_iff.mp hF
    refine g_cv0 (o := some (.int q4.1)) (As := [.int (-1000001)]) (rest := []) (st1 := [.int q4.1]) (ci := 4) S hf (c_X4_finding l G ad μ0 (-1000001) q4 h5) (cwV 1 hts gX4_bird_X4_finding rfl rfl rfl (by decide +kernel) ⟨Nat.le_of_ble_eq_true rfl, Nat.le_of_ble_eq_true rfl⟩) rfl rfl rfl 0 rfl rfl hl.1 rfl rfl (Nat.le_of_ble_eq_true rfl) ⟨Nat.zero_le _, Nat.zero_le _⟩ dX4_bird_17 (fun H locs hf => ?_)
    have hf : Fr G (va_A (wM G ad μ0) s.heap.size) s (wM G ad q4.2) H locs := hf
    have hE := Option.some.inj hF
    have hV := congrArg (fun z : Int32 × K2 => z.1) hE
    have hW := congrArg (fun z : Int32 × K2 => wM G ad z.2) hE
    exact g_iret S hr hlocks hf hV hW dX4_bird_20
  · replace hF := (if_neg c3).symm.trans hF
    refine lv_iload_n hx hb dX4_bird_7 rfl (lv_at hl 2 rfl) ?_
    obtain ⟨q6, h7, hF⟩ := Option.bind_eq_some_iff.mp hF
    refine g_cs0 (o := some (.int q6)) (As := [.int a2]) (rest := []) (st1 := [.int q6]) S hf (c_X4_isLoft l G  a2 q6 h7) (va_cwS 1 hts gX4_bird_X4_isLoft rfl rfl rfl (by decide +kernel) ⟨Nat.le_of_ble_eq_true rfl, Nat.le_of_ble_eq_true rfl⟩) rfl hl.1 rfl rfl (Nat.le_of_ble_eq_true rfl) ⟨Nat.zero_le _, Nat.zero_le _⟩ dX4_bird_8 (fun H locs hf => ?_)
    refine lv_if_ne (tgt := 21) hx hb dX4_bird_11 (by decide) (fun c8 => ?_) (fun c8 => ?_)
    · replace hF := (if_neg c8).symm.trans hF
      refine lv_aload_n hx hb dX4_bird_21 rfl (lv_at hl 0 rfl) ?_
      refine g_get (ci := 4) (C := RX4) (T := TX4) (N := 21) (v := .ref (ad 1)) S hf hinX4 0 rfl rfl 0 (by decide) k9 rfl rfl dX4_bird_22 ?_
      refine lv_iconst (v := 1) hx hb dX4_bird_25 (by decide) ?_
      refine g_ald (v := (μ0 0) 1) S hf 2 rfl (by decide) rfl dX4_bird_26 ?_
      refine lv_bipush (v := 8) hx hb dX4_bird_27 (by decide) ?_
      refine lv_icmp_ne (tgt := 41) hx hb dX4_bird_29 (by decide) (fun c9 => ?_) (fun c9 => ?_)
      · replace hF := (if_neg c9).symm.trans hF
        refine lv_aload_n hx hb dX4_bird_41 rfl (lv_at hl 0 rfl) ?_
        refine lv_iload_n hx hb dX4_bird_42 rfl (lv_at hl 1 rfl) ?_
        refine lv_iload_n hx hb dX4_bird_43 rfl (lv_at hl 2 rfl) ?_
        refine lv_iconst (v := -1) hx hb dX4_bird_44 (by decide) ?_
        obtain ⟨q10, h11, hF⟩ := Option.bind_eq_some_iff.mp hF
        refine g_cv0 (o := some (.int q10.1)) (As := [.int a1, .int a2, .int (-1)]) (rest := []) (st1 := [.int q10.1]) (ci := 4) S hf (c_X4_comes l G ad μ0 a1 a2 (-1) q10 h11) (cwV 3 hts gX4_bird_X4_comes rfl rfl rfl (by decide +kernel) ⟨Nat.le_of_ble_eq_true rfl, Nat.le_of_ble_eq_true rfl⟩) rfl rfl rfl 0 rfl rfl hl.1 rfl rfl (Nat.le_of_ble_eq_true rfl) ⟨Nat.zero_le _, Nat.zero_le _⟩ dX4_bird_45 (fun H locs hf => ?_)
        have hf : Fr G (va_A (wM G ad μ0) s.heap.size) s (wM G ad q10.2) H locs := hf
        have hE := Option.some.inj hF
        have hV := congrArg (fun z : Int32 × K2 => z.1) hE
        have hW := congrArg (fun z : Int32 × K2 => wM G ad z.2) hE
        exact g_iret S hr hlocks hf hV hW dX4_bird_48
      · replace hF := (if_pos c9).symm.trans hF
        refine lv_aload_n hx hb dX4_bird_32 rfl (lv_at hl 0 rfl) ?_
        refine lv_ldc (v := -1000002) hx hb hown (hts _ kc98) dX4_bird_33 ?_
        obtain ⟨q12, h13, hF⟩ := Option.bind_eq_some_iff.mp hF
        refine g_cv0 (o := some (.int q12.1)) (As := [.int (-1000002)]) (rest := []) (st1 := [.int q12.1]) (ci := 4) S hf (c_X4_finding l G ad μ0 (-1000002) q12 h13) (cwV 1 hts gX4_bird_X4_finding rfl rfl rfl (by decide +kernel) ⟨Nat.le_of_ble_eq_true rfl, Nat.le_of_ble_eq_true rfl⟩) rfl rfl rfl 0 rfl rfl hl.1 rfl rfl (Nat.le_of_ble_eq_true rfl) ⟨Nat.zero_le _, Nat.zero_le _⟩ dX4_bird_35 (fun H locs hf => ?_)
        have hf : Fr G (va_A (wM G ad μ0) s.heap.size) s (wM G ad q12.2) H locs := hf
        refine lv_goto (tgt := 48) hx hb dX4_bird_38 (by decide) ?_
        have hE := Option.some.inj hF
        have hV := congrArg (fun z : Int32 × K2 => z.1) hE
        have hW := congrArg (fun z : Int32 × K2 => wM G ad z.2) hE
        exact g_iret S hr hlocks hf hV hW dX4_bird_48
    · replace hF := (if_pos c8).symm.trans hF
      refine lv_aload_n hx hb dX4_bird_14 rfl (lv_at hl 0 rfl) ?_
      refine lv_ldc (v := -1000001) hx hb hown (hts _ kc63) dX4_bird_15 ?_
      obtain ⟨q14, h15, hF⟩ := Option.bind_eq_some_iff.mp hF
      refine g_cv0 (o := some (.int q14.1)) (As := [.int (-1000001)]) (rest := []) (st1 := [.int q14.1]) (ci := 4) S hf (c_X4_finding l G ad μ0 (-1000001) q14 h15) (cwV 1 hts gX4_bird_X4_finding rfl rfl rfl (by decide +kernel) ⟨Nat.le_of_ble_eq_true rfl, Nat.le_of_ble_eq_true rfl⟩) rfl rfl rfl 0 rfl rfl hl.1 rfl rfl (Nat.le_of_ble_eq_true rfl) ⟨Nat.zero_le _, Nat.zero_le _⟩ dX4_bird_17 (fun H locs hf => ?_)
      have hf : Fr G (va_A (wM G ad μ0) s.heap.size) s (wM G ad q14.2) H locs := hf
      have hE := Option.some.inj hF
      have hV := congrArg (fun z : Int32 × K2 => z.1) hE
      have hW := congrArg (fun z : Int32 × K2 => wM G ad z.2) hE
      exact g_iret S hr hlocks hf hV hW dX4_bird_20
def f_X4_lives (μ0 : K2) (a1 : Int32) : Option (Int32) := Option.bind (f_X4_birdIs μ0 a1 0) (fun q1 => if q1 = 1 then (some (80)) else (if q1 = 2 then (some (50)) else (if q1 = 3 then (some (100)) else (if q1 = 4 then (some (200)) else (if q1 = 5 then (some (9999)) else (if q1 = 6 then (some (100)) else (some (60))))))))
set_option maxHeartbeats 4000000 in
set_option maxRecDepth 100000 in
theorem c_X4_lives (l : Launch) (G : GT) (ad : Nat → Nat) (μ0 : K2) (a1 : Int32) (q : Int32) (hF : f_X4_lives μ0 a1 = some q) : Ct l G yX4_lives wsX4_lives ({ frames := 2, cells := 0, slots := 0, locals := 43 } : Room) ([.ref (ad 0), .int a1] : List Value) (wM G ad μ0) (some (.int q)) (wM G ad μ0) := by
  refine Ct.of cX4_lives 2 (some .int) (by decide) rfl (Nat.le_of_ble_eq_true rfl) ?_
  intro p e s m below meth c ls S hr hlocks hf hl
  have S : CallFix p m c cX4_lives 2 s ([.ref (ad 0), .int a1] : List Value).toArray wsX4_lives RX4 := S
  obtain ⟨hx, hb, hml, hown, hts⟩ := id S
  have hl : lv_has ls 2 [(0, .ref (ad 0)), (1, .int a1)] := hl
  unfold f_X4_lives at hF
  refine lv_aload_n hx hb dX4_lives_0 rfl (lv_at hl 0 rfl) ?_
  refine lv_iload_n hx hb dX4_lives_1 rfl (lv_at hl 1 rfl) ?_
  refine lv_iconst (v := 0) hx hb dX4_lives_2 (by decide) ?_
  obtain ⟨q1, h2, hF⟩ := Option.bind_eq_some_iff.mp hF
  refine g_cv0 (o := some (.int q1)) (As := [.int a1, .int 0]) (rest := []) (st1 := [.int q1]) (ci := 4) S hf (c_X4_birdIs l G ad μ0 a1 0 q1 h2) (cwV 2 hts gX4_lives_X4_birdIs rfl rfl rfl (by decide +kernel) ⟨Nat.le_of_ble_eq_true rfl, Nat.le_of_ble_eq_true rfl⟩) rfl rfl rfl 0 rfl rfl hl.1 rfl rfl (Nat.le_of_ble_eq_true rfl) ⟨Nat.zero_le _, Nat.zero_le _⟩ dX4_lives_3 (fun H locs hf => ?_)
  have hf : Fr G (va_A (wM G ad μ0) s.heap.size) s (wM G ad μ0) H locs := hf
  by_cases c3 : q1 = 1
  · replace hF := (if_pos c3).symm.trans hF
    refine lv_tableIn (tgt := 44) hx hb dX4_lives_6 (by rw [c3]; decide) (by rw [c3]; decide) (by rw [c3]; rfl) (by decide) ?_
    refine lv_bipush (v := 80) hx hb dX4_lives_44 (by decide) ?_
    have hE := Option.some.inj hF
    have hV := congrArg (fun z : Int32 => z) hE
    exact g_iret S hr hlocks hf hV rfl dX4_lives_46
  replace hF := (if_neg c3).symm.trans hF
  by_cases c4 : q1 = 2
  · replace hF := (if_pos c4).symm.trans hF
    refine lv_tableIn (tgt := 50) hx hb dX4_lives_6 (by rw [c4]; decide) (by rw [c4]; decide) (by rw [c4]; rfl) (by decide) ?_
    refine lv_bipush (v := 50) hx hb dX4_lives_50 (by decide) ?_
    have hE := Option.some.inj hF
    have hV := congrArg (fun z : Int32 => z) hE
    exact g_iret S hr hlocks hf hV rfl dX4_lives_52
  replace hF := (if_neg c4).symm.trans hF
  by_cases c5 : q1 = 3
  · replace hF := (if_pos c5).symm.trans hF
    refine lv_tableIn (tgt := 47) hx hb dX4_lives_6 (by rw [c5]; decide) (by rw [c5]; decide) (by rw [c5]; rfl) (by decide) ?_
    refine lv_bipush (v := 100) hx hb dX4_lives_47 (by decide) ?_
    have hE := Option.some.inj hF
    have hV := congrArg (fun z : Int32 => z) hE
    exact g_iret S hr hlocks hf hV rfl dX4_lives_49
  replace hF := (if_neg c5).symm.trans hF
  by_cases c6 : q1 = 4
  · replace hF := (if_pos c6).symm.trans hF
    refine lv_tableIn (tgt := 53) hx hb dX4_lives_6 (by rw [c6]; decide) (by rw [c6]; decide) (by rw [c6]; rfl) (by decide) ?_
    refine lv_sipush (v := 200) hx hb dX4_lives_53 (by decide) ?_
    have hE := Option.some.inj hF
    have hV := congrArg (fun z : Int32 => z) hE
    exact g_iret S hr hlocks hf hV rfl dX4_lives_56
  replace hF := (if_neg c6).symm.trans hF
  by_cases c7 : q1 = 5
  · replace hF := (if_pos c7).symm.trans hF
    refine lv_tableIn (tgt := 57) hx hb dX4_lives_6 (by rw [c7]; decide) (by rw [c7]; decide) (by rw [c7]; rfl) (by decide) ?_
    refine lv_sipush (v := 9999) hx hb dX4_lives_57 (by decide) ?_
    have hE := Option.some.inj hF
    have hV := congrArg (fun z : Int32 => z) hE
    exact g_iret S hr hlocks hf hV rfl dX4_lives_60
  replace hF := (if_neg c7).symm.trans hF
  by_cases c8 : q1 = 6
  · replace hF := (if_pos c8).symm.trans hF
    refine lv_tableIn (tgt := 47) hx hb dX4_lives_6 (by rw [c8]; decide) (by rw [c8]; decide) (by rw [c8]; rfl) (by decide) ?_
    refine lv_bipush (v := 100) hx hb dX4_lives_47 (by decide) ?_
    have hE := Option.some.inj hF
    have hV := congrArg (fun z : Int32 => z) hE
    exact g_iret S hr hlocks hf hV rfl dX4_lives_49
  replace hF := (if_neg c8).symm.trans hF
  refine lv_tableOut (tgt := 61) hx hb dX4_lives_6 (by have t0 := lv_neT (a := 1) c3 (by decide); have t1 := lv_neT (a := 2) c4 (by decide); have t2 := lv_neT (a := 3) c5 (by decide); have t3 := lv_neT (a := 4) c6 (by decide); have t4 := lv_neT (a := 5) c7 (by decide); have t5 := lv_neT (a := 6) c8 (by decide); omega) (by decide) ?_
  refine lv_bipush (v := 60) hx hb dX4_lives_61 (by decide) ?_
  have hE := Option.some.inj hF
  have hV := congrArg (fun z : Int32 => z) hE
  exact g_iret S hr hlocks hf hV rfl dX4_lives_63
def f_X4_isDead (μ0 : K2) (a1 : Int32) : Option (Int32) := Option.bind (f_X4_birdIs μ0 a1 3) (fun q1 => Option.bind (f_X4_lives μ0 a1) (fun q3 => if q1 ≤ q3 then (some (0)) else (some (1))))
set_option maxHeartbeats 4000000 in
set_option maxRecDepth 100000 in
theorem c_X4_isDead (l : Launch) (G : GT) (ad : Nat → Nat) (μ0 : K2) (a1 : Int32) (q : Int32) (hF : f_X4_isDead μ0 a1 = some q) : Ct l G yX4_isDead wsX4_isDead ({ frames := 3, cells := 0, slots := 0, locals := 64 } : Room) ([.ref (ad 0), .int a1] : List Value) (wM G ad μ0) (some (.int q)) (wM G ad μ0) := by
  refine Ct.of cX4_isDead 2 (some .boolean) (by decide) rfl (Nat.le_of_ble_eq_true rfl) ?_
  intro p e s m below meth c ls S hr hlocks hf hl
  have S : CallFix p m c cX4_isDead 2 s ([.ref (ad 0), .int a1] : List Value).toArray wsX4_isDead RX4 := S
  obtain ⟨hx, hb, hml, hown, hts⟩ := id S
  have hl : lv_has ls 2 [(0, .ref (ad 0)), (1, .int a1)] := hl
  unfold f_X4_isDead at hF
  refine lv_aload_n hx hb dX4_isDead_0 rfl (lv_at hl 0 rfl) ?_
  refine lv_iload_n hx hb dX4_isDead_1 rfl (lv_at hl 1 rfl) ?_
  refine lv_iconst (v := 3) hx hb dX4_isDead_2 (by decide) ?_
  obtain ⟨q1, h2, hF⟩ := Option.bind_eq_some_iff.mp hF
  refine g_cv0 (o := some (.int q1)) (As := [.int a1, .int 3]) (rest := []) (st1 := [.int q1]) (ci := 4) S hf (c_X4_birdIs l G ad μ0 a1 3 q1 h2) (cwV 2 hts gX4_isDead_X4_birdIs rfl rfl rfl (by decide +kernel) ⟨Nat.le_of_ble_eq_true rfl, Nat.le_of_ble_eq_true rfl⟩) rfl rfl rfl 0 rfl rfl hl.1 rfl rfl (Nat.le_of_ble_eq_true rfl) ⟨Nat.zero_le _, Nat.zero_le _⟩ dX4_isDead_3 (fun H locs hf => ?_)
  have hf : Fr G (va_A (wM G ad μ0) s.heap.size) s (wM G ad μ0) H locs := hf
  refine lv_aload_n hx hb dX4_isDead_6 rfl (lv_at hl 0 rfl) ?_
  refine lv_iload_n hx hb dX4_isDead_7 rfl (lv_at hl 1 rfl) ?_
  obtain ⟨q3, h4, hF⟩ := Option.bind_eq_some_iff.mp hF
  refine g_cv0 (o := some (.int q3)) (As := [.int a1]) (rest := [.int q1]) (st1 := [.int q3, .int q1]) (ci := 4) S hf (c_X4_lives l G ad μ0 a1 q3 h4) (cwV 1 hts gX4_isDead_X4_lives rfl rfl rfl (by decide +kernel) ⟨Nat.le_of_ble_eq_true rfl, Nat.le_of_ble_eq_true rfl⟩) rfl rfl rfl 0 rfl rfl hl.1 rfl rfl (Nat.le_of_ble_eq_true rfl) ⟨Nat.zero_le _, Nat.zero_le _⟩ dX4_isDead_8 (fun H locs hf => ?_)
  have hf : Fr G (va_A (wM G ad μ0) s.heap.size) s (wM G ad μ0) H locs := hf
  refine lv_icmp_le (tgt := 18) hx hb dX4_isDead_11 (by decide) (fun c5 => ?_) (fun c5 => ?_)
  · replace hF := (if_pos c5).symm.trans hF
    refine lv_iconst (v := 0) hx hb dX4_isDead_18 (by decide) ?_
    have hE := Option.some.inj hF
    have hV := congrArg (fun z : Int32 => z) hE
    exact g_zret S hr hlocks hf (by decide) hV rfl dX4_isDead_19
  · replace hF := (if_neg c5).symm.trans hF
    refine lv_iconst (v := 1) hx hb dX4_isDead_14 (by decide) ?_
    refine lv_goto (tgt := 19) hx hb dX4_isDead_15 (by decide) ?_
    have hE := Option.some.inj hF
    have hV := congrArg (fun z : Int32 => z) hE
    exact g_zret S hr hlocks hf (by decide) hV rfl dX4_isDead_19
def f_X4_hatch (μ0 : K2) (a1 : Int32) (a2 : Int32) : Option (Int32 × K2) := Option.bind (f_X4_isBird μ0 a1) (fun q1 => if q1 = 0 then (Option.bind (f_X4_finding μ0 (-1000001)) (fun q4 => some (q4.1, q4.2))) else (Option.bind (f_X4_isKind a2) (fun q6 => if q6 = 0 then (Option.bind (f_X4_finding μ0 (-1000001)) (fun q21 => some (q21.1, q21.2))) else (if ((μ0 0) 1) = 8 then (Option.bind (f_X4_finding μ0 (-1000002)) (fun q19 => some (q19.1, q19.2))) else (Option.bind (f_X4_isDead μ0 a1) (fun q10 => if q10 = 0 then (Option.bind (f_X4_birdIs μ0 a1 1) (fun q13 => Option.bind (f_X4_comes μ0 a2 q13 a1) (fun q15 => some (q15.1, q15.2)))) else (Option.bind (f_X4_finding μ0 (-1000005)) (fun q17 => some (q17.1, q17.2)))))))))
set_option maxHeartbeats 4000000 in
set_option maxRecDepth 100000 in
theorem c_X4_hatch (l : Launch) (G : GT) (ad : Nat → Nat) (μ0 : K2) (a1 : Int32) (a2 : Int32) (q : Int32 × K2) (hF : f_X4_hatch μ0 a1 a2 = some q) : Ct l G yX4_hatch wsX4_hatch ({ frames := 4, cells := 0, slots := 0, locals := 85 } : Room) ([.ref (ad 0), .int a1, .int a2] : List Value) (wM G ad μ0) (some (.int q.1)) (wM G ad q.2) := by
  have kc63 : Cond.constant RX4 63 (-1000001) ∈ wsX4_hatch := by decide +kernel
  have k9 : Cond.fieldLink RX4 9 "PigeonRollsModel" "now" "[I" ∈ wsX4_hatch := by decide +kernel
  have kc109 : Cond.constant RX4 109 (-1000005) ∈ wsX4_hatch := by decide +kernel
  have kc98 : Cond.constant RX4 98 (-1000002) ∈ wsX4_hatch := by decide +kernel
  have hinX4 : ∀ w ∈ u_ws RX4 TX4 21, w ∈ wsX4_hatch := by decide +kernel
  refine Ct.of cX4_hatch 3 (some .int) (by decide) rfl (Nat.le_of_ble_eq_true rfl) ?_
  intro p e s m below meth c ls S hr hlocks hf hl
  have S : CallFix p m c cX4_hatch 3 s ([.ref (ad 0), .int a1, .int a2] : List Value).toArray wsX4_hatch RX4 := S
  obtain ⟨hx, hb, hml, hown, hts⟩ := id S
  have hl : lv_has ls 3 [(0, .ref (ad 0)), (1, .int a1), (2, .int a2)] := hl
  unfold f_X4_hatch at hF
  refine lv_aload_n hx hb dX4_hatch_0 rfl (lv_at hl 0 rfl) ?_
  refine lv_iload_n hx hb dX4_hatch_1 rfl (lv_at hl 1 rfl) ?_
  obtain ⟨q1, h2, hF⟩ := Option.bind_eq_some_iff.mp hF
  refine g_cv0 (o := some (.int q1)) (As := [.int a1]) (rest := []) (st1 := [.int q1]) (ci := 4) S hf (c_X4_isBird l G ad μ0 a1 q1 h2) (cwV 1 hts gX4_hatch_X4_isBird rfl rfl rfl (by decide +kernel) ⟨Nat.le_of_ble_eq_true rfl, Nat.le_of_ble_eq_true rfl⟩) rfl rfl rfl 0 rfl rfl hl.1 rfl rfl (Nat.le_of_ble_eq_true rfl) ⟨Nat.zero_le _, Nat.zero_le _⟩ dX4_hatch_2 (fun H locs hf => ?_)
  have hf : Fr G (va_A (wM G ad μ0) s.heap.size) s (wM G ad μ0) H locs := hf
  refine lv_if_eq (tgt := 15) hx hb dX4_hatch_5 (by decide) (fun c3 => ?_) (fun c3 => ?_)
  · replace hF := (if_pos c3).symm.trans hF
    refine lv_aload_n hx hb dX4_hatch_15 rfl (lv_at hl 0 rfl) ?_
    refine lv_ldc (v := -1000001) hx hb hown (hts _ kc63) dX4_hatch_16 ?_
    obtain ⟨q4, h5, hF⟩ := Option.bind_eq_some_iff.mp hF
    refine g_cv0 (o := some (.int q4.1)) (As := [.int (-1000001)]) (rest := []) (st1 := [.int q4.1]) (ci := 4) S hf (c_X4_finding l G ad μ0 (-1000001) q4 h5) (cwV 1 hts gX4_hatch_X4_finding rfl rfl rfl (by decide +kernel) ⟨Nat.le_of_ble_eq_true rfl, Nat.le_of_ble_eq_true rfl⟩) rfl rfl rfl 0 rfl rfl hl.1 rfl rfl (Nat.le_of_ble_eq_true rfl) ⟨Nat.zero_le _, Nat.zero_le _⟩ dX4_hatch_18 (fun H locs hf => ?_)
    have hf : Fr G (va_A (wM G ad μ0) s.heap.size) s (wM G ad q4.2) H locs := hf
    have hE := Option.some.inj hF
    have hV := congrArg (fun z : Int32 × K2 => z.1) hE
    have hW := congrArg (fun z : Int32 × K2 => wM G ad z.2) hE
    exact g_iret S hr hlocks hf hV hW dX4_hatch_21
  · replace hF := (if_neg c3).symm.trans hF
    refine lv_iload_n hx hb dX4_hatch_8 rfl (lv_at hl 2 rfl) ?_
    obtain ⟨q6, h7, hF⟩ := Option.bind_eq_some_iff.mp hF
    refine g_cs0 (o := some (.int q6)) (As := [.int a2]) (rest := []) (st1 := [.int q6]) S hf (c_X4_isKind l G  a2 q6 h7) (va_cwS 1 hts gX4_hatch_X4_isKind rfl rfl rfl (by decide +kernel) ⟨Nat.le_of_ble_eq_true rfl, Nat.le_of_ble_eq_true rfl⟩) rfl hl.1 rfl rfl (Nat.le_of_ble_eq_true rfl) ⟨Nat.zero_le _, Nat.zero_le _⟩ dX4_hatch_9 (fun H locs hf => ?_)
    refine lv_if_ne (tgt := 22) hx hb dX4_hatch_12 (by decide) (fun c8 => ?_) (fun c8 => ?_)
    · replace hF := (if_neg c8).symm.trans hF
      refine lv_aload_n hx hb dX4_hatch_22 rfl (lv_at hl 0 rfl) ?_
      refine g_get (ci := 4) (C := RX4) (T := TX4) (N := 21) (v := .ref (ad 1)) S hf hinX4 0 rfl rfl 0 (by decide) k9 rfl rfl dX4_hatch_23 ?_
      refine lv_iconst (v := 1) hx hb dX4_hatch_26 (by decide) ?_
      refine g_ald (v := (μ0 0) 1) S hf 2 rfl (by decide) rfl dX4_hatch_27 ?_
      refine lv_bipush (v := 8) hx hb dX4_hatch_28 (by decide) ?_
      refine lv_icmp_ne (tgt := 40) hx hb dX4_hatch_30 (by decide) (fun c9 => ?_) (fun c9 => ?_)
      · replace hF := (if_neg c9).symm.trans hF
        refine lv_aload_n hx hb dX4_hatch_40 rfl (lv_at hl 0 rfl) ?_
        refine lv_iload_n hx hb dX4_hatch_41 rfl (lv_at hl 1 rfl) ?_
        obtain ⟨q10, h11, hF⟩ := Option.bind_eq_some_iff.mp hF
        refine g_cv0 (o := some (.int q10)) (As := [.int a1]) (rest := []) (st1 := [.int q10]) (ci := 4) S hf (c_X4_isDead l G ad μ0 a1 q10 h11) (cwV 1 hts gX4_hatch_X4_isDead rfl rfl rfl (by decide +kernel) ⟨Nat.le_of_ble_eq_true rfl, Nat.le_of_ble_eq_true rfl⟩) rfl rfl rfl 0 rfl rfl hl.1 rfl rfl (Nat.le_of_ble_eq_true rfl) ⟨Nat.zero_le _, Nat.zero_le _⟩ dX4_hatch_42 (fun H locs hf => ?_)
        have hf : Fr G (va_A (wM G ad μ0) s.heap.size) s (wM G ad μ0) H locs := hf
        refine lv_if_eq (tgt := 57) hx hb dX4_hatch_45 (by decide) (fun c12 => ?_) (fun c12 => ?_)
        · replace hF := (if_pos c12).symm.trans hF
          refine lv_aload_n hx hb dX4_hatch_57 rfl (lv_at hl 0 rfl) ?_
          refine lv_iload_n hx hb dX4_hatch_58 rfl (lv_at hl 2 rfl) ?_
          refine lv_aload_n hx hb dX4_hatch_59 rfl (lv_at hl 0 rfl) ?_
          refine lv_iload_n hx hb dX4_hatch_60 rfl (lv_at hl 1 rfl) ?_
          refine lv_iconst (v := 1) hx hb dX4_hatch_61 (by decide) ?_
          obtain ⟨q13, h14, hF⟩ := Option.bind_eq_some_iff.mp hF
          refine g_cv0 (o := some (.int q13)) (As := [.int a1, .int 1]) (rest := [.int a2, .ref (ad 0)]) (st1 := [.int q13, .int a2, .ref (ad 0)]) (ci := 4) S hf (c_X4_birdIs l G ad μ0 a1 1 q13 h14) (cwV 2 hts gX4_hatch_X4_birdIs rfl rfl rfl (by decide +kernel) ⟨Nat.le_of_ble_eq_true rfl, Nat.le_of_ble_eq_true rfl⟩) rfl rfl rfl 0 rfl rfl hl.1 rfl rfl (Nat.le_of_ble_eq_true rfl) ⟨Nat.zero_le _, Nat.zero_le _⟩ dX4_hatch_62 (fun H locs hf => ?_)
          have hf : Fr G (va_A (wM G ad μ0) s.heap.size) s (wM G ad μ0) H locs := hf
          refine lv_iload_n hx hb dX4_hatch_65 rfl (lv_at hl 1 rfl) ?_
          obtain ⟨q15, h16, hF⟩ := Option.bind_eq_some_iff.mp hF
          refine g_cv0 (o := some (.int q15.1)) (As := [.int a2, .int q13, .int a1]) (rest := []) (st1 := [.int q15.1]) (ci := 4) S hf (c_X4_comes l G ad μ0 a2 q13 a1 q15 h16) (cwV 3 hts gX4_hatch_X4_comes rfl rfl rfl (by decide +kernel) ⟨Nat.le_of_ble_eq_true rfl, Nat.le_of_ble_eq_true rfl⟩) rfl rfl rfl 0 rfl rfl hl.1 rfl rfl (Nat.le_of_ble_eq_true rfl) ⟨Nat.zero_le _, Nat.zero_le _⟩ dX4_hatch_66 (fun H locs hf => ?_)
          have hf : Fr G (va_A (wM G ad μ0) s.heap.size) s (wM G ad q15.2) H locs := hf
          have hE := Option.some.inj hF
          have hV := congrArg (fun z : Int32 × K2 => z.1) hE
          have hW := congrArg (fun z : Int32 × K2 => wM G ad z.2) hE
          exact g_iret S hr hlocks hf hV hW dX4_hatch_69
        · replace hF := (if_neg c12).symm.trans hF
          refine lv_aload_n hx hb dX4_hatch_48 rfl (lv_at hl 0 rfl) ?_
          refine lv_ldc (v := -1000005) hx hb hown (hts _ kc109) dX4_hatch_49 ?_
          obtain ⟨q17, h18, hF⟩ := Option.bind_eq_some_iff.mp hF
          refine g_cv0 (o := some (.int q17.1)) (As := [.int (-1000005)]) (rest := []) (st1 := [.int q17.1]) (ci := 4) S hf (c_X4_finding l G ad μ0 (-1000005) q17 h18) (cwV 1 hts gX4_hatch_X4_finding rfl rfl rfl (by decide +kernel) ⟨Nat.le_of_ble_eq_true rfl, Nat.le_of_ble_eq_true rfl⟩) rfl rfl rfl 0 rfl rfl hl.1 rfl rfl (Nat.le_of_ble_eq_true rfl) ⟨Nat.zero_le _, Nat.zero_le _⟩ dX4_hatch_51 (fun H locs hf => ?_)
          have hf : Fr G (va_A (wM G ad μ0) s.heap.size) s (wM G ad q17.2) H locs := hf
          refine lv_goto (tgt := 69) hx hb dX4_hatch_54 (by decide) ?_
          have hE := Option.some.inj hF
          have hV := congrArg (fun z : Int32 × K2 => z.1) hE
          have hW := congrArg (fun z : Int32 × K2 => wM G ad z.2) hE
          exact g_iret S hr hlocks hf hV hW dX4_hatch_69
      · replace hF := (if_pos c9).symm.trans hF
        refine lv_aload_n hx hb dX4_hatch_33 rfl (lv_at hl 0 rfl) ?_
        refine lv_ldc (v := -1000002) hx hb hown (hts _ kc98) dX4_hatch_34 ?_
        obtain ⟨q19, h20, hF⟩ := Option.bind_eq_some_iff.mp hF
        refine g_cv0 (o := some (.int q19.1)) (As := [.int (-1000002)]) (rest := []) (st1 := [.int q19.1]) (ci := 4) S hf (c_X4_finding l G ad μ0 (-1000002) q19 h20) (cwV 1 hts gX4_hatch_X4_finding rfl rfl rfl (by decide +kernel) ⟨Nat.le_of_ble_eq_true rfl, Nat.le_of_ble_eq_true rfl⟩) rfl rfl rfl 0 rfl rfl hl.1 rfl rfl (Nat.le_of_ble_eq_true rfl) ⟨Nat.zero_le _, Nat.zero_le _⟩ dX4_hatch_36 (fun H locs hf => ?_)
        have hf : Fr G (va_A (wM G ad μ0) s.heap.size) s (wM G ad q19.2) H locs := hf
        have hE := Option.some.inj hF
        have hV := congrArg (fun z : Int32 × K2 => z.1) hE
        have hW := congrArg (fun z : Int32 × K2 => wM G ad z.2) hE
        exact g_iret S hr hlocks hf hV hW dX4_hatch_39
    · replace hF := (if_pos c8).symm.trans hF
      refine lv_aload_n hx hb dX4_hatch_15 rfl (lv_at hl 0 rfl) ?_
      refine lv_ldc (v := -1000001) hx hb hown (hts _ kc63) dX4_hatch_16 ?_
      obtain ⟨q21, h22, hF⟩ := Option.bind_eq_some_iff.mp hF
      refine g_cv0 (o := some (.int q21.1)) (As := [.int (-1000001)]) (rest := []) (st1 := [.int q21.1]) (ci := 4) S hf (c_X4_finding l G ad μ0 (-1000001) q21 h22) (cwV 1 hts gX4_hatch_X4_finding rfl rfl rfl (by decide +kernel) ⟨Nat.le_of_ble_eq_true rfl, Nat.le_of_ble_eq_true rfl⟩) rfl rfl rfl 0 rfl rfl hl.1 rfl rfl (Nat.le_of_ble_eq_true rfl) ⟨Nat.zero_le _, Nat.zero_le _⟩ dX4_hatch_18 (fun H locs hf => ?_)
      have hf : Fr G (va_A (wM G ad μ0) s.heap.size) s (wM G ad q21.2) H locs := hf
      have hE := Option.some.inj hF
      have hV := congrArg (fun z : Int32 × K2 => z.1) hE
      have hW := congrArg (fun z : Int32 × K2 => wM G ad z.2) hE
      exact g_iret S hr hlocks hf hV hW dX4_hatch_21
