def f_X2_append (τ0 : K2) (a1 : Int32) : Option (K2) := if 120 ≤ (τ0 1 0) then (some (τ0)) else (if ix (τ0 1 0) 120 then (some (va_up (va_up τ0 0 (upd (τ0 0) ((τ0 1 0).toNatClampNeg) a1)) 1 (upd (τ0 1) 0 ((τ0 1 0) + 1)))) else none)
set_option maxHeartbeats 4000000 in
set_option maxRecDepth 100000 in
theorem c_X2_append (l : Launch) (G : GT) (ad : Nat → Nat) (τ0 : K2) (a1 : Int32) (q : K2) (hF : f_X2_append τ0 a1 = some q) : Ct l G yX2_append wsX2_append ({ frames := 0, cells := 0, slots := 0, locals := 0 } : Room) ([.ref (ad 0), .int a1] : List Value) (wT G ad τ0) (none) (wT G ad q) := by
  have k15 : Cond.fieldLink RX2 15 "PigeonRolls$Tape" "length" "I" ∈ wsX2_append := by decide +kernel
  have k9 : Cond.fieldLink RX2 9 "PigeonRolls$Tape" "bytes" "[I" ∈ wsX2_append := by decide +kernel
  have hinX2 : ∀ w ∈ u_ws RX2 TX2 6, w ∈ wsX2_append := by decide +kernel
  refine Ct.of cX2_append 2 none (by decide) rfl (Nat.le_of_ble_eq_true rfl) ?_
  intro p e s m below meth c ls S hr hlocks hf hl
  have S : CallFix p m c cX2_append 2 s ([.ref (ad 0), .int a1] : List Value).toArray wsX2_append RX2 := S
  obtain ⟨hx, hb, hml, hown, hts⟩ := id S
  have hl : lv_has ls 2 [(0, .ref (ad 0)), (1, .int a1)] := hl
  unfold f_X2_append at hF
  refine lv_aload_n hx hb dX2_append_0 rfl (lv_at hl 0 rfl) ?_
  refine g_get (ci := 2) (C := RX2) (T := TX2) (N := 6) (v := .int (τ0 1 0)) S hf hinX2 0 rfl rfl 1 (by decide) k15 rfl rfl dX2_append_1 ?_
  refine lv_bipush (v := 120) hx hb dX2_append_4 (by decide) ?_
  refine lv_icmp_ge (tgt := 29) hx hb dX2_append_6 (by decide) (fun c1 => ?_) (fun c1 => ?_)
  · replace hF := (if_pos c1).symm.trans hF
    have hE := Option.some.inj hF
    have hW := congrArg (fun z : K2 => wT G ad z) hE
    exact g_vret S hr hlocks hf hW dX2_append_29
  · replace hF := (if_neg c1).symm.trans hF
    refine lv_aload_n hx hb dX2_append_9 rfl (lv_at hl 0 rfl) ?_
    refine g_get (ci := 2) (C := RX2) (T := TX2) (N := 6) (v := .ref (ad 1)) S hf hinX2 0 rfl rfl 0 (by decide) k9 rfl rfl dX2_append_10 ?_
    refine lv_aload_n hx hb dX2_append_13 rfl (lv_at hl 0 rfl) ?_
    refine g_get (ci := 2) (C := RX2) (T := TX2) (N := 6) (v := .int (τ0 1 0)) S hf hinX2 0 rfl rfl 1 (by decide) k15 rfl rfl dX2_append_14 ?_
    refine lv_iload_n hx hb dX2_append_17 rfl (lv_at hl 1 rfl) ?_
    obtain ⟨g2, hF⟩ := gd_some hF
    refine g_ast (ww' := wT G ad (va_up τ0 0 (upd (τ0 0) ((τ0 1 0).toNatClampNeg) a1))) S hf 1 rfl g2 rfl dX2_append_18 (fun H locs hf => ?_)
    refine lv_aload_n hx hb dX2_append_19 rfl (lv_at hl 0 rfl) ?_
    refine lv_dup hx hb dX2_append_20 rfl ?_
    refine g_get (ci := 2) (C := RX2) (T := TX2) (N := 6) (v := .int (τ0 1 0)) S hf hinX2 0 rfl rfl 1 (by decide) k15 rfl rfl dX2_append_21 ?_
    refine lv_iconst (v := 1) hx hb dX2_append_24 (by decide) ?_
    refine lv_iadd hx hb dX2_append_25 ?_
    refine g_put (ci := 2) (C := RX2) (T := TX2) (N := 6) (ww' := wT G ad (va_up (va_up τ0 0 (upd (τ0 0) ((τ0 1 0).toNatClampNeg) a1)) 1 (upd (τ0 1) 0 ((τ0 1 0) + 1)))) S hf hinX2 tyX2 tyX2_ok nmX2 0 rfl rfl 1 (by decide) k15 rfl rfl rfl rfl (Nat.le_of_ble_eq_true rfl) rfl dX2_append_26 (fun H locs hf => ?_)
    have hE := Option.some.inj hF
    have hW := congrArg (fun z : K2 => wT G ad z) hE
    exact g_vret S hr hlocks hf hW dX2_append_29
def f_X2_isLetter (a0 : Int32) : Option (Int32) := if a0 < 97 then (some (0)) else (if 122 < a0 then (some (0)) else (some (1)))
set_option maxHeartbeats 4000000 in
set_option maxRecDepth 100000 in
theorem c_X2_isLetter (l : Launch) (G : GT)  (a0 : Int32) (q : Int32) (hF : f_X2_isLetter a0 = some q) : Ct l G yX2_isLetter wsX2_isLetter ({ frames := 0, cells := 0, slots := 0, locals := 0 } : Room) ([.int a0] : List Value) (([] : va_W)) (some (.int q)) (([] : va_W)) := by
  refine Ct.of cX2_isLetter 1 (some .boolean) (by decide) rfl (Nat.le_of_ble_eq_true rfl) ?_
  intro p e s m below meth c ls S hr hlocks hf hl
  have S : CallFix p m c cX2_isLetter 1 s ([.int a0] : List Value).toArray wsX2_isLetter RX2 := S
  obtain ⟨hx, hb, hml, hown, hts⟩ := id S
  have hl : lv_has ls 1 [(0, .int a0)] := hl
  unfold f_X2_isLetter at hF
  refine lv_iload_n hx hb dX2_isLetter_0 rfl (lv_at hl 0 rfl) ?_
  refine lv_bipush (v := 97) hx hb dX2_isLetter_1 (by decide) ?_
  refine lv_icmp_lt (tgt := 16) hx hb dX2_isLetter_3 (by decide) (fun c1 => ?_) (fun c1 => ?_)
  · replace hF := (if_pos c1).symm.trans hF
    refine lv_iconst (v := 0) hx hb dX2_isLetter_16 (by decide) ?_
    have hE := Option.some.inj hF
    have hV := congrArg (fun z : Int32 => z) hE
    exact g_zret S hr hlocks hf (by decide) hV rfl dX2_isLetter_17
  · replace hF := (if_neg c1).symm.trans hF
    refine lv_iload_n hx hb dX2_isLetter_6 rfl (lv_at hl 0 rfl) ?_
    refine lv_bipush (v := 122) hx hb dX2_isLetter_7 (by decide) ?_
    refine lv_icmp_gt (tgt := 16) hx hb dX2_isLetter_9 (by decide) (fun c2 => ?_) (fun c2 => ?_)
    · replace hF := (if_pos c2).symm.trans hF
      refine lv_iconst (v := 0) hx hb dX2_isLetter_16 (by decide) ?_
      have hE := Option.some.inj hF
      have hV := congrArg (fun z : Int32 => z) hE
      exact g_zret S hr hlocks hf (by decide) hV rfl dX2_isLetter_17
    · replace hF := (if_neg c2).symm.trans hF
      refine lv_iconst (v := 1) hx hb dX2_isLetter_12 (by decide) ?_
      refine lv_goto (tgt := 17) hx hb dX2_isLetter_13 (by decide) ?_
      have hE := Option.some.inj hF
      have hV := congrArg (fun z : Int32 => z) hE
      exact g_zret S hr hlocks hf (by decide) hV rfl dX2_isLetter_17
def f_X2_isDigit (a0 : Int32) : Option (Int32) := if a0 < 48 then (some (0)) else (if 57 < a0 then (some (0)) else (some (1)))
set_option maxHeartbeats 4000000 in
set_option maxRecDepth 100000 in
theorem c_X2_isDigit (l : Launch) (G : GT)  (a0 : Int32) (q : Int32) (hF : f_X2_isDigit a0 = some q) : Ct l G yX2_isDigit wsX2_isDigit ({ frames := 0, cells := 0, slots := 0, locals := 0 } : Room) ([.int a0] : List Value) (([] : va_W)) (some (.int q)) (([] : va_W)) := by
  refine Ct.of cX2_isDigit 1 (some .boolean) (by decide) rfl (Nat.le_of_ble_eq_true rfl) ?_
  intro p e s m below meth c ls S hr hlocks hf hl
  have S : CallFix p m c cX2_isDigit 1 s ([.int a0] : List Value).toArray wsX2_isDigit RX2 := S
  obtain ⟨hx, hb, hml, hown, hts⟩ := id S
  have hl : lv_has ls 1 [(0, .int a0)] := hl
  unfold f_X2_isDigit at hF
  refine lv_iload_n hx hb dX2_isDigit_0 rfl (lv_at hl 0 rfl) ?_
  refine lv_bipush (v := 48) hx hb dX2_isDigit_1 (by decide) ?_
  refine lv_icmp_lt (tgt := 16) hx hb dX2_isDigit_3 (by decide) (fun c1 => ?_) (fun c1 => ?_)
  · replace hF := (if_pos c1).symm.trans hF
    refine lv_iconst (v := 0) hx hb dX2_isDigit_16 (by decide) ?_
    have hE := Option.some.inj hF
    have hV := congrArg (fun z : Int32 => z) hE
    exact g_zret S hr hlocks hf (by decide) hV rfl dX2_isDigit_17
  · replace hF := (if_neg c1).symm.trans hF
    refine lv_iload_n hx hb dX2_isDigit_6 rfl (lv_at hl 0 rfl) ?_
    refine lv_bipush (v := 57) hx hb dX2_isDigit_7 (by decide) ?_
    refine lv_icmp_gt (tgt := 16) hx hb dX2_isDigit_9 (by decide) (fun c2 => ?_) (fun c2 => ?_)
    · replace hF := (if_pos c2).symm.trans hF
      refine lv_iconst (v := 0) hx hb dX2_isDigit_16 (by decide) ?_
      have hE := Option.some.inj hF
      have hV := congrArg (fun z : Int32 => z) hE
      exact g_zret S hr hlocks hf (by decide) hV rfl dX2_isDigit_17
    · replace hF := (if_neg c2).symm.trans hF
      refine lv_iconst (v := 1) hx hb dX2_isDigit_12 (by decide) ?_
      refine lv_goto (tgt := 17) hx hb dX2_isDigit_13 (by decide) ?_
      have hE := Option.some.inj hF
      have hV := congrArg (fun z : Int32 => z) hE
      exact g_zret S hr hlocks hf (by decide) hV rfl dX2_isDigit_17
def f_X2_step_L157 : Nat → K2 → Option (K2)
  | 0, _ => none
  | n + 1, τ => if (τ 1 0) ≤ (τ 1 3) then (some (τ)) else (if ix (τ 1 3) 120 then (Option.bind (f_X2_isDigit ((τ 0) (τ 1 3).toNatClampNeg)) (fun q13 => if q13 = 0 then (some (τ)) else (f_X2_step_L157 n (va_up τ 1 (upd (upd (τ 1) 3 ((τ 1 3) + 1)) 4 (imin 10000 ((((τ 1 4) * 10) + ((τ 0) (τ 1 3).toNatClampNeg)) - 48))))))) else none)
def f_X2_step_L98 : Nat → K2 → Option (K2)
  | 0, _ => none
  | n + 1, τ => if (τ 1 0) ≤ (τ 1 3) then (some (τ)) else (if ix (τ 1 3) 120 then (Option.bind (f_X2_isLetter ((τ 0) (τ 1 3).toNatClampNeg)) (fun q18 => if q18 = 0 then (some (τ)) else (f_X2_step_L98 n (va_up τ 1 (upd (τ 1) 3 ((τ 1 3) + 1)))))) else none)
def f_X2_step_B46 (τ : K2) : Option (K2) := if (τ 1 2) < (τ 1 0) then (if ix (τ 1 2) 120 then (Option.bind (f_X2_isLetter ((τ 0) (τ 1 2).toNatClampNeg)) (fun q4 => if q4 = 0 then (Option.bind (f_X2_isDigit ((τ 0) (τ 1 2).toNatClampNeg)) (fun q7 => if q7 = 0 then (if ((τ 0) (τ 1 2).toNatClampNeg) = 59 then (some (va_up τ 1 (upd (upd (upd (τ 1) 1 3) 3 ((τ 1 2) + 1)) 4 0))) else (some (va_up τ 1 (upd (upd (upd (τ 1) 1 4) 3 ((τ 1 2) + 1)) 4 0)))) else (f_X2_step_L157 1000 (va_up τ 1 (upd (upd (upd (τ 1) 1 2) 3 (τ 1 2)) 4 0))))) else (f_X2_step_L98 1000 (va_up τ 1 (upd (upd (upd (τ 1) 1 1) 3 (τ 1 2)) 4 0))))) else none) else (some (va_up τ 1 (upd (upd (upd (τ 1) 1 0) 3 (τ 1 2)) 4 0)))
def f_X2_step_L8 : Nat → K2 → Option (K2)
  | 0, _ => none
  | n + 1, τ => if (τ 1 0) ≤ (τ 1 2) then (f_X2_step_B46 τ) else (if ix (τ 1 2) 120 then (if ((τ 0) (τ 1 2).toNatClampNeg) = 32 then (f_X2_step_L8 n (va_up τ 1 (upd (τ 1) 2 ((τ 1 2) + 1)))) else (f_X2_step_B46 τ)) else none)
def f_X2_step (τ0 : K2) : Option (K2) := f_X2_step_L8 1000 (va_up τ0 1 (upd (τ0 1) 2 (τ0 1 3)))
set_option maxHeartbeats 4000000 in
set_option maxRecDepth 100000 in
theorem c_X2_step (l : Launch) (G : GT) (ad : Nat → Nat) (τ0 : K2) (q : K2) (hF : f_X2_step τ0 = some q) : Ct l G yX2_step wsX2_step ({ frames := 1, cells := 0, slots := 0, locals := 21 } : Room) ([.ref (ad 0)] : List Value) (wT G ad τ0) (none) (wT G ad q) := by
  have k25 : Cond.fieldLink RX2 25 "PigeonRolls$Tape" "behind" "I" ∈ wsX2_step := by decide +kernel
  have k22 : Cond.fieldLink RX2 22 "PigeonRolls$Tape" "at" "I" ∈ wsX2_step := by decide +kernel
  have k15 : Cond.fieldLink RX2 15 "PigeonRolls$Tape" "length" "I" ∈ wsX2_step := by decide +kernel
  have k28 : Cond.fieldLink RX2 28 "PigeonRolls$Tape" "value" "I" ∈ wsX2_step := by decide +kernel
  have k9 : Cond.fieldLink RX2 9 "PigeonRolls$Tape" "bytes" "[I" ∈ wsX2_step := by decide +kernel
  have k19 : Cond.fieldLink RX2 19 "PigeonRolls$Tape" "token" "I" ∈ wsX2_step := by decide +kernel
  have k45 : Cond.methodLink RX2 45 Lib.Math.min.name ∈ wsX2_step := by decide +kernel
  have ksmin : Cond.static Lib.Math.min.name ∈ wsX2_step := by decide +kernel
  have kiM : Cond.initialized "java/lang/Math" ∈ wsX2_step := by decide +kernel
  have komin : Cond.code Lib.Math.min.name Lib.Math.min.code 2 (some .int) ∈ wsX2_step := by decide +kernel
  have hinX2 : ∀ w ∈ u_ws RX2 TX2 6, w ∈ wsX2_step := by decide +kernel
  refine Ct.of cX2_step 1 none (by decide) rfl (Nat.le_of_ble_eq_true rfl) ?_
  intro p e s m below meth c ls S hr hlocks hf hl
  have S : CallFix p m c cX2_step 1 s ([.ref (ad 0)] : List Value).toArray wsX2_step RX2 := S
  obtain ⟨hx, hb, hml, hown, hts⟩ := id S
  have hl : lv_has ls 1 [(0, .ref (ad 0))] := hl
  have hL157 : ∀ (n : Nat) (τ : K2)  (H : Heap) (locs : List Loc) (ls : Array Slot), f_X2_step_L157 n τ = some q → Fr G (va_A (wT G ad τ0) s.heap.size) s (wT G ad τ) H locs → lv_has ls 1 [(0, .ref (ad 0))] → W p l e ({ frames := 1, cells := 0, slots := 0, locals := 21 } : Room) s m ([.ref (ad 0)] : List Value).toArray below meth c H locs 0 0 (MQ below (CPost G (wT G ad τ0) s.heap.size (none) (wT G ad q)) ([.ref (ad 0)] : List Value).toArray s 0 0 (va_A (wT G ad τ0) s.heap.size)) (F0 m 157 ls []) := by
    intro n
    induction n with
    | zero =>
      intro τ H locs ls hF hf hl
      exact absurd hF (by simp [f_X2_step_L157])
    | succ n ih157 =>
      intro τ H locs ls hF hf hl
      rw [f_X2_step_L157] at hF
      refine lv_aload_n hx hb dX2_step_157 rfl (lv_at hl 0 rfl) ?_
      refine g_get (ci := 2) (C := RX2) (T := TX2) (N := 6) (v := .int (τ 1 3)) S hf hinX2 0 rfl rfl 4 (by decide) k25 rfl rfl dX2_step_158 ?_
      refine lv_aload_n hx hb dX2_step_161 rfl (lv_at hl 0 rfl) ?_
      refine g_get (ci := 2) (C := RX2) (T := TX2) (N := 6) (v := .int (τ 1 0)) S hf hinX2 0 rfl rfl 1 (by decide) k15 rfl rfl dX2_step_162 ?_
      refine lv_icmp_ge (tgt := 259) hx hb dX2_step_165 (by decide) (fun c11 => ?_) (fun c11 => ?_)
      · replace hF := (if_pos c11).symm.trans hF
        have hE := Option.some.inj hF
        have hW := congrArg (fun z : K2 => wT G ad z) hE
        exact g_vret S hr hlocks hf hW dX2_step_259
      · replace hF := (if_neg c11).symm.trans hF
        refine lv_aload_n hx hb dX2_step_168 rfl (lv_at hl 0 rfl) ?_
        refine g_get (ci := 2) (C := RX2) (T := TX2) (N := 6) (v := .ref (ad 1)) S hf hinX2 0 rfl rfl 0 (by decide) k9 rfl rfl dX2_step_169 ?_
        refine lv_aload_n hx hb dX2_step_172 rfl (lv_at hl 0 rfl) ?_
        refine g_get (ci := 2) (C := RX2) (T := TX2) (N := 6) (v := .int (τ 1 3)) S hf hinX2 0 rfl rfl 4 (by decide) k25 rfl rfl dX2_step_173 ?_
        obtain ⟨g12, hF⟩ := gd_some hF
        refine g_ald (v := (τ 0) (τ 1 3).toNatClampNeg) S hf 1 rfl g12 rfl dX2_step_176 ?_
        obtain ⟨q13, h14, hF⟩ := Option.bind_eq_some_iff.mp hF
        refine g_cs0 (o := some (.int q13)) (As := [.int ((τ 0) (τ 1 3).toNatClampNeg)]) (rest := []) (st1 := [.int q13]) S hf (c_X2_isDigit l G  ((τ 0) (τ 1 3).toNatClampNeg) q13 h14) (va_cwS 1 hts gX2_step_X2_isDigit rfl rfl rfl (by decide +kernel) ⟨Nat.le_of_ble_eq_true rfl, Nat.le_of_ble_eq_true rfl⟩) rfl hl.1 rfl rfl (Nat.le_of_ble_eq_true rfl) ⟨Nat.zero_le _, Nat.zero_le _⟩ dX2_step_177 (fun H locs hf => ?_)
        refine lv_if_eq (tgt := 259) hx hb dX2_step_180 (by decide) (fun c15 => ?_) (fun c15 => ?_)
        · replace hF := (if_pos c15).symm.trans hF
          have hE := Option.some.inj hF
          have hW := congrArg (fun z : K2 => wT G ad z) hE
          exact g_vret S hr hlocks hf hW dX2_step_259
        · replace hF := (if_neg c15).symm.trans hF
          refine lv_aload_n hx hb dX2_step_183 rfl (lv_at hl 0 rfl) ?_
          refine lv_sipush (v := 10000) hx hb dX2_step_184 (by decide) ?_
          refine lv_aload_n hx hb dX2_step_187 rfl (lv_at hl 0 rfl) ?_
          refine g_get (ci := 2) (C := RX2) (T := TX2) (N := 6) (v := .int (τ 1 4)) S hf hinX2 0 rfl rfl 5 (by decide) k28 rfl rfl dX2_step_188 ?_
          refine lv_bipush (v := 10) hx hb dX2_step_191 (by decide) ?_
          refine lv_imul hx hb dX2_step_193 ?_
          refine lv_aload_n hx hb dX2_step_194 rfl (lv_at hl 0 rfl) ?_
          refine g_get (ci := 2) (C := RX2) (T := TX2) (N := 6) (v := .ref (ad 1)) S hf hinX2 0 rfl rfl 0 (by decide) k9 rfl rfl dX2_step_195 ?_
          refine lv_aload_n hx hb dX2_step_198 rfl (lv_at hl 0 rfl) ?_
          refine g_get (ci := 2) (C := RX2) (T := TX2) (N := 6) (v := .int (τ 1 3)) S hf hinX2 0 rfl rfl 4 (by decide) k25 rfl rfl dX2_step_199 ?_
          refine g_ald (v := (τ 0) (τ 1 3).toNatClampNeg) S hf 1 rfl g12 rfl dX2_step_202 ?_
          refine lv_iadd hx hb dX2_step_203 ?_
          refine lv_bipush (v := 48) hx hb dX2_step_204 (by decide) ?_
          refine lv_isub hx hb dX2_step_206 ?_
          refine va_mmin hx hb (hml.trans hl.1.symm) hown (hts _ k45) (hts _ ksmin) (hts _ kiM) (hts _ komin) (Nat.le_of_ble_eq_true rfl) (Nat.le_of_ble_eq_true rfl) (Nat.zero_le _) (Nat.zero_le _) dX2_step_207 ?_
          refine g_put (ci := 2) (C := RX2) (T := TX2) (N := 6) (ww' := wT G ad (va_up τ 1 (upd (τ 1) 4 (imin 10000 ((((τ 1 4) * 10) + ((τ 0) (τ 1 3).toNatClampNeg)) - 48))))) S hf hinX2 tyX2 tyX2_ok nmX2 0 rfl rfl 5 (by decide) k28 rfl rfl rfl rfl (Nat.le_of_ble_eq_true rfl) rfl dX2_step_210 (fun H locs hf => ?_)
          refine lv_aload_n hx hb dX2_step_213 rfl (lv_at hl 0 rfl) ?_
          refine lv_dup hx hb dX2_step_214 rfl ?_
          refine g_get (ci := 2) (C := RX2) (T := TX2) (N := 6) (v := .int (τ 1 3)) S hf hinX2 0 rfl rfl 4 (by decide) k25 rfl rfl dX2_step_215 ?_
          refine lv_iconst (v := 1) hx hb dX2_step_218 (by decide) ?_
          refine lv_iadd hx hb dX2_step_219 ?_
          refine g_put (ci := 2) (C := RX2) (T := TX2) (N := 6) (ww' := wT G ad (va_up τ 1 (upd (upd (τ 1) 3 ((τ 1 3) + 1)) 4 (imin 10000 ((((τ 1 4) * 10) + ((τ 0) (τ 1 3).toNatClampNeg)) - 48))))) S hf hinX2 tyX2 tyX2_ok nmX2 0 rfl rfl 4 (by decide) k25 rfl rfl rfl rfl (Nat.le_of_ble_eq_true rfl) rfl dX2_step_220 (fun H locs hf => ?_)
          refine lv_goto (tgt := 157) hx hb dX2_step_223 (by decide) ?_
          exact ih157 (va_up τ 1 (upd (upd (τ 1) 3 ((τ 1 3) + 1)) 4 (imin 10000 ((((τ 1 4) * 10) + ((τ 0) (τ 1 3).toNatClampNeg)) - 48)))) _ _ _ hF hf (lv_sub hl [0] rfl)
  have hL98 : ∀ (n : Nat) (τ : K2)  (H : Heap) (locs : List Loc) (ls : Array Slot), f_X2_step_L98 n τ = some q → Fr G (va_A (wT G ad τ0) s.heap.size) s (wT G ad τ) H locs → lv_has ls 1 [(0, .ref (ad 0))] → W p l e ({ frames := 1, cells := 0, slots := 0, locals := 21 } : Room) s m ([.ref (ad 0)] : List Value).toArray below meth c H locs 0 0 (MQ below (CPost G (wT G ad τ0) s.heap.size (none) (wT G ad q)) ([.ref (ad 0)] : List Value).toArray s 0 0 (va_A (wT G ad τ0) s.heap.size)) (F0 m 98 ls []) := by
    intro n
    induction n with
    | zero =>
      intro τ H locs ls hF hf hl
      exact absurd hF (by simp [f_X2_step_L98])
    | succ n ih98 =>
      intro τ H locs ls hF hf hl
      rw [f_X2_step_L98] at hF
      refine lv_aload_n hx hb dX2_step_98 rfl (lv_at hl 0 rfl) ?_
      refine g_get (ci := 2) (C := RX2) (T := TX2) (N := 6) (v := .int (τ 1 3)) S hf hinX2 0 rfl rfl 4 (by decide) k25 rfl rfl dX2_step_99 ?_
      refine lv_aload_n hx hb dX2_step_102 rfl (lv_at hl 0 rfl) ?_
      refine g_get (ci := 2) (C := RX2) (T := TX2) (N := 6) (v := .int (τ 1 0)) S hf hinX2 0 rfl rfl 1 (by decide) k15 rfl rfl dX2_step_103 ?_
      refine lv_icmp_ge (tgt := 259) hx hb dX2_step_106 (by decide) (fun c16 => ?_) (fun c16 => ?_)
      · replace hF := (if_pos c16).symm.trans hF
        have hE := Option.some.inj hF
        have hW := congrArg (fun z : K2 => wT G ad z) hE
        exact g_vret S hr hlocks hf hW dX2_step_259
      · replace hF := (if_neg c16).symm.trans hF
        refine lv_aload_n hx hb dX2_step_109 rfl (lv_at hl 0 rfl) ?_
        refine g_get (ci := 2) (C := RX2) (T := TX2) (N := 6) (v := .ref (ad 1)) S hf hinX2 0 rfl rfl 0 (by decide) k9 rfl rfl dX2_step_110 ?_
        refine lv_aload_n hx hb dX2_step_113 rfl (lv_at hl 0 rfl) ?_
        refine g_get (ci := 2) (C := RX2) (T := TX2) (N := 6) (v := .int (τ 1 3)) S hf hinX2 0 rfl rfl 4 (by decide) k25 rfl rfl dX2_step_114 ?_
        obtain ⟨g17, hF⟩ := gd_some hF
        refine g_ald (v := (τ 0) (τ 1 3).toNatClampNeg) S hf 1 rfl g17 rfl dX2_step_117 ?_
        obtain ⟨q18, h19, hF⟩ := Option.bind_eq_some_iff.mp hF
        refine g_cs0 (o := some (.int q18)) (As := [.int ((τ 0) (τ 1 3).toNatClampNeg)]) (rest := []) (st1 := [.int q18]) S hf (c_X2_isLetter l G  ((τ 0) (τ 1 3).toNatClampNeg) q18 h19) (va_cwS 1 hts gX2_step_X2_isLetter rfl rfl rfl (by decide +kernel) ⟨Nat.le_of_ble_eq_true rfl, Nat.le_of_ble_eq_true rfl⟩) rfl hl.1 rfl rfl (Nat.le_of_ble_eq_true rfl) ⟨Nat.zero_le _, Nat.zero_le _⟩ dX2_step_118 (fun H locs hf => ?_)
        refine lv_if_eq (tgt := 259) hx hb dX2_step_121 (by decide) (fun c20 => ?_) (fun c20 => ?_)
        · replace hF := (if_pos c20).symm.trans hF
          have hE := Option.some.inj hF
          have hW := congrArg (fun z : K2 => wT G ad z) hE
          exact g_vret S hr hlocks hf hW dX2_step_259
        · replace hF := (if_neg c20).symm.trans hF
          refine lv_aload_n hx hb dX2_step_124 rfl (lv_at hl 0 rfl) ?_
          refine lv_dup hx hb dX2_step_125 rfl ?_
          refine g_get (ci := 2) (C := RX2) (T := TX2) (N := 6) (v := .int (τ 1 3)) S hf hinX2 0 rfl rfl 4 (by decide) k25 rfl rfl dX2_step_126 ?_
          refine lv_iconst (v := 1) hx hb dX2_step_129 (by decide) ?_
          refine lv_iadd hx hb dX2_step_130 ?_
          refine g_put (ci := 2) (C := RX2) (T := TX2) (N := 6) (ww' := wT G ad (va_up τ 1 (upd (τ 1) 3 ((τ 1 3) + 1)))) S hf hinX2 tyX2 tyX2_ok nmX2 0 rfl rfl 4 (by decide) k25 rfl rfl rfl rfl (Nat.le_of_ble_eq_true rfl) rfl dX2_step_131 (fun H locs hf => ?_)
          refine lv_goto (tgt := 98) hx hb dX2_step_134 (by decide) ?_
          exact ih98 (va_up τ 1 (upd (τ 1) 3 ((τ 1 3) + 1))) _ _ _ hF hf (lv_sub hl [0] rfl)
  have hL46 : ∀ (τ : K2)  (H : Heap) (locs : List Loc) (ls : Array Slot), f_X2_step_B46 τ = some q → Fr G (va_A (wT G ad τ0) s.heap.size) s (wT G ad τ) H locs → lv_has ls 1 [(0, .ref (ad 0))] → W p l e ({ frames := 1, cells := 0, slots := 0, locals := 21 } : Room) s m ([.ref (ad 0)] : List Value).toArray below meth c H locs 0 0 (MQ below (CPost G (wT G ad τ0) s.heap.size (none) (wT G ad q)) ([.ref (ad 0)] : List Value).toArray s 0 0 (va_A (wT G ad τ0) s.heap.size)) (F0 m 46 ls []) := by
    intro τ H locs ls hF hf hl
    unfold f_X2_step_B46 at hF
    refine lv_aload_n hx hb dX2_step_46 rfl (lv_at hl 0 rfl) ?_
    refine lv_aload_n hx hb dX2_step_47 rfl (lv_at hl 0 rfl) ?_
    refine g_get (ci := 2) (C := RX2) (T := TX2) (N := 6) (v := .int (τ 1 2)) S hf hinX2 0 rfl rfl 3 (by decide) k22 rfl rfl dX2_step_48 ?_
    refine g_put (ci := 2) (C := RX2) (T := TX2) (N := 6) (ww' := wT G ad (va_up τ 1 (upd (τ 1) 3 (τ 1 2)))) S hf hinX2 tyX2 tyX2_ok nmX2 0 rfl rfl 4 (by decide) k25 rfl rfl rfl rfl (Nat.le_of_ble_eq_true rfl) rfl dX2_step_51 (fun H locs hf => ?_)
    refine lv_aload_n hx hb dX2_step_54 rfl (lv_at hl 0 rfl) ?_
    refine lv_iconst (v := 0) hx hb dX2_step_55 (by decide) ?_
    refine g_put (ci := 2) (C := RX2) (T := TX2) (N := 6) (ww' := wT G ad (va_up τ 1 (upd (upd (τ 1) 3 (τ 1 2)) 4 0))) S hf hinX2 tyX2 tyX2_ok nmX2 0 rfl rfl 5 (by decide) k28 rfl rfl rfl rfl (Nat.le_of_ble_eq_true rfl) rfl dX2_step_56 (fun H locs hf => ?_)
    refine lv_aload_n hx hb dX2_step_59 rfl (lv_at hl 0 rfl) ?_
    refine g_get (ci := 2) (C := RX2) (T := TX2) (N := 6) (v := .int (τ 1 2)) S hf hinX2 0 rfl rfl 3 (by decide) k22 rfl rfl dX2_step_60 ?_
    refine lv_aload_n hx hb dX2_step_63 rfl (lv_at hl 0 rfl) ?_
    refine g_get (ci := 2) (C := RX2) (T := TX2) (N := 6) (v := .int (τ 1 0)) S hf hinX2 0 rfl rfl 1 (by decide) k15 rfl rfl dX2_step_64 ?_
    refine lv_icmp_lt (tgt := 78) hx hb dX2_step_67 (by decide) (fun c2 => ?_) (fun c2 => ?_)
    · replace hF := (if_pos c2).symm.trans hF
      refine lv_aload_n hx hb dX2_step_78 rfl (lv_at hl 0 rfl) ?_
      refine g_get (ci := 2) (C := RX2) (T := TX2) (N := 6) (v := .ref (ad 1)) S hf hinX2 0 rfl rfl 0 (by decide) k9 rfl rfl dX2_step_79 ?_
      refine lv_aload_n hx hb dX2_step_82 rfl (lv_at hl 0 rfl) ?_
      refine g_get (ci := 2) (C := RX2) (T := TX2) (N := 6) (v := .int (τ 1 2)) S hf hinX2 0 rfl rfl 3 (by decide) k22 rfl rfl dX2_step_83 ?_
      obtain ⟨g3, hF⟩ := gd_some hF
      refine g_ald (v := (τ 0) (τ 1 2).toNatClampNeg) S hf 1 rfl g3 rfl dX2_step_86 ?_
      obtain ⟨q4, h5, hF⟩ := Option.bind_eq_some_iff.mp hF
      refine g_cs0 (o := some (.int q4)) (As := [.int ((τ 0) (τ 1 2).toNatClampNeg)]) (rest := []) (st1 := [.int q4]) S hf (c_X2_isLetter l G  ((τ 0) (τ 1 2).toNatClampNeg) q4 h5) (va_cwS 1 hts gX2_step_X2_isLetter rfl rfl rfl (by decide +kernel) ⟨Nat.le_of_ble_eq_true rfl, Nat.le_of_ble_eq_true rfl⟩) rfl hl.1 rfl rfl (Nat.le_of_ble_eq_true rfl) ⟨Nat.zero_le _, Nat.zero_le _⟩ dX2_step_87 (fun H locs hf => ?_)
      refine lv_if_eq (tgt := 137) hx hb dX2_step_90 (by decide) (fun c6 => ?_) (fun c6 => ?_)
      · replace hF := (if_pos c6).symm.trans hF
        refine lv_aload_n hx hb dX2_step_137 rfl (lv_at hl 0 rfl) ?_
        refine g_get (ci := 2) (C := RX2) (T := TX2) (N := 6) (v := .ref (ad 1)) S hf hinX2 0 rfl rfl 0 (by decide) k9 rfl rfl dX2_step_138 ?_
        refine lv_aload_n hx hb dX2_step_141 rfl (lv_at hl 0 rfl) ?_
        refine g_get (ci := 2) (C := RX2) (T := TX2) (N := 6) (v := .int (τ 1 2)) S hf hinX2 0 rfl rfl 3 (by decide) k22 rfl rfl dX2_step_142 ?_
        refine g_ald (v := (τ 0) (τ 1 2).toNatClampNeg) S hf 1 rfl g3 rfl dX2_step_145 ?_
        obtain ⟨q7, h8, hF⟩ := Option.bind_eq_some_iff.mp hF
        refine g_cs0 (o := some (.int q7)) (As := [.int ((τ 0) (τ 1 2).toNatClampNeg)]) (rest := []) (st1 := [.int q7]) S hf (c_X2_isDigit l G  ((τ 0) (τ 1 2).toNatClampNeg) q7 h8) (va_cwS 1 hts gX2_step_X2_isDigit rfl rfl rfl (by decide +kernel) ⟨Nat.le_of_ble_eq_true rfl, Nat.le_of_ble_eq_true rfl⟩) rfl hl.1 rfl rfl (Nat.le_of_ble_eq_true rfl) ⟨Nat.zero_le _, Nat.zero_le _⟩ dX2_step_146 (fun H locs hf => ?_)
        refine lv_if_eq (tgt := 226) hx hb dX2_step_149 (by decide) (fun c9 => ?_) (fun c9 => ?_)
        · replace hF := (if_pos c9).symm.trans hF
          refine lv_aload_n hx hb dX2_step_226 rfl (lv_at hl 0 rfl) ?_
          refine lv_aload_n hx hb dX2_step_227 rfl (lv_at hl 0 rfl) ?_
          refine g_get (ci := 2) (C := RX2) (T := TX2) (N := 6) (v := .ref (ad 1)) S hf hinX2 0 rfl rfl 0 (by decide) k9 rfl rfl dX2_step_228 ?_
          refine lv_aload_n hx hb dX2_step_231 rfl (lv_at hl 0 rfl) ?_
          refine g_get (ci := 2) (C := RX2) (T := TX2) (N := 6) (v := .int (τ 1 2)) S hf hinX2 0 rfl rfl 3 (by decide) k22 rfl rfl dX2_step_232 ?_
          refine g_ald (v := (τ 0) (τ 1 2).toNatClampNeg) S hf 1 rfl g3 rfl dX2_step_235 ?_
          refine lv_bipush (v := 59) hx hb dX2_step_236 (by decide) ?_
          refine lv_icmp_ne (tgt := 245) hx hb dX2_step_238 (by decide) (fun c10 => ?_) (fun c10 => ?_)
          · replace hF := (if_neg c10).symm.trans hF
            refine lv_iconst (v := 4) hx hb dX2_step_245 (by decide) ?_
            refine g_put (ci := 2) (C := RX2) (T := TX2) (N := 6) (ww' := wT G ad (va_up τ 1 (upd (upd (upd (τ 1) 1 4) 3 (τ 1 2)) 4 0))) S hf hinX2 tyX2 tyX2_ok nmX2 0 rfl rfl 2 (by decide) k19 rfl rfl rfl rfl (Nat.le_of_ble_eq_true rfl) rfl dX2_step_246 (fun H locs hf => ?_)
            refine lv_aload_n hx hb dX2_step_249 rfl (lv_at hl 0 rfl) ?_
            refine lv_dup hx hb dX2_step_250 rfl ?_
            refine g_get (ci := 2) (C := RX2) (T := TX2) (N := 6) (v := .int (τ 1 2)) S hf hinX2 0 rfl rfl 4 (by decide) k25 rfl rfl dX2_step_251 ?_
            refine lv_iconst (v := 1) hx hb dX2_step_254 (by decide) ?_
            refine lv_iadd hx hb dX2_step_255 ?_
            refine g_put (ci := 2) (C := RX2) (T := TX2) (N := 6) (ww' := wT G ad (va_up τ 1 (upd (upd (upd (τ 1) 1 4) 3 ((τ 1 2) + 1)) 4 0))) S hf hinX2 tyX2 tyX2_ok nmX2 0 rfl rfl 4 (by decide) k25 rfl rfl rfl rfl (Nat.le_of_ble_eq_true rfl) rfl dX2_step_256 (fun H locs hf => ?_)
            have hE := Option.some.inj hF
            have hW := congrArg (fun z : K2 => wT G ad z) hE
            exact g_vret S hr hlocks hf hW dX2_step_259
          · replace hF := (if_pos c10).symm.trans hF
            refine lv_iconst (v := 3) hx hb dX2_step_241 (by decide) ?_
            refine lv_goto (tgt := 246) hx hb dX2_step_242 (by decide) ?_
            refine g_put (ci := 2) (C := RX2) (T := TX2) (N := 6) (ww' := wT G ad (va_up τ 1 (upd (upd (upd (τ 1) 1 3) 3 (τ 1 2)) 4 0))) S hf hinX2 tyX2 tyX2_ok nmX2 0 rfl rfl 2 (by decide) k19 rfl rfl rfl rfl (Nat.le_of_ble_eq_true rfl) rfl dX2_step_246 (fun H locs hf => ?_)
            refine lv_aload_n hx hb dX2_step_249 rfl (lv_at hl 0 rfl) ?_
            refine lv_dup hx hb dX2_step_250 rfl ?_
            refine g_get (ci := 2) (C := RX2) (T := TX2) (N := 6) (v := .int (τ 1 2)) S hf hinX2 0 rfl rfl 4 (by decide) k25 rfl rfl dX2_step_251 ?_
            refine lv_iconst (v := 1) hx hb dX2_step_254 (by decide) ?_
            refine lv_iadd hx hb dX2_step_255 ?_
            refine g_put (ci := 2) (C := RX2) (T := TX2) (N := 6) (ww' := wT G ad (va_up τ 1 (upd (upd (upd (τ 1) 1 3) 3 ((τ 1 2) + 1)) 4 0))) S hf hinX2 tyX2 tyX2_ok nmX2 0 rfl rfl 4 (by decide) k25 rfl rfl rfl rfl (Nat.le_of_ble_eq_true rfl) rfl dX2_step_256 (fun H locs hf => ?_)
            have hE := Option.some.inj hF
            have hW := congrArg (fun z : K2 => wT G ad z) hE
            exact g_vret S hr hlocks hf hW dX2_step_259
        · replace hF := (if_neg c9).symm.trans hF
          refine lv_aload_n hx hb dX2_step_152 rfl (lv_at hl 0 rfl) ?_
          refine lv_iconst (v := 2) hx hb dX2_step_153 (by decide) ?_
          refine g_put (ci := 2) (C := RX2) (T := TX2) (N := 6) (ww' := wT G ad (va_up τ 1 (upd (upd (upd (τ 1) 1 2) 3 (τ 1 2)) 4 0))) S hf hinX2 tyX2 tyX2_ok nmX2 0 rfl rfl 2 (by decide) k19 rfl rfl rfl rfl (Nat.le_of_ble_eq_true rfl) rfl dX2_step_154 (fun H locs hf => ?_)
          exact hL157 1000 (va_up τ 1 (upd (upd (upd (τ 1) 1 2) 3 (τ 1 2)) 4 0)) _ _ _ hF hf (lv_sub hl [0] rfl)
      · replace hF := (if_neg c6).symm.trans hF
        refine lv_aload_n hx hb dX2_step_93 rfl (lv_at hl 0 rfl) ?_
        refine lv_iconst (v := 1) hx hb dX2_step_94 (by decide) ?_
        refine g_put (ci := 2) (C := RX2) (T := TX2) (N := 6) (ww' := wT G ad (va_up τ 1 (upd (upd (upd (τ 1) 1 1) 3 (τ 1 2)) 4 0))) S hf hinX2 tyX2 tyX2_ok nmX2 0 rfl rfl 2 (by decide) k19 rfl rfl rfl rfl (Nat.le_of_ble_eq_true rfl) rfl dX2_step_95 (fun H locs hf => ?_)
        exact hL98 1000 (va_up τ 1 (upd (upd (upd (τ 1) 1 1) 3 (τ 1 2)) 4 0)) _ _ _ hF hf (lv_sub hl [0] rfl)
    · replace hF := (if_neg c2).symm.trans hF
      refine lv_aload_n hx hb dX2_step_70 rfl (lv_at hl 0 rfl) ?_
      refine lv_iconst (v := 0) hx hb dX2_step_71 (by decide) ?_
      refine g_put (ci := 2) (C := RX2) (T := TX2) (N := 6) (ww' := wT G ad (va_up τ 1 (upd (upd (upd (τ 1) 1 0) 3 (τ 1 2)) 4 0))) S hf hinX2 tyX2 tyX2_ok nmX2 0 rfl rfl 2 (by decide) k19 rfl rfl rfl rfl (Nat.le_of_ble_eq_true rfl) rfl dX2_step_72 (fun H locs hf => ?_)
      refine lv_goto (tgt := 259) hx hb dX2_step_75 (by decide) ?_
      have hE := Option.some.inj hF
      have hW := congrArg (fun z : K2 => wT G ad z) hE
      exact g_vret S hr hlocks hf hW dX2_step_259
  have hL8 : ∀ (n : Nat) (τ : K2)  (H : Heap) (locs : List Loc) (ls : Array Slot), f_X2_step_L8 n τ = some q → Fr G (va_A (wT G ad τ0) s.heap.size) s (wT G ad τ) H locs → lv_has ls 1 [(0, .ref (ad 0))] → W p l e ({ frames := 1, cells := 0, slots := 0, locals := 21 } : Room) s m ([.ref (ad 0)] : List Value).toArray below meth c H locs 0 0 (MQ below (CPost G (wT G ad τ0) s.heap.size (none) (wT G ad q)) ([.ref (ad 0)] : List Value).toArray s 0 0 (va_A (wT G ad τ0) s.heap.size)) (F0 m 8 ls []) := by
    intro n
    induction n with
    | zero =>
      intro τ H locs ls hF hf hl
      exact absurd hF (by simp [f_X2_step_L8])
    | succ n ih8 =>
      intro τ H locs ls hF hf hl
      rw [f_X2_step_L8] at hF
      refine lv_aload_n hx hb dX2_step_8 rfl (lv_at hl 0 rfl) ?_
      refine g_get (ci := 2) (C := RX2) (T := TX2) (N := 6) (v := .int (τ 1 2)) S hf hinX2 0 rfl rfl 3 (by decide) k22 rfl rfl dX2_step_9 ?_
      refine lv_aload_n hx hb dX2_step_12 rfl (lv_at hl 0 rfl) ?_
      refine g_get (ci := 2) (C := RX2) (T := TX2) (N := 6) (v := .int (τ 1 0)) S hf hinX2 0 rfl rfl 1 (by decide) k15 rfl rfl dX2_step_13 ?_
      refine lv_icmp_ge (tgt := 46) hx hb dX2_step_16 (by decide) (fun c1 => ?_) (fun c1 => ?_)
      · replace hF := (if_pos c1).symm.trans hF
        exact hL46 τ _ _ _ hF hf (lv_sub hl [0] rfl)
      · replace hF := (if_neg c1).symm.trans hF
        refine lv_aload_n hx hb dX2_step_19 rfl (lv_at hl 0 rfl) ?_
        refine g_get (ci := 2) (C := RX2) (T := TX2) (N := 6) (v := .ref (ad 1)) S hf hinX2 0 rfl rfl 0 (by decide) k9 rfl rfl dX2_step_20 ?_
        refine lv_aload_n hx hb dX2_step_23 rfl (lv_at hl 0 rfl) ?_
        refine g_get (ci := 2) (C := RX2) (T := TX2) (N := 6) (v := .int (τ 1 2)) S hf hinX2 0 rfl rfl 3 (by decide) k22 rfl rfl dX2_step_24 ?_
        obtain ⟨g21, hF⟩ := gd_some hF
        refine g_ald (v := (τ 0) (τ 1 2).toNatClampNeg) S hf 1 rfl g21 rfl dX2_step_27 ?_
        refine lv_bipush (v := 32) hx hb dX2_step_28 (by decide) ?_
        refine lv_icmp_ne (tgt := 46) hx hb dX2_step_30 (by decide) (fun c22 => ?_) (fun c22 => ?_)
        · replace hF := (if_neg c22).symm.trans hF
          exact hL46 τ _ _ _ hF hf (lv_sub hl [0] rfl)
        · replace hF := (if_pos c22).symm.trans hF
          refine lv_aload_n hx hb dX2_step_33 rfl (lv_at hl 0 rfl) ?_
          refine lv_dup hx hb dX2_step_34 rfl ?_
          refine g_get (ci := 2) (C := RX2) (T := TX2) (N := 6) (v := .int (τ 1 2)) S hf hinX2 0 rfl rfl 3 (by decide) k22 rfl rfl dX2_step_35 ?_
          refine lv_iconst (v := 1) hx hb dX2_step_38 (by decide) ?_
          refine lv_iadd hx hb dX2_step_39 ?_
          refine g_put (ci := 2) (C := RX2) (T := TX2) (N := 6) (ww' := wT G ad (va_up τ 1 (upd (τ 1) 2 ((τ 1 2) + 1)))) S hf hinX2 tyX2 tyX2_ok nmX2 0 rfl rfl 3 (by decide) k22 rfl rfl rfl rfl (Nat.le_of_ble_eq_true rfl) rfl dX2_step_40 (fun H locs hf => ?_)
          refine lv_goto (tgt := 8) hx hb dX2_step_43 (by decide) ?_
          exact ih8 (va_up τ 1 (upd (τ 1) 2 ((τ 1 2) + 1))) _ _ _ hF hf (lv_sub hl [0] rfl)
  unfold f_X2_step at hF
  refine lv_aload_n hx hb dX2_step_0 rfl (lv_at hl 0 rfl) ?_
  refine lv_aload_n hx hb dX2_step_1 rfl (lv_at hl 0 rfl) ?_
  refine g_get (ci := 2) (C := RX2) (T := TX2) (N := 6) (v := .int (τ0 1 3)) S hf hinX2 0 rfl rfl 4 (by decide) k25 rfl rfl dX2_step_2 ?_
  refine g_put (ci := 2) (C := RX2) (T := TX2) (N := 6) (ww' := wT G ad (va_up τ0 1 (upd (τ0 1) 2 (τ0 1 3)))) S hf hinX2 tyX2 tyX2_ok nmX2 0 rfl rfl 3 (by decide) k22 rfl rfl rfl rfl (Nat.le_of_ble_eq_true rfl) rfl dX2_step_5 (fun H locs hf => ?_)
  exact hL8 1000 (va_up τ0 1 (upd (τ0 1) 2 (τ0 1 3))) _ _ _ hF hf (lv_sub hl [0] rfl)
def f_X2_wordOf (a0 : Int32) : Option (Nat) := if a0 = 1 then (some (1)) else (if a0 = 2 then (some (2)) else (if a0 = 3 then (some (3)) else (if a0 = 4 then (some (4)) else (if a0 = 5 then (some (5)) else (if a0 = 6 then (some (6)) else (some (0)))))))
set_option maxHeartbeats 4000000 in
set_option maxRecDepth 100000 in
theorem c_X2_wordOf (l : Launch) (G : GT)  (a0 : Int32) (q : Nat) (hF : f_X2_wordOf a0 = some q) : Ct l G yX2_wordOf wsX2_wordOf ({ frames := 0, cells := 0, slots := 0, locals := 0 } : Room) ([.int a0] : List Value) (([] : va_W)) (some (.ref (gk G q))) (([] : va_W)) := by
  refine Ct.of cX2_wordOf 1 (some (.object "java/lang/String")) (by decide) rfl (Nat.le_of_ble_eq_true rfl) ?_
  intro p e s m below meth c ls S hr hlocks hf hl
  have S : CallFix p m c cX2_wordOf 1 s ([.int a0] : List Value).toArray wsX2_wordOf RX2 := S
  obtain ⟨hx, hb, hml, hown, hts⟩ := id S
  have hl : lv_has ls 1 [(0, .int a0)] := hl
  unfold f_X2_wordOf at hF
  refine lv_iload_n hx hb dX2_wordOf_0 rfl (lv_at hl 0 rfl) ?_
  by_cases c1 : a0 = 1
  · replace hF := (if_pos c1).symm.trans hF
    refine lv_tableIn (tgt := 40) hx hb dX2_wordOf_1 (by rw [c1]; decide) (by rw [c1]; decide) (by rw [c1]; rfl) (by decide) ?_
    refine va_ldcS (q := gk G 1) (tx := "hen") (own := RX2) (index := 97) hx hb hown (hf.2.2.2.2.2.2.2.2.2.2 ("PigeonRolls$Tape", 97, "hen", 1) (by decide)) dX2_wordOf_40 ?_
    have hE := Option.some.inj hF
    have hV := congrArg (fun z : Nat => (.ref (gk G z) : Value)) hE
    exact g_aret S hr hlocks hf (Or.inr ⟨_, rfl⟩) hV rfl dX2_wordOf_42
  replace hF := (if_neg c1).symm.trans hF
  by_cases c2 : a0 = 2
  · replace hF := (if_pos c2).symm.trans hF
    refine lv_tableIn (tgt := 43) hx hb dX2_wordOf_1 (by rw [c2]; decide) (by rw [c2]; decide) (by rw [c2]; rfl) (by decide) ?_
    refine va_ldcS (q := gk G 2) (tx := "cock") (own := RX2) (index := 99) hx hb hown (hf.2.2.2.2.2.2.2.2.2.2 ("PigeonRolls$Tape", 99, "cock", 2) (by decide)) dX2_wordOf_43 ?_
    have hE := Option.some.inj hF
    have hV := congrArg (fun z : Nat => (.ref (gk G z) : Value)) hE
    exact g_aret S hr hlocks hf (Or.inr ⟨_, rfl⟩) hV rfl dX2_wordOf_45
  replace hF := (if_neg c2).symm.trans hF
  by_cases c3 : a0 = 3
  · replace hF := (if_pos c3).symm.trans hF
    refine lv_tableIn (tgt := 46) hx hb dX2_wordOf_1 (by rw [c3]; decide) (by rw [c3]; decide) (by rw [c3]; rfl) (by decide) ?_
    refine va_ldcS (q := gk G 3) (tx := "duke") (own := RX2) (index := 101) hx hb hown (hf.2.2.2.2.2.2.2.2.2.2 ("PigeonRolls$Tape", 101, "duke", 3) (by decide)) dX2_wordOf_46 ?_
    have hE := Option.some.inj hF
    have hV := congrArg (fun z : Nat => (.ref (gk G z) : Value)) hE
    exact g_aret S hr hlocks hf (Or.inr ⟨_, rfl⟩) hV rfl dX2_wordOf_48
  replace hF := (if_neg c3).symm.trans hF
  by_cases c4 : a0 = 4
  · replace hF := (if_pos c4).symm.trans hF
    refine lv_tableIn (tgt := 49) hx hb dX2_wordOf_1 (by rw [c4]; decide) (by rw [c4]; decide) (by rw [c4]; rfl) (by decide) ?_
    refine va_ldcS (q := gk G 4) (tx := "eagle") (own := RX2) (index := 103) hx hb hown (hf.2.2.2.2.2.2.2.2.2.2 ("PigeonRolls$Tape", 103, "eagle", 4) (by decide)) dX2_wordOf_49 ?_
    have hE := Option.some.inj hF
    have hV := congrArg (fun z : Nat => (.ref (gk G z) : Value)) hE
    exact g_aret S hr hlocks hf (Or.inr ⟨_, rfl⟩) hV rfl dX2_wordOf_51
  replace hF := (if_neg c4).symm.trans hF
  by_cases c5 : a0 = 5
  · replace hF := (if_pos c5).symm.trans hF
    refine lv_tableIn (tgt := 52) hx hb dX2_wordOf_1 (by rw [c5]; decide) (by rw [c5]; decide) (by rw [c5]; rfl) (by decide) ?_
    refine va_ldcS (q := gk G 5) (tx := "jackdaw") (own := RX2) (index := 105) hx hb hown (hf.2.2.2.2.2.2.2.2.2.2 ("PigeonRolls$Tape", 105, "jackdaw", 5) (by decide)) dX2_wordOf_52 ?_
    have hE := Option.some.inj hF
    have hV := congrArg (fun z : Nat => (.ref (gk G z) : Value)) hE
    exact g_aret S hr hlocks hf (Or.inr ⟨_, rfl⟩) hV rfl dX2_wordOf_54
  replace hF := (if_neg c5).symm.trans hF
  by_cases c6 : a0 = 6
  · replace hF := (if_pos c6).symm.trans hF
    refine lv_tableIn (tgt := 55) hx hb dX2_wordOf_1 (by rw [c6]; decide) (by rw [c6]; decide) (by rw [c6]; rfl) (by decide) ?_
    refine va_ldcS (q := gk G 6) (tx := "widow") (own := RX2) (index := 107) hx hb hown (hf.2.2.2.2.2.2.2.2.2.2 ("PigeonRolls$Tape", 107, "widow", 6) (by decide)) dX2_wordOf_55 ?_
    have hE := Option.some.inj hF
    have hV := congrArg (fun z : Nat => (.ref (gk G z) : Value)) hE
    exact g_aret S hr hlocks hf (Or.inr ⟨_, rfl⟩) hV rfl dX2_wordOf_57
  replace hF := (if_neg c6).symm.trans hF
  refine lv_tableOut (tgt := 58) hx hb dX2_wordOf_1 (by have t0 := lv_neT (a := 1) c1 (by decide); have t1 := lv_neT (a := 2) c2 (by decide); have t2 := lv_neT (a := 3) c3 (by decide); have t3 := lv_neT (a := 4) c4 (by decide); have t4 := lv_neT (a := 5) c5 (by decide); have t5 := lv_neT (a := 6) c6 (by decide); omega) (by decide) ?_
  refine va_ldcS (q := gk G 0) (tx := "bird") (own := RX2) (index := 109) hx hb hown (hf.2.2.2.2.2.2.2.2.2.2 ("PigeonRolls$Tape", 109, "bird", 0) (by decide)) dX2_wordOf_58 ?_
  have hE := Option.some.inj hF
  have hV := congrArg (fun z : Nat => (.ref (gk G z) : Value)) hE
  exact g_aret S hr hlocks hf (Or.inr ⟨_, rfl⟩) hV rfl dX2_wordOf_60
def f_X2_isWord_L28 (τ0 : K2) (a1 : Nat) : Nat → Int32 → Option (Int32)
  | 0, _ => none
  | n + 1, x2 => if (nI (slen a1)) ≤ x2 then (some (1)) else (if ix ((τ0 1 2) + x2) 120 then (if ix x2 (slen a1) then (if ((τ0 0) ((τ0 1 2) + x2).toNatClampNeg) = (sch a1 x2.toNatClampNeg) then (f_X2_isWord_L28 τ0 a1 n (x2 + 1)) else (some (0))) else none) else none)
def f_X2_isWord (τ0 : K2) (a1 : Nat) : Option (Int32) := if (τ0 1 1) = 1 then (if ((τ0 1 3) - (τ0 1 2)) = (nI (slen a1)) then (f_X2_isWord_L28 τ0 a1 1000 0) else (some (0))) else (some (0))
set_option maxHeartbeats 4000000 in
set_option maxRecDepth 100000 in
theorem c_X2_isWord (l : Launch) (G : GT) (ad : Nat → Nat) (τ0 : K2) (a1 : Nat) (q : Int32) (hF : f_X2_isWord τ0 a1 = some q) (h_a1 : a1 < 15) : Ct l G yX2_isWord wsX2_isWord ({ frames := 4, cells := 0, slots := 0, locals := 85 } : Room) ([.ref (ad 0), .ref (gk G a1)] : List Value) (wT G ad τ0) (some (.int q)) (wT G ad τ0) := by
  have k19 : Cond.fieldLink RX2 19 "PigeonRolls$Tape" "token" "I" ∈ wsX2_isWord := by decide +kernel
  have k25 : Cond.fieldLink RX2 25 "PigeonRolls$Tape" "behind" "I" ∈ wsX2_isWord := by decide +kernel
  have k22 : Cond.fieldLink RX2 22 "PigeonRolls$Tape" "at" "I" ∈ wsX2_isWord := by decide +kernel
  have k9 : Cond.fieldLink RX2 9 "PigeonRolls$Tape" "bytes" "[I" ∈ wsX2_isWord := by decide +kernel
  have hinX2 : ∀ w ∈ u_ws RX2 TX2 6, w ∈ wsX2_isWord := by decide +kernel
  refine Ct.of cX2_isWord 3 (some .boolean) (by decide) rfl (Nat.le_of_ble_eq_true rfl) ?_
  intro p e s m below meth c ls S hr hlocks hf hl
  have S : CallFix p m c cX2_isWord 3 s ([.ref (ad 0), .ref (gk G a1)] : List Value).toArray wsX2_isWord RX2 := S
  obtain ⟨hx, hb, hml, hown, hts⟩ := id S
  have hl : lv_has ls 3 [(0, .ref (ad 0)), (1, .ref (gk G a1))] := hl
  have hL28 : ∀ (n : Nat) (x2 : Int32)  (H : Heap) (locs : List Loc) (ls : Array Slot), f_X2_isWord_L28 τ0 a1 n x2 = some q → Fr G (va_A (wT G ad τ0) s.heap.size) s (wT G ad τ0) H locs → lv_has ls 3 [(0, .ref (ad 0)), (1, .ref (gk G a1)), (2, .int x2)] → W p l e ({ frames := 4, cells := 0, slots := 0, locals := 85 } : Room) s m ([.ref (ad 0), .ref (gk G a1)] : List Value).toArray below meth c H locs 0 0 (MQ below (CPost G (wT G ad τ0) s.heap.size (some (.int q)) (wT G ad τ0)) ([.ref (ad 0), .ref (gk G a1)] : List Value).toArray s 0 0 (va_A (wT G ad τ0) s.heap.size)) (F0 m 28 ls []) := by
    intro n
    induction n with
    | zero =>
      intro x2 H locs ls hF hf hl
      exact absurd hF (by simp [f_X2_isWord_L28])
    | succ n ih28 =>
      intro x2 H locs ls hF hf hl
      rw [f_X2_isWord_L28] at hF
      refine lv_iload_n hx hb dX2_isWord_28 rfl (lv_at hl 2 rfl) ?_
      refine lv_aload_n hx hb dX2_isWord_29 rfl (lv_at hl 1 rfl) ?_
      refine g_cstr (o := some (.int (nI (slen a1)))) (As := []) (rest := [.int x2]) (st1 := [.int (nI (slen a1)), .int x2]) (w := a1) S hf h_a1 (c_J0_length l G a1 h_a1) (cwV 0 hts gX2_isWord_J0_length_8abf5 rfl rfl rfl (by decide +kernel) ⟨Nat.le_of_ble_eq_true rfl, Nat.le_of_ble_eq_true rfl⟩) rfl hl.1 rfl rfl (Nat.le_of_ble_eq_true rfl) ⟨Nat.zero_le _, Nat.zero_le _⟩ dX2_isWord_30 (fun H locs hf => ?_)
      refine lv_icmp_ge (tgt := 63) hx hb dX2_isWord_33 (by decide) (fun c3 => ?_) (fun c3 => ?_)
      · replace hF := (if_pos c3).symm.trans hF
        refine lv_iconst (v := 1) hx hb dX2_isWord_63 (by decide) ?_
        have hE := Option.some.inj hF
        have hV := congrArg (fun z : Int32 => z) hE
        exact g_zret S hr hlocks hf (by decide) hV rfl dX2_isWord_64
      · replace hF := (if_neg c3).symm.trans hF
        refine lv_aload_n hx hb dX2_isWord_36 rfl (lv_at hl 0 rfl) ?_
        refine g_get (ci := 2) (C := RX2) (T := TX2) (N := 6) (v := .ref (ad 1)) S hf hinX2 0 rfl rfl 0 (by decide) k9 rfl rfl dX2_isWord_37 ?_
        refine lv_aload_n hx hb dX2_isWord_40 rfl (lv_at hl 0 rfl) ?_
        refine g_get (ci := 2) (C := RX2) (T := TX2) (N := 6) (v := .int (τ0 1 2)) S hf hinX2 0 rfl rfl 3 (by decide) k22 rfl rfl dX2_isWord_41 ?_
        refine lv_iload_n hx hb dX2_isWord_44 rfl (lv_at hl 2 rfl) ?_
        refine lv_iadd hx hb dX2_isWord_45 ?_
        obtain ⟨g4, hF⟩ := gd_some hF
        refine g_ald (v := (τ0 0) ((τ0 1 2) + x2).toNatClampNeg) S hf 1 rfl g4 rfl dX2_isWord_46 ?_
        refine lv_aload_n hx hb dX2_isWord_47 rfl (lv_at hl 1 rfl) ?_
        refine lv_iload_n hx hb dX2_isWord_48 rfl (lv_at hl 2 rfl) ?_
        obtain ⟨g5, hF⟩ := gd_some hF
        refine g_cstr (o := some (.int (sch a1 x2.toNatClampNeg))) (As := [.int x2]) (rest := [.int ((τ0 0) ((τ0 1 2) + x2).toNatClampNeg)]) (st1 := [.int (sch a1 x2.toNatClampNeg), .int ((τ0 0) ((τ0 1 2) + x2).toNatClampNeg)]) (w := a1) S hf h_a1 (c_J0_charAt l G a1 h_a1 x2 g5) (cwV 1 hts gX2_isWord_J0_charAt_5068e rfl rfl rfl (by decide +kernel) ⟨Nat.le_of_ble_eq_true rfl, Nat.le_of_ble_eq_true rfl⟩) rfl hl.1 rfl rfl (Nat.le_of_ble_eq_true rfl) ⟨Nat.zero_le _, Nat.zero_le _⟩ dX2_isWord_49 (fun H locs hf => ?_)
        refine lv_icmp_eq (tgt := 57) hx hb dX2_isWord_52 (by decide) (fun c6 => ?_) (fun c6 => ?_)
        · replace hF := (if_pos c6).symm.trans hF
          refine lv_iinc (v := x2 + 1) (lv' := [(2, .int (x2 + 1)), (0, .ref (ad 0)), (1, .ref (gk G a1))]) hx hb dX2_isWord_57 hl (k := 2) rfl rfl (by decide) rfl (fun ls hl => ?_)
          refine lv_goto (tgt := 28) hx hb dX2_isWord_60 (by decide) ?_
          exact ih28 (x2 + 1) _ _ _ hF hf (lv_sub hl [1, 2, 0] rfl)
        · replace hF := (if_neg c6).symm.trans hF
          refine lv_iconst (v := 0) hx hb dX2_isWord_55 (by decide) ?_
          have hE := Option.some.inj hF
          have hV := congrArg (fun z : Int32 => z) hE
          exact g_zret S hr hlocks hf (by decide) hV rfl dX2_isWord_56
  unfold f_X2_isWord at hF
  refine lv_aload_n hx hb dX2_isWord_0 rfl (lv_at hl 0 rfl) ?_
  refine g_get (ci := 2) (C := RX2) (T := TX2) (N := 6) (v := .int (τ0 1 1)) S hf hinX2 0 rfl rfl 2 (by decide) k19 rfl rfl dX2_isWord_1 ?_
  refine lv_iconst (v := 1) hx hb dX2_isWord_4 (by decide) ?_
  refine lv_icmp_ne (tgt := 24) hx hb dX2_isWord_5 (by decide) (fun c1 => ?_) (fun c1 => ?_)
  · replace hF := (if_neg c1).symm.trans hF
    refine lv_iconst (v := 0) hx hb dX2_isWord_24 (by decide) ?_
    have hE := Option.some.inj hF
    have hV := congrArg (fun z : Int32 => z) hE
    exact g_zret S hr hlocks hf (by decide) hV rfl dX2_isWord_25
  · replace hF := (if_pos c1).symm.trans hF
    refine lv_aload_n hx hb dX2_isWord_8 rfl (lv_at hl 0 rfl) ?_
    refine g_get (ci := 2) (C := RX2) (T := TX2) (N := 6) (v := .int (τ0 1 3)) S hf hinX2 0 rfl rfl 4 (by decide) k25 rfl rfl dX2_isWord_9 ?_
    refine lv_aload_n hx hb dX2_isWord_12 rfl (lv_at hl 0 rfl) ?_
    refine g_get (ci := 2) (C := RX2) (T := TX2) (N := 6) (v := .int (τ0 1 2)) S hf hinX2 0 rfl rfl 3 (by decide) k22 rfl rfl dX2_isWord_13 ?_
    refine lv_isub hx hb dX2_isWord_16 ?_
    refine lv_aload_n hx hb dX2_isWord_17 rfl (lv_at hl 1 rfl) ?_
    refine g_cstr (o := some (.int (nI (slen a1)))) (As := []) (rest := [.int ((τ0 1 3) - (τ0 1 2))]) (st1 := [.int (nI (slen a1)), .int ((τ0 1 3) - (τ0 1 2))]) (w := a1) S hf h_a1 (c_J0_length l G a1 h_a1) (cwV 0 hts gX2_isWord_J0_length_8abf5 rfl rfl rfl (by decide +kernel) ⟨Nat.le_of_ble_eq_true rfl, Nat.le_of_ble_eq_true rfl⟩) rfl hl.1 rfl rfl (Nat.le_of_ble_eq_true rfl) ⟨Nat.zero_le _, Nat.zero_le _⟩ dX2_isWord_18 (fun H locs hf => ?_)
    refine lv_icmp_eq (tgt := 26) hx hb dX2_isWord_21 (by decide) (fun c2 => ?_) (fun c2 => ?_)
    · replace hF := (if_pos c2).symm.trans hF
      refine lv_iconst (v := 0) hx hb dX2_isWord_26 (by decide) ?_
      refine lv_istore_n (lv' := [(2, .int 0), (0, .ref (ad 0)), (1, .ref (gk G a1))]) hx hb dX2_isWord_27 rfl hl (by decide) rfl (fun ls hl => ?_)
      exact hL28 1000 0 _ _ _ hF hf (lv_sub hl [1, 2, 0] rfl)
    · replace hF := (if_neg c2).symm.trans hF
      refine lv_iconst (v := 0) hx hb dX2_isWord_24 (by decide) ?_
      have hE := Option.some.inj hF
      have hV := congrArg (fun z : Int32 => z) hE
      exact g_zret S hr hlocks hf (by decide) hV rfl dX2_isWord_25
def f_X2_kindAtHand_L2 (τ0 : K2) : Nat → Int32 → Option (Int32)
  | 0, _ => none
  | n + 1, x1 => if 7 ≤ x1 then (some ((-1))) else (Option.bind (f_X2_wordOf x1) (fun q2 => if q2 < 15 then (Option.bind (f_X2_isWord τ0 q2) (fun q5 => if q5 = 0 then (f_X2_kindAtHand_L2 τ0 n (x1 + 1)) else (some (x1)))) else none))
def f_X2_kindAtHand (τ0 : K2) : Option (Int32) := f_X2_kindAtHand_L2 τ0 1000 0
set_option maxHeartbeats 4000000 in
set_option maxRecDepth 100000 in
theorem c_X2_kindAtHand (l : Launch) (G : GT) (ad : Nat → Nat) (τ0 : K2) (q : Int32) (hF : f_X2_kindAtHand τ0 = some q) : Ct l G yX2_kindAtHand wsX2_kindAtHand ({ frames := 5, cells := 0, slots := 0, locals := 107 } : Room) ([.ref (ad 0)] : List Value) (wT G ad τ0) (some (.int q)) (wT G ad τ0) := by
  refine Ct.of cX2_kindAtHand 2 (some .int) (by decide) rfl (Nat.le_of_ble_eq_true rfl) ?_
  intro p e s m below meth c ls S hr hlocks hf hl
  have S : CallFix p m c cX2_kindAtHand 2 s ([.ref (ad 0)] : List Value).toArray wsX2_kindAtHand RX2 := S
  obtain ⟨hx, hb, hml, hown, hts⟩ := id S
  have hl : lv_has ls 2 [(0, .ref (ad 0))] := hl
  have hL2 : ∀ (n : Nat) (x1 : Int32)  (H : Heap) (locs : List Loc) (ls : Array Slot), f_X2_kindAtHand_L2 τ0 n x1 = some q → Fr G (va_A (wT G ad τ0) s.heap.size) s (wT G ad τ0) H locs → lv_has ls 2 [(0, .ref (ad 0)), (1, .int x1)] → W p l e ({ frames := 5, cells := 0, slots := 0, locals := 107 } : Room) s m ([.ref (ad 0)] : List Value).toArray below meth c H locs 0 0 (MQ below (CPost G (wT G ad τ0) s.heap.size (some (.int q)) (wT G ad τ0)) ([.ref (ad 0)] : List Value).toArray s 0 0 (va_A (wT G ad τ0) s.heap.size)) (F0 m 2 ls []) := by
    intro n
    induction n with
    | zero =>
      intro x1 H locs ls hF hf hl
      exact absurd hF (by simp [f_X2_kindAtHand_L2])
    | succ n ih2 =>
      intro x1 H locs ls hF hf hl
      rw [f_X2_kindAtHand_L2] at hF
      refine lv_iload_n hx hb dX2_kindAtHand_2 rfl (lv_at hl 1 rfl) ?_
      refine lv_bipush (v := 7) hx hb dX2_kindAtHand_3 (by decide) ?_
      refine lv_icmp_ge (tgt := 27) hx hb dX2_kindAtHand_5 (by decide) (fun c1 => ?_) (fun c1 => ?_)
      · replace hF := (if_pos c1).symm.trans hF
        refine lv_iconst (v := -1) hx hb dX2_kindAtHand_27 (by decide) ?_
        have hE := Option.some.inj hF
        have hV := congrArg (fun z : Int32 => z) hE
        exact g_iret S hr hlocks hf hV rfl dX2_kindAtHand_28
      · replace hF := (if_neg c1).symm.trans hF
        refine lv_aload_n hx hb dX2_kindAtHand_8 rfl (lv_at hl 0 rfl) ?_
        refine lv_iload_n hx hb dX2_kindAtHand_9 rfl (lv_at hl 1 rfl) ?_
        obtain ⟨q2, h3, hF⟩ := Option.bind_eq_some_iff.mp hF
        obtain ⟨lt4, hF⟩ := gd_some hF
        refine g_cs0 (o := some (.ref (gk G q2))) (As := [.int x1]) (rest := [.ref (ad 0)]) (st1 := [.ref (gk G q2), .ref (ad 0)]) S hf (c_X2_wordOf l G  x1 q2 h3) (va_cwS 1 hts gX2_kindAtHand_X2_wordOf rfl rfl rfl (by decide +kernel) ⟨Nat.le_of_ble_eq_true rfl, Nat.le_of_ble_eq_true rfl⟩) rfl hl.1 rfl rfl (Nat.le_of_ble_eq_true rfl) ⟨Nat.zero_le _, Nat.zero_le _⟩ dX2_kindAtHand_10 (fun H locs hf => ?_)
        obtain ⟨q5, h6, hF⟩ := Option.bind_eq_some_iff.mp hF
        refine g_cv0 (o := some (.int q5)) (As := [.ref (gk G q2)]) (rest := []) (st1 := [.int q5]) (ci := 2) S hf (c_X2_isWord l G ad τ0 q2 q5 h6 lt4) (cwV 1 hts gX2_kindAtHand_X2_isWord rfl rfl rfl (by decide +kernel) ⟨Nat.le_of_ble_eq_true rfl, Nat.le_of_ble_eq_true rfl⟩) rfl rfl rfl 0 rfl rfl hl.1 rfl rfl (Nat.le_of_ble_eq_true rfl) ⟨Nat.zero_le _, Nat.zero_le _⟩ dX2_kindAtHand_13 (fun H locs hf => ?_)
        have hf : Fr G (va_A (wT G ad τ0) s.heap.size) s (wT G ad τ0) H locs := hf
        refine lv_if_eq (tgt := 21) hx hb dX2_kindAtHand_16 (by decide) (fun c7 => ?_) (fun c7 => ?_)
        · replace hF := (if_pos c7).symm.trans hF
          refine lv_iinc (v := x1 + 1) (lv' := [(1, .int (x1 + 1)), (0, .ref (ad 0))]) hx hb dX2_kindAtHand_21 hl (k := 1) rfl rfl (by decide) rfl (fun ls hl => ?_)
          refine lv_goto (tgt := 2) hx hb dX2_kindAtHand_24 (by decide) ?_
          exact ih2 (x1 + 1) _ _ _ hF hf (lv_sub hl [1, 0] rfl)
        · replace hF := (if_neg c7).symm.trans hF
          refine lv_iload_n hx hb dX2_kindAtHand_19 rfl (lv_at hl 1 rfl) ?_
          have hE := Option.some.inj hF
          have hV := congrArg (fun z : Int32 => z) hE
          exact g_iret S hr hlocks hf hV rfl dX2_kindAtHand_20
  unfold f_X2_kindAtHand at hF
  refine lv_iconst (v := 0) hx hb dX2_kindAtHand_0 (by decide) ?_
  refine lv_istore_n (lv' := [(1, .int 0), (0, .ref (ad 0))]) hx hb dX2_kindAtHand_1 rfl hl (by decide) rfl (fun ls hl => ?_)
  exact hL2 1000 0 _ _ _ hF hf (lv_sub hl [1, 0] rfl)
def f_X2_tookWord (τ0 : K2) (a1 : Nat) : Option (Int32 × K2) := Option.bind (f_X2_isWord τ0 a1) (fun q1 => if q1 = 0 then (some (0, τ0)) else (Option.bind (f_X2_step τ0) (fun q4 => some (1, q4))))
set_option maxHeartbeats 4000000 in
set_option maxRecDepth 100000 in
theorem c_X2_tookWord (l : Launch) (G : GT) (ad : Nat → Nat) (τ0 : K2) (a1 : Nat) (q : Int32 × K2) (hF : f_X2_tookWord τ0 a1 = some q) (h_a1 : a1 < 15) : Ct l G yX2_tookWord wsX2_tookWord ({ frames := 5, cells := 0, slots := 0, locals := 107 } : Room) ([.ref (ad 0), .ref (gk G a1)] : List Value) (wT G ad τ0) (some (.int q.1)) (wT G ad q.2) := by
  refine Ct.of cX2_tookWord 2 (some .boolean) (by decide) rfl (Nat.le_of_ble_eq_true rfl) ?_
  intro p e s m below meth c ls S hr hlocks hf hl
  have S : CallFix p m c cX2_tookWord 2 s ([.ref (ad 0), .ref (gk G a1)] : List Value).toArray wsX2_tookWord RX2 := S
  obtain ⟨hx, hb, hml, hown, hts⟩ := id S
  have hl : lv_has ls 2 [(0, .ref (ad 0)), (1, .ref (gk G a1))] := hl
  unfold f_X2_tookWord at hF
  refine lv_aload_n hx hb dX2_tookWord_0 rfl (lv_at hl 0 rfl) ?_
  refine lv_aload_n hx hb dX2_tookWord_1 rfl (lv_at hl 1 rfl) ?_
  obtain ⟨q1, h2, hF⟩ := Option.bind_eq_some_iff.mp hF
  refine g_cv0 (o := some (.int q1)) (As := [.ref (gk G a1)]) (rest := []) (st1 := [.int q1]) (ci := 2) S hf (c_X2_isWord l G ad τ0 a1 q1 h2 h_a1) (cwV 1 hts gX2_tookWord_X2_isWord rfl rfl rfl (by decide +kernel) ⟨Nat.le_of_ble_eq_true rfl, Nat.le_of_ble_eq_true rfl⟩) rfl rfl rfl 0 rfl rfl hl.1 rfl rfl (Nat.le_of_ble_eq_true rfl) ⟨Nat.zero_le _, Nat.zero_le _⟩ dX2_tookWord_2 (fun H locs hf => ?_)
  have hf : Fr G (va_A (wT G ad τ0) s.heap.size) s (wT G ad τ0) H locs := hf
  refine lv_if_ne (tgt := 10) hx hb dX2_tookWord_5 (by decide) (fun c3 => ?_) (fun c3 => ?_)
  · replace hF := (if_neg c3).symm.trans hF
    refine lv_aload_n hx hb dX2_tookWord_10 rfl (lv_at hl 0 rfl) ?_
    obtain ⟨q4, h5, hF⟩ := Option.bind_eq_some_iff.mp hF
    refine g_cv0 (o := none) (As := []) (rest := []) (st1 := []) (ci := 2) S hf (c_X2_step l G ad τ0 q4 h5) (cwV 0 hts gX2_tookWord_X2_step rfl rfl rfl (by decide +kernel) ⟨Nat.le_of_ble_eq_true rfl, Nat.le_of_ble_eq_true rfl⟩) rfl rfl rfl 0 rfl rfl hl.1 rfl rfl (Nat.le_of_ble_eq_true rfl) ⟨Nat.zero_le _, Nat.zero_le _⟩ dX2_tookWord_11 (fun H locs hf => ?_)
    have hf : Fr G (va_A (wT G ad τ0) s.heap.size) s (wT G ad q4) H locs := hf
    refine lv_iconst (v := 1) hx hb dX2_tookWord_14 (by decide) ?_
    have hE := Option.some.inj hF
    have hV := congrArg (fun z : Int32 × K2 => z.1) hE
    have hW := congrArg (fun z : Int32 × K2 => wT G ad z.2) hE
    exact g_zret S hr hlocks hf (by decide) hV hW dX2_tookWord_15
  · replace hF := (if_pos c3).symm.trans hF
    refine lv_iconst (v := 0) hx hb dX2_tookWord_8 (by decide) ?_
    have hE := Option.some.inj hF
    have hV := congrArg (fun z : Int32 × K2 => z.1) hE
    have hW := congrArg (fun z : Int32 × K2 => wT G ad z.2) hE
    exact g_zret S hr hlocks hf (by decide) hV hW dX2_tookWord_9
def f_X2_takeNumber (τ0 : K2) (a1 : Int32) : Option (Int32 × K2) := if (τ0 1 1) = 2 then (if (τ0 1 4) ≤ a1 then (Option.bind (f_X2_step τ0) (fun q3 => some (τ0 1 4, q3))) else (some ((-2), τ0))) else (some ((-2), τ0))
set_option maxHeartbeats 4000000 in
set_option maxRecDepth 100000 in
theorem c_X2_takeNumber (l : Launch) (G : GT) (ad : Nat → Nat) (τ0 : K2) (a1 : Int32) (q : Int32 × K2) (hF : f_X2_takeNumber τ0 a1 = some q) : Ct l G yX2_takeNumber wsX2_takeNumber ({ frames := 2, cells := 0, slots := 0, locals := 41 } : Room) ([.ref (ad 0), .int a1] : List Value) (wT G ad τ0) (some (.int q.1)) (wT G ad q.2) := by
  have k19 : Cond.fieldLink RX2 19 "PigeonRolls$Tape" "token" "I" ∈ wsX2_takeNumber := by decide +kernel
  have k28 : Cond.fieldLink RX2 28 "PigeonRolls$Tape" "value" "I" ∈ wsX2_takeNumber := by decide +kernel
  have hinX2 : ∀ w ∈ u_ws RX2 TX2 6, w ∈ wsX2_takeNumber := by decide +kernel
  refine Ct.of cX2_takeNumber 3 (some .int) (by decide) rfl (Nat.le_of_ble_eq_true rfl) ?_
  intro p e s m below meth c ls S hr hlocks hf hl
  have S : CallFix p m c cX2_takeNumber 3 s ([.ref (ad 0), .int a1] : List Value).toArray wsX2_takeNumber RX2 := S
  obtain ⟨hx, hb, hml, hown, hts⟩ := id S
  have hl : lv_has ls 3 [(0, .ref (ad 0)), (1, .int a1)] := hl
  unfold f_X2_takeNumber at hF
  refine lv_aload_n hx hb dX2_takeNumber_0 rfl (lv_at hl 0 rfl) ?_
  refine g_get (ci := 2) (C := RX2) (T := TX2) (N := 6) (v := .int (τ0 1 1)) S hf hinX2 0 rfl rfl 2 (by decide) k19 rfl rfl dX2_takeNumber_1 ?_
  refine lv_iconst (v := 2) hx hb dX2_takeNumber_4 (by decide) ?_
  refine lv_icmp_ne (tgt := 16) hx hb dX2_takeNumber_5 (by decide) (fun c1 => ?_) (fun c1 => ?_)
  · replace hF := (if_neg c1).symm.trans hF
    refine lv_bipush (v := -2) hx hb dX2_takeNumber_16 (by decide) ?_
    have hE := Option.some.inj hF
    have hV := congrArg (fun z : Int32 × K2 => z.1) hE
    have hW := congrArg (fun z : Int32 × K2 => wT G ad z.2) hE
    exact g_iret S hr hlocks hf hV hW dX2_takeNumber_18
  · replace hF := (if_pos c1).symm.trans hF
    refine lv_aload_n hx hb dX2_takeNumber_8 rfl (lv_at hl 0 rfl) ?_
    refine g_get (ci := 2) (C := RX2) (T := TX2) (N := 6) (v := .int (τ0 1 4)) S hf hinX2 0 rfl rfl 5 (by decide) k28 rfl rfl dX2_takeNumber_9 ?_
    refine lv_iload_n hx hb dX2_takeNumber_12 rfl (lv_at hl 1 rfl) ?_
    refine lv_icmp_le (tgt := 19) hx hb dX2_takeNumber_13 (by decide) (fun c2 => ?_) (fun c2 => ?_)
    · replace hF := (if_pos c2).symm.trans hF
      refine lv_aload_n hx hb dX2_takeNumber_19 rfl (lv_at hl 0 rfl) ?_
      refine g_get (ci := 2) (C := RX2) (T := TX2) (N := 6) (v := .int (τ0 1 4)) S hf hinX2 0 rfl rfl 5 (by decide) k28 rfl rfl dX2_takeNumber_20 ?_
      refine lv_istore_n (lv' := [(2, .int (τ0 1 4)), (0, .ref (ad 0)), (1, .int a1)]) hx hb dX2_takeNumber_23 rfl hl (by decide) rfl (fun ls hl => ?_)
      refine lv_aload_n hx hb dX2_takeNumber_24 rfl (lv_at hl 1 rfl) ?_
      obtain ⟨q3, h4, hF⟩ := Option.bind_eq_some_iff.mp hF
      refine g_cv0 (o := none) (As := []) (rest := []) (st1 := []) (ci := 2) S hf (c_X2_step l G ad τ0 q3 h4) (cwV 0 hts gX2_takeNumber_X2_step rfl rfl rfl (by decide +kernel) ⟨Nat.le_of_ble_eq_true rfl, Nat.le_of_ble_eq_true rfl⟩) rfl rfl rfl 0 rfl rfl hl.1 rfl rfl (Nat.le_of_ble_eq_true rfl) ⟨Nat.zero_le _, Nat.zero_le _⟩ dX2_takeNumber_25 (fun H locs hf => ?_)
      have hf : Fr G (va_A (wT G ad τ0) s.heap.size) s (wT G ad q3) H locs := hf
      refine lv_iload_n hx hb dX2_takeNumber_28 rfl (lv_at hl 0 rfl) ?_
      have hE := Option.some.inj hF
      have hV := congrArg (fun z : Int32 × K2 => z.1) hE
      have hW := congrArg (fun z : Int32 × K2 => wT G ad z.2) hE
      exact g_iret S hr hlocks hf hV hW dX2_takeNumber_29
    · replace hF := (if_neg c2).symm.trans hF
      refine lv_bipush (v := -2) hx hb dX2_takeNumber_16 (by decide) ?_
      have hE := Option.some.inj hF
      have hV := congrArg (fun z : Int32 × K2 => z.1) hE
      have hW := congrArg (fun z : Int32 × K2 => wT G ad z.2) hE
      exact g_iret S hr hlocks hf hV hW dX2_takeNumber_18
def f_X2_takeOptional (τ0 : K2) (a1 : Nat) (a2 : Int32) (a3 : Int32) : Option (Int32 × K2) := Option.bind (f_X2_tookWord τ0 a1) (fun q1 => if q1.1 = 0 then (some (a3, q1.2)) else (Option.bind (f_X2_takeNumber q1.2 a2) (fun q4 => some (q4.1, q4.2))))
set_option maxHeartbeats 4000000 in
set_option maxRecDepth 100000 in
theorem c_X2_takeOptional (l : Launch) (G : GT) (ad : Nat → Nat) (τ0 : K2) (a1 : Nat) (a2 : Int32) (a3 : Int32) (q : Int32 × K2) (hF : f_X2_takeOptional τ0 a1 a2 a3 = some q) (h_a1 : a1 < 15) : Ct l G yX2_takeOptional wsX2_takeOptional ({ frames := 6, cells := 0, slots := 0, locals := 128 } : Room) ([.ref (ad 0), .ref (gk G a1), .int a2, .int a3] : List Value) (wT G ad τ0) (some (.int q.1)) (wT G ad q.2) := by
  refine Ct.of cX2_takeOptional 4 (some .int) (by decide) rfl (Nat.le_of_ble_eq_true rfl) ?_
  intro p e s m below meth c ls S hr hlocks hf hl
  have S : CallFix p m c cX2_takeOptional 4 s ([.ref (ad 0), .ref (gk G a1), .int a2, .int a3] : List Value).toArray wsX2_takeOptional RX2 := S
  obtain ⟨hx, hb, hml, hown, hts⟩ := id S
  have hl : lv_has ls 4 [(0, .ref (ad 0)), (1, .ref (gk G a1)), (2, .int a2), (3, .int a3)] := hl
  unfold f_X2_takeOptional at hF
  refine lv_aload_n hx hb dX2_takeOptional_0 rfl (lv_at hl 0 rfl) ?_
  refine lv_aload_n hx hb dX2_takeOptional_1 rfl (lv_at hl 1 rfl) ?_
  obtain ⟨q1, h2, hF⟩ := Option.bind_eq_some_iff.mp hF
  refine g_cv0 (o := some (.int q1.1)) (As := [.ref (gk G a1)]) (rest := []) (st1 := [.int q1.1]) (ci := 2) S hf (c_X2_tookWord l G ad τ0 a1 q1 h2 h_a1) (cwV 1 hts gX2_takeOptional_X2_tookWord rfl rfl rfl (by decide +kernel) ⟨Nat.le_of_ble_eq_true rfl, Nat.le_of_ble_eq_true rfl⟩) rfl rfl rfl 0 rfl rfl hl.1 rfl rfl (Nat.le_of_ble_eq_true rfl) ⟨Nat.zero_le _, Nat.zero_le _⟩ dX2_takeOptional_2 (fun H locs hf => ?_)
  have hf : Fr G (va_A (wT G ad τ0) s.heap.size) s (wT G ad q1.2) H locs := hf
  refine lv_if_eq (tgt := 16) hx hb dX2_takeOptional_5 (by decide) (fun c3 => ?_) (fun c3 => ?_)
  · replace hF := (if_pos c3).symm.trans hF
    refine lv_iload_n hx hb dX2_takeOptional_16 rfl (lv_at hl 3 rfl) ?_
    have hE := Option.some.inj hF
    have hV := congrArg (fun z : Int32 × K2 => z.1) hE
    have hW := congrArg (fun z : Int32 × K2 => wT G ad z.2) hE
    exact g_iret S hr hlocks hf hV hW dX2_takeOptional_17
  · replace hF := (if_neg c3).symm.trans hF
    refine lv_aload_n hx hb dX2_takeOptional_8 rfl (lv_at hl 0 rfl) ?_
    refine lv_iload_n hx hb dX2_takeOptional_9 rfl (lv_at hl 2 rfl) ?_
    obtain ⟨q4, h5, hF⟩ := Option.bind_eq_some_iff.mp hF
    refine g_cv0 (o := some (.int q4.1)) (As := [.int a2]) (rest := []) (st1 := [.int q4.1]) (ci := 2) S hf (c_X2_takeNumber l G ad q1.2 a2 q4 h5) (cwV 1 hts gX2_takeOptional_X2_takeNumber rfl rfl rfl (by decide +kernel) ⟨Nat.le_of_ble_eq_true rfl, Nat.le_of_ble_eq_true rfl⟩) rfl rfl rfl 0 rfl rfl hl.1 rfl rfl (Nat.le_of_ble_eq_true rfl) ⟨Nat.zero_le _, Nat.zero_le _⟩ dX2_takeOptional_10 (fun H locs hf => ?_)
    have hf : Fr G (va_A (wT G ad τ0) s.heap.size) s (wT G ad q4.2) H locs := hf
    refine lv_goto (tgt := 17) hx hb dX2_takeOptional_13 (by decide) ?_
    have hE := Option.some.inj hF
    have hV := congrArg (fun z : Int32 × K2 => z.1) hE
    have hW := congrArg (fun z : Int32 × K2 => wT G ad z.2) hE
    exact g_iret S hr hlocks hf hV hW dX2_takeOptional_17
def f_X2_readBird (τ0 : K2) (σ0 : K2) (a2 : Int32) : Option (Int32 × K2 × K2) := Option.bind (f_X0_isFull σ0) (fun q1 => if q1 = 0 then (Option.bind (f_X2_step τ0) (fun q4 => Option.bind (f_X2_takeOptional q4 7 5 0) (fun q6 => if q6.1 = (-2) then (some (0, q6.2, σ0)) else (Option.bind (f_X2_takeOptional q6.2 8 ((σ0 11 3) - 1) (-1)) (fun q9 => if q9.1 = (-2) then (some (0, q9.2, σ0)) else (Option.bind (f_X2_takeOptional q9.2 9 9999 0) (fun q12 => if q12.1 = (-2) then (some (0, q12.2, σ0)) else (Option.bind (f_X0_add σ0 a2 q6.1 q9.1) (fun q15 => if ix q15.1 8 then (Option.bind (f_X2_tookWord q12.2 10) (fun q18 => if q18.1 = 0 then (Option.bind (f_X2_tookWord q18.2 11) (fun q21 => if q21.1 = 0 then (some (1, q21.2, va_up (va_up (va_up q15.2 3 (upd (q15.2 3) q15.1.toNatClampNeg q12.1)) 4 (upd (q15.2 4) q15.1.toNatClampNeg 0)) 5 (upd (q15.2 5) q15.1.toNatClampNeg 0))) else (some (1, q21.2, va_up (va_up (va_up q15.2 3 (upd (q15.2 3) q15.1.toNatClampNeg q12.1)) 4 (upd (q15.2 4) q15.1.toNatClampNeg 0)) 5 (upd (q15.2 5) q15.1.toNatClampNeg 1))))) else (Option.bind (f_X2_tookWord q18.2 11) (fun q24 => if q24.1 = 0 then (some (1, q24.2, va_up (va_up (va_up q15.2 3 (upd (q15.2 3) q15.1.toNatClampNeg q12.1)) 4 (upd (q15.2 4) q15.1.toNatClampNeg 1)) 5 (upd (q15.2 5) q15.1.toNatClampNeg 0))) else (some (1, q24.2, va_up (va_up (va_up q15.2 3 (upd (q15.2 3) q15.1.toNatClampNeg q12.1)) 4 (upd (q15.2 4) q15.1.toNatClampNeg 1)) 5 (upd (q15.2 5) q15.1.toNatClampNeg 1))))))) else none))))))))) else (some (0, τ0, σ0)))
set_option maxHeartbeats 4000000 in
set_option maxRecDepth 100000 in
theorem c_X2_readBird (l : Launch) (G : GT) (ad ad2 : Nat → Nat) (τ0 : K2) (σ0 : K2) (a2 : Int32) (q : Int32 × K2 × K2) (hF : f_X2_readBird τ0 σ0 a2 = some q) : Ct l G yX2_readBird wsX2_readBird ({ frames := 7, cells := 0, slots := 0, locals := 151 } : Room) ([.ref (ad 0), .ref (ad2 0), .int a2] : List Value) (wK G ad2 σ0 ++ wT G ad τ0) (some (.int q.1)) (wK G ad2 q.2.2 ++ wT G ad q.2.1) := by
  have k125 : Cond.fieldLink RX2 125 "PigeonRolls$Kingdom" "birds" "I" ∈ wsX2_readBird := by decide +kernel
  have k134 : Cond.fieldLink RX2 134 "PigeonRolls$Kingdom" "age" "[I" ∈ wsX2_readBird := by decide +kernel
  have k137 : Cond.fieldLink RX2 137 "PigeonRolls$Kingdom" "carried" "[I" ∈ wsX2_readBird := by decide +kernel
  have k141 : Cond.fieldLink RX2 141 "PigeonRolls$Kingdom" "boy" "[I" ∈ wsX2_readBird := by decide +kernel
  have hinX0 : ∀ w ∈ u_ws RX0 TX0 16, w ∈ wsX2_readBird := by decide +kernel
  refine Ct.of cX2_readBird 7 (some .boolean) (by decide) rfl (Nat.le_of_ble_eq_true rfl) ?_
  intro p e s m below meth c ls S hr hlocks hf hl
  have S : CallFix p m c cX2_readBird 7 s ([.ref (ad 0), .ref (ad2 0), .int a2] : List Value).toArray wsX2_readBird RX2 := S
  obtain ⟨hx, hb, hml, hown, hts⟩ := id S
  have hl : lv_has ls 7 [(0, .ref (ad 0)), (1, .ref (ad2 0)), (2, .int a2)] := hl
  unfold f_X2_readBird at hF
  refine lv_aload_n hx hb dX2_readBird_0 rfl (lv_at hl 1 rfl) ?_
  obtain ⟨q1, h2, hF⟩ := Option.bind_eq_some_iff.mp hF
  refine g_cv (o := some (.int q1)) (As := []) (rest := []) (st1 := [.int q1]) (ci := 0) (a := List.take 0 (wK G ad2 σ0 ++ wT G ad τ0)) (b := List.drop 13 (wK G ad2 σ0 ++ wT G ad τ0)) S hf (c_X0_isFull l G ad2 σ0 q1 h2) (cwV 0 hts gX2_readBird_X0_isFull rfl rfl rfl (by decide +kernel) ⟨Nat.le_of_ble_eq_true rfl, Nat.le_of_ble_eq_true rfl⟩) rfl rfl rfl rfl 0 rfl rfl hl.1 rfl rfl (Nat.le_of_ble_eq_true rfl) ⟨Nat.zero_le _, Nat.zero_le _⟩ dX2_readBird_1 (fun H locs hf => ?_)
  have hf : Fr G (va_A (wK G ad2 σ0 ++ wT G ad τ0) s.heap.size) s (wK G ad2 σ0 ++ wT G ad τ0) H locs := hf
  refine lv_if_eq (tgt := 9) hx hb dX2_readBird_4 (by decide) (fun c3 => ?_) (fun c3 => ?_)
  · replace hF := (if_pos c3).symm.trans hF
    refine lv_aload_n hx hb dX2_readBird_9 rfl (lv_at hl 0 rfl) ?_
    obtain ⟨q4, h5, hF⟩ := Option.bind_eq_some_iff.mp hF
    refine g_cv (o := none) (As := []) (rest := []) (st1 := []) (ci := 2) (a := List.take 13 (wK G ad2 σ0 ++ wT G ad τ0)) (b := List.drop 15 (wK G ad2 σ0 ++ wT G ad τ0)) S hf (c_X2_step l G ad τ0 q4 h5) (cwV 0 hts gX2_readBird_X2_step rfl rfl rfl (by decide +kernel) ⟨Nat.le_of_ble_eq_true rfl, Nat.le_of_ble_eq_true rfl⟩) rfl rfl rfl rfl 0 rfl rfl hl.1 rfl rfl (Nat.le_of_ble_eq_true rfl) ⟨Nat.zero_le _, Nat.zero_le _⟩ dX2_readBird_10 (fun H locs hf => ?_)
    have hf : Fr G (va_A (wK G ad2 σ0 ++ wT G ad τ0) s.heap.size) s (wK G ad2 σ0 ++ wT G ad q4) H locs := hf
    refine lv_aload_n hx hb dX2_readBird_13 rfl (lv_at hl 0 rfl) ?_
    refine va_ldcS (q := gk G 7) (tx := "loft") (own := RX2) (index := 117) hx hb hown (hf.2.2.2.2.2.2.2.2.2.2 ("PigeonRolls$Tape", 117, "loft", 7) (by decide)) dX2_readBird_14 ?_
    refine lv_iconst (v := 5) hx hb dX2_readBird_16 (by decide) ?_
    refine lv_iconst (v := 0) hx hb dX2_readBird_17 (by decide) ?_
    obtain ⟨q6, h7, hF⟩ := Option.bind_eq_some_iff.mp hF
    refine g_cv (o := some (.int q6.1)) (As := [.ref (gk G 7), .int 5, .int 0]) (rest := []) (st1 := [.int q6.1]) (ci := 2) (a := List.take 13 (wK G ad2 σ0 ++ wT G ad q4)) (b := List.drop 15 (wK G ad2 σ0 ++ wT G ad q4)) S hf (c_X2_takeOptional l G ad q4 7 5 0 q6 h7 (by decide)) (cwV 3 hts gX2_readBird_X2_takeOptional rfl rfl rfl (by decide +kernel) ⟨Nat.le_of_ble_eq_true rfl, Nat.le_of_ble_eq_true rfl⟩) rfl rfl rfl rfl 0 rfl rfl hl.1 rfl rfl (Nat.le_of_ble_eq_true rfl) ⟨Nat.zero_le _, Nat.zero_le _⟩ dX2_readBird_18 (fun H locs hf => ?_)
    have hf : Fr G (va_A (wK G ad2 σ0 ++ wT G ad τ0) s.heap.size) s (wK G ad2 σ0 ++ wT G ad q6.2) H locs := hf
    refine lv_istore_n (lv' := [(3, .int q6.1), (0, .ref (ad 0)), (1, .ref (ad2 0)), (2, .int a2)]) hx hb dX2_readBird_21 rfl hl (by decide) rfl (fun ls hl => ?_)
    refine lv_iload_n hx hb dX2_readBird_22 rfl (lv_at hl 0 rfl) ?_
    refine lv_bipush (v := -2) hx hb dX2_readBird_23 (by decide) ?_
    refine lv_icmp_ne (tgt := 30) hx hb dX2_readBird_25 (by decide) (fun c8 => ?_) (fun c8 => ?_)
    · replace hF := (if_neg c8).symm.trans hF
      refine lv_aload_n hx hb dX2_readBird_30 rfl (lv_at hl 1 rfl) ?_
      refine va_ldcS (q := gk G 8) (tx := "from") (own := RX2) (index := 123) hx hb hown (hf.2.2.2.2.2.2.2.2.2.2 ("PigeonRolls$Tape", 123, "from", 8) (by decide)) dX2_readBird_31 ?_
      refine lv_aload_n hx hb dX2_readBird_33 rfl (lv_at hl 2 rfl) ?_
      refine g_get (ci := 0) (C := RX0) (T := TX0) (N := 16) (v := .int (σ0 11 3)) S hf hinX0 0 rfl rfl 3 (by decide) k125 rfl rfl dX2_readBird_34 ?_
      refine lv_iconst (v := 1) hx hb dX2_readBird_37 (by decide) ?_
      refine lv_isub hx hb dX2_readBird_38 ?_
      refine lv_iconst (v := -1) hx hb dX2_readBird_39 (by decide) ?_
      obtain ⟨q9, h10, hF⟩ := Option.bind_eq_some_iff.mp hF
      refine g_cv (o := some (.int q9.1)) (As := [.ref (gk G 8), .int ((σ0 11 3) - 1), .int (-1)]) (rest := []) (st1 := [.int q9.1]) (ci := 2) (a := List.take 13 (wK G ad2 σ0 ++ wT G ad q6.2)) (b := List.drop 15 (wK G ad2 σ0 ++ wT G ad q6.2)) S hf (c_X2_takeOptional l G ad q6.2 8 ((σ0 11 3) - 1) (-1) q9 h10 (by decide)) (cwV 3 hts gX2_readBird_X2_takeOptional rfl rfl rfl (by decide +kernel) ⟨Nat.le_of_ble_eq_true rfl, Nat.le_of_ble_eq_true rfl⟩) rfl rfl rfl rfl 0 rfl rfl hl.1 rfl rfl (Nat.le_of_ble_eq_true rfl) ⟨Nat.zero_le _, Nat.zero_le _⟩ dX2_readBird_40 (fun H locs hf => ?_)
      have hf : Fr G (va_A (wK G ad2 σ0 ++ wT G ad τ0) s.heap.size) s (wK G ad2 σ0 ++ wT G ad q9.2) H locs := hf
      refine lv_istore (lv' := [(4, .int q9.1), (3, .int q6.1), (0, .ref (ad 0)), (1, .ref (ad2 0)), (2, .int a2)]) hx hb dX2_readBird_43 hl (by decide) rfl (fun ls hl => ?_)
      refine lv_iload hx hb dX2_readBird_45 (lv_at hl 0 rfl) ?_
      refine lv_bipush (v := -2) hx hb dX2_readBird_47 (by decide) ?_
      refine lv_icmp_ne (tgt := 54) hx hb dX2_readBird_49 (by decide) (fun c11 => ?_) (fun c11 => ?_)
      · replace hF := (if_neg c11).symm.trans hF
        refine lv_aload_n hx hb dX2_readBird_54 rfl (lv_at hl 2 rfl) ?_
        refine va_ldcS (q := gk G 9) (tx := "aged") (own := RX2) (index := 128) hx hb hown (hf.2.2.2.2.2.2.2.2.2.2 ("PigeonRolls$Tape", 128, "aged", 9) (by decide)) dX2_readBird_55 ?_
        refine lv_sipush (v := 9999) hx hb dX2_readBird_57 (by decide) ?_
        refine lv_iconst (v := 0) hx hb dX2_readBird_60 (by decide) ?_
        obtain ⟨q12, h13, hF⟩ := Option.bind_eq_some_iff.mp hF
        refine g_cv (o := some (.int q12.1)) (As := [.ref (gk G 9), .int 9999, .int 0]) (rest := []) (st1 := [.int q12.1]) (ci := 2) (a := List.take 13 (wK G ad2 σ0 ++ wT G ad q9.2)) (b := List.drop 15 (wK G ad2 σ0 ++ wT G ad q9.2)) S hf (c_X2_takeOptional l G ad q9.2 9 9999 0 q12 h13 (by decide)) (cwV 3 hts gX2_readBird_X2_takeOptional rfl rfl rfl (by decide +kernel) ⟨Nat.le_of_ble_eq_true rfl, Nat.le_of_ble_eq_true rfl⟩) rfl rfl rfl rfl 0 rfl rfl hl.1 rfl rfl (Nat.le_of_ble_eq_true rfl) ⟨Nat.zero_le _, Nat.zero_le _⟩ dX2_readBird_61 (fun H locs hf => ?_)
        have hf : Fr G (va_A (wK G ad2 σ0 ++ wT G ad τ0) s.heap.size) s (wK G ad2 σ0 ++ wT G ad q12.2) H locs := hf
        refine lv_istore (lv' := [(5, .int q12.1), (4, .int q9.1), (3, .int q6.1), (0, .ref (ad 0)), (1, .ref (ad2 0)), (2, .int a2)]) hx hb dX2_readBird_64 hl (by decide) rfl (fun ls hl => ?_)
        refine lv_iload hx hb dX2_readBird_66 (lv_at hl 0 rfl) ?_
        refine lv_bipush (v := -2) hx hb dX2_readBird_68 (by decide) ?_
        refine lv_icmp_ne (tgt := 75) hx hb dX2_readBird_70 (by decide) (fun c14 => ?_) (fun c14 => ?_)
        · replace hF := (if_neg c14).symm.trans hF
          refine lv_aload_n hx hb dX2_readBird_75 rfl (lv_at hl 4 rfl) ?_
          refine lv_iload_n hx hb dX2_readBird_76 rfl (lv_at hl 5 rfl) ?_
          refine lv_iload_n hx hb dX2_readBird_77 rfl (lv_at hl 2 rfl) ?_
          refine lv_iload hx hb dX2_readBird_78 (lv_at hl 1 rfl) ?_
          obtain ⟨q15, h16, hF⟩ := Option.bind_eq_some_iff.mp hF
          refine g_cv (o := some (.int q15.1)) (As := [.int a2, .int q6.1, .int q9.1]) (rest := []) (st1 := [.int q15.1]) (ci := 0) (a := List.take 0 (wK G ad2 σ0 ++ wT G ad q12.2)) (b := List.drop 13 (wK G ad2 σ0 ++ wT G ad q12.2)) S hf (c_X0_add l G ad2 σ0 a2 q6.1 q9.1 q15 h16) (cwV 3 hts gX2_readBird_X0_add rfl rfl rfl (by decide +kernel) ⟨Nat.le_of_ble_eq_true rfl, Nat.le_of_ble_eq_true rfl⟩) rfl rfl rfl rfl 0 rfl rfl hl.1 rfl rfl (Nat.le_of_ble_eq_true rfl) ⟨Nat.zero_le _, Nat.zero_le _⟩ dX2_readBird_80 (fun H locs hf => ?_)
          have hf : Fr G (va_A (wK G ad2 σ0 ++ wT G ad τ0) s.heap.size) s (wK G ad2 q15.2 ++ wT G ad q12.2) H locs := hf
          refine lv_istore (lv' := [(6, .int q15.1), (5, .int q12.1), (4, .int q9.1), (3, .int q6.1), (0, .ref (ad 0)), (1, .ref (ad2 0)), (2, .int a2)]) hx hb dX2_readBird_83 hl (by decide) rfl (fun ls hl => ?_)
          refine lv_aload_n hx hb dX2_readBird_85 rfl (lv_at hl 5 rfl) ?_
          refine g_get (ci := 0) (C := RX0) (T := TX0) (N := 16) (v := .ref (ad2 7)) S hf hinX0 0 rfl rfl 10 (by decide) k134 rfl rfl dX2_readBird_86 ?_
          refine lv_iload hx hb dX2_readBird_89 (lv_at hl 0 rfl) ?_
          refine lv_iload hx hb dX2_readBird_91 (lv_at hl 1 rfl) ?_
          obtain ⟨g17, hF⟩ := gd_some hF
          refine g_ast (ww' := wK G ad2 (va_up q15.2 3 (upd (q15.2 3) q15.1.toNatClampNeg q12.1)) ++ wT G ad q12.2) S hf 7 rfl g17 rfl dX2_readBird_93 (fun H locs hf => ?_)
          refine lv_aload_n hx hb dX2_readBird_94 rfl (lv_at hl 5 rfl) ?_
          refine g_get (ci := 0) (C := RX0) (T := TX0) (N := 16) (v := .ref (ad2 8)) S hf hinX0 0 rfl rfl 11 (by decide) k137 rfl rfl dX2_readBird_95 ?_
          refine lv_iload hx hb dX2_readBird_98 (lv_at hl 0 rfl) ?_
          refine lv_aload_n hx hb dX2_readBird_100 rfl (lv_at hl 4 rfl) ?_
          refine va_ldcS (q := gk G 10) (tx := "carried") (own := RX2) (index := 140) hx hb hown (hf.2.2.2.2.2.2.2.2.2.2 ("PigeonRolls$Tape", 140, "carried", 10) (by decide)) dX2_readBird_101 ?_
          obtain ⟨q18, h19, hF⟩ := Option.bind_eq_some_iff.mp hF
          refine g_cv (o := some (.int q18.1)) (As := [.ref (gk G 10)]) (rest := [.int q15.1, .ref (ad2 8)]) (st1 := [.int q18.1, .int q15.1, .ref (ad2 8)]) (ci := 2) (a := List.take 13 (wK G ad2 (va_up q15.2 3 (upd (q15.2 3) q15.1.toNatClampNeg q12.1)) ++ wT G ad q12.2)) (b := List.drop 15 (wK G ad2 (va_up q15.2 3 (upd (q15.2 3) q15.1.toNatClampNeg q12.1)) ++ wT G ad q12.2)) S hf (c_X2_tookWord l G ad q12.2 10 q18 h19 (by decide)) (cwV 1 hts gX2_readBird_X2_tookWord rfl rfl rfl (by decide +kernel) ⟨Nat.le_of_ble_eq_true rfl, Nat.le_of_ble_eq_true rfl⟩) rfl rfl rfl rfl 0 rfl rfl hl.1 rfl rfl (Nat.le_of_ble_eq_true rfl) ⟨Nat.zero_le _, Nat.zero_le _⟩ dX2_readBird_103 (fun H locs hf => ?_)
          have hf : Fr G (va_A (wK G ad2 σ0 ++ wT G ad τ0) s.heap.size) s (wK G ad2 (va_up q15.2 3 (upd (q15.2 3) q15.1.toNatClampNeg q12.1)) ++ wT G ad q18.2) H locs := hf
          refine lv_if_eq (tgt := 113) hx hb dX2_readBird_106 (by decide) (fun c20 => ?_) (fun c20 => ?_)
          · replace hF := (if_pos c20).symm.trans hF
            refine lv_iconst (v := 0) hx hb dX2_readBird_113 (by decide) ?_
            refine g_ast (ww' := wK G ad2 (va_up (va_up q15.2 3 (upd (q15.2 3) q15.1.toNatClampNeg q12.1)) 4 (upd (q15.2 4) q15.1.toNatClampNeg 0)) ++ wT G ad q18.2) S hf 8 rfl g17 rfl dX2_readBird_114 (fun H locs hf => ?_)
            refine lv_aload_n hx hb dX2_readBird_115 rfl (lv_at hl 5 rfl) ?_
            refine g_get (ci := 0) (C := RX0) (T := TX0) (N := 16) (v := .ref (ad2 9)) S hf hinX0 0 rfl rfl 12 (by decide) k141 rfl rfl dX2_readBird_116 ?_
            refine lv_iload hx hb dX2_readBird_119 (lv_at hl 0 rfl) ?_
            refine lv_aload_n hx hb dX2_readBird_121 rfl (lv_at hl 4 rfl) ?_
            refine va_ldcS (q := gk G 11) (tx := "boy") (own := RX2) (index := 144) hx hb hown (hf.2.2.2.2.2.2.2.2.2.2 ("PigeonRolls$Tape", 144, "boy", 11) (by decide)) dX2_readBird_122 ?_
            obtain ⟨q21, h22, hF⟩ := Option.bind_eq_some_iff.mp hF
            refine g_cv (o := some (.int q21.1)) (As := [.ref (gk G 11)]) (rest := [.int q15.1, .ref (ad2 9)]) (st1 := [.int q21.1, .int q15.1, .ref (ad2 9)]) (ci := 2) (a := List.take 13 (wK G ad2 (va_up (va_up q15.2 3 (upd (q15.2 3) q15.1.toNatClampNeg q12.1)) 4 (upd (q15.2 4) q15.1.toNatClampNeg 0)) ++ wT G ad q18.2)) (b := List.drop 15 (wK G ad2 (va_up (va_up q15.2 3 (upd (q15.2 3) q15.1.toNatClampNeg q12.1)) 4 (upd (q15.2 4) q15.1.toNatClampNeg 0)) ++ wT G ad q18.2)) S hf (c_X2_tookWord l G ad q18.2 11 q21 h22 (by decide)) (cwV 1 hts gX2_readBird_X2_tookWord rfl rfl rfl (by decide +kernel) ⟨Nat.le_of_ble_eq_true rfl, Nat.le_of_ble_eq_true rfl⟩) rfl rfl rfl rfl 0 rfl rfl hl.1 rfl rfl (Nat.le_of_ble_eq_true rfl) ⟨Nat.zero_le _, Nat.zero_le _⟩ dX2_readBird_124 (fun H locs hf => ?_)
            have hf : Fr G (va_A (wK G ad2 σ0 ++ wT G ad τ0) s.heap.size) s (wK G ad2 (va_up (va_up q15.2 3 (upd (q15.2 3) q15.1.toNatClampNeg q12.1)) 4 (upd (q15.2 4) q15.1.toNatClampNeg 0)) ++ wT G ad q21.2) H locs := hf
            refine lv_if_eq (tgt := 134) hx hb dX2_readBird_127 (by decide) (fun c23 => ?_) (fun c23 => ?_)
            · replace hF := (if_pos c23).symm.trans hF
              refine lv_iconst (v := 0) hx hb dX2_readBird_134 (by decide) ?_
              refine g_ast (ww' := wK G ad2 (va_up (va_up (va_up q15.2 3 (upd (q15.2 3) q15.1.toNatClampNeg q12.1)) 4 (upd (q15.2 4) q15.1.toNatClampNeg 0)) 5 (upd (q15.2 5) q15.1.toNatClampNeg 0)) ++ wT G ad q21.2) S hf 9 rfl g17 rfl dX2_readBird_135 (fun H locs hf => ?_)
              refine lv_iconst (v := 1) hx hb dX2_readBird_136 (by decide) ?_
              have hE := Option.some.inj hF
              have hV := congrArg (fun z : Int32 × K2 × K2 => z.1) hE
              have hW := congrArg (fun z : Int32 × K2 × K2 => wK G ad2 z.2.2 ++ wT G ad z.2.1) hE
              exact g_zret S hr hlocks hf (by decide) hV hW dX2_readBird_137
            · replace hF := (if_neg c23).symm.trans hF
              refine lv_iconst (v := 1) hx hb dX2_readBird_130 (by decide) ?_
              refine lv_goto (tgt := 135) hx hb dX2_readBird_131 (by decide) ?_
              refine g_ast (ww' := wK G ad2 (va_up (va_up (va_up q15.2 3 (upd (q15.2 3) q15.1.toNatClampNeg q12.1)) 4 (upd (q15.2 4) q15.1.toNatClampNeg 0)) 5 (upd (q15.2 5) q15.1.toNatClampNeg 1)) ++ wT G ad q21.2) S hf 9 rfl g17 rfl dX2_readBird_135 (fun H locs hf => ?_)
              refine lv_iconst (v := 1) hx hb dX2_readBird_136 (by decide) ?_
              have hE := Option.some.inj hF
              have hV := congrArg (fun z : Int32 × K2 × K2 => z.1) hE
              have hW := congrArg (fun z : Int32 × K2 × K2 => wK G ad2 z.2.2 ++ wT G ad z.2.1) hE
              exact g_zret S hr hlocks hf (by decide) hV hW dX2_readBird_137
          · replace hF := (if_neg c20).symm.trans hF
            refine lv_iconst (v := 1) hx hb dX2_readBird_109 (by decide) ?_
            refine lv_goto (tgt := 114) hx hb dX2_readBird_110 (by decide) ?_
            refine g_ast (ww' := wK G ad2 (va_up (va_up q15.2 3 (upd (q15.2 3) q15.1.toNatClampNeg q12.1)) 4 (upd (q15.2 4) q15.1.toNatClampNeg 1)) ++ wT G ad q18.2) S hf 8 rfl g17 rfl dX2_readBird_114 (fun H locs hf => ?_)
            refine lv_aload_n hx hb dX2_readBird_115 rfl (lv_at hl 5 rfl) ?_
            refine g_get (ci := 0) (C := RX0) (T := TX0) (N := 16) (v := .ref (ad2 9)) S hf hinX0 0 rfl rfl 12 (by decide) k141 rfl rfl dX2_readBird_116 ?_
            refine lv_iload hx hb dX2_readBird_119 (lv_at hl 0 rfl) ?_
            refine lv_aload_n hx hb dX2_readBird_121 rfl (lv_at hl 4 rfl) ?_
            refine va_ldcS (q := gk G 11) (tx := "boy") (own := RX2) (index := 144) hx hb hown (hf.2.2.2.2.2.2.2.2.2.2 ("PigeonRolls$Tape", 144, "boy", 11) (by decide)) dX2_readBird_122 ?_
            obtain ⟨q24, h25, hF⟩ := Option.bind_eq_some_iff.mp hF
            refine g_cv (o := some (.int q24.1)) (As := [.ref (gk G 11)]) (rest := [.int q15.1, .ref (ad2 9)]) (st1 := [.int q24.1, .int q15.1, .ref (ad2 9)]) (ci := 2) (a := List.take 13 (wK G ad2 (va_up (va_up q15.2 3 (upd (q15.2 3) q15.1.toNatClampNeg q12.1)) 4 (upd (q15.2 4) q15.1.toNatClampNeg 1)) ++ wT G ad q18.2)) (b := List.drop 15 (wK G ad2 (va_up (va_up q15.2 3 (upd (q15.2 3) q15.1.toNatClampNeg q12.1)) 4 (upd (q15.2 4) q15.1.toNatClampNeg 1)) ++ wT G ad q18.2)) S hf (c_X2_tookWord l G ad q18.2 11 q24 h25 (by decide)) (cwV 1 hts gX2_readBird_X2_tookWord rfl rfl rfl (by decide +kernel) ⟨Nat.le_of_ble_eq_true rfl, Nat.le_of_ble_eq_true rfl⟩) rfl rfl rfl rfl 0 rfl rfl hl.1 rfl rfl (Nat.le_of_ble_eq_true rfl) ⟨Nat.zero_le _, Nat.zero_le _⟩ dX2_readBird_124 (fun H locs hf => ?_)
            have hf : Fr G (va_A (wK G ad2 σ0 ++ wT G ad τ0) s.heap.size) s (wK G ad2 (va_up (va_up q15.2 3 (upd (q15.2 3) q15.1.toNatClampNeg q12.1)) 4 (upd (q15.2 4) q15.1.toNatClampNeg 1)) ++ wT G ad q24.2) H locs := hf
            refine lv_if_eq (tgt := 134) hx hb dX2_readBird_127 (by decide) (fun c26 => ?_) (fun c26 => ?_)
            · replace hF := (if_pos c26).symm.trans hF
              refine lv_iconst (v := 0) hx hb dX2_readBird_134 (by decide) ?_
              refine g_ast (ww' := wK G ad2 (va_up (va_up (va_up q15.2 3 (upd (q15.2 3) q15.1.toNatClampNeg q12.1)) 4 (upd (q15.2 4) q15.1.toNatClampNeg 1)) 5 (upd (q15.2 5) q15.1.toNatClampNeg 0)) ++ wT G ad q24.2) S hf 9 rfl g17 rfl dX2_readBird_135 (fun H locs hf => ?_)
              refine lv_iconst (v := 1) hx hb dX2_readBird_136 (by decide) ?_
              have hE := Option.some.inj hF
              have hV := congrArg (fun z : Int32 × K2 × K2 => z.1) hE
              have hW := congrArg (fun z : Int32 × K2 × K2 => wK G ad2 z.2.2 ++ wT G ad z.2.1) hE
              exact g_zret S hr hlocks hf (by decide) hV hW dX2_readBird_137
            · replace hF := (if_neg c26).symm.trans hF
              refine lv_iconst (v := 1) hx hb dX2_readBird_130 (by decide) ?_
              refine lv_goto (tgt := 135) hx hb dX2_readBird_131 (by decide) ?_
              refine g_ast (ww' := wK G ad2 (va_up (va_up (va_up q15.2 3 (upd (q15.2 3) q15.1.toNatClampNeg q12.1)) 4 (upd (q15.2 4) q15.1.toNatClampNeg 1)) 5 (upd (q15.2 5) q15.1.toNatClampNeg 1)) ++ wT G ad q24.2) S hf 9 rfl g17 rfl dX2_readBird_135 (fun H locs hf => ?_)
              refine lv_iconst (v := 1) hx hb dX2_readBird_136 (by decide) ?_
              have hE := Option.some.inj hF
              have hV := congrArg (fun z : Int32 × K2 × K2 => z.1) hE
              have hW := congrArg (fun z : Int32 × K2 × K2 => wK G ad2 z.2.2 ++ wT G ad z.2.1) hE
              exact g_zret S hr hlocks hf (by decide) hV hW dX2_readBird_137
        · replace hF := (if_pos c14).symm.trans hF
          refine lv_iconst (v := 0) hx hb dX2_readBird_73 (by decide) ?_
          have hE := Option.some.inj hF
          have hV := congrArg (fun z : Int32 × K2 × K2 => z.1) hE
          have hW := congrArg (fun z : Int32 × K2 × K2 => wK G ad2 z.2.2 ++ wT G ad z.2.1) hE
          exact g_zret S hr hlocks hf (by decide) hV hW dX2_readBird_74
      · replace hF := (if_pos c11).symm.trans hF
        refine lv_iconst (v := 0) hx hb dX2_readBird_52 (by decide) ?_
        have hE := Option.some.inj hF
        have hV := congrArg (fun z : Int32 × K2 × K2 => z.1) hE
        have hW := congrArg (fun z : Int32 × K2 × K2 => wK G ad2 z.2.2 ++ wT G ad z.2.1) hE
        exact g_zret S hr hlocks hf (by decide) hV hW dX2_readBird_53
    · replace hF := (if_pos c8).symm.trans hF
      refine lv_iconst (v := 0) hx hb dX2_readBird_28 (by decide) ?_
      have hE := Option.some.inj hF
      have hV := congrArg (fun z : Int32 × K2 × K2 => z.1) hE
      have hW := congrArg (fun z : Int32 × K2 × K2 => wK G ad2 z.2.2 ++ wT G ad z.2.1) hE
      exact g_zret S hr hlocks hf (by decide) hV hW dX2_readBird_29
  · replace hF := (if_neg c3).symm.trans hF
    refine lv_iconst (v := 0) hx hb dX2_readBird_7 (by decide) ?_
    have hE := Option.some.inj hF
    have hV := congrArg (fun z : Int32 × K2 × K2 => z.1) hE
    have hW := congrArg (fun z : Int32 × K2 × K2 => wK G ad2 z.2.2 ++ wT G ad z.2.1) hE
    exact g_zret S hr hlocks hf (by decide) hV hW dX2_readBird_8
def f_X2_readHarvest (τ0 : K2) (σ0 : K2) : Option (Int32 × K2 × K2) := Option.bind (f_X2_takeNumber τ0 5) (fun q1 => if q1.1 = (-2) then (some (0, q1.2, σ0)) else (Option.bind (f_X2_takeNumber q1.2 99) (fun q4 => if q4.1 = (-2) then (some (0, q4.2, σ0)) else (if ix q1.1 6 then (some (1, q4.2, va_up σ0 9 (upd (σ0 9) q1.1.toNatClampNeg q4.1))) else none))))
set_option maxHeartbeats 4000000 in
set_option maxRecDepth 100000 in
theorem c_X2_readHarvest (l : Launch) (G : GT) (ad ad2 : Nat → Nat) (τ0 : K2) (σ0 : K2) (q : Int32 × K2 × K2) (hF : f_X2_readHarvest τ0 σ0 = some q) : Ct l G yX2_readHarvest wsX2_readHarvest ({ frames := 3, cells := 0, slots := 0, locals := 63 } : Room) ([.ref (ad 0), .ref (ad2 0)] : List Value) (wK G ad2 σ0 ++ wT G ad τ0) (some (.int q.1)) (wK G ad2 q.2.2 ++ wT G ad q.2.1) := by
  have k145 : Cond.fieldLink RX2 145 "PigeonRolls$Kingdom" "list" "[I" ∈ wsX2_readHarvest := by decide +kernel
  have hinX0 : ∀ w ∈ u_ws RX0 TX0 16, w ∈ wsX2_readHarvest := by decide +kernel
  refine Ct.of cX2_readHarvest 4 (some .boolean) (by decide) rfl (Nat.le_of_ble_eq_true rfl) ?_
  intro p e s m below meth c ls S hr hlocks hf hl
  have S : CallFix p m c cX2_readHarvest 4 s ([.ref (ad 0), .ref (ad2 0)] : List Value).toArray wsX2_readHarvest RX2 := S
  obtain ⟨hx, hb, hml, hown, hts⟩ := id S
  have hl : lv_has ls 4 [(0, .ref (ad 0)), (1, .ref (ad2 0))] := hl
  unfold f_X2_readHarvest at hF
  refine lv_aload_n hx hb dX2_readHarvest_0 rfl (lv_at hl 0 rfl) ?_
  refine lv_iconst (v := 5) hx hb dX2_readHarvest_1 (by decide) ?_
  obtain ⟨q1, h2, hF⟩ := Option.bind_eq_some_iff.mp hF
  refine g_cv (o := some (.int q1.1)) (As := [.int 5]) (rest := []) (st1 := [.int q1.1]) (ci := 2) (a := List.take 13 (wK G ad2 σ0 ++ wT G ad τ0)) (b := List.drop 15 (wK G ad2 σ0 ++ wT G ad τ0)) S hf (c_X2_takeNumber l G ad τ0 5 q1 h2) (cwV 1 hts gX2_readHarvest_X2_takeNumber rfl rfl rfl (by decide +kernel) ⟨Nat.le_of_ble_eq_true rfl, Nat.le_of_ble_eq_true rfl⟩) rfl rfl rfl rfl 0 rfl rfl hl.1 rfl rfl (Nat.le_of_ble_eq_true rfl) ⟨Nat.zero_le _, Nat.zero_le _⟩ dX2_readHarvest_2 (fun H locs hf => ?_)
  have hf : Fr G (va_A (wK G ad2 σ0 ++ wT G ad τ0) s.heap.size) s (wK G ad2 σ0 ++ wT G ad q1.2) H locs := hf
  refine lv_istore_n (lv' := [(2, .int q1.1), (0, .ref (ad 0)), (1, .ref (ad2 0))]) hx hb dX2_readHarvest_5 rfl hl (by decide) rfl (fun ls hl => ?_)
  refine lv_iload_n hx hb dX2_readHarvest_6 rfl (lv_at hl 0 rfl) ?_
  refine lv_bipush (v := -2) hx hb dX2_readHarvest_7 (by decide) ?_
  refine lv_icmp_ne (tgt := 14) hx hb dX2_readHarvest_9 (by decide) (fun c3 => ?_) (fun c3 => ?_)
  · replace hF := (if_neg c3).symm.trans hF
    refine lv_aload_n hx hb dX2_readHarvest_14 rfl (lv_at hl 1 rfl) ?_
    refine lv_bipush (v := 99) hx hb dX2_readHarvest_15 (by decide) ?_
    obtain ⟨q4, h5, hF⟩ := Option.bind_eq_some_iff.mp hF
    refine g_cv (o := some (.int q4.1)) (As := [.int 99]) (rest := []) (st1 := [.int q4.1]) (ci := 2) (a := List.take 13 (wK G ad2 σ0 ++ wT G ad q1.2)) (b := List.drop 15 (wK G ad2 σ0 ++ wT G ad q1.2)) S hf (c_X2_takeNumber l G ad q1.2 99 q4 h5) (cwV 1 hts gX2_readHarvest_X2_takeNumber rfl rfl rfl (by decide +kernel) ⟨Nat.le_of_ble_eq_true rfl, Nat.le_of_ble_eq_true rfl⟩) rfl rfl rfl rfl 0 rfl rfl hl.1 rfl rfl (Nat.le_of_ble_eq_true rfl) ⟨Nat.zero_le _, Nat.zero_le _⟩ dX2_readHarvest_17 (fun H locs hf => ?_)
    have hf : Fr G (va_A (wK G ad2 σ0 ++ wT G ad τ0) s.heap.size) s (wK G ad2 σ0 ++ wT G ad q4.2) H locs := hf
    refine lv_istore_n (lv' := [(3, .int q4.1), (2, .int q1.1), (0, .ref (ad 0)), (1, .ref (ad2 0))]) hx hb dX2_readHarvest_20 rfl hl (by decide) rfl (fun ls hl => ?_)
    refine lv_iload_n hx hb dX2_readHarvest_21 rfl (lv_at hl 0 rfl) ?_
    refine lv_bipush (v := -2) hx hb dX2_readHarvest_22 (by decide) ?_
    refine lv_icmp_ne (tgt := 29) hx hb dX2_readHarvest_24 (by decide) (fun c6 => ?_) (fun c6 => ?_)
    · replace hF := (if_neg c6).symm.trans hF
      refine lv_aload_n hx hb dX2_readHarvest_29 rfl (lv_at hl 3 rfl) ?_
      refine g_get (ci := 0) (C := RX0) (T := TX0) (N := 16) (v := .ref (ad2 1)) S hf hinX0 0 rfl rfl 4 (by decide) k145 rfl rfl dX2_readHarvest_30 ?_
      refine lv_iload_n hx hb dX2_readHarvest_33 rfl (lv_at hl 1 rfl) ?_
      refine lv_iload_n hx hb dX2_readHarvest_34 rfl (lv_at hl 0 rfl) ?_
      obtain ⟨g7, hF⟩ := gd_some hF
      refine g_ast (ww' := wK G ad2 (va_up σ0 9 (upd (σ0 9) q1.1.toNatClampNeg q4.1)) ++ wT G ad q4.2) S hf 1 rfl g7 rfl dX2_readHarvest_35 (fun H locs hf => ?_)
      refine lv_iconst (v := 1) hx hb dX2_readHarvest_36 (by decide) ?_
      have hE := Option.some.inj hF
      have hV := congrArg (fun z : Int32 × K2 × K2 => z.1) hE
      have hW := congrArg (fun z : Int32 × K2 × K2 => wK G ad2 z.2.2 ++ wT G ad z.2.1) hE
      exact g_zret S hr hlocks hf (by decide) hV hW dX2_readHarvest_37
    · replace hF := (if_pos c6).symm.trans hF
      refine lv_iconst (v := 0) hx hb dX2_readHarvest_27 (by decide) ?_
      have hE := Option.some.inj hF
      have hV := congrArg (fun z : Int32 × K2 × K2 => z.1) hE
      have hW := congrArg (fun z : Int32 × K2 × K2 => wK G ad2 z.2.2 ++ wT G ad z.2.1) hE
      exact g_zret S hr hlocks hf (by decide) hV hW dX2_readHarvest_28
  · replace hF := (if_pos c3).symm.trans hF
    refine lv_iconst (v := 0) hx hb dX2_readHarvest_12 (by decide) ?_
    have hE := Option.some.inj hF
    have hV := congrArg (fun z : Int32 × K2 × K2 => z.1) hE
    have hW := congrArg (fun z : Int32 × K2 × K2 => wK G ad2 z.2.2 ++ wT G ad z.2.1) hE
    exact g_zret S hr hlocks hf (by decide) hV hW dX2_readHarvest_13
