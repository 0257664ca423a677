/-! ===== the constructors' end states ===== -/
theorem g_obj {p : Program} {l : Launch} {e : Env} {R : Room} {s : State} {m : MethodId} {args : Array Value} {below : List Frame} {meth : Method} {c : Code} {H : Heap} {locs : List Loc} {cells slots : Nat} {Q : State → Prop} {cc : ByteArray} {pc nL idx a : Nat} {ls : Array Slot} {rest : List Value} {Ts : List Cond} {own : String} (S : CallFix p m c cc nL s args Ts own) (h1 : Cond.methodLink own idx objectInit ∈ Ts) (h2 : Cond.instanceMethod objectInit ∈ Ts) (h3 : Cond.code objectInit ⟨#[0xb1]⟩ 1 none ∈ Ts) (hl : ls.size = nL) (hframes : 1 ≤ R.frames) (hlocals : (rest.map fun v => v.category).sum + 12 ≤ R.locals) (hdg : decode cc pc = .ok (.invokespecial idx, 3))
    (kk : W p l e R s m args below meth c H locs cells slots Q (F0 m (pc + 3) ls rest)) : W p l e R s m args below meth c H locs cells slots Q (F0 m pc ls (.ref a :: rest)) :=
  W.objInit S.1 S.2.1 S.2.2.2.1 (S.2.2.2.2 _ h1) (S.2.2.2.2 _ h2) (S.2.2.2.2 _ h3) rfl (by rw [S.2.2.1]; exact hl) rfl hdg hframes (by show 2 * 0 + (rest.map fun v => v.category).sum + 12 ≤ R.locals; omega) kk
def zz2 : K2 := fun _ _ => 0
def spots0 : Nat → Int32 := (upd (upd (upd (upd (upd (upd (upd (upd (upd (upd (fun _ => 0) 0 (-1)) 1 (-1)) 2 (-1)) 3 (-1)) 4 (-1)) 5 (-1)) 6 (-1)) 7 (-1)) 8 (-1)) 9 (-1))
def now0 : Nat → Int32 := (upd (upd (upd (upd (upd (upd (upd (upd (upd (upd (upd (fun _ => 0) 2 1) 10 (-1)) 11 (-1)) 12 (-1)) 13 (-1)) 14 (-1)) 15 (-1)) 16 (-1)) 17 (-1)) 18 (-1)) 19 (-1))
def sK0 : K2 := fun i => match i with | 10 => spots0 | 11 => (fun j => if j = 2 then 1 else 0) | _ => (fun _ => 0)
def sM0 : K2 := fun i => match i with | 0 => now0 | _ => (fun _ => 0)
def sX0 : K3 := fun i => match i with | 0 => sK0 | 1 => sK0 | 2 => sK0 | _ => zz2
def adK (h0 q1 q2 q3 : Nat) (r : Nat → Nat) : Nat → Nat := fun n => match n with | 0 => h0 | 1 => q1 | 2 => q2 | 3 => q3 | n + 4 => r n
theorem adK_4 {h0 q1 q2 q3 : Nat} {r : Nat → Nat} (i : Nat) : adK h0 q1 q2 q3 r (4 + i) = r i := by rw [Nat.add_comm]; rfl
def adX (k0 k1 k2 t s0 s1 s2 s3 : Nat → Nat) (h0 a1 a2 : Nat) : Nat → Nat → Nat := fun i => match i with | 0 => k0 | 1 => k1 | 2 => k2 | 3 => t | 4 => s0 | 5 => s1 | 6 => s2 | 7 => s3 | _ => (fun j => match j with | 0 => h0 | 1 => a1 | _ => a2)
theorem sh_fun (k0 k1 k2 t s0 s1 s2 s3 : Nat → Nat) (h0 a1 a2 : Nat) : va_up (va_up (va_up (va_up (fun _ => none) 0 (some (s0 0))) 1 (some (s1 0))) 2 (some (s2 0))) 3 (some (s3 0)) = (fun i => if i < 4 then some (adX k0 k1 k2 t s0 s1 s2 s3 h0 a1 a2 (4 + i) 0) else none) := by
  funext i
  match i with
  | 0 => rfl
  | 1 => rfl
  | 2 => rfl
  | 3 => rfl
  | n + 4 => simp [va_up]
theorem kn_fun {G : GT} : (va_up (va_up (va_up (va_up (va_up (va_up (va_up (fun _ => none) 0 (some (gk G 0))) 1 (some (gk G 1))) 2 (some (gk G 2))) 3 (some (gk G 3))) 4 (some (gk G 4))) 5 (some (gk G 5))) 6 (some (gk G 6))) = (fun i => if i < 7 then some (gk G i) else none) := by
  funext i
  match i with
  | 0 => rfl
  | 1 => rfl
  | 2 => rfl
  | 3 => rfl
  | 4 => rfl
  | 5 => rfl
  | 6 => rfl
  | n + 7 => simp [va_up]
theorem perm_x {α : Type} (o k0 k1 k2 t sa fo r : List α) : (o ++ (k0 ++ (k1 ++ (k2 ++ (t ++ (sa ++ (fo ++ r))))))).Perm (o ++ (sa ++ (fo ++ (k1 ++ (k0 ++ (k2 ++ (t ++ r))))))) := by
  classical
  rw [List.perm_iff_count]
  intro a
  simp only [List.count_append]
  omega
theorem perm_m {α : Type} (o e1 e2 e3 e4 e5 e6 e7 e8 e9 e10 e11 e12 : α) : [o, e1, e2, e3, e4, e5, e6, e7, e8, e9, e10, e11, e12].Perm [o, e2, e1, e3, e4, e5, e6, e8, e9, e10, e11, e12, e7] := by
  classical
  rw [List.perm_iff_count]
  intro a
  simp only [List.count_cons, List.count_nil]
  omega
set_option maxHeartbeats 4000000 in
set_option maxRecDepth 100000 in
theorem c_X1_init (l : Launch) (G : GT) (h0 : Nat) : Ci l G yX1_init wsX1_init ({ frames := 1, cells := 1, slots := 40, locals := 20 } : Room) h0 [(h0, .inr (1, [.int 0, .int 0, .null]))] (fun w => ∃ ad : Nat → Nat, ad 0 = h0 ∧ w = wS G ad zz2) := by
  have hinX : ∀ w ∈ u_ws RX1 TX1 3, w ∈ wsX1_init := by decide +kernel
  have k0 : Cond.methodLink RX1 3 objectInit ∈ wsX1_init := by decide +kernel
  have k1 : Cond.instanceMethod objectInit ∈ wsX1_init := by decide +kernel
  have k2 : Cond.code objectInit ⟨#[0xb1]⟩ 1 none ∈ wsX1_init := by decide +kernel
  have k3 : Cond.fieldLink RX1 9 "PigeonRolls$Sheet" "bits" "I" ∈ wsX1_init := by decide +kernel
  have k4 : Cond.fieldLink RX1 15 "PigeonRolls$Sheet" "length" "I" ∈ wsX1_init := by decide +kernel
  have k5 : Cond.arrayClass .int ∈ wsX1_init := by decide +kernel
  have k6 : Cond.fieldLink RX1 18 "PigeonRolls$Sheet" "numbers" "[I" ∈ wsX1_init := by decide +kernel
  refine Ci.of cX1_init 1 (by decide) rfl (Nat.le_of_ble_eq_true rfl) ?_
  intro p e s m below meth c ls S hr hlocks hnm hf hE hl
  have S : CallFix p m c cX1_init 1 s ([.ref h0] : List Value).toArray wsX1_init RX1 := S
  have hnm : meth.name = "<init>" := hnm
  obtain ⟨hx, hb, hml, hown, hts⟩ := id S
  obtain ⟨H, hH⟩ : ∃ H : Heap, H = s.heap := ⟨_, rfl⟩
  obtain ⟨locs, hL9⟩ : ∃ L : List Loc, L = [] := ⟨_, rfl⟩
  have hf : Fr G (va_A [(h0, .inr (1, [.int 0, .int 0, .null]))] s.heap.size) s [(h0, .inr (1, [.int 0, .int 0, .null]))] H locs := by rw [hH, hL9]; exact hf
  suffices hg : W p l e ({ frames := 1, cells := 1, slots := 40, locals := 20 } : Room) s m ([.ref h0] : List Value).toArray below meth c H locs 0 0 (MQ below (IPost G [(h0, .inr (1, [.int 0, .int 0, .null]))] s.heap.size (fun w => ∃ ad : Nat → Nat, ad 0 = h0 ∧ w = wS G ad zz2)) ([.ref h0] : List Value).toArray s 1 40 (va_A [(h0, .inr (1, [.int 0, .int 0, .null]))] s.heap.size)) (F0 m 0 ls []) by rw [hH, hL9] at hg; exact hg
  clear hH hL9
  refine lv_aload_n hx hb dX1_init_0 rfl (lv_at hl 0 rfl) ?_
  refine g_obj S k0 k1 k2 hl.1 (Nat.le_of_ble_eq_true rfl) (Nat.le_of_ble_eq_true rfl) dX1_init_1 ?_
  refine lv_aload_n hx hb dX1_init_4 rfl (lv_at hl 0 rfl) ?_
  refine lv_iconst (v := 0) hx hb dX1_init_5 (by decide) ?_
  refine g_put (ci := 1) (C := RX1) (T := TX1) (N := 3) (ww' := [(h0, .inr (1, [.int 0, .int 0, .null]))]) S hf hinX tyX1 tyX1_ok nmX1 0 rfl rfl 0 (by decide) k3 rfl rfl rfl rfl (Nat.le_of_ble_eq_true rfl) rfl dX1_init_6 (fun H locs hf => ?_)
  refine lv_aload_n hx hb dX1_init_9 rfl (lv_at hl 0 rfl) ?_
  refine lv_iconst (v := 0) hx hb dX1_init_10 (by decide) ?_
  refine g_put (ci := 1) (C := RX1) (T := TX1) (N := 3) (ww' := [(h0, .inr (1, [.int 0, .int 0, .null]))]) S hf hinX tyX1 tyX1_ok nmX1 0 rfl rfl 1 (by decide) k4 rfl rfl rfl rfl (Nat.le_of_ble_eq_true rfl) rfl dX1_init_11 (fun H locs hf => ?_)
  refine lv_aload_n hx hb dX1_init_14 rfl (lv_at hl 0 rfl) ?_
  refine lv_bipush (v := 40) hx hb dX1_init_15 (by decide) ?_
  refine g_newi (N' := 40) S hf k5 (by decide) rfl (Nat.le_of_ble_eq_true rfl) (Nat.le_of_ble_eq_true rfl) (Nat.le_of_ble_eq_true rfl) dX1_init_17 (fun q1 H hf => ?_)
  have hf : Fr G (va_A [(h0, .inr (1, [.int 0, .int 0, .null]))] s.heap.size) s ([(h0, .inr (1, [.int 0, .int 0, .null])), (q1, .inl (gc G 0, 40, .inl (fun _ => 0)))]) H locs := hf
  refine g_putF (ci := 1) (C := RX1) (T := TX1) (N := 3) (ww' := [(h0, .inr (1, [.int 0, .int 0, .ref q1])), (q1, .inl (gc G 0, 40, .inl (fun _ => 0)))]) S hf hinX tyX1 tyX1_ok nmX1 0 rfl rfl 2 (by decide) k6 rfl rfl hnm rfl rfl rfl (Nat.le_of_ble_eq_true rfl) rfl dX1_init_19 (fun H locs hf => ?_)
  exact g_iend S hr hlocks hf ⟨fun n => if n = 0 then h0 else q1, rfl, rfl⟩ rfl rfl dX1_init_22
set_option maxHeartbeats 4000000 in
set_option maxRecDepth 100000 in
theorem c_X2_init (l : Launch) (G : GT) (h0 : Nat) : Ci l G yX2_init wsX2_init ({ frames := 1, cells := 1, slots := 120, locals := 20 } : Room) h0 [(h0, .inr (2, [.null, .int 0, .int 0, .int 0, .int 0, .int 0]))] (fun w => ∃ ad : Nat → Nat, ad 0 = h0 ∧ w = wT G ad zz2) := by
  have hinX : ∀ w ∈ u_ws RX2 TX2 6, w ∈ wsX2_init := by decide +kernel
  have k0 : Cond.methodLink RX2 3 objectInit ∈ wsX2_init := by decide +kernel
  have k1 : Cond.instanceMethod objectInit ∈ wsX2_init := by decide +kernel
  have k2 : Cond.code objectInit ⟨#[0xb1]⟩ 1 none ∈ wsX2_init := by decide +kernel
  have k3 : Cond.arrayClass .int ∈ wsX2_init := by decide +kernel
  have k4 : Cond.fieldLink RX2 9 "PigeonRolls$Tape" "bytes" "[I" ∈ wsX2_init := by decide +kernel
  have k5 : Cond.fieldLink RX2 15 "PigeonRolls$Tape" "length" "I" ∈ wsX2_init := by decide +kernel
  have k6 : Cond.fieldLink RX2 19 "PigeonRolls$Tape" "token" "I" ∈ wsX2_init := by decide +kernel
  have k7 : Cond.fieldLink RX2 22 "PigeonRolls$Tape" "at" "I" ∈ wsX2_init := by decide +kernel
  have k8 : Cond.fieldLink RX2 25 "PigeonRolls$Tape" "behind" "I" ∈ wsX2_init := by decide +kernel
  have k9 : Cond.fieldLink RX2 28 "PigeonRolls$Tape" "value" "I" ∈ wsX2_init := by decide +kernel
  refine Ci.of cX2_init 1 (by decide) rfl (Nat.le_of_ble_eq_true rfl) ?_
  intro p e s m below meth c ls S hr hlocks hnm hf hE hl
  have S : CallFix p m c cX2_init 1 s ([.ref h0] : List Value).toArray wsX2_init RX2 := S
  have hnm : meth.name = "<init>" := hnm
  obtain ⟨hx, hb, hml, hown, hts⟩ := id S
  obtain ⟨H, hH⟩ : ∃ H : Heap, H = s.heap := ⟨_, rfl⟩
  obtain ⟨locs, hL9⟩ : ∃ L : List Loc, L = [] := ⟨_, rfl⟩
  have hf : Fr G (va_A [(h0, .inr (2, [.null, .int 0, .int 0, .int 0, .int 0, .int 0]))] s.heap.size) s [(h0, .inr (2, [.null, .int 0, .int 0, .int 0, .int 0, .int 0]))] H locs := by rw [hH, hL9]; exact hf
  suffices hg : W p l e ({ frames := 1, cells := 1, slots := 120, locals := 20 } : Room) s m ([.ref h0] : List Value).toArray below meth c H locs 0 0 (MQ below (IPost G [(h0, .inr (2, [.null, .int 0, .int 0, .int 0, .int 0, .int 0]))] s.heap.size (fun w => ∃ ad : Nat → Nat, ad 0 = h0 ∧ w = wT G ad zz2)) ([.ref h0] : List Value).toArray s 1 120 (va_A [(h0, .inr (2, [.null, .int 0, .int 0, .int 0, .int 0, .int 0]))] s.heap.size)) (F0 m 0 ls []) by rw [hH, hL9] at hg; exact hg
  clear hH hL9
  refine lv_aload_n hx hb dX2_init_0 rfl (lv_at hl 0 rfl) ?_
  refine g_obj S k0 k1 k2 hl.1 (Nat.le_of_ble_eq_true rfl) (Nat.le_of_ble_eq_true rfl) dX2_init_1 ?_
  refine lv_aload_n hx hb dX2_init_4 rfl (lv_at hl 0 rfl) ?_
  refine lv_bipush (v := 120) hx hb dX2_init_5 (by decide) ?_
  refine g_newi (N' := 120) S hf k3 (by decide) rfl (Nat.le_of_ble_eq_true rfl) (Nat.le_of_ble_eq_true rfl) (Nat.le_of_ble_eq_true rfl) dX2_init_7 (fun q1 H hf => ?_)
  have hf : Fr G (va_A [(h0, .inr (2, [.null, .int 0, .int 0, .int 0, .int 0, .int 0]))] s.heap.size) s ([(h0, .inr (2, [.null, .int 0, .int 0, .int 0, .int 0, .int 0])), (q1, .inl (gc G 0, 120, .inl (fun _ => 0)))]) H locs := hf
  refine g_putF (ci := 2) (C := RX2) (T := TX2) (N := 6) (ww' := [(h0, .inr (2, [.ref q1, .int 0, .int 0, .int 0, .int 0, .int 0])), (q1, .inl (gc G 0, 120, .inl (fun _ => 0)))]) S hf hinX tyX2 tyX2_ok nmX2 0 rfl rfl 0 (by decide) k4 rfl rfl hnm rfl rfl rfl (Nat.le_of_ble_eq_true rfl) rfl dX2_init_9 (fun H locs hf => ?_)
  refine lv_aload_n hx hb dX2_init_12 rfl (lv_at hl 0 rfl) ?_
  refine lv_iconst (v := 0) hx hb dX2_init_13 (by decide) ?_
  refine g_put (ci := 2) (C := RX2) (T := TX2) (N := 6) (ww' := [(h0, .inr (2, [.ref q1, .int 0, .int 0, .int 0, .int 0, .int 0])), (q1, .inl (gc G 0, 120, .inl (fun _ => 0)))]) S hf hinX tyX2 tyX2_ok nmX2 0 rfl rfl 1 (by decide) k5 rfl rfl rfl rfl (Nat.le_of_ble_eq_true rfl) rfl dX2_init_14 (fun H locs hf => ?_)
  refine lv_aload_n hx hb dX2_init_17 rfl (lv_at hl 0 rfl) ?_
  refine lv_iconst (v := 0) hx hb dX2_init_18 (by decide) ?_
  refine g_put (ci := 2) (C := RX2) (T := TX2) (N := 6) (ww' := [(h0, .inr (2, [.ref q1, .int 0, .int 0, .int 0, .int 0, .int 0])), (q1, .inl (gc G 0, 120, .inl (fun _ => 0)))]) S hf hinX tyX2 tyX2_ok nmX2 0 rfl rfl 2 (by decide) k6 rfl rfl rfl rfl (Nat.le_of_ble_eq_true rfl) rfl dX2_init_19 (fun H locs hf => ?_)
  refine lv_aload_n hx hb dX2_init_22 rfl (lv_at hl 0 rfl) ?_
  refine lv_iconst (v := 0) hx hb dX2_init_23 (by decide) ?_
  refine g_put (ci := 2) (C := RX2) (T := TX2) (N := 6) (ww' := [(h0, .inr (2, [.ref q1, .int 0, .int 0, .int 0, .int 0, .int 0])), (q1, .inl (gc G 0, 120, .inl (fun _ => 0)))]) S hf hinX tyX2 tyX2_ok nmX2 0 rfl rfl 3 (by decide) k7 rfl rfl rfl rfl (Nat.le_of_ble_eq_true rfl) rfl dX2_init_24 (fun H locs hf => ?_)
  refine lv_aload_n hx hb dX2_init_27 rfl (lv_at hl 0 rfl) ?_
  refine lv_iconst (v := 0) hx hb dX2_init_28 (by decide) ?_
  refine g_put (ci := 2) (C := RX2) (T := TX2) (N := 6) (ww' := [(h0, .inr (2, [.ref q1, .int 0, .int 0, .int 0, .int 0, .int 0])), (q1, .inl (gc G 0, 120, .inl (fun _ => 0)))]) S hf hinX tyX2 tyX2_ok nmX2 0 rfl rfl 4 (by decide) k8 rfl rfl rfl rfl (Nat.le_of_ble_eq_true rfl) rfl dX2_init_29 (fun H locs hf => ?_)
  refine lv_aload_n hx hb dX2_init_32 rfl (lv_at hl 0 rfl) ?_
  refine lv_iconst (v := 0) hx hb dX2_init_33 (by decide) ?_
  refine g_put (ci := 2) (C := RX2) (T := TX2) (N := 6) (ww' := [(h0, .inr (2, [.ref q1, .int 0, .int 0, .int 0, .int 0, .int 0])), (q1, .inl (gc G 0, 120, .inl (fun _ => 0)))]) S hf hinX tyX2 tyX2_ok nmX2 0 rfl rfl 5 (by decide) k9 rfl rfl rfl rfl (Nat.le_of_ble_eq_true rfl) rfl dX2_init_34 (fun H locs hf => ?_)
  exact g_iend S hr hlocks hf ⟨fun n => if n = 0 then h0 else q1, rfl, rfl⟩ rfl rfl dX2_init_37
set_option maxHeartbeats 4000000 in
set_option maxRecDepth 100000 in
theorem c_X0_init (l : Launch) (G : GT) (h0 : Nat) : Ci l G yX0_init wsX0_init ({ frames := 1, cells := 12, slots := 97, locals := 20 } : Room) h0 [(h0, .inr (0, [.int 0, .int 0, .int 0, .int 0, .null, .null, .null, .null, .null, .null, .null, .null, .null, .null, .null, .null]))] (fun w => ∃ ad : Nat → Nat, ad 0 = h0 ∧ w = wK G ad sK0) := by
  have hinX : ∀ w ∈ u_ws RX0 TX0 16, w ∈ wsX0_init := by decide +kernel
  have k0 : Cond.methodLink RX0 3 objectInit ∈ wsX0_init := by decide +kernel
  have k1 : Cond.instanceMethod objectInit ∈ wsX0_init := by decide +kernel
  have k2 : Cond.code objectInit ⟨#[0xb1]⟩ 1 none ∈ wsX0_init := by decide +kernel
  have k3 : Cond.fieldLink RX0 9 "PigeonRolls$Kingdom" "day" "I" ∈ wsX0_init := by decide +kernel
  have k4 : Cond.fieldLink RX0 15 "PigeonRolls$Kingdom" "treasury" "I" ∈ wsX0_init := by decide +kernel
  have k5 : Cond.fieldLink RX0 18 "PigeonRolls$Kingdom" "chance" "I" ∈ wsX0_init := by decide +kernel
  have k6 : Cond.fieldLink RX0 21 "PigeonRolls$Kingdom" "birds" "I" ∈ wsX0_init := by decide +kernel
  have k7 : Cond.arrayClass .int ∈ wsX0_init := by decide +kernel
  have k8 : Cond.fieldLink RX0 24 "PigeonRolls$Kingdom" "list" "[I" ∈ wsX0_init := by decide +kernel
  have k9 : Cond.fieldLink RX0 28 "PigeonRolls$Kingdom" "spots" "[I" ∈ wsX0_init := by decide +kernel
  have k10 : Cond.classLink RX0 31 "[[I" ∈ wsX0_init := by decide +kernel
  have k11 : Cond.fieldLink RX0 33 "PigeonRolls$Kingdom" "traits" "[[I" ∈ wsX0_init := by decide +kernel
  have k12 : Cond.fieldLink RX0 36 "PigeonRolls$Kingdom" "kind" "[I" ∈ wsX0_init := by decide +kernel
  have k13 : Cond.fieldLink RX0 39 "PigeonRolls$Kingdom" "loft" "[I" ∈ wsX0_init := by decide +kernel
  have k14 : Cond.fieldLink RX0 42 "PigeonRolls$Kingdom" "from" "[I" ∈ wsX0_init := by decide +kernel
  have k15 : Cond.fieldLink RX0 45 "PigeonRolls$Kingdom" "age" "[I" ∈ wsX0_init := by decide +kernel
  have k16 : Cond.fieldLink RX0 48 "PigeonRolls$Kingdom" "carried" "[I" ∈ wsX0_init := by decide +kernel
  have k17 : Cond.fieldLink RX0 51 "PigeonRolls$Kingdom" "boy" "[I" ∈ wsX0_init := by decide +kernel
  have k18 : Cond.fieldLink RX0 54 "PigeonRolls$Kingdom" "off" "[I" ∈ wsX0_init := by decide +kernel
  have k19 : Cond.fieldLink RX0 57 "PigeonRolls$Kingdom" "owed" "[I" ∈ wsX0_init := by decide +kernel
  have k20 : Cond.fieldLink RX0 60 "PigeonRolls$Kingdom" "paid" "[I" ∈ wsX0_init := by decide +kernel
  refine Ci.of cX0_init 2 (by decide) rfl (Nat.le_of_ble_eq_true rfl) ?_
  intro p e s m below meth c ls S hr hlocks hnm hf hE hl
  have S : CallFix p m c cX0_init 2 s ([.ref h0] : List Value).toArray wsX0_init RX0 := S
  have hnm : meth.name = "<init>" := hnm
  obtain ⟨hx, hb, hml, hown, hts⟩ := id S
  obtain ⟨H, hH⟩ : ∃ H : Heap, H = s.heap := ⟨_, rfl⟩
  obtain ⟨locs, hL9⟩ : ∃ L : List Loc, L = [] := ⟨_, rfl⟩
  have hf : Fr G (va_A [(h0, .inr (0, [.int 0, .int 0, .int 0, .int 0, .null, .null, .null, .null, .null, .null, .null, .null, .null, .null, .null, .null]))] s.heap.size) s [(h0, .inr (0, [.int 0, .int 0, .int 0, .int 0, .null, .null, .null, .null, .null, .null, .null, .null, .null, .null, .null, .null]))] H locs := by rw [hH, hL9]; exact hf
  suffices hg : W p l e ({ frames := 1, cells := 12, slots := 97, locals := 20 } : Room) s m ([.ref h0] : List Value).toArray below meth c H locs 0 0 (MQ below (IPost G [(h0, .inr (0, [.int 0, .int 0, .int 0, .int 0, .null, .null, .null, .null, .null, .null, .null, .null, .null, .null, .null, .null]))] s.heap.size (fun w => ∃ ad : Nat → Nat, ad 0 = h0 ∧ w = wK G ad sK0)) ([.ref h0] : List Value).toArray s 12 97 (va_A [(h0, .inr (0, [.int 0, .int 0, .int 0, .int 0, .null, .null, .null, .null, .null, .null, .null, .null, .null, .null, .null, .null]))] s.heap.size)) (F0 m 0 ls []) by rw [hH, hL9] at hg; exact hg
  clear hH hL9
  refine lv_aload_n hx hb dX0_init_0 rfl (lv_at hl 0 rfl) ?_
  refine g_obj S k0 k1 k2 hl.1 (Nat.le_of_ble_eq_true rfl) (Nat.le_of_ble_eq_true rfl) dX0_init_1 ?_
  refine lv_aload_n hx hb dX0_init_4 rfl (lv_at hl 0 rfl) ?_
  refine lv_iconst (v := 0) hx hb dX0_init_5 (by decide) ?_
  refine g_put (ci := 0) (C := RX0) (T := TX0) (N := 16) (ww' := [(h0, .inr (0, [.int 0, .int 0, .int 0, .int 0, .null, .null, .null, .null, .null, .null, .null, .null, .null, .null, .null, .null]))]) S hf hinX tyX0 tyX0_ok nmX0 0 rfl rfl 0 (by decide) k3 rfl rfl rfl rfl (Nat.le_of_ble_eq_true rfl) rfl dX0_init_6 (fun H locs hf => ?_)
  refine lv_aload_n hx hb dX0_init_9 rfl (lv_at hl 0 rfl) ?_
  refine lv_iconst (v := 0) hx hb dX0_init_10 (by decide) ?_
  refine g_put (ci := 0) (C := RX0) (T := TX0) (N := 16) (ww' := [(h0, .inr (0, [.int 0, .int 0, .int 0, .int 0, .null, .null, .null, .null, .null, .null, .null, .null, .null, .null, .null, .null]))]) S hf hinX tyX0 tyX0_ok nmX0 0 rfl rfl 1 (by decide) k4 rfl rfl rfl rfl (Nat.le_of_ble_eq_true rfl) rfl dX0_init_11 (fun H locs hf => ?_)
  refine lv_aload_n hx hb dX0_init_14 rfl (lv_at hl 0 rfl) ?_
  refine lv_iconst (v := 1) hx hb dX0_init_15 (by decide) ?_
  refine g_put (ci := 0) (C := RX0) (T := TX0) (N := 16) (ww' := [(h0, .inr (0, [.int 0, .int 0, .int 1, .int 0, .null, .null, .null, .null, .null, .null, .null, .null, .null, .null, .null, .null]))]) S hf hinX tyX0 tyX0_ok nmX0 0 rfl rfl 2 (by decide) k5 rfl rfl rfl rfl (Nat.le_of_ble_eq_true rfl) rfl dX0_init_16 (fun H locs hf => ?_)
  refine lv_aload_n hx hb dX0_init_19 rfl (lv_at hl 0 rfl) ?_
  refine lv_iconst (v := 0) hx hb dX0_init_20 (by decide) ?_
  refine g_put (ci := 0) (C := RX0) (T := TX0) (N := 16) (ww' := [(h0, .inr (0, [.int 0, .int 0, .int 1, .int 0, .null, .null, .null, .null, .null, .null, .null, .null, .null, .null, .null, .null]))]) S hf hinX tyX0 tyX0_ok nmX0 0 rfl rfl 3 (by decide) k6 rfl rfl rfl rfl (Nat.le_of_ble_eq_true rfl) rfl dX0_init_21 (fun H locs hf => ?_)
  refine lv_aload_n hx hb dX0_init_24 rfl (lv_at hl 0 rfl) ?_
  refine lv_bipush (v := 6) hx hb dX0_init_25 (by decide) ?_
  refine g_newi (N' := 6) S hf k7 (by decide) rfl (Nat.le_of_ble_eq_true rfl) (Nat.le_of_ble_eq_true rfl) (Nat.le_of_ble_eq_true rfl) dX0_init_27 (fun q1 H hf => ?_)
  have hf : Fr G (va_A [(h0, .inr (0, [.int 0, .int 0, .int 0, .int 0, .null, .null, .null, .null, .null, .null, .null, .null, .null, .null, .null, .null]))] s.heap.size) s ([(h0, .inr (0, [.int 0, .int 0, .int 1, .int 0, .null, .null, .null, .null, .null, .null, .null, .null, .null, .null, .null, .null])), (q1, .inl (gc G 0, 6, .inl (fun _ => 0)))]) H locs := hf
  refine g_putF (ci := 0) (C := RX0) (T := TX0) (N := 16) (ww' := [(h0, .inr (0, [.int 0, .int 0, .int 1, .int 0, .ref q1, .null, .null, .null, .null, .null, .null, .null, .null, .null, .null, .null])), (q1, .inl (gc G 0, 6, .inl (fun _ => 0)))]) S hf hinX tyX0 tyX0_ok nmX0 0 rfl rfl 4 (by decide) k8 rfl rfl hnm rfl rfl rfl (Nat.le_of_ble_eq_true rfl) rfl dX0_init_29 (fun H locs hf => ?_)
  refine lv_aload_n hx hb dX0_init_32 rfl (lv_at hl 0 rfl) ?_
  refine lv_bipush (v := 10) hx hb dX0_init_33 (by decide) ?_
  refine g_newi (N' := 10) S hf k7 (by decide) rfl (Nat.le_of_ble_eq_true rfl) (Nat.le_of_ble_eq_true rfl) (Nat.le_of_ble_eq_true rfl) dX0_init_35 (fun q2 H hf => ?_)
  have hf : Fr G (va_A [(h0, .inr (0, [.int 0, .int 0, .int 0, .int 0, .null, .null, .null, .null, .null, .null, .null, .null, .null, .null, .null, .null]))] s.heap.size) s ([(h0, .inr (0, [.int 0, .int 0, .int 1, .int 0, .ref q1, .null, .null, .null, .null, .null, .null, .null, .null, .null, .null, .null])), (q1, .inl (gc G 0, 6, .inl (fun _ => 0))), (q2, .inl (gc G 0, 10, .inl (fun _ => 0)))]) H locs := hf
  refine g_putF (ci := 0) (C := RX0) (T := TX0) (N := 16) (ww' := [(h0, .inr (0, [.int 0, .int 0, .int 1, .int 0, .ref q1, .ref q2, .null, .null, .null, .null, .null, .null, .null, .null, .null, .null])), (q1, .inl (gc G 0, 6, .inl (fun _ => 0))), (q2, .inl (gc G 0, 10, .inl (fun _ => 0)))]) S hf hinX tyX0 tyX0_ok nmX0 0 rfl rfl 5 (by decide) k9 rfl rfl hnm rfl rfl rfl (Nat.le_of_ble_eq_true rfl) rfl dX0_init_37 (fun H locs hf => ?_)
  refine lv_aload_n hx hb dX0_init_40 rfl (lv_at hl 0 rfl) ?_
  refine lv_bipush (v := 9) hx hb dX0_init_41 (by decide) ?_
  refine lv_bipush (v := 8) hx hb dX0_init_43 (by decide) ?_
  refine g_mna S hf k10 hE.1 k7 (Nat.le_of_ble_eq_true rfl) (Nat.le_of_ble_eq_true rfl) dX0_init_45 (fun q3 r H hf => ?_)
  have hf : Fr G (va_A [(h0, .inr (0, [.int 0, .int 0, .int 0, .int 0, .null, .null, .null, .null, .null, .null, .null, .null, .null, .null, .null, .null]))] s.heap.size) s ([(h0, .inr (0, [.int 0, .int 0, .int 1, .int 0, .ref q1, .ref q2, .null, .null, .null, .null, .null, .null, .null, .null, .null, .null])), (q1, .inl (gc G 0, 6, .inl (fun _ => 0))), (q2, .inl (gc G 0, 10, .inl (fun _ => 0))), (q3, .inl (gc G 1, 9, .inr (.inr (.inr (.inr (fun i => if i < 9 then some (r i) else none)))))), (r 0, .inl (gc G 0, 8, .inl (fun _ => 0))), (r 1, .inl (gc G 0, 8, .inl (fun _ => 0))), (r 2, .inl (gc G 0, 8, .inl (fun _ => 0))), (r 3, .inl (gc G 0, 8, .inl (fun _ => 0))), (r 4, .inl (gc G 0, 8, .inl (fun _ => 0))), (r 5, .inl (gc G 0, 8, .inl (fun _ => 0))), (r 6, .inl (gc G 0, 8, .inl (fun _ => 0))), (r 7, .inl (gc G 0, 8, .inl (fun _ => 0))), (r 8, .inl (gc G 0, 8, .inl (fun _ => 0)))]) H locs := hf
  refine g_putF (ci := 0) (C := RX0) (T := TX0) (N := 16) (ww' := [(h0, .inr (0, [.int 0, .int 0, .int 1, .int 0, .ref q1, .ref q2, .ref q3, .null, .null, .null, .null, .null, .null, .null, .null, .null])), (q1, .inl (gc G 0, 6, .inl (fun _ => 0))), (q2, .inl (gc G 0, 10, .inl (fun _ => 0))), (q3, .inl (gc G 1, 9, .inr (.inr (.inr (.inr (fun i => if i < 9 then some (r i) else none)))))), (r 0, .inl (gc G 0, 8, .inl (fun _ => 0))), (r 1, .inl (gc G 0, 8, .inl (fun _ => 0))), (r 2, .inl (gc G 0, 8, .inl (fun _ => 0))), (r 3, .inl (gc G 0, 8, .inl (fun _ => 0))), (r 4, .inl (gc G 0, 8, .inl (fun _ => 0))), (r 5, .inl (gc G 0, 8, .inl (fun _ => 0))), (r 6, .inl (gc G 0, 8, .inl (fun _ => 0))), (r 7, .inl (gc G 0, 8, .inl (fun _ => 0))), (r 8, .inl (gc G 0, 8, .inl (fun _ => 0)))]) S hf hinX tyX0 tyX0_ok nmX0 0 rfl rfl 6 (by decide) k11 rfl rfl hnm rfl rfl rfl (Nat.le_of_ble_eq_true rfl) rfl dX0_init_49 (fun H locs hf => ?_)
  refine lv_aload_n hx hb dX0_init_52 rfl (lv_at hl 0 rfl) ?_
  refine lv_aload_n hx hb dX0_init_53 rfl (lv_at hl 0 rfl) ?_
  refine g_get (ci := 0) (C := RX0) (T := TX0) (N := 16) (v := .ref q3) S hf hinX 0 rfl rfl 6 (by decide) k11 rfl rfl dX0_init_54 ?_
  refine lv_iconst (v := 0) hx hb dX0_init_57 (by decide) ?_
  refine g_aald (v := r 0) (t0 := 1) S hf 3 rfl rfl rfl (by decide) rfl dX0_init_58 ?_
  refine g_putF (ci := 0) (C := RX0) (T := TX0) (N := 16) (ww' := [(h0, .inr (0, [.int 0, .int 0, .int 1, .int 0, .ref q1, .ref q2, .ref q3, .ref (r 0), .null, .null, .null, .null, .null, .null, .null, .null])), (q1, .inl (gc G 0, 6, .inl (fun _ => 0))), (q2, .inl (gc G 0, 10, .inl (fun _ => 0))), (q3, .inl (gc G 1, 9, .inr (.inr (.inr (.inr (fun i => if i < 9 then some (r i) else none)))))), (r 0, .inl (gc G 0, 8, .inl (fun _ => 0))), (r 1, .inl (gc G 0, 8, .inl (fun _ => 0))), (r 2, .inl (gc G 0, 8, .inl (fun _ => 0))), (r 3, .inl (gc G 0, 8, .inl (fun _ => 0))), (r 4, .inl (gc G 0, 8, .inl (fun _ => 0))), (r 5, .inl (gc G 0, 8, .inl (fun _ => 0))), (r 6, .inl (gc G 0, 8, .inl (fun _ => 0))), (r 7, .inl (gc G 0, 8, .inl (fun _ => 0))), (r 8, .inl (gc G 0, 8, .inl (fun _ => 0)))]) S hf hinX tyX0 tyX0_ok nmX0 0 rfl rfl 7 (by decide) k12 rfl rfl hnm rfl rfl rfl (Nat.le_of_ble_eq_true rfl) rfl dX0_init_59 (fun H locs hf => ?_)
  refine lv_aload_n hx hb dX0_init_62 rfl (lv_at hl 0 rfl) ?_
  refine lv_aload_n hx hb dX0_init_63 rfl (lv_at hl 0 rfl) ?_
  refine g_get (ci := 0) (C := RX0) (T := TX0) (N := 16) (v := .ref q3) S hf hinX 0 rfl rfl 6 (by decide) k11 rfl rfl dX0_init_64 ?_
  refine lv_iconst (v := 1) hx hb dX0_init_67 (by decide) ?_
  refine g_aald (v := r 1) (t0 := 1) S hf 3 rfl rfl rfl (by decide) rfl dX0_init_68 ?_
  refine g_putF (ci := 0) (C := RX0) (T := TX0) (N := 16) (ww' := [(h0, .inr (0, [.int 0, .int 0, .int 1, .int 0, .ref q1, .ref q2, .ref q3, .ref (r 0), .ref (r 1), .null, .null, .null, .null, .null, .null, .null])), (q1, .inl (gc G 0, 6, .inl (fun _ => 0))), (q2, .inl (gc G 0, 10, .inl (fun _ => 0))), (q3, .inl (gc G 1, 9, .inr (.inr (.inr (.inr (fun i => if i < 9 then some (r i) else none)))))), (r 0, .inl (gc G 0, 8, .inl (fun _ => 0))), (r 1, .inl (gc G 0, 8, .inl (fun _ => 0))), (r 2, .inl (gc G 0, 8, .inl (fun _ => 0))), (r 3, .inl (gc G 0, 8, .inl (fun _ => 0))), (r 4, .inl (gc G 0, 8, .inl (fun _ => 0))), (r 5, .inl (gc G 0, 8, .inl (fun _ => 0))), (r 6, .inl (gc G 0, 8, .inl (fun _ => 0))), (r 7, .inl (gc G 0, 8, .inl (fun _ => 0))), (r 8, .inl (gc G 0, 8, .inl (fun _ => 0)))]) S hf hinX tyX0 tyX0_ok nmX0 0 rfl rfl 8 (by decide) k13 rfl rfl hnm rfl rfl rfl (Nat.le_of_ble_eq_true rfl) rfl dX0_init_69 (fun H locs hf => ?_)
  refine lv_aload_n hx hb dX0_init_72 rfl (lv_at hl 0 rfl) ?_
  refine lv_aload_n hx hb dX0_init_73 rfl (lv_at hl 0 rfl) ?_
  refine g_get (ci := 0) (C := RX0) (T := TX0) (N := 16) (v := .ref q3) S hf hinX 0 rfl rfl 6 (by decide) k11 rfl rfl dX0_init_74 ?_
  refine lv_iconst (v := 2) hx hb dX0_init_77 (by decide) ?_
  refine g_aald (v := r 2) (t0 := 1) S hf 3 rfl rfl rfl (by decide) rfl dX0_init_78 ?_
  refine g_putF (ci := 0) (C := RX0) (T := TX0) (N := 16) (ww' := [(h0, .inr (0, [.int 0, .int 0, .int 1, .int 0, .ref q1, .ref q2, .ref q3, .ref (r 0), .ref (r 1), .ref (r 2), .null, .null, .null, .null, .null, .null])), (q1, .inl (gc G 0, 6, .inl (fun _ => 0))), (q2, .inl (gc G 0, 10, .inl (fun _ => 0))), (q3, .inl (gc G 1, 9, .inr (.inr (.inr (.inr (fun i => if i < 9 then some (r i) else none)))))), (r 0, .inl (gc G 0, 8, .inl (fun _ => 0))), (r 1, .inl (gc G 0, 8, .inl (fun _ => 0))), (r 2, .inl (gc G 0, 8, .inl (fun _ => 0))), (r 3, .inl (gc G 0, 8, .inl (fun _ => 0))), (r 4, .inl (gc G 0, 8, .inl (fun _ => 0))), (r 5, .inl (gc G 0, 8, .inl (fun _ => 0))), (r 6, .inl (gc G 0, 8, .inl (fun _ => 0))), (r 7, .inl (gc G 0, 8, .inl (fun _ => 0))), (r 8, .inl (gc G 0, 8, .inl (fun _ => 0)))]) S hf hinX tyX0 tyX0_ok nmX0 0 rfl rfl 9 (by decide) k14 rfl rfl hnm rfl rfl rfl (Nat.le_of_ble_eq_true rfl) rfl dX0_init_79 (fun H locs hf => ?_)
  refine lv_aload_n hx hb dX0_init_82 rfl (lv_at hl 0 rfl) ?_
  refine lv_aload_n hx hb dX0_init_83 rfl (lv_at hl 0 rfl) ?_
  refine g_get (ci := 0) (C := RX0) (T := TX0) (N := 16) (v := .ref q3) S hf hinX 0 rfl rfl 6 (by decide) k11 rfl rfl dX0_init_84 ?_
  refine lv_iconst (v := 3) hx hb dX0_init_87 (by decide) ?_
  refine g_aald (v := r 3) (t0 := 1) S hf 3 rfl rfl rfl (by decide) rfl dX0_init_88 ?_
  refine g_putF (ci := 0) (C := RX0) (T := TX0) (N := 16) (ww' := [(h0, .inr (0, [.int 0, .int 0, .int 1, .int 0, .ref q1, .ref q2, .ref q3, .ref (r 0), .ref (r 1), .ref (r 2), .ref (r 3), .null, .null, .null, .null, .null])), (q1, .inl (gc G 0, 6, .inl (fun _ => 0))), (q2, .inl (gc G 0, 10, .inl (fun _ => 0))), (q3, .inl (gc G 1, 9, .inr (.inr (.inr (.inr (fun i => if i < 9 then some (r i) else none)))))), (r 0, .inl (gc G 0, 8, .inl (fun _ => 0))), (r 1, .inl (gc G 0, 8, .inl (fun _ => 0))), (r 2, .inl (gc G 0, 8, .inl (fun _ => 0))), (r 3, .inl (gc G 0, 8, .inl (fun _ => 0))), (r 4, .inl (gc G 0, 8, .inl (fun _ => 0))), (r 5, .inl (gc G 0, 8, .inl (fun _ => 0))), (r 6, .inl (gc G 0, 8, .inl (fun _ => 0))), (r 7, .inl (gc G 0, 8, .inl (fun _ => 0))), (r 8, .inl (gc G 0, 8, .inl (fun _ => 0)))]) S hf hinX tyX0 tyX0_ok nmX0 0 rfl rfl 10 (by decide) k15 rfl rfl hnm rfl rfl rfl (Nat.le_of_ble_eq_true rfl) rfl dX0_init_89 (fun H locs hf => ?_)
  refine lv_aload_n hx hb dX0_init_92 rfl (lv_at hl 0 rfl) ?_
  refine lv_aload_n hx hb dX0_init_93 rfl (lv_at hl 0 rfl) ?_
  refine g_get (ci := 0) (C := RX0) (T := TX0) (N := 16) (v := .ref q3) S hf hinX 0 rfl rfl 6 (by decide) k11 rfl rfl dX0_init_94 ?_
  refine lv_iconst (v := 4) hx hb dX0_init_97 (by decide) ?_
  refine g_aald (v := r 4) (t0 := 1) S hf 3 rfl rfl rfl (by decide) rfl dX0_init_98 ?_
  refine g_putF (ci := 0) (C := RX0) (T := TX0) (N := 16) (ww' := [(h0, .inr (0, [.int 0, .int 0, .int 1, .int 0, .ref q1, .ref q2, .ref q3, .ref (r 0), .ref (r 1), .ref (r 2), .ref (r 3), .ref (r 4), .null, .null, .null, .null])), (q1, .inl (gc G 0, 6, .inl (fun _ => 0))), (q2, .inl (gc G 0, 10, .inl (fun _ => 0))), (q3, .inl (gc G 1, 9, .inr (.inr (.inr (.inr (fun i => if i < 9 then some (r i) else none)))))), (r 0, .inl (gc G 0, 8, .inl (fun _ => 0))), (r 1, .inl (gc G 0, 8, .inl (fun _ => 0))), (r 2, .inl (gc G 0, 8, .inl (fun _ => 0))), (r 3, .inl (gc G 0, 8, .inl (fun _ => 0))), (r 4, .inl (gc G 0, 8, .inl (fun _ => 0))), (r 5, .inl (gc G 0, 8, .inl (fun _ => 0))), (r 6, .inl (gc G 0, 8, .inl (fun _ => 0))), (r 7, .inl (gc G 0, 8, .inl (fun _ => 0))), (r 8, .inl (gc G 0, 8, .inl (fun _ => 0)))]) S hf hinX tyX0 tyX0_ok nmX0 0 rfl rfl 11 (by decide) k16 rfl rfl hnm rfl rfl rfl (Nat.le_of_ble_eq_true rfl) rfl dX0_init_99 (fun H locs hf => ?_)
  refine lv_aload_n hx hb dX0_init_102 rfl (lv_at hl 0 rfl) ?_
  refine lv_aload_n hx hb dX0_init_103 rfl (lv_at hl 0 rfl) ?_
  refine g_get (ci := 0) (C := RX0) (T := TX0) (N := 16) (v := .ref q3) S hf hinX 0 rfl rfl 6 (by decide) k11 rfl rfl dX0_init_104 ?_
  refine lv_iconst (v := 5) hx hb dX0_init_107 (by decide) ?_
  refine g_aald (v := r 5) (t0 := 1) S hf 3 rfl rfl rfl (by decide) rfl dX0_init_108 ?_
  refine g_putF (ci := 0) (C := RX0) (T := TX0) (N := 16) (ww' := [(h0, .inr (0, [.int 0, .int 0, .int 1, .int 0, .ref q1, .ref q2, .ref q3, .ref (r 0), .ref (r 1), .ref (r 2), .ref (r 3), .ref (r 4), .ref (r 5), .null, .null, .null])), (q1, .inl (gc G 0, 6, .inl (fun _ => 0))), (q2, .inl (gc G 0, 10, .inl (fun _ => 0))), (q3, .inl (gc G 1, 9, .inr (.inr (.inr (.inr (fun i => if i < 9 then some (r i) else none)))))), (r 0, .inl (gc G 0, 8, .inl (fun _ => 0))), (r 1, .inl (gc G 0, 8, .inl (fun _ => 0))), (r 2, .inl (gc G 0, 8, .inl (fun _ => 0))), (r 3, .inl (gc G 0, 8, .inl (fun _ => 0))), (r 4, .inl (gc G 0, 8, .inl (fun _ => 0))), (r 5, .inl (gc G 0, 8, .inl (fun _ => 0))), (r 6, .inl (gc G 0, 8, .inl (fun _ => 0))), (r 7, .inl (gc G 0, 8, .inl (fun _ => 0))), (r 8, .inl (gc G 0, 8, .inl (fun _ => 0)))]) S hf hinX tyX0 tyX0_ok nmX0 0 rfl rfl 12 (by decide) k17 rfl rfl hnm rfl rfl rfl (Nat.le_of_ble_eq_true rfl) rfl dX0_init_109 (fun H locs hf => ?_)
  refine lv_aload_n hx hb dX0_init_112 rfl (lv_at hl 0 rfl) ?_
  refine lv_aload_n hx hb dX0_init_113 rfl (lv_at hl 0 rfl) ?_
  refine g_get (ci := 0) (C := RX0) (T := TX0) (N := 16) (v := .ref q3) S hf hinX 0 rfl rfl 6 (by decide) k11 rfl rfl dX0_init_114 ?_
  refine lv_bipush (v := 6) hx hb dX0_init_117 (by decide) ?_
  refine g_aald (v := r 6) (t0 := 1) S hf 3 rfl rfl rfl (by decide) rfl dX0_init_119 ?_
  refine g_putF (ci := 0) (C := RX0) (T := TX0) (N := 16) (ww' := [(h0, .inr (0, [.int 0, .int 0, .int 1, .int 0, .ref q1, .ref q2, .ref q3, .ref (r 0), .ref (r 1), .ref (r 2), .ref (r 3), .ref (r 4), .ref (r 5), .ref (r 6), .null, .null])), (q1, .inl (gc G 0, 6, .inl (fun _ => 0))), (q2, .inl (gc G 0, 10, .inl (fun _ => 0))), (q3, .inl (gc G 1, 9, .inr (.inr (.inr (.inr (fun i => if i < 9 then some (r i) else none)))))), (r 0, .inl (gc G 0, 8, .inl (fun _ => 0))), (r 1, .inl (gc G 0, 8, .inl (fun _ => 0))), (r 2, .inl (gc G 0, 8, .inl (fun _ => 0))), (r 3, .inl (gc G 0, 8, .inl (fun _ => 0))), (r 4, .inl (gc G 0, 8, .inl (fun _ => 0))), (r 5, .inl (gc G 0, 8, .inl (fun _ => 0))), (r 6, .inl (gc G 0, 8, .inl (fun _ => 0))), (r 7, .inl (gc G 0, 8, .inl (fun _ => 0))), (r 8, .inl (gc G 0, 8, .inl (fun _ => 0)))]) S hf hinX tyX0 tyX0_ok nmX0 0 rfl rfl 13 (by decide) k18 rfl rfl hnm rfl rfl rfl (Nat.le_of_ble_eq_true rfl) rfl dX0_init_120 (fun H locs hf => ?_)
  refine lv_aload_n hx hb dX0_init_123 rfl (lv_at hl 0 rfl) ?_
  refine lv_aload_n hx hb dX0_init_124 rfl (lv_at hl 0 rfl) ?_
  refine g_get (ci := 0) (C := RX0) (T := TX0) (N := 16) (v := .ref q3) S hf hinX 0 rfl rfl 6 (by decide) k11 rfl rfl dX0_init_125 ?_
  refine lv_bipush (v := 7) hx hb dX0_init_128 (by decide) ?_
  refine g_aald (v := r 7) (t0 := 1) S hf 3 rfl rfl rfl (by decide) rfl dX0_init_130 ?_
  refine g_putF (ci := 0) (C := RX0) (T := TX0) (N := 16) (ww' := [(h0, .inr (0, [.int 0, .int 0, .int 1, .int 0, .ref q1, .ref q2, .ref q3, .ref (r 0), .ref (r 1), .ref (r 2), .ref (r 3), .ref (r 4), .ref (r 5), .ref (r 6), .ref (r 7), .null])), (q1, .inl (gc G 0, 6, .inl (fun _ => 0))), (q2, .inl (gc G 0, 10, .inl (fun _ => 0))), (q3, .inl (gc G 1, 9, .inr (.inr (.inr (.inr (fun i => if i < 9 then some (r i) else none)))))), (r 0, .inl (gc G 0, 8, .inl (fun _ => 0))), (r 1, .inl (gc G 0, 8, .inl (fun _ => 0))), (r 2, .inl (gc G 0, 8, .inl (fun _ => 0))), (r 3, .inl (gc G 0, 8, .inl (fun _ => 0))), (r 4, .inl (gc G 0, 8, .inl (fun _ => 0))), (r 5, .inl (gc G 0, 8, .inl (fun _ => 0))), (r 6, .inl (gc G 0, 8, .inl (fun _ => 0))), (r 7, .inl (gc G 0, 8, .inl (fun _ => 0))), (r 8, .inl (gc G 0, 8, .inl (fun _ => 0)))]) S hf hinX tyX0 tyX0_ok nmX0 0 rfl rfl 14 (by decide) k19 rfl rfl hnm rfl rfl rfl (Nat.le_of_ble_eq_true rfl) rfl dX0_init_131 (fun H locs hf => ?_)
  refine lv_aload_n hx hb dX0_init_134 rfl (lv_at hl 0 rfl) ?_
  refine lv_aload_n hx hb dX0_init_135 rfl (lv_at hl 0 rfl) ?_
  refine g_get (ci := 0) (C := RX0) (T := TX0) (N := 16) (v := .ref q3) S hf hinX 0 rfl rfl 6 (by decide) k11 rfl rfl dX0_init_136 ?_
  refine lv_bipush (v := 8) hx hb dX0_init_139 (by decide) ?_
  refine g_aald (v := r 8) (t0 := 1) S hf 3 rfl rfl rfl (by decide) rfl dX0_init_141 ?_
  refine g_putF (ci := 0) (C := RX0) (T := TX0) (N := 16) (ww' := [(h0, .inr (0, [.int 0, .int 0, .int 1, .int 0, .ref q1, .ref q2, .ref q3, .ref (r 0), .ref (r 1), .ref (r 2), .ref (r 3), .ref (r 4), .ref (r 5), .ref (r 6), .ref (r 7), .ref (r 8)])), (q1, .inl (gc G 0, 6, .inl (fun _ => 0))), (q2, .inl (gc G 0, 10, .inl (fun _ => 0))), (q3, .inl (gc G 1, 9, .inr (.inr (.inr (.inr (fun i => if i < 9 then some (r i) else none)))))), (r 0, .inl (gc G 0, 8, .inl (fun _ => 0))), (r 1, .inl (gc G 0, 8, .inl (fun _ => 0))), (r 2, .inl (gc G 0, 8, .inl (fun _ => 0))), (r 3, .inl (gc G 0, 8, .inl (fun _ => 0))), (r 4, .inl (gc G 0, 8, .inl (fun _ => 0))), (r 5, .inl (gc G 0, 8, .inl (fun _ => 0))), (r 6, .inl (gc G 0, 8, .inl (fun _ => 0))), (r 7, .inl (gc G 0, 8, .inl (fun _ => 0))), (r 8, .inl (gc G 0, 8, .inl (fun _ => 0)))]) S hf hinX tyX0 tyX0_ok nmX0 0 rfl rfl 15 (by decide) k20 rfl rfl hnm rfl rfl rfl (Nat.le_of_ble_eq_true rfl) rfl dX0_init_142 (fun H locs hf => ?_)
  refine lv_iconst (v := 0) hx hb dX0_init_145 (by decide) ?_
  refine lv_istore_n (lv' := [(1, .int 0), (0, .ref h0)]) hx hb dX0_init_146 rfl hl (by decide) rfl (fun ls hl => ?_)
  refine lv_iload_n hx hb dX0_init_147 rfl (lv_at hl 0 rfl) ?_
  refine lv_bipush (v := 10) hx hb dX0_init_148 (by decide) ?_
  refine lv_icmp_ge (tgt := 166) hx hb dX0_init_150 (by decide) (fun c9 => absurd c9 (by decide)) (fun _ => ?_)
  refine lv_aload_n hx hb dX0_init_153 rfl (lv_at hl 1 rfl) ?_
  refine g_get (ci := 0) (C := RX0) (T := TX0) (N := 16) (v := .ref q2) S hf hinX 0 rfl rfl 5 (by decide) k9 rfl rfl dX0_init_154 ?_
  refine lv_iload_n hx hb dX0_init_157 rfl (lv_at hl 0 rfl) ?_
  refine lv_iconst (v := -1) hx hb dX0_init_158 (by decide) ?_
  refine g_ast (ww' := [(h0, .inr (0, [.int 0, .int 0, .int 1, .int 0, .ref q1, .ref q2, .ref q3, .ref (r 0), .ref (r 1), .ref (r 2), .ref (r 3), .ref (r 4), .ref (r 5), .ref (r 6), .ref (r 7), .ref (r 8)])), (q1, .inl (gc G 0, 6, .inl (fun _ => 0))), (q2, .inl (gc G 0, 10, .inl (upd (fun _ => 0) 0 (-1)))), (q3, .inl (gc G 1, 9, .inr (.inr (.inr (.inr (fun i => if i < 9 then some (r i) else none)))))), (r 0, .inl (gc G 0, 8, .inl (fun _ => 0))), (r 1, .inl (gc G 0, 8, .inl (fun _ => 0))), (r 2, .inl (gc G 0, 8, .inl (fun _ => 0))), (r 3, .inl (gc G 0, 8, .inl (fun _ => 0))), (r 4, .inl (gc G 0, 8, .inl (fun _ => 0))), (r 5, .inl (gc G 0, 8, .inl (fun _ => 0))), (r 6, .inl (gc G 0, 8, .inl (fun _ => 0))), (r 7, .inl (gc G 0, 8, .inl (fun _ => 0))), (r 8, .inl (gc G 0, 8, .inl (fun _ => 0)))]) S hf 2 rfl (by decide) rfl dX0_init_159 (fun H locs hf => ?_)
  refine lv_iinc (v := 1) (lv' := [(1, .int 1), (0, .ref h0)]) hx hb dX0_init_160 hl (k := 0) rfl (by decide) (by decide) rfl (fun ls hl => ?_)
  refine lv_goto (tgt := 147) hx hb dX0_init_163 (by decide) ?_
  refine lv_iload_n hx hb dX0_init_147 rfl (lv_at hl 0 rfl) ?_
  refine lv_bipush (v := 10) hx hb dX0_init_148 (by decide) ?_
  refine lv_icmp_ge (tgt := 166) hx hb dX0_init_150 (by decide) (fun c9 => absurd c9 (by decide)) (fun _ => ?_)
  refine lv_aload_n hx hb dX0_init_153 rfl (lv_at hl 1 rfl) ?_
  refine g_get (ci := 0) (C := RX0) (T := TX0) (N := 16) (v := .ref q2) S hf hinX 0 rfl rfl 5 (by decide) k9 rfl rfl dX0_init_154 ?_
  refine lv_iload_n hx hb dX0_init_157 rfl (lv_at hl 0 rfl) ?_
  refine lv_iconst (v := -1) hx hb dX0_init_158 (by decide) ?_
  refine g_ast (ww' := [(h0, .inr (0, [.int 0, .int 0, .int 1, .int 0, .ref q1, .ref q2, .ref q3, .ref (r 0), .ref (r 1), .ref (r 2), .ref (r 3), .ref (r 4), .ref (r 5), .ref (r 6), .ref (r 7), .ref (r 8)])), (q1, .inl (gc G 0, 6, .inl (fun _ => 0))), (q2, .inl (gc G 0, 10, .inl (upd (upd (fun _ => 0) 0 (-1)) 1 (-1)))), (q3, .inl (gc G 1, 9, .inr (.inr (.inr (.inr (fun i => if i < 9 then some (r i) else none)))))), (r 0, .inl (gc G 0, 8, .inl (fun _ => 0))), (r 1, .inl (gc G 0, 8, .inl (fun _ => 0))), (r 2, .inl (gc G 0, 8, .inl (fun _ => 0))), (r 3, .inl (gc G 0, 8, .inl (fun _ => 0))), (r 4, .inl (gc G 0, 8, .inl (fun _ => 0))), (r 5, .inl (gc G 0, 8, .inl (fun _ => 0))), (r 6, .inl (gc G 0, 8, .inl (fun _ => 0))), (r 7, .inl (gc G 0, 8, .inl (fun _ => 0))), (r 8, .inl (gc G 0, 8, .inl (fun _ => 0)))]) S hf 2 rfl (by decide) rfl dX0_init_159 (fun H locs hf => ?_)
  refine lv_iinc (v := 2) (lv' := [(1, .int 2), (0, .ref h0)]) hx hb dX0_init_160 hl (k := 0) rfl (by decide) (by decide) rfl (fun ls hl => ?_)
  refine lv_goto (tgt := 147) hx hb dX0_init_163 (by decide) ?_
  refine lv_iload_n hx hb dX0_init_147 rfl (lv_at hl 0 rfl) ?_
  refine lv_bipush (v := 10) hx hb dX0_init_148 (by decide) ?_
  refine lv_icmp_ge (tgt := 166) hx hb dX0_init_150 (by decide) (fun c9 => absurd c9 (by decide)) (fun _ => ?_)
  refine lv_aload_n hx hb dX0_init_153 rfl (lv_at hl 1 rfl) ?_
  refine g_get (ci := 0) (C := RX0) (T := TX0) (N := 16) (v := .ref q2) S hf hinX 0 rfl rfl 5 (by decide) k9 rfl rfl dX0_init_154 ?_
  refine lv_iload_n hx hb dX0_init_157 rfl (lv_at hl 0 rfl) ?_
  refine lv_iconst (v := -1) hx hb dX0_init_158 (by decide) ?_
  refine g_ast (ww' := [(h0, .inr (0, [.int 0, .int 0, .int 1, .int 0, .ref q1, .ref q2, .ref q3, .ref (r 0), .ref (r 1), .ref (r 2), .ref (r 3), .ref (r 4), .ref (r 5), .ref (r 6), .ref (r 7), .ref (r 8)])), (q1, .inl (gc G 0, 6, .inl (fun _ => 0))), (q2, .inl (gc G 0, 10, .inl (upd (upd (upd (fun _ => 0) 0 (-1)) 1 (-1)) 2 (-1)))), (q3, .inl (gc G 1, 9, .inr (.inr (.inr (.inr (fun i => if i < 9 then some (r i) else none)))))), (r 0, .inl (gc G 0, 8, .inl (fun _ => 0))), (r 1, .inl (gc G 0, 8, .inl (fun _ => 0))), (r 2, .inl (gc G 0, 8, .inl (fun _ => 0))), (r 3, .inl (gc G 0, 8, .inl (fun _ => 0))), (r 4, .inl (gc G 0, 8, .inl (fun _ => 0))), (r 5, .inl (gc G 0, 8, .inl (fun _ => 0))), (r 6, .inl (gc G 0, 8, .inl (fun _ => 0))), (r 7, .inl (gc G 0, 8, .inl (fun _ => 0))), (r 8, .inl (gc G 0, 8, .inl (fun _ => 0)))]) S hf 2 rfl (by decide) rfl dX0_init_159 (fun H locs hf => ?_)
  refine lv_iinc (v := 3) (lv' := [(1, .int 3), (0, .ref h0)]) hx hb dX0_init_160 hl (k := 0) rfl (by decide) (by decide) rfl (fun ls hl => ?_)
  refine lv_goto (tgt := 147) hx hb dX0_init_163 (by decide) ?_
  refine lv_iload_n hx hb dX0_init_147 rfl (lv_at hl 0 rfl) ?_
  refine lv_bipush (v := 10) hx hb dX0_init_148 (by decide) ?_
  refine lv_icmp_ge (tgt := 166) hx hb dX0_init_150 (by decide) (fun c9 => absurd c9 (by decide)) (fun _ => ?_)
  refine lv_aload_n hx hb dX0_init_153 rfl (lv_at hl 1 rfl) ?_
  refine g_get (ci := 0) (C := RX0) (T := TX0) (N := 16) (v := .ref q2) S hf hinX 0 rfl rfl 5 (by decide) k9 rfl rfl dX0_init_154 ?_
  refine lv_iload_n hx hb dX0_init_157 rfl (lv_at hl 0 rfl) ?_
  refine lv_iconst (v := -1) hx hb dX0_init_158 (by decide) ?_
  refine g_ast (ww' := [(h0, .inr (0, [.int 0, .int 0, .int 1, .int 0, .ref q1, .ref q2, .ref q3, .ref (r 0), .ref (r 1), .ref (r 2), .ref (r 3), .ref (r 4), .ref (r 5), .ref (r 6), .ref (r 7), .ref (r 8)])), (q1, .inl (gc G 0, 6, .inl (fun _ => 0))), (q2, .inl (gc G 0, 10, .inl (upd (upd (upd (upd (fun _ => 0) 0 (-1)) 1 (-1)) 2 (-1)) 3 (-1)))), (q3, .inl (gc G 1, 9, .inr (.inr (.inr (.inr (fun i => if i < 9 then some (r i) else none)))))), (r 0, .inl (gc G 0, 8, .inl (fun _ => 0))), (r 1, .inl (gc G 0, 8, .inl (fun _ => 0))), (r 2, .inl (gc G 0, 8, .inl (fun _ => 0))), (r 3, .inl (gc G 0, 8, .inl (fun _ => 0))), (r 4, .inl (gc G 0, 8, .inl (fun _ => 0))), (r 5, .inl (gc G 0, 8, .inl (fun _ => 0))), (r 6, .inl (gc G 0, 8, .inl (fun _ => 0))), (r 7, .inl (gc G 0, 8, .inl (fun _ => 0))), (r 8, .inl (gc G 0, 8, .inl (fun _ => 0)))]) S hf 2 rfl (by decide) rfl dX0_init_159 (fun H locs hf => ?_)
  refine lv_iinc (v := 4) (lv' := [(1, .int 4), (0, .ref h0)]) hx hb dX0_init_160 hl (k := 0) rfl (by decide) (by decide) rfl (fun ls hl => ?_)
  refine lv_goto (tgt := 147) hx hb dX0_init_163 (by decide) ?_
  refine lv_iload_n hx hb dX0_init_147 rfl (lv_at hl 0 rfl) ?_
  refine lv_bipush (v := 10) hx hb dX0_init_148 (by decide) ?_
  refine lv_icmp_ge (tgt := 166) hx hb dX0_init_150 (by decide) (fun c9 => absurd c9 (by decide)) (fun _ => ?_)
  refine lv_aload_n hx hb dX0_init_153 rfl (lv_at hl 1 rfl) ?_
  refine g_get (ci := 0) (C := RX0) (T := TX0) (N := 16) (v := .ref q2) S hf hinX 0 rfl rfl 5 (by decide) k9 rfl rfl dX0_init_154 ?_
  refine lv_iload_n hx hb dX0_init_157 rfl (lv_at hl 0 rfl) ?_
  refine lv_iconst (v := -1) hx hb dX0_init_158 (by decide) ?_
  refine g_ast (ww' := [(h0, .inr (0, [.int 0, .int 0, .int 1, .int 0, .ref q1, .ref q2, .ref q3, .ref (r 0), .ref (r 1), .ref (r 2), .ref (r 3), .ref (r 4), .ref (r 5), .ref (r 6), .ref (r 7), .ref (r 8)])), (q1, .inl (gc G 0, 6, .inl (fun _ => 0))), (q2, .inl (gc G 0, 10, .inl (upd (upd (upd (upd (upd (fun _ => 0) 0 (-1)) 1 (-1)) 2 (-1)) 3 (-1)) 4 (-1)))), (q3, .inl (gc G 1, 9, .inr (.inr (.inr (.inr (fun i => if i < 9 then some (r i) else none)))))), (r 0, .inl (gc G 0, 8, .inl (fun _ => 0))), (r 1, .inl (gc G 0, 8, .inl (fun _ => 0))), (r 2, .inl (gc G 0, 8, .inl (fun _ => 0))), (r 3, .inl (gc G 0, 8, .inl (fun _ => 0))), (r 4, .inl (gc G 0, 8, .inl (fun _ => 0))), (r 5, .inl (gc G 0, 8, .inl (fun _ => 0))), (r 6, .inl (gc G 0, 8, .inl (fun _ => 0))), (r 7, .inl (gc G 0, 8, .inl (fun _ => 0))), (r 8, .inl (gc G 0, 8, .inl (fun _ => 0)))]) S hf 2 rfl (by decide) rfl dX0_init_159 (fun H locs hf => ?_)
  refine lv_iinc (v := 5) (lv' := [(1, .int 5), (0, .ref h0)]) hx hb dX0_init_160 hl (k := 0) rfl (by decide) (by decide) rfl (fun ls hl => ?_)
  refine lv_goto (tgt := 147) hx hb dX0_init_163 (by decide) ?_
  refine lv_iload_n hx hb dX0_init_147 rfl (lv_at hl 0 rfl) ?_
  refine lv_bipush (v := 10) hx hb dX0_init_148 (by decide) ?_
  refine lv_icmp_ge (tgt := 166) hx hb dX0_init_150 (by decide) (fun c9 => absurd c9 (by decide)) (fun _ => ?_)
  refine lv_aload_n hx hb dX0_init_153 rfl (lv_at hl 1 rfl) ?_
  refine g_get (ci := 0) (C := RX0) (T := TX0) (N := 16) (v := .ref q2) S hf hinX 0 rfl rfl 5 (by decide) k9 rfl rfl dX0_init_154 ?_
  refine lv_iload_n hx hb dX0_init_157 rfl (lv_at hl 0 rfl) ?_
  refine lv_iconst (v := -1) hx hb dX0_init_158 (by decide) ?_
  refine g_ast (ww' := [(h0, .inr (0, [.int 0, .int 0, .int 1, .int 0, .ref q1, .ref q2, .ref q3, .ref (r 0), .ref (r 1), .ref (r 2), .ref (r 3), .ref (r 4), .ref (r 5), .ref (r 6), .ref (r 7), .ref (r 8)])), (q1, .inl (gc G 0, 6, .inl (fun _ => 0))), (q2, .inl (gc G 0, 10, .inl (upd (upd (upd (upd (upd (upd (fun _ => 0) 0 (-1)) 1 (-1)) 2 (-1)) 3 (-1)) 4 (-1)) 5 (-1)))), (q3, .inl (gc G 1, 9, .inr (.inr (.inr (.inr (fun i => if i < 9 then some (r i) else none)))))), (r 0, .inl (gc G 0, 8, .inl (fun _ => 0))), (r 1, .inl (gc G 0, 8, .inl (fun _ => 0))), (r 2, .inl (gc G 0, 8, .inl (fun _ => 0))), (r 3, .inl (gc G 0, 8, .inl (fun _ => 0))), (r 4, .inl (gc G 0, 8, .inl (fun _ => 0))), (r 5, .inl (gc G 0, 8, .inl (fun _ => 0))), (r 6, .inl (gc G 0, 8, .inl (fun _ => 0))), (r 7, .inl (gc G 0, 8, .inl (fun _ => 0))), (r 8, .inl (gc G 0, 8, .inl (fun _ => 0)))]) S hf 2 rfl (by decide) rfl dX0_init_159 (fun H locs hf => ?_)
  refine lv_iinc (v := 6) (lv' := [(1, .int 6), (0, .ref h0)]) hx hb dX0_init_160 hl (k := 0) rfl (by decide) (by decide) rfl (fun ls hl => ?_)
  refine lv_goto (tgt := 147) hx hb dX0_init_163 (by decide) ?_
  refine lv_iload_n hx hb dX0_init_147 rfl (lv_at hl 0 rfl) ?_
  refine lv_bipush (v := 10) hx hb dX0_init_148 (by decide) ?_
  refine lv_icmp_ge (tgt := 166) hx hb dX0_init_150 (by decide) (fun c9 => absurd c9 (by decide)) (fun _ => ?_)
  refine lv_aload_n hx hb dX0_init_153 rfl (lv_at hl 1 rfl) ?_
  refine g_get (ci := 0) (C := RX0) (T := TX0) (N := 16) (v := .ref q2) S hf hinX 0 rfl rfl 5 (by decide) k9 rfl rfl dX0_init_154 ?_
  refine lv_iload_n hx hb dX0_init_157 rfl (lv_at hl 0 rfl) ?_
  refine lv_iconst (v := -1) hx hb dX0_init_158 (by decide) ?_
  refine g_ast (ww' := [(h0, .inr (0, [.int 0, .int 0, .int 1, .int 0, .ref q1, .ref q2, .ref q3, .ref (r 0), .ref (r 1), .ref (r 2), .ref (r 3), .ref (r 4), .ref (r 5), .ref (r 6), .ref (r 7), .ref (r 8)])), (q1, .inl (gc G 0, 6, .inl (fun _ => 0))), (q2, .inl (gc G 0, 10, .inl (upd (upd (upd (upd (upd (upd (upd (fun _ => 0) 0 (-1)) 1 (-1)) 2 (-1)) 3 (-1)) 4 (-1)) 5 (-1)) 6 (-1)))), (q3, .inl (gc G 1, 9, .inr (.inr (.inr (.inr (fun i => if i < 9 then some (r i) else none)))))), (r 0, .inl (gc G 0, 8, .inl (fun _ => 0))), (r 1, .inl (gc G 0, 8, .inl (fun _ => 0))), (r 2, .inl (gc G 0, 8, .inl (fun _ => 0))), (r 3, .inl (gc G 0, 8, .inl (fun _ => 0))), (r 4, .inl (gc G 0, 8, .inl (fun _ => 0))), (r 5, .inl (gc G 0, 8, .inl (fun _ => 0))), (r 6, .inl (gc G 0, 8, .inl (fun _ => 0))), (r 7, .inl (gc G 0, 8, .inl (fun _ => 0))), (r 8, .inl (gc G 0, 8, .inl (fun _ => 0)))]) S hf 2 rfl (by decide) rfl dX0_init_159 (fun H locs hf => ?_)
  refine lv_iinc (v := 7) (lv' := [(1, .int 7), (0, .ref h0)]) hx hb dX0_init_160 hl (k := 0) rfl (by decide) (by decide) rfl (fun ls hl => ?_)
  refine lv_goto (tgt := 147) hx hb dX0_init_163 (by decide) ?_
  refine lv_iload_n hx hb dX0_init_147 rfl (lv_at hl 0 rfl) ?_
  refine lv_bipush (v := 10) hx hb dX0_init_148 (by decide) ?_
  refine lv_icmp_ge (tgt := 166) hx hb dX0_init_150 (by decide) (fun c9 => absurd c9 (by decide)) (fun _ => ?_)
  refine lv_aload_n hx hb dX0_init_153 rfl (lv_at hl 1 rfl) ?_
  refine g_get (ci := 0) (C := RX0) (T := TX0) (N := 16) (v := .ref q2) S hf hinX 0 rfl rfl 5 (by decide) k9 rfl rfl dX0_init_154 ?_
  refine lv_iload_n hx hb dX0_init_157 rfl (lv_at hl 0 rfl) ?_
  refine lv_iconst (v := -1) hx hb dX0_init_158 (by decide) ?_
  refine g_ast (ww' := [(h0, .inr (0, [.int 0, .int 0, .int 1, .int 0, .ref q1, .ref q2, .ref q3, .ref (r 0), .ref (r 1), .ref (r 2), .ref (r 3), .ref (r 4), .ref (r 5), .ref (r 6), .ref (r 7), .ref (r 8)])), (q1, .inl (gc G 0, 6, .inl (fun _ => 0))), (q2, .inl (gc G 0, 10, .inl (upd (upd (upd (upd (upd (upd (upd (upd (fun _ => 0) 0 (-1)) 1 (-1)) 2 (-1)) 3 (-1)) 4 (-1)) 5 (-1)) 6 (-1)) 7 (-1)))), (q3, .inl (gc G 1, 9, .inr (.inr (.inr (.inr (fun i => if i < 9 then some (r i) else none)))))), (r 0, .inl (gc G 0, 8, .inl (fun _ => 0))), (r 1, .inl (gc G 0, 8, .inl (fun _ => 0))), (r 2, .inl (gc G 0, 8, .inl (fun _ => 0))), (r 3, .inl (gc G 0, 8, .inl (fun _ => 0))), (r 4, .inl (gc G 0, 8, .inl (fun _ => 0))), (r 5, .inl (gc G 0, 8, .inl (fun _ => 0))), (r 6, .inl (gc G 0, 8, .inl (fun _ => 0))), (r 7, .inl (gc G 0, 8, .inl (fun _ => 0))), (r 8, .inl (gc G 0, 8, .inl (fun _ => 0)))]) S hf 2 rfl (by decide) rfl dX0_init_159 (fun H locs hf => ?_)
  refine lv_iinc (v := 8) (lv' := [(1, .int 8), (0, .ref h0)]) hx hb dX0_init_160 hl (k := 0) rfl (by decide) (by decide) rfl (fun ls hl => ?_)
  refine lv_goto (tgt := 147) hx hb dX0_init_163 (by decide) ?_
  refine lv_iload_n hx hb dX0_init_147 rfl (lv_at hl 0 rfl) ?_
  refine lv_bipush (v := 10) hx hb dX0_init_148 (by decide) ?_
  refine lv_icmp_ge (tgt := 166) hx hb dX0_init_150 (by decide) (fun c9 => absurd c9 (by decide)) (fun _ => ?_)
  refine lv_aload_n hx hb dX0_init_153 rfl (lv_at hl 1 rfl) ?_
  refine g_get (ci := 0) (C := RX0) (T := TX0) (N := 16) (v := .ref q2) S hf hinX 0 rfl rfl 5 (by decide) k9 rfl rfl dX0_init_154 ?_
  refine lv_iload_n hx hb dX0_init_157 rfl (lv_at hl 0 rfl) ?_
  refine lv_iconst (v := -1) hx hb dX0_init_158 (by decide) ?_
  refine g_ast (ww' := [(h0, .inr (0, [.int 0, .int 0, .int 1, .int 0, .ref q1, .ref q2, .ref q3, .ref (r 0), .ref (r 1), .ref (r 2), .ref (r 3), .ref (r 4), .ref (r 5), .ref (r 6), .ref (r 7), .ref (r 8)])), (q1, .inl (gc G 0, 6, .inl (fun _ => 0))), (q2, .inl (gc G 0, 10, .inl (upd (upd (upd (upd (upd (upd (upd (upd (upd (fun _ => 0) 0 (-1)) 1 (-1)) 2 (-1)) 3 (-1)) 4 (-1)) 5 (-1)) 6 (-1)) 7 (-1)) 8 (-1)))), (q3, .inl (gc G 1, 9, .inr (.inr (.inr (.inr (fun i => if i < 9 then some (r i) else none)))))), (r 0, .inl (gc G 0, 8, .inl (fun _ => 0))), (r 1, .inl (gc G 0, 8, .inl (fun _ => 0))), (r 2, .inl (gc G 0, 8, .inl (fun _ => 0))), (r 3, .inl (gc G 0, 8, .inl (fun _ => 0))), (r 4, .inl (gc G 0, 8, .inl (fun _ => 0))), (r 5, .inl (gc G 0, 8, .inl (fun _ => 0))), (r 6, .inl (gc G 0, 8, .inl (fun _ => 0))), (r 7, .inl (gc G 0, 8, .inl (fun _ => 0))), (r 8, .inl (gc G 0, 8, .inl (fun _ => 0)))]) S hf 2 rfl (by decide) rfl dX0_init_159 (fun H locs hf => ?_)
  refine lv_iinc (v := 9) (lv' := [(1, .int 9), (0, .ref h0)]) hx hb dX0_init_160 hl (k := 0) rfl (by decide) (by decide) rfl (fun ls hl => ?_)
  refine lv_goto (tgt := 147) hx hb dX0_init_163 (by decide) ?_
  refine lv_iload_n hx hb dX0_init_147 rfl (lv_at hl 0 rfl) ?_
  refine lv_bipush (v := 10) hx hb dX0_init_148 (by decide) ?_
  refine lv_icmp_ge (tgt := 166) hx hb dX0_init_150 (by decide) (fun c9 => absurd c9 (by decide)) (fun _ => ?_)
  refine lv_aload_n hx hb dX0_init_153 rfl (lv_at hl 1 rfl) ?_
  refine g_get (ci := 0) (C := RX0) (T := TX0) (N := 16) (v := .ref q2) S hf hinX 0 rfl rfl 5 (by decide) k9 rfl rfl dX0_init_154 ?_
  refine lv_iload_n hx hb dX0_init_157 rfl (lv_at hl 0 rfl) ?_
  refine lv_iconst (v := -1) hx hb dX0_init_158 (by decide) ?_
  refine g_ast (ww' := [(h0, .inr (0, [.int 0, .int 0, .int 1, .int 0, .ref q1, .ref q2, .ref q3, .ref (r 0), .ref (r 1), .ref (r 2), .ref (r 3), .ref (r 4), .ref (r 5), .ref (r 6), .ref (r 7), .ref (r 8)])), (q1, .inl (gc G 0, 6, .inl (fun _ => 0))), (q2, .inl (gc G 0, 10, .inl (upd (upd (upd (upd (upd (upd (upd (upd (upd (upd (fun _ => 0) 0 (-1)) 1 (-1)) 2 (-1)) 3 (-1)) 4 (-1)) 5 (-1)) 6 (-1)) 7 (-1)) 8 (-1)) 9 (-1)))), (q3, .inl (gc G 1, 9, .inr (.inr (.inr (.inr (fun i => if i < 9 then some (r i) else none)))))), (r 0, .inl (gc G 0, 8, .inl (fun _ => 0))), (r 1, .inl (gc G 0, 8, .inl (fun _ => 0))), (r 2, .inl (gc G 0, 8, .inl (fun _ => 0))), (r 3, .inl (gc G 0, 8, .inl (fun _ => 0))), (r 4, .inl (gc G 0, 8, .inl (fun _ => 0))), (r 5, .inl (gc G 0, 8, .inl (fun _ => 0))), (r 6, .inl (gc G 0, 8, .inl (fun _ => 0))), (r 7, .inl (gc G 0, 8, .inl (fun _ => 0))), (r 8, .inl (gc G 0, 8, .inl (fun _ => 0)))]) S hf 2 rfl (by decide) rfl dX0_init_159 (fun H locs hf => ?_)
  refine lv_iinc (v := 10) (lv' := [(1, .int 10), (0, .ref h0)]) hx hb dX0_init_160 hl (k := 0) rfl (by decide) (by decide) rfl (fun ls hl => ?_)
  refine lv_goto (tgt := 147) hx hb dX0_init_163 (by decide) ?_
  refine lv_iload_n hx hb dX0_init_147 rfl (lv_at hl 0 rfl) ?_
  refine lv_bipush (v := 10) hx hb dX0_init_148 (by decide) ?_
  refine lv_icmp_ge (tgt := 166) hx hb dX0_init_150 (by decide) (fun _ => ?_) (fun c9 => absurd (by decide) c9)
  have eT : (fun i => if i < 9 then some (r i) else none) = (fun i => if i < 9 then some (adK h0 q1 q2 q3 r (4 + i)) else none) := by
    funext i; rw [adK_4]
  rw [eT] at hf
  exact g_iend S hr hlocks hf ⟨adK h0 q1 q2 q3 r, rfl, rfl⟩ rfl rfl dX0_init_166
