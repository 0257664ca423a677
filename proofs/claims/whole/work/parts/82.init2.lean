set_option maxHeartbeats 4000000 in
set_option maxRecDepth 100000 in
theorem c_X3_init (l : Launch) (G : GT) (h0 : Nat) : Ci l G yX3_init wsX3_init ({ frames := 2, cells := 51, slots := 648, locals := 60 } : Room) h0 [(h0, .inr (3, [.null, .null, .null, .null, .null, .null, .int 0]))] (fun w => ∃ ad : Nat → Nat → Nat, ad 8 0 = h0 ∧ w = wX G ad sX0) := by
  have hinX : ∀ w ∈ u_ws RX3 TX3 7, w ∈ wsX3_init := by decide +kernel
  have hin0 : ∀ w ∈ u_ws RX0 TX0 16, w ∈ wsX3_init := by decide +kernel
  have hin1 : ∀ w ∈ u_ws RX1 TX1 3, w ∈ wsX3_init := by decide +kernel
  have hin2 : ∀ w ∈ u_ws RX2 TX2 6, w ∈ wsX3_init := by decide +kernel
  have k0 : Cond.methodLink RX3 1 objectInit ∈ wsX3_init := by decide +kernel
  have k1 : Cond.instanceMethod objectInit ∈ wsX3_init := by decide +kernel
  have k2 : Cond.code objectInit ⟨#[0xb1]⟩ 1 none ∈ wsX3_init := by decide +kernel
  have k3 : Cond.classLink RX3 7 RX0 ∈ wsX3_init := by decide +kernel
  have k4 : Cond.instantiable RX0 16 ∈ wsX3_init := by decide +kernel
  have k5 : Cond.initialized RX0 ∈ wsX3_init := by decide +kernel
  have k6 : Cond.instanceMethod yX0_init ∈ wsX3_init := by decide +kernel
  have k7 : Cond.methodLink RX3 9 yX0_init ∈ wsX3_init := by decide +kernel
  have k8 : Cond.fieldLink RX3 10 "PigeonRolls" "realm" "LPigeonRolls$Kingdom;" ∈ wsX3_init := by decide +kernel
  have k9 : Cond.fieldLink RX3 16 "PigeonRolls" "kept" "LPigeonRolls$Kingdom;" ∈ wsX3_init := by decide +kernel
  have k10 : Cond.fieldLink RX3 19 "PigeonRolls" "trial" "LPigeonRolls$Kingdom;" ∈ wsX3_init := by decide +kernel
  have k11 : Cond.classLink RX3 22 RX2 ∈ wsX3_init := by decide +kernel
  have k12 : Cond.instantiable RX2 6 ∈ wsX3_init := by decide +kernel
  have k13 : Cond.initialized RX2 ∈ wsX3_init := by decide +kernel
  have k14 : Cond.instanceMethod yX2_init ∈ wsX3_init := by decide +kernel
  have k15 : Cond.fieldLink RX3 25 "PigeonRolls" "tape" "LPigeonRolls$Tape;" ∈ wsX3_init := by decide +kernel
  have k16 : Cond.classLink RX3 29 RX1 ∈ wsX3_init := by decide +kernel
  have k17 : Cond.fieldLink RX3 31 "PigeonRolls" "sheets" "[LPigeonRolls$Sheet;" ∈ wsX3_init := by decide +kernel
  have k18 : Cond.arrayClass .int ∈ wsX3_init := by decide +kernel
  have k19 : Cond.fieldLink RX3 35 "PigeonRolls" "found" "[I" ∈ wsX3_init := by decide +kernel
  have k20 : Cond.fieldLink RX3 39 "PigeonRolls" "keeps" "Z" ∈ wsX3_init := by decide +kernel
  have k21 : Cond.instantiable RX1 3 ∈ wsX3_init := by decide +kernel
  have k22 : Cond.initialized RX1 ∈ wsX3_init := by decide +kernel
  have k23 : Cond.instanceMethod yX1_init ∈ wsX3_init := by decide +kernel
  refine Ci.of cX3_init 2 (by decide) rfl (Nat.le_of_ble_eq_true rfl) ?_
  intro p e s m below meth c ls S hr hlocks hnm hf hE hl
  have S : CallFix p m c cX3_init 2 s ([.ref h0] : List Value).toArray wsX3_init RX3 := S
  have hnm : meth.name = "<init>" := hnm
  obtain ⟨hx, hb, hml, hown, hts⟩ := id S
  obtain ⟨H, hH⟩ : ∃ H : Heap, H = s.heap := ⟨_, rfl⟩
  obtain ⟨locs, hL9⟩ : ∃ L : List Loc, L = [] := ⟨_, rfl⟩
  have hf : Fr G (va_A [(h0, .inr (3, [.null, .null, .null, .null, .null, .null, .int 0]))] s.heap.size) s [(h0, .inr (3, [.null, .null, .null, .null, .null, .null, .int 0]))] H locs := by rw [hH, hL9]; exact hf
  suffices hg : W p l e ({ frames := 2, cells := 51, slots := 648, locals := 60 } : Room) s m ([.ref h0] : List Value).toArray below meth c H locs 0 0 (MQ below (IPost G [(h0, .inr (3, [.null, .null, .null, .null, .null, .null, .int 0]))] s.heap.size (fun w => ∃ ad : Nat → Nat → Nat, ad 8 0 = h0 ∧ w = wX G ad sX0)) ([.ref h0] : List Value).toArray s 51 648 (va_A [(h0, .inr (3, [.null, .null, .null, .null, .null, .null, .int 0]))] s.heap.size)) (F0 m 0 ls []) by rw [hH, hL9] at hg; exact hg
  clear hH hL9
  refine lv_aload_n hx hb dX3_init_0 rfl (lv_at hl 0 rfl) ?_
  refine g_obj S k0 k1 k2 hl.1 (Nat.le_of_ble_eq_true rfl) (Nat.le_of_ble_eq_true rfl) dX3_init_1 ?_
  refine lv_aload_n hx hb dX3_init_4 rfl (lv_at hl 0 rfl) ?_
  refine g_new (ci := 0) (fs := [.int 0, .int 0, .int 0, .int 0, .null, .null, .null, .null, .null, .null, .null, .null, .null, .null, .null, .null]) (C := RX0) (T := TX0) (N := 16) S hf hin0 tyX0 tyX0_ok k3 k4 k5 rfl (fun j hj => match j, hj with | 0, _ => rfl | 1, _ => rfl | 2, _ => rfl | 3, _ => rfl | 4, _ => rfl | 5, _ => rfl | 6, _ => rfl | 7, _ => rfl | 8, _ => rfl | 9, _ => rfl | 10, _ => rfl | 11, _ => rfl | 12, _ => rfl | 13, _ => rfl | 14, _ => rfl | 15, _ => rfl | z + 16, h => absurd h (by omega)) (Nat.le_of_ble_eq_true rfl) (Nat.le_of_ble_eq_true rfl) dX3_init_5 (fun q1 H hf => ?_)
  have hf : Fr G (va_A [(h0, .inr (3, [.null, .null, .null, .null, .null, .null, .int 0]))] s.heap.size) s ([(h0, .inr (3, [.null, .null, .null, .null, .null, .null, .int 0]))] ++ [(q1, .inr (0, [.int 0, .int 0, .int 0, .int 0, .null, .null, .null, .null, .null, .null, .null, .null, .null, .null, .null, .null]))]) H locs := by simpa only [List.append_assoc] using hf
  refine lv_dup hx hb dX3_init_8 rfl ?_
  refine g_ci (a := [(h0, .inr (3, [.null, .null, .null, .null, .null, .null, .int 0]))]) (b := []) (rest := [.ref q1, .ref h0]) S hf hE (c_X0_init l G q1) (cwI 0 hts gX3_init_X0_init rfl rfl rfl (hts _ k5) (hts _ k7) (hts _ k6) rfl (by decide +kernel) ⟨(Nat.le_of_ble_eq_true rfl), (Nat.le_of_ble_eq_true rfl)⟩) (by simp only [List.append_assoc, List.append_nil]) hl.1 (Nat.le_of_ble_eq_true rfl) ⟨(Nat.le_of_ble_eq_true rfl), (Nat.le_of_ble_eq_true rfl)⟩ dX3_init_9 (fun w9 H2 locs2 hN hf2 => ?_)
  obtain ⟨ad2, hq, rfl⟩ := hN
  subst hq
  have hf : Fr G (va_A [(h0, .inr (3, [.null, .null, .null, .null, .null, .null, .int 0]))] s.heap.size) s ([(h0, .inr (3, [.null, .null, .null, .null, .null, .null, .int 0]))] ++ wK G ad2 sK0) H2 locs2 := by simpa only [List.append_assoc, List.append_nil] using hf2
  generalize H2 = H, locs2 = locs at hf ⊢
  refine g_putF (ci := 3) (C := RX3) (T := TX3) (N := 7) (ww' := [(h0, .inr (3, [.ref (ad2 0), .null, .null, .null, .null, .null, .int 0]))] ++ wK G ad2 sK0) S hf hinX tyX3 tyX3_ok nmX3 0 rfl rfl 0 (by decide) k8 rfl rfl hnm rfl rfl rfl (Nat.le_of_ble_eq_true rfl) rfl dX3_init_12 (fun H locs hf => ?_)
  refine lv_aload_n hx hb dX3_init_15 rfl (lv_at hl 0 rfl) ?_
  refine g_new (ci := 0) (fs := [.int 0, .int 0, .int 0, .int 0, .null, .null, .null, .null, .null, .null, .null, .null, .null, .null, .null, .null]) (C := RX0) (T := TX0) (N := 16) S hf hin0 tyX0 tyX0_ok k3 k4 k5 rfl (fun j hj => match j, hj with | 0, _ => rfl | 1, _ => rfl | 2, _ => rfl | 3, _ => rfl | 4, _ => rfl | 5, _ => rfl | 6, _ => rfl | 7, _ => rfl | 8, _ => rfl | 9, _ => rfl | 10, _ => rfl | 11, _ => rfl | 12, _ => rfl | 13, _ => rfl | 14, _ => rfl | 15, _ => rfl | z + 16, h => absurd h (by omega)) (Nat.le_of_ble_eq_true rfl) (Nat.le_of_ble_eq_true rfl) dX3_init_16 (fun q3 H hf => ?_)
  have hf : Fr G (va_A [(h0, .inr (3, [.null, .null, .null, .null, .null, .null, .int 0]))] s.heap.size) s ([(h0, .inr (3, [.ref (ad2 0), .null, .null, .null, .null, .null, .int 0]))] ++ (wK G ad2 sK0 ++ [(q3, .inr (0, [.int 0, .int 0, .int 0, .int 0, .null, .null, .null, .null, .null, .null, .null, .null, .null, .null, .null, .null]))])) H locs := by simpa only [List.append_assoc] using hf
  refine lv_dup hx hb dX3_init_19 rfl ?_
  refine g_ci (a := [(h0, .inr (3, [.ref (ad2 0), .null, .null, .null, .null, .null, .int 0]))] ++ wK G ad2 sK0) (b := []) (rest := [.ref q3, .ref h0]) S hf hE (c_X0_init l G q3) (cwI 0 hts gX3_init_X0_init rfl rfl rfl (hts _ k5) (hts _ k7) (hts _ k6) rfl (by decide +kernel) ⟨(Nat.le_of_ble_eq_true rfl), (Nat.le_of_ble_eq_true rfl)⟩) (by simp only [List.append_assoc, List.append_nil]) hl.1 (Nat.le_of_ble_eq_true rfl) ⟨(Nat.le_of_ble_eq_true rfl), (Nat.le_of_ble_eq_true rfl)⟩ dX3_init_20 (fun w9 H2 locs2 hN hf2 => ?_)
  obtain ⟨ad4, hq, rfl⟩ := hN
  subst hq
  have hf : Fr G (va_A [(h0, .inr (3, [.null, .null, .null, .null, .null, .null, .int 0]))] s.heap.size) s ([(h0, .inr (3, [.ref (ad2 0), .null, .null, .null, .null, .null, .int 0]))] ++ (wK G ad2 sK0 ++ wK G ad4 sK0)) H2 locs2 := by simpa only [List.append_assoc, List.append_nil] using hf2
  generalize H2 = H, locs2 = locs at hf ⊢
  refine g_putF (ci := 3) (C := RX3) (T := TX3) (N := 7) (ww' := [(h0, .inr (3, [.ref (ad2 0), .ref (ad4 0), .null, .null, .null, .null, .int 0]))] ++ (wK G ad2 sK0 ++ wK G ad4 sK0)) S hf hinX tyX3 tyX3_ok nmX3 0 rfl rfl 1 (by decide) k9 rfl rfl hnm rfl rfl rfl (Nat.le_of_ble_eq_true rfl) rfl dX3_init_23 (fun H locs hf => ?_)
  refine lv_aload_n hx hb dX3_init_26 rfl (lv_at hl 0 rfl) ?_
  refine g_new (ci := 0) (fs := [.int 0, .int 0, .int 0, .int 0, .null, .null, .null, .null, .null, .null, .null, .null, .null, .null, .null, .null]) (C := RX0) (T := TX0) (N := 16) S hf hin0 tyX0 tyX0_ok k3 k4 k5 rfl (fun j hj => match j, hj with | 0, _ => rfl | 1, _ => rfl | 2, _ => rfl | 3, _ => rfl | 4, _ => rfl | 5, _ => rfl | 6, _ => rfl | 7, _ => rfl | 8, _ => rfl | 9, _ => rfl | 10, _ => rfl | 11, _ => rfl | 12, _ => rfl | 13, _ => rfl | 14, _ => rfl | 15, _ => rfl | z + 16, h => absurd h (by omega)) (Nat.le_of_ble_eq_true rfl) (Nat.le_of_ble_eq_true rfl) dX3_init_27 (fun q5 H hf => ?_)
  have hf : Fr G (va_A [(h0, .inr (3, [.null, .null, .null, .null, .null, .null, .int 0]))] s.heap.size) s ([(h0, .inr (3, [.ref (ad2 0), .ref (ad4 0), .null, .null, .null, .null, .int 0]))] ++ (wK G ad2 sK0 ++ (wK G ad4 sK0 ++ [(q5, .inr (0, [.int 0, .int 0, .int 0, .int 0, .null, .null, .null, .null, .null, .null, .null, .null, .null, .null, .null, .null]))]))) H locs := by simpa only [List.append_assoc] using hf
  refine lv_dup hx hb dX3_init_30 rfl ?_
  refine g_ci (a := [(h0, .inr (3, [.ref (ad2 0), .ref (ad4 0), .null, .null, .null, .null, .int 0]))] ++ (wK G ad2 sK0 ++ wK G ad4 sK0)) (b := []) (rest := [.ref q5, .ref h0]) S hf hE (c_X0_init l G q5) (cwI 0 hts gX3_init_X0_init rfl rfl rfl (hts _ k5) (hts _ k7) (hts _ k6) rfl (by decide +kernel) ⟨(Nat.le_of_ble_eq_true rfl), (Nat.le_of_ble_eq_true rfl)⟩) (by simp only [List.append_assoc, List.append_nil]) hl.1 (Nat.le_of_ble_eq_true rfl) ⟨(Nat.le_of_ble_eq_true rfl), (Nat.le_of_ble_eq_true rfl)⟩ dX3_init_31 (fun w9 H2 locs2 hN hf2 => ?_)
  obtain ⟨ad6, hq, rfl⟩ := hN
  subst hq
  have hf : Fr G (va_A [(h0, .inr (3, [.null, .null, .null, .null, .null, .null, .int 0]))] s.heap.size) s ([(h0, .inr (3, [.ref (ad2 0), .ref (ad4 0), .null, .null, .null, .null, .int 0]))] ++ (wK G ad2 sK0 ++ (wK G ad4 sK0 ++ wK G ad6 sK0))) H2 locs2 := by simpa only [List.append_assoc, List.append_nil] using hf2
  generalize H2 = H, locs2 = locs at hf ⊢
  refine g_putF (ci := 3) (C := RX3) (T := TX3) (N := 7) (ww' := [(h0, .inr (3, [.ref (ad2 0), .ref (ad4 0), .ref (ad6 0), .null, .null, .null, .int 0]))] ++ (wK G ad2 sK0 ++ (wK G ad4 sK0 ++ wK G ad6 sK0))) S hf hinX tyX3 tyX3_ok nmX3 0 rfl rfl 2 (by decide) k10 rfl rfl hnm rfl rfl rfl (Nat.le_of_ble_eq_true rfl) rfl dX3_init_34 (fun H locs hf => ?_)
  refine lv_aload_n hx hb dX3_init_37 rfl (lv_at hl 0 rfl) ?_
  refine g_new (ci := 2) (fs := [.null, .int 0, .int 0, .int 0, .int 0, .int 0]) (C := RX2) (T := TX2) (N := 6) S hf hin2 tyX2 tyX2_ok k11 k12 k13 rfl (fun j hj => match j, hj with | 0, _ => rfl | 1, _ => rfl | 2, _ => rfl | 3, _ => rfl | 4, _ => rfl | 5, _ => rfl | z + 6, h => absurd h (by omega)) (Nat.le_of_ble_eq_true rfl) (Nat.le_of_ble_eq_true rfl) dX3_init_38 (fun q7 H hf => ?_)
  have hf : Fr G (va_A [(h0, .inr (3, [.null, .null, .null, .null, .null, .null, .int 0]))] s.heap.size) s ([(h0, .inr (3, [.ref (ad2 0), .ref (ad4 0), .ref (ad6 0), .null, .null, .null, .int 0]))] ++ (wK G ad2 sK0 ++ (wK G ad4 sK0 ++ (wK G ad6 sK0 ++ [(q7, .inr (2, [.null, .int 0, .int 0, .int 0, .int 0, .int 0]))])))) H locs := by simpa only [List.append_assoc] using hf
  refine lv_dup hx hb dX3_init_41 rfl ?_
  refine g_cin (a := [(h0, .inr (3, [.ref (ad2 0), .ref (ad4 0), .ref (ad6 0), .null, .null, .null, .int 0]))] ++ (wK G ad2 sK0 ++ (wK G ad4 sK0 ++ wK G ad6 sK0))) (b := []) (rest := [.ref q7, .ref h0]) S hf hE (c_X2_init l G q7) ⟨va_cnB (host := RX3) 0 hts gX3_init_X2_init_n24 rfl rfl rfl hE.2.2.2.1 (hts _ k13) (by decide +kernel) ⟨(Nat.le_of_ble_eq_true rfl), (Nat.le_of_ble_eq_true rfl)⟩, rfl, hts _ k14⟩ (by simp only [List.append_assoc, List.append_nil]) hl.1 (Nat.le_of_ble_eq_true rfl) ⟨(Nat.le_of_ble_eq_true rfl), (Nat.le_of_ble_eq_true rfl)⟩ dX3_init_42 (fun w9 H2 locs2 hN hf2 => ?_)
  obtain ⟨ad8, hq, rfl⟩ := hN
  subst hq
  have hf : Fr G (va_A [(h0, .inr (3, [.null, .null, .null, .null, .null, .null, .int 0]))] s.heap.size) s ([(h0, .inr (3, [.ref (ad2 0), .ref (ad4 0), .ref (ad6 0), .null, .null, .null, .int 0]))] ++ (wK G ad2 sK0 ++ (wK G ad4 sK0 ++ (wK G ad6 sK0 ++ wT G ad8 zz2)))) H2 locs2 := by simpa only [List.append_assoc, List.append_nil] using hf2
  generalize H2 = H, locs2 = locs at hf ⊢
  refine g_putF (ci := 3) (C := RX3) (T := TX3) (N := 7) (ww' := [(h0, .inr (3, [.ref (ad2 0), .ref (ad4 0), .ref (ad6 0), .ref (ad8 0), .null, .null, .int 0]))] ++ (wK G ad2 sK0 ++ (wK G ad4 sK0 ++ (wK G ad6 sK0 ++ wT G ad8 zz2)))) S hf hinX tyX3 tyX3_ok nmX3 0 rfl rfl 3 (by decide) k15 rfl rfl hnm rfl rfl rfl (Nat.le_of_ble_eq_true rfl) rfl dX3_init_45 (fun H locs hf => ?_)
  refine lv_aload_n hx hb dX3_init_48 rfl (lv_at hl 0 rfl) ?_
  refine lv_iconst (v := 4) hx hb dX3_init_49 (by decide) ?_
  refine g_newq (C := RX1) (t0 := 2) (N' := 4) S hf k16 hE.2.1 rfl (by decide) rfl (Nat.le_of_ble_eq_true rfl) (Nat.le_of_ble_eq_true rfl) (Nat.le_of_ble_eq_true rfl) dX3_init_50 (fun q9 H hf => ?_)
  have hf : Fr G (va_A [(h0, .inr (3, [.null, .null, .null, .null, .null, .null, .int 0]))] s.heap.size) s ([(h0, .inr (3, [.ref (ad2 0), .ref (ad4 0), .ref (ad6 0), .ref (ad8 0), .null, .null, .int 0]))] ++ (wK G ad2 sK0 ++ (wK G ad4 sK0 ++ (wK G ad6 sK0 ++ (wT G ad8 zz2 ++ [(q9, .inl (gc G 2, 4, .inr (.inr (.inr (.inr (fun _ => none))))))]))))) H locs := by simpa only [List.append_assoc] using hf
  refine g_putF (ci := 3) (C := RX3) (T := TX3) (N := 7) (ww' := [(h0, .inr (3, [.ref (ad2 0), .ref (ad4 0), .ref (ad6 0), .ref (ad8 0), .ref q9, .null, .int 0]))] ++ (wK G ad2 sK0 ++ (wK G ad4 sK0 ++ (wK G ad6 sK0 ++ (wT G ad8 zz2 ++ [(q9, .inl (gc G 2, 4, .inr (.inr (.inr (.inr (fun _ => none))))))]))))) S hf hinX tyX3 tyX3_ok nmX3 0 rfl rfl 4 (by decide) k17 rfl rfl hnm rfl rfl rfl (Nat.le_of_ble_eq_true rfl) rfl dX3_init_53 (fun H locs hf => ?_)
  refine lv_aload_n hx hb dX3_init_56 rfl (lv_at hl 0 rfl) ?_
  refine lv_bipush (v := 7) hx hb dX3_init_57 (by decide) ?_
  refine g_newi (N' := 7) S hf k18 (by decide) rfl (Nat.le_of_ble_eq_true rfl) (Nat.le_of_ble_eq_true rfl) (Nat.le_of_ble_eq_true rfl) dX3_init_59 (fun q10 H hf => ?_)
  have hf : Fr G (va_A [(h0, .inr (3, [.null, .null, .null, .null, .null, .null, .int 0]))] s.heap.size) s ([(h0, .inr (3, [.ref (ad2 0), .ref (ad4 0), .ref (ad6 0), .ref (ad8 0), .ref q9, .null, .int 0]))] ++ (wK G ad2 sK0 ++ (wK G ad4 sK0 ++ (wK G ad6 sK0 ++ (wT G ad8 zz2 ++ ([(q9, .inl (gc G 2, 4, .inr (.inr (.inr (.inr (fun _ => none))))))] ++ [(q10, .inl (gc G 0, 7, .inl (fun _ => 0)))])))))) H locs := by simpa only [List.append_assoc] using hf
  refine g_putF (ci := 3) (C := RX3) (T := TX3) (N := 7) (ww' := [(h0, .inr (3, [.ref (ad2 0), .ref (ad4 0), .ref (ad6 0), .ref (ad8 0), .ref q9, .ref q10, .int 0]))] ++ (wK G ad2 sK0 ++ (wK G ad4 sK0 ++ (wK G ad6 sK0 ++ (wT G ad8 zz2 ++ ([(q9, .inl (gc G 2, 4, .inr (.inr (.inr (.inr (fun _ => none))))))] ++ [(q10, .inl (gc G 0, 7, .inl (fun _ => 0)))])))))) S hf hinX tyX3 tyX3_ok nmX3 0 rfl rfl 5 (by decide) k19 rfl rfl hnm rfl rfl rfl (Nat.le_of_ble_eq_true rfl) rfl dX3_init_61 (fun H locs hf => ?_)
  refine lv_aload_n hx hb dX3_init_64 rfl (lv_at hl 0 rfl) ?_
  refine lv_iconst (v := 0) hx hb dX3_init_65 (by decide) ?_
  refine g_put (ci := 3) (C := RX3) (T := TX3) (N := 7) (ww' := [(h0, .inr (3, [.ref (ad2 0), .ref (ad4 0), .ref (ad6 0), .ref (ad8 0), .ref q9, .ref q10, .int 0]))] ++ (wK G ad2 sK0 ++ (wK G ad4 sK0 ++ (wK G ad6 sK0 ++ (wT G ad8 zz2 ++ ([(q9, .inl (gc G 2, 4, .inr (.inr (.inr (.inr (fun _ => none))))))] ++ [(q10, .inl (gc G 0, 7, .inl (fun _ => 0)))])))))) S hf hinX tyX3 tyX3_ok nmX3 0 rfl rfl 6 (by decide) k20 rfl rfl rfl rfl (Nat.le_of_ble_eq_true rfl) rfl dX3_init_66 (fun H locs hf => ?_)
  refine lv_iconst (v := 0) hx hb dX3_init_69 (by decide) ?_
  refine lv_istore_n (lv' := [(1, .int 0), (0, .ref h0)]) hx hb dX3_init_70 rfl hl (by decide) rfl (fun ls hl => ?_)
  refine lv_iload_n hx hb dX3_init_71 rfl (lv_at hl 0 rfl) ?_
  refine lv_iconst (v := 4) hx hb dX3_init_72 (by decide) ?_
  refine lv_icmp_ge (tgt := 95) hx hb dX3_init_73 (by decide) (fun c9 => absurd c9 (by decide)) (fun _ => ?_)
  refine lv_aload_n hx hb dX3_init_76 rfl (lv_at hl 1 rfl) ?_
  refine g_get (ci := 3) (C := RX3) (T := TX3) (N := 7) (v := .ref q9) S hf hinX 0 rfl rfl 4 (by decide) k17 rfl rfl dX3_init_77 ?_
  refine lv_iload_n hx hb dX3_init_80 rfl (lv_at hl 0 rfl) ?_
  refine g_new (ci := 1) (fs := [.int 0, .int 0, .null]) (C := RX1) (T := TX1) (N := 3) S hf hin1 tyX1 tyX1_ok k16 k21 k22 rfl (fun j hj => match j, hj with | 0, _ => rfl | 1, _ => rfl | 2, _ => rfl | z + 3, h => absurd h (by omega)) (Nat.le_of_ble_eq_true rfl) (Nat.le_of_ble_eq_true rfl) dX3_init_81 (fun q11 H hf => ?_)
  have hf : Fr G (va_A [(h0, .inr (3, [.null, .null, .null, .null, .null, .null, .int 0]))] s.heap.size) s ([(h0, .inr (3, [.ref (ad2 0), .ref (ad4 0), .ref (ad6 0), .ref (ad8 0), .ref q9, .ref q10, .int 0]))] ++ (wK G ad2 sK0 ++ (wK G ad4 sK0 ++ (wK G ad6 sK0 ++ (wT G ad8 zz2 ++ ([(q9, .inl (gc G 2, 4, .inr (.inr (.inr (.inr (fun _ => none))))))] ++ ([(q10, .inl (gc G 0, 7, .inl (fun _ => 0)))] ++ [(q11, .inr (1, [.int 0, .int 0, .null]))]))))))) H locs := by simpa only [List.append_assoc] using hf
  refine lv_dup hx hb dX3_init_84 rfl ?_
  refine g_cin (a := [(h0, .inr (3, [.ref (ad2 0), .ref (ad4 0), .ref (ad6 0), .ref (ad8 0), .ref q9, .ref q10, .int 0]))] ++ (wK G ad2 sK0 ++ (wK G ad4 sK0 ++ (wK G ad6 sK0 ++ (wT G ad8 zz2 ++ ([(q9, .inl (gc G 2, 4, .inr (.inr (.inr (.inr (fun _ => none))))))] ++ [(q10, .inl (gc G 0, 7, .inl (fun _ => 0)))])))))) (b := []) (rest := [.ref q11, .int 0, .ref q9]) S hf hE (c_X1_init l G q11) ⟨va_cnB (host := RX3) 0 hts gX3_init_X1_init_n43 rfl rfl rfl hE.2.2.2.2 (hts _ k22) (by decide +kernel) ⟨(Nat.le_of_ble_eq_true rfl), (Nat.le_of_ble_eq_true rfl)⟩, rfl, hts _ k23⟩ (by simp only [List.append_assoc, List.append_nil]) hl.1 (Nat.le_of_ble_eq_true rfl) ⟨(Nat.le_of_ble_eq_true rfl), (Nat.le_of_ble_eq_true rfl)⟩ dX3_init_85 (fun w9 H2 locs2 hN hf2 => ?_)
  obtain ⟨ad12, hq, rfl⟩ := hN
  subst hq
  have hf : Fr G (va_A [(h0, .inr (3, [.null, .null, .null, .null, .null, .null, .int 0]))] s.heap.size) s ([(h0, .inr (3, [.ref (ad2 0), .ref (ad4 0), .ref (ad6 0), .ref (ad8 0), .ref q9, .ref q10, .int 0]))] ++ (wK G ad2 sK0 ++ (wK G ad4 sK0 ++ (wK G ad6 sK0 ++ (wT G ad8 zz2 ++ ([(q9, .inl (gc G 2, 4, .inr (.inr (.inr (.inr (fun _ => none))))))] ++ ([(q10, .inl (gc G 0, 7, .inl (fun _ => 0)))] ++ wS G ad12 zz2))))))) H2 locs2 := by simpa only [List.append_assoc, List.append_nil] using hf2
  generalize H2 = H, locs2 = locs at hf ⊢
  refine g_astq (t0 := 2) (r := (RX1, TX1, 3)) (ww' := [(h0, .inr (3, [.ref (ad2 0), .ref (ad4 0), .ref (ad6 0), .ref (ad8 0), .ref q9, .ref q10, .int 0]))] ++ (wK G ad2 sK0 ++ (wK G ad4 sK0 ++ (wK G ad6 sK0 ++ (wT G ad8 zz2 ++ ([(q9, .inl (gc G 2, 4, .inr (.inr (.inr (.inr (va_up (fun _ => none) 0 (some (ad12 0))))))))] ++ ([(q10, .inl (gc G 0, 7, .inl (fun _ => 0)))] ++ wS G ad12 zz2))))))) S hf 42 44 rfl rfl rfl rfl (by decide) rfl dX3_init_88 (fun H locs hf => ?_)
  refine lv_iinc (v := 1) (lv' := [(1, .int 1), (0, .ref h0)]) hx hb dX3_init_89 hl (k := 0) rfl (by decide) (by decide) rfl (fun ls hl => ?_)
  refine lv_goto (tgt := 71) hx hb dX3_init_92 (by decide) ?_
  refine lv_iload_n hx hb dX3_init_71 rfl (lv_at hl 0 rfl) ?_
  refine lv_iconst (v := 4) hx hb dX3_init_72 (by decide) ?_
  refine lv_icmp_ge (tgt := 95) hx hb dX3_init_73 (by decide) (fun c9 => absurd c9 (by decide)) (fun _ => ?_)
  refine lv_aload_n hx hb dX3_init_76 rfl (lv_at hl 1 rfl) ?_
  refine g_get (ci := 3) (C := RX3) (T := TX3) (N := 7) (v := .ref q9) S hf hinX 0 rfl rfl 4 (by decide) k17 rfl rfl dX3_init_77 ?_
  refine lv_iload_n hx hb dX3_init_80 rfl (lv_at hl 0 rfl) ?_
  refine g_new (ci := 1) (fs := [.int 0, .int 0, .null]) (C := RX1) (T := TX1) (N := 3) S hf hin1 tyX1 tyX1_ok k16 k21 k22 rfl (fun j hj => match j, hj with | 0, _ => rfl | 1, _ => rfl | 2, _ => rfl | z + 3, h => absurd h (by omega)) (Nat.le_of_ble_eq_true rfl) (Nat.le_of_ble_eq_true rfl) dX3_init_81 (fun q13 H hf => ?_)
  have hf : Fr G (va_A [(h0, .inr (3, [.null, .null, .null, .null, .null, .null, .int 0]))] s.heap.size) s ([(h0, .inr (3, [.ref (ad2 0), .ref (ad4 0), .ref (ad6 0), .ref (ad8 0), .ref q9, .ref q10, .int 0]))] ++ (wK G ad2 sK0 ++ (wK G ad4 sK0 ++ (wK G ad6 sK0 ++ (wT G ad8 zz2 ++ ([(q9, .inl (gc G 2, 4, .inr (.inr (.inr (.inr (va_up (fun _ => none) 0 (some (ad12 0))))))))] ++ ([(q10, .inl (gc G 0, 7, .inl (fun _ => 0)))] ++ (wS G ad12 zz2 ++ [(q13, .inr (1, [.int 0, .int 0, .null]))])))))))) H locs := by simpa only [List.append_assoc] using hf
  refine lv_dup hx hb dX3_init_84 rfl ?_
  refine g_cin (a := [(h0, .inr (3, [.ref (ad2 0), .ref (ad4 0), .ref (ad6 0), .ref (ad8 0), .ref q9, .ref q10, .int 0]))] ++ (wK G ad2 sK0 ++ (wK G ad4 sK0 ++ (wK G ad6 sK0 ++ (wT G ad8 zz2 ++ ([(q9, .inl (gc G 2, 4, .inr (.inr (.inr (.inr (va_up (fun _ => none) 0 (some (ad12 0))))))))] ++ ([(q10, .inl (gc G 0, 7, .inl (fun _ => 0)))] ++ wS G ad12 zz2))))))) (b := []) (rest := [.ref q13, .int 1, .ref q9]) S hf hE (c_X1_init l G q13) ⟨va_cnB (host := RX3) 0 hts gX3_init_X1_init_n43 rfl rfl rfl hE.2.2.2.2 (hts _ k22) (by decide +kernel) ⟨(Nat.le_of_ble_eq_true rfl), (Nat.le_of_ble_eq_true rfl)⟩, rfl, hts _ k23⟩ (by simp only [List.append_assoc, List.append_nil]) hl.1 (Nat.le_of_ble_eq_true rfl) ⟨(Nat.le_of_ble_eq_true rfl), (Nat.le_of_ble_eq_true rfl)⟩ dX3_init_85 (fun w9 H2 locs2 hN hf2 => ?_)
  obtain ⟨ad14, hq, rfl⟩ := hN
  subst hq
  have hf : Fr G (va_A [(h0, .inr (3, [.null, .null, .null, .null, .null, .null, .int 0]))] s.heap.size) s ([(h0, .inr (3, [.ref (ad2 0), .ref (ad4 0), .ref (ad6 0), .ref (ad8 0), .ref q9, .ref q10, .int 0]))] ++ (wK G ad2 sK0 ++ (wK G ad4 sK0 ++ (wK G ad6 sK0 ++ (wT G ad8 zz2 ++ ([(q9, .inl (gc G 2, 4, .inr (.inr (.inr (.inr (va_up (fun _ => none) 0 (some (ad12 0))))))))] ++ ([(q10, .inl (gc G 0, 7, .inl (fun _ => 0)))] ++ (wS G ad12 zz2 ++ wS G ad14 zz2)))))))) H2 locs2 := by simpa only [List.append_assoc, List.append_nil] using hf2
  generalize H2 = H, locs2 = locs at hf ⊢
  refine g_astq (t0 := 2) (r := (RX1, TX1, 3)) (ww' := [(h0, .inr (3, [.ref (ad2 0), .ref (ad4 0), .ref (ad6 0), .ref (ad8 0), .ref q9, .ref q10, .int 0]))] ++ (wK G ad2 sK0 ++ (wK G ad4 sK0 ++ (wK G ad6 sK0 ++ (wT G ad8 zz2 ++ ([(q9, .inl (gc G 2, 4, .inr (.inr (.inr (.inr (va_up (va_up (fun _ => none) 0 (some (ad12 0))) 1 (some (ad14 0))))))))] ++ ([(q10, .inl (gc G 0, 7, .inl (fun _ => 0)))] ++ (wS G ad12 zz2 ++ wS G ad14 zz2)))))))) S hf 42 46 rfl rfl rfl rfl (by decide) rfl dX3_init_88 (fun H locs hf => ?_)
  refine lv_iinc (v := 2) (lv' := [(1, .int 2), (0, .ref h0)]) hx hb dX3_init_89 hl (k := 0) rfl (by decide) (by decide) rfl (fun ls hl => ?_)
  refine lv_goto (tgt := 71) hx hb dX3_init_92 (by decide) ?_
  refine lv_iload_n hx hb dX3_init_71 rfl (lv_at hl 0 rfl) ?_
  refine lv_iconst (v := 4) hx hb dX3_init_72 (by decide) ?_
  refine lv_icmp_ge (tgt := 95) hx hb dX3_init_73 (by decide) (fun c9 => absurd c9 (by decide)) (fun _ => ?_)
  refine lv_aload_n hx hb dX3_init_76 rfl (lv_at hl 1 rfl) ?_
  refine g_get (ci := 3) (C := RX3) (T := TX3) (N := 7) (v := .ref q9) S hf hinX 0 rfl rfl 4 (by decide) k17 rfl rfl dX3_init_77 ?_
  refine lv_iload_n hx hb dX3_init_80 rfl (lv_at hl 0 rfl) ?_
  refine g_new (ci := 1) (fs := [.int 0, .int 0, .null]) (C := RX1) (T := TX1) (N := 3) S hf hin1 tyX1 tyX1_ok k16 k21 k22 rfl (fun j hj => match j, hj with | 0, _ => rfl | 1, _ => rfl | 2, _ => rfl | z + 3, h => absurd h (by omega)) (Nat.le_of_ble_eq_true rfl) (Nat.le_of_ble_eq_true rfl) dX3_init_81 (fun q15 H hf => ?_)
  have hf : Fr G (va_A [(h0, .inr (3, [.null, .null, .null, .null, .null, .null, .int 0]))] s.heap.size) s ([(h0, .inr (3, [.ref (ad2 0), .ref (ad4 0), .ref (ad6 0), .ref (ad8 0), .ref q9, .ref q10, .int 0]))] ++ (wK G ad2 sK0 ++ (wK G ad4 sK0 ++ (wK G ad6 sK0 ++ (wT G ad8 zz2 ++ ([(q9, .inl (gc G 2, 4, .inr (.inr (.inr (.inr (va_up (va_up (fun _ => none) 0 (some (ad12 0))) 1 (some (ad14 0))))))))] ++ ([(q10, .inl (gc G 0, 7, .inl (fun _ => 0)))] ++ (wS G ad12 zz2 ++ (wS G ad14 zz2 ++ [(q15, .inr (1, [.int 0, .int 0, .null]))]))))))))) H locs := by simpa only [List.append_assoc] using hf
  refine lv_dup hx hb dX3_init_84 rfl ?_
  refine g_cin (a := [(h0, .inr (3, [.ref (ad2 0), .ref (ad4 0), .ref (ad6 0), .ref (ad8 0), .ref q9, .ref q10, .int 0]))] ++ (wK G ad2 sK0 ++ (wK G ad4 sK0 ++ (wK G ad6 sK0 ++ (wT G ad8 zz2 ++ ([(q9, .inl (gc G 2, 4, .inr (.inr (.inr (.inr (va_up (va_up (fun _ => none) 0 (some (ad12 0))) 1 (some (ad14 0))))))))] ++ ([(q10, .inl (gc G 0, 7, .inl (fun _ => 0)))] ++ (wS G ad12 zz2 ++ wS G ad14 zz2)))))))) (b := []) (rest := [.ref q15, .int 2, .ref q9]) S hf hE (c_X1_init l G q15) ⟨va_cnB (host := RX3) 0 hts gX3_init_X1_init_n43 rfl rfl rfl hE.2.2.2.2 (hts _ k22) (by decide +kernel) ⟨(Nat.le_of_ble_eq_true rfl), (Nat.le_of_ble_eq_true rfl)⟩, rfl, hts _ k23⟩ (by simp only [List.append_assoc, List.append_nil]) hl.1 (Nat.le_of_ble_eq_true rfl) ⟨(Nat.le_of_ble_eq_true rfl), (Nat.le_of_ble_eq_true rfl)⟩ dX3_init_85 (fun w9 H2 locs2 hN hf2 => ?_)
  obtain ⟨ad16, hq, rfl⟩ := hN
  subst hq
  have hf : Fr G (va_A [(h0, .inr (3, [.null, .null, .null, .null, .null, .null, .int 0]))] s.heap.size) s ([(h0, .inr (3, [.ref (ad2 0), .ref (ad4 0), .ref (ad6 0), .ref (ad8 0), .ref q9, .ref q10, .int 0]))] ++ (wK G ad2 sK0 ++ (wK G ad4 sK0 ++ (wK G ad6 sK0 ++ (wT G ad8 zz2 ++ ([(q9, .inl (gc G 2, 4, .inr (.inr (.inr (.inr (va_up (va_up (fun _ => none) 0 (some (ad12 0))) 1 (some (ad14 0))))))))] ++ ([(q10, .inl (gc G 0, 7, .inl (fun _ => 0)))] ++ (wS G ad12 zz2 ++ (wS G ad14 zz2 ++ wS G ad16 zz2))))))))) H2 locs2 := by simpa only [List.append_assoc, List.append_nil] using hf2
  generalize H2 = H, locs2 = locs at hf ⊢
  refine g_astq (t0 := 2) (r := (RX1, TX1, 3)) (ww' := [(h0, .inr (3, [.ref (ad2 0), .ref (ad4 0), .ref (ad6 0), .ref (ad8 0), .ref q9, .ref q10, .int 0]))] ++ (wK G ad2 sK0 ++ (wK G ad4 sK0 ++ (wK G ad6 sK0 ++ (wT G ad8 zz2 ++ ([(q9, .inl (gc G 2, 4, .inr (.inr (.inr (.inr (va_up (va_up (va_up (fun _ => none) 0 (some (ad12 0))) 1 (some (ad14 0))) 2 (some (ad16 0))))))))] ++ ([(q10, .inl (gc G 0, 7, .inl (fun _ => 0)))] ++ (wS G ad12 zz2 ++ (wS G ad14 zz2 ++ wS G ad16 zz2))))))))) S hf 42 48 rfl rfl rfl rfl (by decide) rfl dX3_init_88 (fun H locs hf => ?_)
  refine lv_iinc (v := 3) (lv' := [(1, .int 3), (0, .ref h0)]) hx hb dX3_init_89 hl (k := 0) rfl (by decide) (by decide) rfl (fun ls hl => ?_)
  refine lv_goto (tgt := 71) hx hb dX3_init_92 (by decide) ?_
  refine lv_iload_n hx hb dX3_init_71 rfl (lv_at hl 0 rfl) ?_
  refine lv_iconst (v := 4) hx hb dX3_init_72 (by decide) ?_
  refine lv_icmp_ge (tgt := 95) hx hb dX3_init_73 (by decide) (fun c9 => absurd c9 (by decide)) (fun _ => ?_)
  refine lv_aload_n hx hb dX3_init_76 rfl (lv_at hl 1 rfl) ?_
  refine g_get (ci := 3) (C := RX3) (T := TX3) (N := 7) (v := .ref q9) S hf hinX 0 rfl rfl 4 (by decide) k17 rfl rfl dX3_init_77 ?_
  refine lv_iload_n hx hb dX3_init_80 rfl (lv_at hl 0 rfl) ?_
  refine g_new (ci := 1) (fs := [.int 0, .int 0, .null]) (C := RX1) (T := TX1) (N := 3) S hf hin1 tyX1 tyX1_ok k16 k21 k22 rfl (fun j hj => match j, hj with | 0, _ => rfl | 1, _ => rfl | 2, _ => rfl | z + 3, h => absurd h (by omega)) (Nat.le_of_ble_eq_true rfl) (Nat.le_of_ble_eq_true rfl) dX3_init_81 (fun q17 H hf => ?_)
  have hf : Fr G (va_A [(h0, .inr (3, [.null, .null, .null, .null, .null, .null, .int 0]))] s.heap.size) s ([(h0, .inr (3, [.ref (ad2 0), .ref (ad4 0), .ref (ad6 0), .ref (ad8 0), .ref q9, .ref q10, .int 0]))] ++ (wK G ad2 sK0 ++ (wK G ad4 sK0 ++ (wK G ad6 sK0 ++ (wT G ad8 zz2 ++ ([(q9, .inl (gc G 2, 4, .inr (.inr (.inr (.inr (va_up (va_up (va_up (fun _ => none) 0 (some (ad12 0))) 1 (some (ad14 0))) 2 (some (ad16 0))))))))] ++ ([(q10, .inl (gc G 0, 7, .inl (fun _ => 0)))] ++ (wS G ad12 zz2 ++ (wS G ad14 zz2 ++ (wS G ad16 zz2 ++ [(q17, .inr (1, [.int 0, .int 0, .null]))])))))))))) H locs := by simpa only [List.append_assoc] using hf
  refine lv_dup hx hb dX3_init_84 rfl ?_
  refine g_cin (a := [(h0, .inr (3, [.ref (ad2 0), .ref (ad4 0), .ref (ad6 0), .ref (ad8 0), .ref q9, .ref q10, .int 0]))] ++ (wK G ad2 sK0 ++ (wK G ad4 sK0 ++ (wK G ad6 sK0 ++ (wT G ad8 zz2 ++ ([(q9, .inl (gc G 2, 4, .inr (.inr (.inr (.inr (va_up (va_up (va_up (fun _ => none) 0 (some (ad12 0))) 1 (some (ad14 0))) 2 (some (ad16 0))))))))] ++ ([(q10, .inl (gc G 0, 7, .inl (fun _ => 0)))] ++ (wS G ad12 zz2 ++ (wS G ad14 zz2 ++ wS G ad16 zz2))))))))) (b := []) (rest := [.ref q17, .int 3, .ref q9]) S hf hE (c_X1_init l G q17) ⟨va_cnB (host := RX3) 0 hts gX3_init_X1_init_n43 rfl rfl rfl hE.2.2.2.2 (hts _ k22) (by decide +kernel) ⟨(Nat.le_of_ble_eq_true rfl), (Nat.le_of_ble_eq_true rfl)⟩, rfl, hts _ k23⟩ (by simp only [List.append_assoc, List.append_nil]) hl.1 (Nat.le_of_ble_eq_true rfl) ⟨(Nat.le_of_ble_eq_true rfl), (Nat.le_of_ble_eq_true rfl)⟩ dX3_init_85 (fun w9 H2 locs2 hN hf2 => ?_)
  obtain ⟨ad18, hq, rfl⟩ := hN
  subst hq
  have hf : Fr G (va_A [(h0, .inr (3, [.null, .null, .null, .null, .null, .null, .int 0]))] s.heap.size) s ([(h0, .inr (3, [.ref (ad2 0), .ref (ad4 0), .ref (ad6 0), .ref (ad8 0), .ref q9, .ref q10, .int 0]))] ++ (wK G ad2 sK0 ++ (wK G ad4 sK0 ++ (wK G ad6 sK0 ++ (wT G ad8 zz2 ++ ([(q9, .inl (gc G 2, 4, .inr (.inr (.inr (.inr (va_up (va_up (va_up (fun _ => none) 0 (some (ad12 0))) 1 (some (ad14 0))) 2 (some (ad16 0))))))))] ++ ([(q10, .inl (gc G 0, 7, .inl (fun _ => 0)))] ++ (wS G ad12 zz2 ++ (wS G ad14 zz2 ++ (wS G ad16 zz2 ++ wS G ad18 zz2)))))))))) H2 locs2 := by simpa only [List.append_assoc, List.append_nil] using hf2
  generalize H2 = H, locs2 = locs at hf ⊢
  refine g_astq (t0 := 2) (r := (RX1, TX1, 3)) (ww' := [(h0, .inr (3, [.ref (ad2 0), .ref (ad4 0), .ref (ad6 0), .ref (ad8 0), .ref q9, .ref q10, .int 0]))] ++ (wK G ad2 sK0 ++ (wK G ad4 sK0 ++ (wK G ad6 sK0 ++ (wT G ad8 zz2 ++ ([(q9, .inl (gc G 2, 4, .inr (.inr (.inr (.inr (va_up (va_up (va_up (va_up (fun _ => none) 0 (some (ad12 0))) 1 (some (ad14 0))) 2 (some (ad16 0))) 3 (some (ad18 0))))))))] ++ ([(q10, .inl (gc G 0, 7, .inl (fun _ => 0)))] ++ (wS G ad12 zz2 ++ (wS G ad14 zz2 ++ (wS G ad16 zz2 ++ wS G ad18 zz2)))))))))) S hf 42 50 rfl rfl rfl rfl (by decide) rfl dX3_init_88 (fun H locs hf => ?_)
  refine lv_iinc (v := 4) (lv' := [(1, .int 4), (0, .ref h0)]) hx hb dX3_init_89 hl (k := 0) rfl (by decide) (by decide) rfl (fun ls hl => ?_)
  refine lv_goto (tgt := 71) hx hb dX3_init_92 (by decide) ?_
  refine lv_iload_n hx hb dX3_init_71 rfl (lv_at hl 0 rfl) ?_
  refine lv_iconst (v := 4) hx hb dX3_init_72 (by decide) ?_
  refine lv_icmp_ge (tgt := 95) hx hb dX3_init_73 (by decide) (fun _ => ?_) (fun c9 => absurd (by decide) c9)
  have hf := hf.perm (perm_x _ _ _ _ _ _ _ _)
  rw [sh_fun ad2 ad4 ad6 ad8 ad12 ad14 ad16 ad18 h0 q9 q10] at hf
  exact g_iend S hr hlocks hf ⟨(adX ad2 ad4 ad6 ad8 ad12 ad14 ad16 ad18 h0 q9 q10), rfl, rfl⟩ rfl rfl dX3_init_95
