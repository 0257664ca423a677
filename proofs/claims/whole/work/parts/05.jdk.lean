/-! ===== the JDK's own: String.length, String.charAt, Integer.bitCount ===== -/
theorem s_len : ∀ w, w < 15 → (nI (slen w)) >>> ((0 : Int32) &&& 31) = nI (slen w) := by decide +kernel
theorem s_chr : ∀ w, w < 15 → ∀ j, j < slen w → ((sch w j &&& 255).toUInt32 % 65536).toInt32 = sch w j ∧ narrow .char (.int (sch w j)) = .int (sch w j) := by decide +kernel
theorem s_lt : ∀ w, w < 15 → slen w < 100 := by decide +kernel
set_option maxHeartbeats 4000000 in
set_option maxRecDepth 100000 in
theorem c_J0_coder (l : Launch) (G : GT) (w : Nat) (h15 : w < 15) : Ct l G yJ0_coder_7d493 wsJ0_coder_7d493 ({ frames := 0, cells := 0, slots := 0, locals := 0 } : Room) [.ref (gk G w)] [] (some (.int 0)) [] := by
  refine Ct.of cJ0_coder_7d493 1 (some .byte) (by decide) rfl (Nat.le_of_ble_eq_true rfl) ?_
  intro p e s m below meth c ls S hr hlocks hf hl
  have S : CallFix p m c cJ0_coder_7d493 1 s ([.ref (gk G w)] : List Value).toArray wsJ0_coder_7d493 RJ0 := S
  obtain ⟨hx, hb, hml, hown, hts⟩ := id S
  have hl : lv_has ls 1 [(0, .ref (gk G w))] := hl
  refine va_gets hx hb hf.2.2.2.2.2.2.2.2.1.1 hf.2.2.1 hown (hts (.fieldLink RJ0 38 "java/lang/String" "COMPACT_STRINGS" "Z") (by decide +kernel)) (fun _ h => h) dJ0_coder_7d493_0 ?_
  refine lv_if_eq (tgt := 13) hx hb dJ0_coder_7d493_3 (by decide) (fun c => absurd c (by decide)) (fun c => ?_)
  refine lv_aload_n hx hb dJ0_coder_7d493_6 rfl (lv_at hl 0 rfl) ?_
  refine vk_getf hx hb (hf.2.2.2.2.2.2.2.2.2.1 w h15).2.1 hf.2.2.1 hown (hts (.fieldLink RJ0 15 "java/lang/String" "coder" "B") (by decide +kernel)) (fun _ h => h) dJ0_coder_7d493_7 ?_
  refine lv_goto (tgt := 14) hx hb dJ0_coder_7d493_10 (by decide) ?_
  exact g_zret S hr hlocks hf (by decide) rfl rfl dJ0_coder_7d493_14
set_option maxHeartbeats 4000000 in
set_option maxRecDepth 100000 in
theorem c_J0_length (l : Launch) (G : GT) (w : Nat) (h15 : w < 15) : Ct l G yJ0_length_8abf5 wsJ0_length_8abf5 ({ frames := 1, cells := 0, slots := 0, locals := 20 } : Room) [.ref (gk G w)] [] (some (.int (nI (slen w)))) [] := by
  refine Ct.of cJ0_length_8abf5 1 (some .int) (by decide) rfl (Nat.le_of_ble_eq_true rfl) ?_
  intro p e s m below meth c ls S hr hlocks hf hl
  have S : CallFix p m c cJ0_length_8abf5 1 s ([.ref (gk G w)] : List Value).toArray wsJ0_length_8abf5 RJ0 := S
  obtain ⟨hx, hb, hml, hown, hts⟩ := id S
  have hl : lv_has ls 1 [(0, .ref (gk G w))] := hl
  refine lv_aload_n hx hb dJ0_length_8abf5_0 rfl (lv_at hl 0 rfl) ?_
  refine vk_getf hx hb (hf.2.2.2.2.2.2.2.2.2.1 w h15).2.2.1 hf.2.2.1 hown (hts (.fieldLink RJ0 9 "java/lang/String" "value" "[B") (by decide +kernel)) (fun _ h => h) dJ0_length_8abf5_1 ?_
  refine va_tlen (v := nI (slen w)) hx hb (hf.2.2.2.2.2.2.2.2.2.1 w h15).2.2.2 hf.2.2.1 rfl dJ0_length_8abf5_4 ?_
  refine lv_aload_n hx hb dJ0_length_8abf5_5 rfl (lv_at hl 0 rfl) ?_
  refine g_cstr (o := some (.int 0)) (As := []) (rest := [.int (nI (slen w))]) (st1 := [.int 0, .int (nI (slen w))]) (w := w) S hf h15 (c_J0_coder l G w h15) (cwV 0 hts gJ0_length_8abf5_J0_coder_7d493 rfl rfl rfl (by decide +kernel) ⟨Nat.le_of_ble_eq_true rfl, Nat.le_of_ble_eq_true rfl⟩) rfl hl.1 rfl rfl (Nat.le_of_ble_eq_true rfl) ⟨Nat.zero_le _, Nat.zero_le _⟩ dJ0_length_8abf5_6 (fun H locs hf => ?_)
  refine lv_ishr hx hb dJ0_length_8abf5_9 ?_
  exact g_iret S hr hlocks hf (s_len w h15) rfl dJ0_length_8abf5_10
set_option maxHeartbeats 4000000 in
set_option maxRecDepth 100000 in
theorem c_J0_isLatin1 (l : Launch) (G : GT) (w : Nat) (h15 : w < 15) : Ct l G yJ0_isLatin1_aae02 wsJ0_isLatin1_aae02 ({ frames := 0, cells := 0, slots := 0, locals := 0 } : Room) [.ref (gk G w)] [] (some (.int 1)) [] := by
  refine Ct.of cJ0_isLatin1_aae02 1 (some .boolean) (by decide) rfl (Nat.le_of_ble_eq_true rfl) ?_
  intro p e s m below meth c ls S hr hlocks hf hl
  have S : CallFix p m c cJ0_isLatin1_aae02 1 s ([.ref (gk G w)] : List Value).toArray wsJ0_isLatin1_aae02 RJ0 := S
  obtain ⟨hx, hb, hml, hown, hts⟩ := id S
  have hl : lv_has ls 1 [(0, .ref (gk G w))] := hl
  refine va_gets hx hb hf.2.2.2.2.2.2.2.2.1.1 hf.2.2.1 hown (hts (.fieldLink RJ0 38 "java/lang/String" "COMPACT_STRINGS" "Z") (by decide +kernel)) (fun _ h => h) dJ0_isLatin1_aae02_0 ?_
  refine lv_if_eq (tgt := 17) hx hb dJ0_isLatin1_aae02_3 (by decide) (fun c => absurd c (by decide)) (fun c => ?_)
  refine lv_aload_n hx hb dJ0_isLatin1_aae02_6 rfl (lv_at hl 0 rfl) ?_
  refine vk_getf hx hb (hf.2.2.2.2.2.2.2.2.2.1 w h15).2.1 hf.2.2.1 hown (hts (.fieldLink RJ0 15 "java/lang/String" "coder" "B") (by decide +kernel)) (fun _ h => h) dJ0_isLatin1_aae02_7 ?_
  refine lv_if_ne (tgt := 17) hx hb dJ0_isLatin1_aae02_10 (by decide) (fun c => absurd rfl c) (fun c => ?_)
  refine lv_iconst (v := 1) hx hb dJ0_isLatin1_aae02_13 (by decide) ?_
  refine lv_goto (tgt := 18) hx hb dJ0_isLatin1_aae02_14 (by decide) ?_
  exact g_zret S hr hlocks hf (by decide) rfl rfl dJ0_isLatin1_aae02_18
set_option maxHeartbeats 4000000 in
set_option maxRecDepth 100000 in
theorem c_J3_checkIndex (l : Launch) (G : GT) (i n : Int32) (v : Value) (hv : v = .null ∨ ∃ t, v = .ref t) (h0 : ¬ i < 0) (h1 : i < n) : Ct l G yJ3_checkIndex_8e157 wsJ3_checkIndex_8e157 ({ frames := 0, cells := 0, slots := 0, locals := 0 } : Room) [.int i, .int n, v] [] (some (.int i)) [] := by
  have key : ∀ (p : Program) (e : Env) (s : State) (m : MethodId) (below : List Frame) (meth : Method) (c : Code) (ls : Array Slot), CallFix p m c cJ3_checkIndex_8e157 3 s ([.int i, .int n, v] : List Value).toArray wsJ3_checkIndex_8e157 RJ3 → meth.sig.returnType = some .int → meth.locks = false → Fr G (va_A [] s.heap.size) s [] s.heap [] → lv_has ls 3 [(0, .int i), (1, .int n)] → W p l e ({ frames := 0, cells := 0, slots := 0, locals := 0 } : Room) s m ([.int i, .int n, v] : List Value).toArray below meth c s.heap [] 0 0 (MQ below (CPost G [] s.heap.size (some (.int i)) []) ([.int i, .int n, v] : List Value).toArray s 0 0 (va_A [] s.heap.size)) (F0 m 0 ls []) := by
    intro p e s m below meth c ls S hr hlocks hf hl
    obtain ⟨hx, hb, hml, hown, hts⟩ := id S
    refine lv_iload_n hx hb dJ3_checkIndex_8e157_0 rfl (lv_at hl 0 rfl) ?_
    refine lv_if_lt (tgt := 9) hx hb dJ3_checkIndex_8e157_1 (by decide) (fun c => absurd c h0) (fun c => ?_)
    refine lv_iload_n hx hb dJ3_checkIndex_8e157_4 rfl (lv_at hl 0 rfl) ?_
    refine lv_iload_n hx hb dJ3_checkIndex_8e157_5 rfl (lv_at hl 1 rfl) ?_
    refine lv_icmp_lt (tgt := 16) hx hb dJ3_checkIndex_8e157_6 (by decide) (fun c => ?_) (fun c => absurd h1 c)
    refine lv_iload_n hx hb dJ3_checkIndex_8e157_16 rfl (lv_at hl 0 rfl) ?_
    exact g_iret S hr hlocks hf rfl rfl dJ3_checkIndex_8e157_17
  rcases hv with rfl | ⟨t, rfl⟩
  · refine Ct.of cJ3_checkIndex_8e157 3 (some .int) (by decide) rfl (Nat.le_of_ble_eq_true rfl) ?_
    intro p e s m below meth c ls S hr hlocks hf hl
    exact key p e s m below meth c ls S hr hlocks hf (lv_sub hl [0, 1] rfl)
  · refine Ct.of cJ3_checkIndex_8e157 3 (some .int) (by decide) rfl (Nat.le_of_ble_eq_true rfl) ?_
    intro p e s m below meth c ls S hr hlocks hf hl
    exact key p e s m below meth c ls S hr hlocks hf (lv_sub hl [0, 1] rfl)
set_option maxHeartbeats 4000000 in
set_option maxRecDepth 100000 in
theorem c_J0_checkIndex (l : Launch) (G : GT) (i n : Int32) (h0 : ¬ i < 0) (h1 : i < n) : Ct l G yJ0_checkIndex_df160 wsJ0_checkIndex_df160 ({ frames := 1, cells := 0, slots := 0, locals := 22 } : Room) [.int i, .int n] [] none [] := by
  refine Ct.of cJ0_checkIndex_df160 2 none (by decide) rfl (Nat.le_of_ble_eq_true rfl) ?_
  intro p e s m below meth c ls S hr hlocks hf hl
  have S : CallFix p m c cJ0_checkIndex_df160 2 s ([.int i, .int n] : List Value).toArray wsJ0_checkIndex_df160 RJ0 := S
  obtain ⟨hx, hb, hml, hown, hts⟩ := id S
  have hl : lv_has ls 2 [(0, .int i), (1, .int n)] := hl
  refine lv_iload_n hx hb dJ0_checkIndex_df160_0 rfl (lv_at hl 0 rfl) ?_
  refine lv_iload_n hx hb dJ0_checkIndex_df160_1 rfl (lv_at hl 1 rfl) ?_
  have go : ∀ v : Value, (v = .null ∨ ∃ t, v = .ref t) → W p l e ({ frames := 1, cells := 0, slots := 0, locals := 22 } : Room) s m ([.int i, .int n] : List Value).toArray below meth c s.heap [] 0 0 (MQ below (CPost G [] s.heap.size none []) ([.int i, .int n] : List Value).toArray s 0 0 (va_A [] s.heap.size)) (F0 m 5 ls [v, .int n, .int i]) := by
    intro v hv
    refine g_cs0 (o := some (.int i)) (As := [.int i, .int n, v]) (rest := []) (st1 := [.int i]) S hf (c_J3_checkIndex l G i n v hv h0 h1) (va_cwS 3 hts gJ0_checkIndex_df160_J3_checkIndex_8e157 rfl rfl rfl (by decide +kernel) ⟨Nat.le_of_ble_eq_true rfl, Nat.le_of_ble_eq_true rfl⟩) rfl hl.1 rfl rfl (Nat.le_of_ble_eq_true rfl) ⟨Nat.zero_le _, Nat.zero_le _⟩ dJ0_checkIndex_df160_5 (fun H locs hf => ?_)
    refine lv_pop hx hb dJ0_checkIndex_df160_8 rfl ?_
    exact g_vret S hr hlocks hf rfl dJ0_checkIndex_df160_9
  rcases hf.2.2.2.2.2.2.2.2.1.2.1 with hz | ⟨t, hz⟩
  · exact va_gets hx hb hz hf.2.2.1 hown (hts (.fieldLink RJ0 1053 "jdk/internal/util/Preconditions" "SIOOBE_FORMATTER" "Ljava/util/function/BiFunction;") (by decide +kernel)) (fun _ h => h) dJ0_checkIndex_df160_2 (go _ (Or.inl rfl))
  · exact va_gets hx hb hz hf.2.2.1 hown (hts (.fieldLink RJ0 1053 "jdk/internal/util/Preconditions" "SIOOBE_FORMATTER" "Ljava/util/function/BiFunction;") (by decide +kernel)) (fun _ h => h) dJ0_checkIndex_df160_2 (go _ (Or.inr ⟨t, rfl⟩))
set_option maxHeartbeats 4000000 in
set_option maxRecDepth 100000 in
theorem c_J1_charAt (l : Launch) (G : GT) (w : Nat) (h15 : w < 15) (k : Int32) (hk : ix k (slen w)) : Ct l G yJ1_charAt_3b067 wsJ1_charAt_3b067 ({ frames := 2, cells := 0, slots := 0, locals := 43 } : Room) [.ref (gv G w), .int k] [] (some (.int (sch w k.toNatClampNeg))) [] := by
  have hc := s_chr w h15 _ (ix_lt hk)
  have hlt : k < nI (slen w) := by
    have h1 := s_lt w h15
    obtain ⟨j, hj, rfl⟩ := vp_in_of (x := k) hk (by omega)
    exact nI_lt hj (by omega)
  refine Ct.of cJ1_charAt_3b067 2 (some .char) (by decide) rfl (Nat.le_of_ble_eq_true rfl) ?_
  intro p e s m below meth c ls S hr hlocks hf hl
  have S : CallFix p m c cJ1_charAt_3b067 2 s ([.ref (gv G w), .int k] : List Value).toArray wsJ1_charAt_3b067 RJ1 := S
  obtain ⟨hx, hb, hml, hown, hts⟩ := id S
  have hl : lv_has ls 2 [(0, .ref (gv G w)), (1, .int k)] := hl
  refine lv_iload_n hx hb dJ1_charAt_3b067_0 rfl (lv_at hl 1 rfl) ?_
  refine lv_aload_n hx hb dJ1_charAt_3b067_1 rfl (lv_at hl 0 rfl) ?_
  refine va_tlen (v := nI (slen w)) hx hb (hf.2.2.2.2.2.2.2.2.2.1 w h15).2.2.2 hf.2.2.1 rfl dJ1_charAt_3b067_2 ?_
  refine g_cs0 (o := none) (As := [.int k, .int (nI (slen w))]) (rest := []) (st1 := []) S hf (c_J0_checkIndex l G k (nI (slen w)) (fun h => hk (Or.inl h)) hlt) (va_cwS 2 hts gJ1_charAt_3b067_J0_checkIndex_df160 rfl rfl rfl (by decide +kernel) ⟨Nat.le_of_ble_eq_true rfl, Nat.le_of_ble_eq_true rfl⟩) rfl hl.1 rfl rfl (Nat.le_of_ble_eq_true rfl) ⟨Nat.zero_le _, Nat.zero_le _⟩ dJ1_charAt_3b067_3 (fun H locs hf => ?_)
  refine lv_aload_n hx hb dJ1_charAt_3b067_6 rfl (lv_at hl 0 rfl) ?_
  refine lv_iload_n hx hb dJ1_charAt_3b067_7 rfl (lv_at hl 1 rfl) ?_
  refine va_tb (v := .int (sch w k.toNatClampNeg)) hx hb (hf.2.2.2.2.2.2.2.2.2.1 w h15).2.2.2 hf.2.2.1 hk rfl dJ1_charAt_3b067_8 ?_
  refine lv_sipush (v := 255) hx hb dJ1_charAt_3b067_9 (by decide) ?_
  refine lv_iand hx hb dJ1_charAt_3b067_12 ?_
  refine lv_i2c (v := sch w k.toNatClampNeg) hx hb dJ1_charAt_3b067_13 hc.1 ?_
  exact g_zret S hr hlocks hf hc.2 rfl rfl dJ1_charAt_3b067_14
set_option maxHeartbeats 4000000 in
set_option maxRecDepth 100000 in
theorem c_J0_charAt (l : Launch) (G : GT) (w : Nat) (h15 : w < 15) (k : Int32) (hk : ix k (slen w)) : Ct l G yJ0_charAt_5068e wsJ0_charAt_5068e ({ frames := 3, cells := 0, slots := 0, locals := 64 } : Room) [.ref (gk G w), .int k] [] (some (.int (sch w k.toNatClampNeg))) [] := by
  have hc := s_chr w h15 _ (ix_lt hk)
  refine Ct.of cJ0_charAt_5068e 2 (some .char) (by decide) rfl (Nat.le_of_ble_eq_true rfl) ?_
  intro p e s m below meth c ls S hr hlocks hf hl
  have S : CallFix p m c cJ0_charAt_5068e 2 s ([.ref (gk G w), .int k] : List Value).toArray wsJ0_charAt_5068e RJ0 := S
  obtain ⟨hx, hb, hml, hown, hts⟩ := id S
  have hl : lv_has ls 2 [(0, .ref (gk G w)), (1, .int k)] := hl
  refine lv_aload_n hx hb dJ0_charAt_5068e_0 rfl (lv_at hl 0 rfl) ?_
  refine g_cstr (o := some (.int 1)) (As := []) (rest := []) (st1 := [.int 1]) (w := w) S hf h15 (c_J0_isLatin1 l G w h15) (cwV 0 hts gJ0_charAt_5068e_J0_isLatin1_aae02 rfl rfl rfl (by decide +kernel) ⟨Nat.le_of_ble_eq_true rfl, Nat.le_of_ble_eq_true rfl⟩) rfl hl.1 rfl rfl (Nat.le_of_ble_eq_true rfl) ⟨Nat.zero_le _, Nat.zero_le _⟩ dJ0_charAt_5068e_1 (fun H locs hf => ?_)
  refine lv_if_eq (tgt := 16) hx hb dJ0_charAt_5068e_4 (by decide) (fun c => absurd c (by decide)) (fun c => ?_)
  refine lv_aload_n hx hb dJ0_charAt_5068e_7 rfl (lv_at hl 0 rfl) ?_
  refine vk_getf hx hb (hf.2.2.2.2.2.2.2.2.2.1 w h15).2.2.1 hf.2.2.1 hown (hts (.fieldLink RJ0 9 "java/lang/String" "value" "[B") (by decide +kernel)) (fun _ h => h) dJ0_charAt_5068e_8 ?_
  refine lv_iload_n hx hb dJ0_charAt_5068e_11 rfl (lv_at hl 1 rfl) ?_
  refine g_cs0 (o := some (.int (sch w k.toNatClampNeg))) (As := [.ref (gv G w), .int k]) (rest := []) (st1 := [.int (sch w k.toNatClampNeg)]) S hf (c_J1_charAt l G w h15 k hk) (va_cwS 2 hts gJ0_charAt_5068e_J1_charAt_3b067 rfl rfl rfl (by decide +kernel) ⟨Nat.le_of_ble_eq_true rfl, Nat.le_of_ble_eq_true rfl⟩) rfl hl.1 rfl rfl (Nat.le_of_ble_eq_true rfl) ⟨Nat.zero_le _, Nat.zero_le _⟩ dJ0_charAt_5068e_12 (fun H locs hf => ?_)
  exact g_zret S hr hlocks hf hc.2 rfl rfl dJ0_charAt_5068e_15
