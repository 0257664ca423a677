set_option maxHeartbeats 4000000 in
set_option maxRecDepth 100000 in
theorem law_35 {p : Program} {l : Launch} {e : Env} {s : State} {m : MethodId} {below : List Frame} {meth : Method} {c : Code} {b L : Nat} {xs : Nat → Int32} {G : GT} {adx : Nat → Nat → Nat} {adm : Nat → Nat} {X : K3} {μ : K2} {H : Heap} {locs : List Loc} {cells slots : Nat} {Q : State → Prop} {ls : Array Slot} {x3 : Int32} (S : CallFix p m c cL_law 4 s #[Value.ref b] wsL_law RL) (hX : va_X b L xs s s.heap) (hbl : b < s.heap.size) (hfit : cells ≤ room_1.cells ∧ slots ≤ room_1.slots) (hf : Fr G (fun q => s.heap.size ≤ q) s (wX G adx X ++ wM G adm μ) H locs) (hR : R X μ) (hl : lv_has ls 4 [(3, .int x3), (2, .ref (adm 0)), (1, .ref (adx 8 0)), (0, .ref b)]) (h1 : vp_in (x3 + 1) L) (h2 : vp_in (x3 + 2) L) (h3 : vp_in (x3 + 3) L) (h4 : vp_in (x3 + 4) L) (h5 : vp_in (x3 + 5) L) (K : ∀ (X' : K3) (μ' : K2) (H : Heap) (locs : List Loc), R X' μ' → Fr G (fun q => s.heap.size ≤ q) s (wX G adx X' ++ wM G adm μ') H locs → W p l e room_1 s m #[Value.ref b] below meth c H locs cells slots Q (F0 m 1383 ls [])) : W p l e room_1 s m #[Value.ref b] below meth c H locs cells slots Q (F0 m 1252 ls []) := by
  obtain ⟨hx, hb, hml, hown, hts⟩ := id S
  have hbA : ¬ (fun q : Nat => s.heap.size ≤ q) b := Nat.not_le.mpr hbl
  obtain ⟨r, X', μ', e1, e2, hR'⟩ := s_load hR (xs (x3 + 1).toNatClampNeg)
  refine lv_aload_n hx hb dL_law_1252 rfl (lv_at hl 2 rfl) ?_
  refine lv_aload_n hx hb dL_law_1253 rfl (lv_at hl 3 rfl) ?_
  refine lv_iload_n hx hb dL_law_1254 rfl (lv_at hl 0 rfl) ?_
  refine lv_iconst (v := 1) hx hb dL_law_1255 (by decide) ?_
  refine lv_iadd hx hb dL_law_1256 ?_
  refine va_sld hx hb hX hbl hbA hf.2.2.1 h1 dL_law_1257 ?_
  refine g_cv (o := some (.int r)) (As := [.int (xs (x3 + 1).toNatClampNeg)]) (rest := []) (st1 := [.int r]) (ci := 3) (a := []) (b := wM G adm μ) S hf (c_X3_load l G adx X (xs (x3 + 1).toNatClampNeg) (r, X') e1) (cwV 1 hts gL_law_X3_load rfl rfl rfl (by decide +kernel) ⟨(Nat.le_of_ble_eq_true rfl), (Nat.le_of_ble_eq_true rfl)⟩) rfl rfl rfl rfl 0 rfl rfl hl.1 rfl rfl (Nat.le_of_ble_eq_true rfl) hfit dL_law_1258 (fun H locs hf => ?_)
  have hf : Fr G (fun q => s.heap.size ≤ q) s (wX G adx X' ++ wM G adm μ) H locs := hf
  refine lv_aload_n hx hb dL_law_1261 rfl (lv_at hl 1 rfl) ?_
  refine lv_aload_n hx hb dL_law_1262 rfl (lv_at hl 3 rfl) ?_
  refine lv_iload_n hx hb dL_law_1263 rfl (lv_at hl 0 rfl) ?_
  refine lv_iconst (v := 1) hx hb dL_law_1264 (by decide) ?_
  refine lv_iadd hx hb dL_law_1265 ?_
  refine va_sld hx hb hX hbl hbA hf.2.2.1 h1 dL_law_1266 ?_
  refine g_cv (o := some (.int r)) (As := [.int (xs (x3 + 1).toNatClampNeg)]) (rest := [.int r]) (st1 := [.int r, .int r]) (ci := 4) (a := wX G adx X') (b := []) S hf (c_X4_load l G adm μ (xs (x3 + 1).toNatClampNeg) (r, μ') e2) (cwV 1 hts gL_law_X4_load rfl rfl rfl (by decide +kernel) ⟨(Nat.le_of_ble_eq_true rfl), (Nat.le_of_ble_eq_true rfl)⟩) (by rw [List.append_nil]) rfl rfl rfl 0 rfl rfl hl.1 rfl rfl (Nat.le_of_ble_eq_true rfl) hfit dL_law_1267 (fun H locs hf => ?_)
  have hf : Fr G (fun q => s.heap.size ≤ q) s (wX G adx X' ++ wM G adm μ') H locs := by rw [List.append_nil] at hf; exact hf
  refine lv_icmp_eq (tgt := 1383) hx hb dL_law_1270 (by decide) (fun _ => ?_) (fun c9 => absurd rfl c9)
  exact K X' μ' H locs hR' hf
set_option maxHeartbeats 4000000 in
set_option maxRecDepth 100000 in
theorem law_36 {p : Program} {l : Launch} {e : Env} {s : State} {m : MethodId} {below : List Frame} {meth : Method} {c : Code} {b L : Nat} {xs : Nat → Int32} {G : GT} {adx : Nat → Nat → Nat} {adm : Nat → Nat} {X : K3} {μ : K2} {H : Heap} {locs : List Loc} {cells slots : Nat} {Q : State → Prop} {ls : Array Slot} {x3 : Int32} (S : CallFix p m c cL_law 4 s #[Value.ref b] wsL_law RL) (hX : va_X b L xs s s.heap) (hbl : b < s.heap.size) (hfit : cells ≤ room_1.cells ∧ slots ≤ room_1.slots) (hf : Fr G (fun q => s.heap.size ≤ q) s (wX G adx X ++ wM G adm μ) H locs) (hR : R X μ) (hl : lv_has ls 4 [(3, .int x3), (2, .ref (adm 0)), (1, .ref (adx 8 0)), (0, .ref b)]) (h1 : vp_in (x3 + 1) L) (h2 : vp_in (x3 + 2) L) (h3 : vp_in (x3 + 3) L) (h4 : vp_in (x3 + 4) L) (h5 : vp_in (x3 + 5) L) (K : ∀ (X' : K3) (μ' : K2) (H : Heap) (locs : List Loc), R X' μ' → Fr G (fun q => s.heap.size ≤ q) s (wX G adx X' ++ wM G adm μ') H locs → W p l e room_1 s m #[Value.ref b] below meth c H locs cells slots Q (F0 m 1383 ls [])) : W p l e room_1 s m #[Value.ref b] below meth c H locs cells slots Q (F0 m 1275 ls []) := by
  obtain ⟨hx, hb, hml, hown, hts⟩ := id S
  have hbA : ¬ (fun q : Nat => s.heap.size ≤ q) b := Nat.not_le.mpr hbl
  obtain ⟨r, X', μ', e1, e2, hR'⟩ := s_judge hR (xs (x3 + 1).toNatClampNeg)
  refine lv_aload_n hx hb dL_law_1275 rfl (lv_at hl 2 rfl) ?_
  refine lv_aload_n hx hb dL_law_1276 rfl (lv_at hl 3 rfl) ?_
  refine lv_iload_n hx hb dL_law_1277 rfl (lv_at hl 0 rfl) ?_
  refine lv_iconst (v := 1) hx hb dL_law_1278 (by decide) ?_
  refine lv_iadd hx hb dL_law_1279 ?_
  refine va_sld hx hb hX hbl hbA hf.2.2.1 h1 dL_law_1280 ?_
  refine g_cv (o := some (.int r)) (As := [.int (xs (x3 + 1).toNatClampNeg)]) (rest := []) (st1 := [.int r]) (ci := 3) (a := []) (b := wM G adm μ) S hf (c_X3_judge l G adx X (xs (x3 + 1).toNatClampNeg) (r, X') e1) (cwV 1 hts gL_law_X3_judge rfl rfl rfl (by decide +kernel) ⟨(Nat.le_of_ble_eq_true rfl), (Nat.le_of_ble_eq_true rfl)⟩) rfl rfl rfl rfl 0 rfl rfl hl.1 rfl rfl (Nat.le_of_ble_eq_true rfl) hfit dL_law_1281 (fun H locs hf => ?_)
  have hf : Fr G (fun q => s.heap.size ≤ q) s (wX G adx X' ++ wM G adm μ) H locs := hf
  refine lv_aload_n hx hb dL_law_1284 rfl (lv_at hl 1 rfl) ?_
  refine lv_aload_n hx hb dL_law_1285 rfl (lv_at hl 3 rfl) ?_
  refine lv_iload_n hx hb dL_law_1286 rfl (lv_at hl 0 rfl) ?_
  refine lv_iconst (v := 1) hx hb dL_law_1287 (by decide) ?_
  refine lv_iadd hx hb dL_law_1288 ?_
  refine va_sld hx hb hX hbl hbA hf.2.2.1 h1 dL_law_1289 ?_
  refine g_cv (o := some (.int r)) (As := [.int (xs (x3 + 1).toNatClampNeg)]) (rest := [.int r]) (st1 := [.int r, .int r]) (ci := 4) (a := wX G adx X') (b := []) S hf (c_X4_judge l G adm μ (xs (x3 + 1).toNatClampNeg) (r, μ') e2) (cwV 1 hts gL_law_X4_judge rfl rfl rfl (by decide +kernel) ⟨(Nat.le_of_ble_eq_true rfl), (Nat.le_of_ble_eq_true rfl)⟩) (by rw [List.append_nil]) rfl rfl rfl 0 rfl rfl hl.1 rfl rfl (Nat.le_of_ble_eq_true rfl) hfit dL_law_1290 (fun H locs hf => ?_)
  have hf : Fr G (fun q => s.heap.size ≤ q) s (wX G adx X' ++ wM G adm μ') H locs := by rw [List.append_nil] at hf; exact hf
  refine lv_icmp_eq (tgt := 1383) hx hb dL_law_1293 (by decide) (fun _ => ?_) (fun c9 => absurd rfl c9)
  exact K X' μ' H locs hR' hf
set_option maxHeartbeats 4000000 in
set_option maxRecDepth 100000 in
theorem law_37 {p : Program} {l : Launch} {e : Env} {s : State} {m : MethodId} {below : List Frame} {meth : Method} {c : Code} {b L : Nat} {xs : Nat → Int32} {G : GT} {adx : Nat → Nat → Nat} {adm : Nat → Nat} {X : K3} {μ : K2} {H : Heap} {locs : List Loc} {cells slots : Nat} {Q : State → Prop} {ls : Array Slot} {x3 : Int32} (S : CallFix p m c cL_law 4 s #[Value.ref b] wsL_law RL) (hX : va_X b L xs s s.heap) (hbl : b < s.heap.size) (hfit : cells ≤ room_1.cells ∧ slots ≤ room_1.slots) (hf : Fr G (fun q => s.heap.size ≤ q) s (wX G adx X ++ wM G adm μ) H locs) (hR : R X μ) (hl : lv_has ls 4 [(3, .int x3), (2, .ref (adm 0)), (1, .ref (adx 8 0)), (0, .ref b)]) (h1 : vp_in (x3 + 1) L) (h2 : vp_in (x3 + 2) L) (h3 : vp_in (x3 + 3) L) (h4 : vp_in (x3 + 4) L) (h5 : vp_in (x3 + 5) L) (K : ∀ (X' : K3) (μ' : K2) (H : Heap) (locs : List Loc), R X' μ' → Fr G (fun q => s.heap.size ≤ q) s (wX G adx X' ++ wM G adm μ') H locs → W p l e room_1 s m #[Value.ref b] below meth c H locs cells slots Q (F0 m 1383 ls [])) : W p l e room_1 s m #[Value.ref b] below meth c H locs cells slots Q (F0 m 1298 ls []) := by
  obtain ⟨hx, hb, hml, hown, hts⟩ := id S
  have hbA : ¬ (fun q : Nat => s.heap.size ≤ q) b := Nat.not_le.mpr hbl
  obtain ⟨r, X', μ', e1, e2, hR'⟩ := s_image hR
  refine lv_aload_n hx hb dL_law_1298 rfl (lv_at hl 2 rfl) ?_
  refine g_cv (o := some (.int r)) (As := []) (rest := []) (st1 := [.int r]) (ci := 3) (a := []) (b := wM G adm μ) S hf (c_X3_image l G adx X (r, X') e1) (cwV 0 hts gL_law_X3_image rfl rfl rfl (by decide +kernel) ⟨(Nat.le_of_ble_eq_true rfl), (Nat.le_of_ble_eq_true rfl)⟩) rfl rfl rfl rfl 0 rfl rfl hl.1 rfl rfl (Nat.le_of_ble_eq_true rfl) hfit dL_law_1299 (fun H locs hf => ?_)
  have hf : Fr G (fun q => s.heap.size ≤ q) s (wX G adx X' ++ wM G adm μ) H locs := hf
  refine lv_aload_n hx hb dL_law_1302 rfl (lv_at hl 1 rfl) ?_
  refine g_cv (o := some (.int r)) (As := []) (rest := [.int r]) (st1 := [.int r, .int r]) (ci := 4) (a := wX G adx X') (b := []) S hf (c_X4_image l G adm μ (r, μ') e2) (cwV 0 hts gL_law_X4_image rfl rfl rfl (by decide +kernel) ⟨(Nat.le_of_ble_eq_true rfl), (Nat.le_of_ble_eq_true rfl)⟩) (by rw [List.append_nil]) rfl rfl rfl 0 rfl rfl hl.1 rfl rfl (Nat.le_of_ble_eq_true rfl) hfit dL_law_1303 (fun H locs hf => ?_)
  have hf : Fr G (fun q => s.heap.size ≤ q) s (wX G adx X' ++ wM G adm μ') H locs := by rw [List.append_nil] at hf; exact hf
  refine lv_icmp_eq (tgt := 1383) hx hb dL_law_1306 (by decide) (fun _ => ?_) (fun c9 => absurd rfl c9)
  exact K X' μ' H locs hR' hf
set_option maxHeartbeats 4000000 in
set_option maxRecDepth 100000 in
theorem law_38 {p : Program} {l : Launch} {e : Env} {s : State} {m : MethodId} {below : List Frame} {meth : Method} {c : Code} {b L : Nat} {xs : Nat → Int32} {G : GT} {adx : Nat → Nat → Nat} {adm : Nat → Nat} {X : K3} {μ : K2} {H : Heap} {locs : List Loc} {cells slots : Nat} {Q : State → Prop} {ls : Array Slot} {x3 : Int32} (S : CallFix p m c cL_law 4 s #[Value.ref b] wsL_law RL) (hX : va_X b L xs s s.heap) (hbl : b < s.heap.size) (hfit : cells ≤ room_1.cells ∧ slots ≤ room_1.slots) (hf : Fr G (fun q => s.heap.size ≤ q) s (wX G adx X ++ wM G adm μ) H locs) (hR : R X μ) (hl : lv_has ls 4 [(3, .int x3), (2, .ref (adm 0)), (1, .ref (adx 8 0)), (0, .ref b)]) (h1 : vp_in (x3 + 1) L) (h2 : vp_in (x3 + 2) L) (h3 : vp_in (x3 + 3) L) (h4 : vp_in (x3 + 4) L) (h5 : vp_in (x3 + 5) L) (K : ∀ (X' : K3) (μ' : K2) (H : Heap) (locs : List Loc), R X' μ' → Fr G (fun q => s.heap.size ≤ q) s (wX G adx X' ++ wM G adm μ') H locs → W p l e room_1 s m #[Value.ref b] below meth c H locs cells slots Q (F0 m 1383 ls [])) : W p l e room_1 s m #[Value.ref b] below meth c H locs cells slots Q (F0 m 1311 ls []) := by
  obtain ⟨hx, hb, hml, hown, hts⟩ := id S
  have hbA : ¬ (fun q : Nat => s.heap.size ≤ q) b := Nat.not_le.mpr hbl
  obtain ⟨r, X', μ', e1, e2, hR'⟩ := s_undo hR
  refine lv_aload_n hx hb dL_law_1311 rfl (lv_at hl 2 rfl) ?_
  refine g_cv (o := some (.int r)) (As := []) (rest := []) (st1 := [.int r]) (ci := 3) (a := []) (b := wM G adm μ) S hf (c_X3_undo l G adx X (r, X') e1) (cwV 0 hts gL_law_X3_undo rfl rfl rfl (by decide +kernel) ⟨(Nat.le_of_ble_eq_true rfl), (Nat.le_of_ble_eq_true rfl)⟩) rfl rfl rfl rfl 0 rfl rfl hl.1 rfl rfl (Nat.le_of_ble_eq_true rfl) hfit dL_law_1312 (fun H locs hf => ?_)
  have hf : Fr G (fun q => s.heap.size ≤ q) s (wX G adx X' ++ wM G adm μ) H locs := hf
  refine lv_aload_n hx hb dL_law_1315 rfl (lv_at hl 1 rfl) ?_
  refine g_cv (o := some (.int r)) (As := []) (rest := [.int r]) (st1 := [.int r, .int r]) (ci := 4) (a := wX G adx X') (b := []) S hf (c_X4_undo l G adm μ (r, μ') e2) (cwV 0 hts gL_law_X4_undo rfl rfl rfl (by decide +kernel) ⟨(Nat.le_of_ble_eq_true rfl), (Nat.le_of_ble_eq_true rfl)⟩) (by rw [List.append_nil]) rfl rfl rfl 0 rfl rfl hl.1 rfl rfl (Nat.le_of_ble_eq_true rfl) hfit dL_law_1316 (fun H locs hf => ?_)
  have hf : Fr G (fun q => s.heap.size ≤ q) s (wX G adx X' ++ wM G adm μ') H locs := by rw [List.append_nil] at hf; exact hf
  refine lv_icmp_eq (tgt := 1383) hx hb dL_law_1319 (by decide) (fun _ => ?_) (fun c9 => absurd rfl c9)
  exact K X' μ' H locs hR' hf
set_option maxHeartbeats 4000000 in
set_option maxRecDepth 100000 in
theorem law_39 {p : Program} {l : Launch} {e : Env} {s : State} {m : MethodId} {below : List Frame} {meth : Method} {c : Code} {b L : Nat} {xs : Nat → Int32} {G : GT} {adx : Nat → Nat → Nat} {adm : Nat → Nat} {X : K3} {μ : K2} {H : Heap} {locs : List Loc} {cells slots : Nat} {Q : State → Prop} {ls : Array Slot} {x3 : Int32} (S : CallFix p m c cL_law 4 s #[Value.ref b] wsL_law RL) (hX : va_X b L xs s s.heap) (hbl : b < s.heap.size) (hfit : cells ≤ room_1.cells ∧ slots ≤ room_1.slots) (hf : Fr G (fun q => s.heap.size ≤ q) s (wX G adx X ++ wM G adm μ) H locs) (hR : R X μ) (hl : lv_has ls 4 [(3, .int x3), (2, .ref (adm 0)), (1, .ref (adx 8 0)), (0, .ref b)]) (h1 : vp_in (x3 + 1) L) (h2 : vp_in (x3 + 2) L) (h3 : vp_in (x3 + 3) L) (h4 : vp_in (x3 + 4) L) (h5 : vp_in (x3 + 5) L) (K : ∀ (X' : K3) (μ' : K2) (H : Heap) (locs : List Loc), R X' μ' → Fr G (fun q => s.heap.size ≤ q) s (wX G adx X' ++ wM G adm μ') H locs → W p l e room_1 s m #[Value.ref b] below meth c H locs cells slots Q (F0 m 1383 ls [])) : W p l e room_1 s m #[Value.ref b] below meth c H locs cells slots Q (F0 m 1324 ls []) := by
  obtain ⟨hx, hb, hml, hown, hts⟩ := id S
  have hbA : ¬ (fun q : Nat => s.heap.size ≤ q) b := Nat.not_le.mpr hbl
  obtain ⟨r, X', μ', e1, e2, hR'⟩ := s_tear hR
  refine lv_aload_n hx hb dL_law_1324 rfl (lv_at hl 2 rfl) ?_
  refine g_cv (o := some (.int r)) (As := []) (rest := []) (st1 := [.int r]) (ci := 3) (a := []) (b := wM G adm μ) S hf (c_X3_tear l G adx X (r, X') e1) (cwV 0 hts gL_law_X3_tear rfl rfl rfl (by decide +kernel) ⟨(Nat.le_of_ble_eq_true rfl), (Nat.le_of_ble_eq_true rfl)⟩) rfl rfl rfl rfl 0 rfl rfl hl.1 rfl rfl (Nat.le_of_ble_eq_true rfl) hfit dL_law_1325 (fun H locs hf => ?_)
  have hf : Fr G (fun q => s.heap.size ≤ q) s (wX G adx X' ++ wM G adm μ) H locs := hf
  refine lv_aload_n hx hb dL_law_1328 rfl (lv_at hl 1 rfl) ?_
  refine g_cv (o := some (.int r)) (As := []) (rest := [.int r]) (st1 := [.int r, .int r]) (ci := 4) (a := wX G adx X') (b := []) S hf (c_X4_tear l G adm μ (r, μ') e2) (cwV 0 hts gL_law_X4_tear rfl rfl rfl (by decide +kernel) ⟨(Nat.le_of_ble_eq_true rfl), (Nat.le_of_ble_eq_true rfl)⟩) (by rw [List.append_nil]) rfl rfl rfl 0 rfl rfl hl.1 rfl rfl (Nat.le_of_ble_eq_true rfl) hfit dL_law_1329 (fun H locs hf => ?_)
  have hf : Fr G (fun q => s.heap.size ≤ q) s (wX G adx X' ++ wM G adm μ') H locs := by rw [List.append_nil] at hf; exact hf
  refine lv_icmp_eq (tgt := 1383) hx hb dL_law_1332 (by decide) (fun _ => ?_) (fun c9 => absurd rfl c9)
  exact K X' μ' H locs hR' hf
set_option maxHeartbeats 4000000 in
set_option maxRecDepth 100000 in
theorem law_40 {p : Program} {l : Launch} {e : Env} {s : State} {m : MethodId} {below : List Frame} {meth : Method} {c : Code} {b L : Nat} {xs : Nat → Int32} {G : GT} {adx : Nat → Nat → Nat} {adm : Nat → Nat} {X : K3} {μ : K2} {H : Heap} {locs : List Loc} {cells slots : Nat} {Q : State → Prop} {ls : Array Slot} {x3 : Int32} (S : CallFix p m c cL_law 4 s #[Value.ref b] wsL_law RL) (hX : va_X b L xs s s.heap) (hbl : b < s.heap.size) (hfit : cells ≤ room_1.cells ∧ slots ≤ room_1.slots) (hf : Fr G (fun q => s.heap.size ≤ q) s (wX G adx X ++ wM G adm μ) H locs) (hR : R X μ) (hl : lv_has ls 4 [(3, .int x3), (2, .ref (adm 0)), (1, .ref (adx 8 0)), (0, .ref b)]) (h1 : vp_in (x3 + 1) L) (h2 : vp_in (x3 + 2) L) (h3 : vp_in (x3 + 3) L) (h4 : vp_in (x3 + 4) L) (h5 : vp_in (x3 + 5) L) (K : ∀ (X' : K3) (μ' : K2) (H : Heap) (locs : List Loc), R X' μ' → Fr G (fun q => s.heap.size ≤ q) s (wX G adx X' ++ wM G adm μ') H locs → W p l e room_1 s m #[Value.ref b] below meth c H locs cells slots Q (F0 m 1383 ls [])) : W p l e room_1 s m #[Value.ref b] below meth c H locs cells slots Q (F0 m 1337 ls []) := by
  obtain ⟨hx, hb, hml, hown, hts⟩ := id S
  have hbA : ¬ (fun q : Nat => s.heap.size ≤ q) b := Nat.not_le.mpr hbl
  obtain ⟨r, X', μ', e1, e2, hR'⟩ := s_count hR (xs (x3 + 1).toNatClampNeg)
  refine lv_aload_n hx hb dL_law_1337 rfl (lv_at hl 2 rfl) ?_
  refine lv_aload_n hx hb dL_law_1338 rfl (lv_at hl 3 rfl) ?_
  refine lv_iload_n hx hb dL_law_1339 rfl (lv_at hl 0 rfl) ?_
  refine lv_iconst (v := 1) hx hb dL_law_1340 (by decide) ?_
  refine lv_iadd hx hb dL_law_1341 ?_
  refine va_sld hx hb hX hbl hbA hf.2.2.1 h1 dL_law_1342 ?_
  refine g_cv (o := some (.int r)) (As := [.int (xs (x3 + 1).toNatClampNeg)]) (rest := []) (st1 := [.int r]) (ci := 3) (a := []) (b := wM G adm μ) S hf (c_X3_count l G adx X (xs (x3 + 1).toNatClampNeg) (r, X') e1) (cwV 1 hts gL_law_X3_count rfl rfl rfl (by decide +kernel) ⟨(Nat.le_of_ble_eq_true rfl), (Nat.le_of_ble_eq_true rfl)⟩) rfl rfl rfl rfl 0 rfl rfl hl.1 rfl rfl (Nat.le_of_ble_eq_true rfl) hfit dL_law_1343 (fun H locs hf => ?_)
  have hf : Fr G (fun q => s.heap.size ≤ q) s (wX G adx X' ++ wM G adm μ) H locs := hf
  refine lv_aload_n hx hb dL_law_1346 rfl (lv_at hl 1 rfl) ?_
  refine lv_aload_n hx hb dL_law_1347 rfl (lv_at hl 3 rfl) ?_
  refine lv_iload_n hx hb dL_law_1348 rfl (lv_at hl 0 rfl) ?_
  refine lv_iconst (v := 1) hx hb dL_law_1349 (by decide) ?_
  refine lv_iadd hx hb dL_law_1350 ?_
  refine va_sld hx hb hX hbl hbA hf.2.2.1 h1 dL_law_1351 ?_
  refine g_cv (o := some (.int r)) (As := [.int (xs (x3 + 1).toNatClampNeg)]) (rest := [.int r]) (st1 := [.int r, .int r]) (ci := 4) (a := wX G adx X') (b := []) S hf (c_X4_count l G adm μ (xs (x3 + 1).toNatClampNeg) (r, μ') e2) (cwV 1 hts gL_law_X4_count rfl rfl rfl (by decide +kernel) ⟨(Nat.le_of_ble_eq_true rfl), (Nat.le_of_ble_eq_true rfl)⟩) (by rw [List.append_nil]) rfl rfl rfl 0 rfl rfl hl.1 rfl rfl (Nat.le_of_ble_eq_true rfl) hfit dL_law_1352 (fun H locs hf => ?_)
  have hf : Fr G (fun q => s.heap.size ≤ q) s (wX G adx X' ++ wM G adm μ') H locs := by rw [List.append_nil] at hf; exact hf
  refine lv_icmp_eq (tgt := 1383) hx hb dL_law_1355 (by decide) (fun _ => ?_) (fun c9 => absurd rfl c9)
  exact K X' μ' H locs hR' hf
set_option maxHeartbeats 4000000 in
set_option maxRecDepth 100000 in
theorem law_41 {p : Program} {l : Launch} {e : Env} {s : State} {m : MethodId} {below : List Frame} {meth : Method} {c : Code} {b L : Nat} {xs : Nat → Int32} {G : GT} {adx : Nat → Nat → Nat} {adm : Nat → Nat} {X : K3} {μ : K2} {H : Heap} {locs : List Loc} {cells slots : Nat} {Q : State → Prop} {ls : Array Slot} {x3 : Int32} (S : CallFix p m c cL_law 4 s #[Value.ref b] wsL_law RL) (hX : va_X b L xs s s.heap) (hbl : b < s.heap.size) (hfit : cells ≤ room_1.cells ∧ slots ≤ room_1.slots) (hf : Fr G (fun q => s.heap.size ≤ q) s (wX G adx X ++ wM G adm μ) H locs) (hR : R X μ) (hl : lv_has ls 4 [(3, .int x3), (2, .ref (adm 0)), (1, .ref (adx 8 0)), (0, .ref b)]) (h1 : vp_in (x3 + 1) L) (h2 : vp_in (x3 + 2) L) (h3 : vp_in (x3 + 3) L) (h4 : vp_in (x3 + 4) L) (h5 : vp_in (x3 + 5) L) (K : ∀ (X' : K3) (μ' : K2) (H : Heap) (locs : List Loc), R X' μ' → Fr G (fun q => s.heap.size ≤ q) s (wX G adx X' ++ wM G adm μ') H locs → W p l e room_1 s m #[Value.ref b] below meth c H locs cells slots Q (F0 m 1383 ls [])) : W p l e room_1 s m #[Value.ref b] below meth c H locs cells slots Q (F0 m 1360 ls []) := by
  obtain ⟨hx, hb, hml, hown, hts⟩ := id S
  have hbA : ¬ (fun q : Nat => s.heap.size ≤ q) b := Nat.not_le.mpr hbl
  obtain ⟨r, X', μ', e1, e2, hR'⟩ := s_status hR (xs (x3 + 1).toNatClampNeg)
  refine lv_aload_n hx hb dL_law_1360 rfl (lv_at hl 2 rfl) ?_
  refine lv_aload_n hx hb dL_law_1361 rfl (lv_at hl 3 rfl) ?_
  refine lv_iload_n hx hb dL_law_1362 rfl (lv_at hl 0 rfl) ?_
  refine lv_iconst (v := 1) hx hb dL_law_1363 (by decide) ?_
  refine lv_iadd hx hb dL_law_1364 ?_
  refine va_sld hx hb hX hbl hbA hf.2.2.1 h1 dL_law_1365 ?_
  refine g_cv (o := some (.int r)) (As := [.int (xs (x3 + 1).toNatClampNeg)]) (rest := []) (st1 := [.int r]) (ci := 3) (a := []) (b := wM G adm μ) S hf (c_X3_status l G adx X (xs (x3 + 1).toNatClampNeg) (r, X') e1) (cwV 1 hts gL_law_X3_status rfl rfl rfl (by decide +kernel) ⟨(Nat.le_of_ble_eq_true rfl), (Nat.le_of_ble_eq_true rfl)⟩) rfl rfl rfl rfl 0 rfl rfl hl.1 rfl rfl (Nat.le_of_ble_eq_true rfl) hfit dL_law_1366 (fun H locs hf => ?_)
  have hf : Fr G (fun q => s.heap.size ≤ q) s (wX G adx X' ++ wM G adm μ) H locs := hf
  refine lv_aload_n hx hb dL_law_1369 rfl (lv_at hl 1 rfl) ?_
  refine lv_aload_n hx hb dL_law_1370 rfl (lv_at hl 3 rfl) ?_
  refine lv_iload_n hx hb dL_law_1371 rfl (lv_at hl 0 rfl) ?_
  refine lv_iconst (v := 1) hx hb dL_law_1372 (by decide) ?_
  refine lv_iadd hx hb dL_law_1373 ?_
  refine va_sld hx hb hX hbl hbA hf.2.2.1 h1 dL_law_1374 ?_
  refine g_cv (o := some (.int r)) (As := [.int (xs (x3 + 1).toNatClampNeg)]) (rest := [.int r]) (st1 := [.int r, .int r]) (ci := 4) (a := wX G adx X') (b := []) S hf (c_X4_status l G adm μ (xs (x3 + 1).toNatClampNeg) (r, μ') e2) (cwV 1 hts gL_law_X4_status rfl rfl rfl (by decide +kernel) ⟨(Nat.le_of_ble_eq_true rfl), (Nat.le_of_ble_eq_true rfl)⟩) (by rw [List.append_nil]) rfl rfl rfl 0 rfl rfl hl.1 rfl rfl (Nat.le_of_ble_eq_true rfl) hfit dL_law_1375 (fun H locs hf => ?_)
  have hf : Fr G (fun q => s.heap.size ≤ q) s (wX G adx X' ++ wM G adm μ') H locs := by rw [List.append_nil] at hf; exact hf
  refine lv_icmp_eq (tgt := 1383) hx hb dL_law_1378 (by decide) (fun _ => ?_) (fun c9 => absurd rfl c9)
  exact K X' μ' H locs hR' hf
