theorem cmp_self (x : Int64) : lg_cmp x x = 0 := by
  unfold lg_cmp
  simp
set_option maxHeartbeats 4000000 in
set_option maxRecDepth 100000 in
theorem law_0 {p : Program} {l : Launch} {e : Env} {s : State} {m : MethodId} {below : List Frame} {meth : Method} {c : Code} {b L : Nat} {xs : Nat → Int32} {G : GT} {adx : Nat → Nat → Nat} {adm : Nat → Nat} {X : K3} {μ : K2} {H : Heap} {locs : List Loc} {cells slots : Nat} {Q : State → Prop} {ls : Array Slot} {x3 : Int32} (S : CallFix p m c cL_law 4 s #[Value.ref b] wsL_law RL) (hX : va_X b L xs s s.heap) (hbl : b < s.heap.size) (hfit : cells ≤ room_1.cells ∧ slots ≤ room_1.slots) (hf : Fr G (fun q => s.heap.size ≤ q) s (wX G adx X ++ wM G adm μ) H locs) (hR : R X μ) (hl : lv_has ls 4 [(3, .int x3), (2, .ref (adm 0)), (1, .ref (adx 8 0)), (0, .ref b)]) (h1 : vp_in (x3 + 1) L) (h2 : vp_in (x3 + 2) L) (h3 : vp_in (x3 + 3) L) (h4 : vp_in (x3 + 4) L) (h5 : vp_in (x3 + 5) L) (K : ∀ (X' : K3) (μ' : K2) (H : Heap) (locs : List Loc), R X' μ' → Fr G (fun q => s.heap.size ≤ q) s (wX G adx X' ++ wM G adm μ') H locs → W p l e room_1 s m #[Value.ref b] below meth c H locs cells slots Q (F0 m 1383 ls [])) : W p l e room_1 s m #[Value.ref b] below meth c H locs cells slots Q (F0 m 216 ls []) := by
  obtain ⟨hx, hb, hml, hown, hts⟩ := id S
  have hbA : ¬ (fun q : Nat => s.heap.size ≤ q) b := Nat.not_le.mpr hbl
  obtain ⟨r, X', μ', e1, e2, hR'⟩ := s_harvest hR (xs (x3 + 1).toNatClampNeg) (xs (x3 + 2).toNatClampNeg)
  refine lv_aload_n hx hb dL_law_216 rfl (lv_at hl 2 rfl) ?_
  refine lv_aload_n hx hb dL_law_217 rfl (lv_at hl 3 rfl) ?_
  refine lv_iload_n hx hb dL_law_218 rfl (lv_at hl 0 rfl) ?_
  refine lv_iconst (v := 1) hx hb dL_law_219 (by decide) ?_
  refine lv_iadd hx hb dL_law_220 ?_
  refine va_sld hx hb hX hbl hbA hf.2.2.1 h1 dL_law_221 ?_
  refine lv_aload_n hx hb dL_law_222 rfl (lv_at hl 3 rfl) ?_
  refine lv_iload_n hx hb dL_law_223 rfl (lv_at hl 0 rfl) ?_
  refine lv_iconst (v := 2) hx hb dL_law_224 (by decide) ?_
  refine lv_iadd hx hb dL_law_225 ?_
  refine va_sld hx hb hX hbl hbA hf.2.2.1 h2 dL_law_226 ?_
  refine g_cv (o := some (.int r)) (As := [.int (xs (x3 + 1).toNatClampNeg), .int (xs (x3 + 2).toNatClampNeg)]) (rest := []) (st1 := [.int r]) (ci := 3) (a := []) (b := wM G adm μ) S hf (c_X3_harvest l G adx X (xs (x3 + 1).toNatClampNeg) (xs (x3 + 2).toNatClampNeg) (r, X') e1) (cwV 2 hts gL_law_X3_harvest rfl rfl rfl (by decide +kernel) ⟨(Nat.le_of_ble_eq_true rfl), (Nat.le_of_ble_eq_true rfl)⟩) rfl rfl rfl rfl 0 rfl rfl hl.1 rfl rfl (Nat.le_of_ble_eq_true rfl) hfit dL_law_227 (fun H locs hf => ?_)
  have hf : Fr G (fun q => s.heap.size ≤ q) s (wX G adx X' ++ wM G adm μ) H locs := hf
  refine lv_aload_n hx hb dL_law_230 rfl (lv_at hl 1 rfl) ?_
  refine lv_aload_n hx hb dL_law_231 rfl (lv_at hl 3 rfl) ?_
  refine lv_iload_n hx hb dL_law_232 rfl (lv_at hl 0 rfl) ?_
  refine lv_iconst (v := 1) hx hb dL_law_233 (by decide) ?_
  refine lv_iadd hx hb dL_law_234 ?_
  refine va_sld hx hb hX hbl hbA hf.2.2.1 h1 dL_law_235 ?_
  refine lv_aload_n hx hb dL_law_236 rfl (lv_at hl 3 rfl) ?_
  refine lv_iload_n hx hb dL_law_237 rfl (lv_at hl 0 rfl) ?_
  refine lv_iconst (v := 2) hx hb dL_law_238 (by decide) ?_
  refine lv_iadd hx hb dL_law_239 ?_
  refine va_sld hx hb hX hbl hbA hf.2.2.1 h2 dL_law_240 ?_
  refine g_cv (o := some (.int r)) (As := [.int (xs (x3 + 1).toNatClampNeg), .int (xs (x3 + 2).toNatClampNeg)]) (rest := [.int r]) (st1 := [.int r, .int r]) (ci := 4) (a := wX G adx X') (b := []) S hf (c_X4_harvest l G adm μ (xs (x3 + 1).toNatClampNeg) (xs (x3 + 2).toNatClampNeg) (r, μ') e2) (cwV 2 hts gL_law_X4_harvest rfl rfl rfl (by decide +kernel) ⟨(Nat.le_of_ble_eq_true rfl), (Nat.le_of_ble_eq_true rfl)⟩) (by rw [List.append_nil]) rfl rfl rfl 0 rfl rfl hl.1 rfl rfl (Nat.le_of_ble_eq_true rfl) hfit dL_law_241 (fun H locs hf => ?_)
  have hf : Fr G (fun q => s.heap.size ≤ q) s (wX G adx X' ++ wM G adm μ') H locs := by rw [List.append_nil] at hf; exact hf
  refine lv_icmp_eq (tgt := 1383) hx hb dL_law_244 (by decide) (fun _ => ?_) (fun c9 => absurd rfl c9)
  exact K X' μ' H locs hR' hf
set_option maxHeartbeats 4000000 in
set_option maxRecDepth 100000 in
theorem law_1 {p : Program} {l : Launch} {e : Env} {s : State} {m : MethodId} {below : List Frame} {meth : Method} {c : Code} {b L : Nat} {xs : Nat → Int32} {G : GT} {adx : Nat → Nat → Nat} {adm : Nat → Nat} {X : K3} {μ : K2} {H : Heap} {locs : List Loc} {cells slots : Nat} {Q : State → Prop} {ls : Array Slot} {x3 : Int32} (S : CallFix p m c cL_law 4 s #[Value.ref b] wsL_law RL) (hX : va_X b L xs s s.heap) (hbl : b < s.heap.size) (hfit : cells ≤ room_1.cells ∧ slots ≤ room_1.slots) (hf : Fr G (fun q => s.heap.size ≤ q) s (wX G adx X ++ wM G adm μ) H locs) (hR : R X μ) (hl : lv_has ls 4 [(3, .int x3), (2, .ref (adm 0)), (1, .ref (adx 8 0)), (0, .ref b)]) (h1 : vp_in (x3 + 1) L) (h2 : vp_in (x3 + 2) L) (h3 : vp_in (x3 + 3) L) (h4 : vp_in (x3 + 4) L) (h5 : vp_in (x3 + 5) L) (K : ∀ (X' : K3) (μ' : K2) (H : Heap) (locs : List Loc), R X' μ' → Fr G (fun q => s.heap.size ≤ q) s (wX G adx X' ++ wM G adm μ') H locs → W p l e room_1 s m #[Value.ref b] below meth c H locs cells slots Q (F0 m 1383 ls [])) : W p l e room_1 s m #[Value.ref b] below meth c H locs cells slots Q (F0 m 249 ls []) := by
  obtain ⟨hx, hb, hml, hown, hts⟩ := id S
  have hbA : ¬ (fun q : Nat => s.heap.size ≤ q) b := Nat.not_le.mpr hbl
  obtain ⟨r, X', μ', e1, e2, hR'⟩ := s_listed hR (xs (x3 + 1).toNatClampNeg)
  refine lv_aload_n hx hb dL_law_249 rfl (lv_at hl 2 rfl) ?_
  refine lv_aload_n hx hb dL_law_250 rfl (lv_at hl 3 rfl) ?_
  refine lv_iload_n hx hb dL_law_251 rfl (lv_at hl 0 rfl) ?_
  refine lv_iconst (v := 1) hx hb dL_law_252 (by decide) ?_
  refine lv_iadd hx hb dL_law_253 ?_
  refine va_sld hx hb hX hbl hbA hf.2.2.1 h1 dL_law_254 ?_
  refine g_cv (o := some (.int r)) (As := [.int (xs (x3 + 1).toNatClampNeg)]) (rest := []) (st1 := [.int r]) (ci := 3) (a := []) (b := wM G adm μ) S hf (c_X3_listed l G adx X (xs (x3 + 1).toNatClampNeg) (r, X') e1) (cwV 1 hts gL_law_X3_listed rfl rfl rfl (by decide +kernel) ⟨(Nat.le_of_ble_eq_true rfl), (Nat.le_of_ble_eq_true rfl)⟩) rfl rfl rfl rfl 0 rfl rfl hl.1 rfl rfl (Nat.le_of_ble_eq_true rfl) hfit dL_law_255 (fun H locs hf => ?_)
  have hf : Fr G (fun q => s.heap.size ≤ q) s (wX G adx X' ++ wM G adm μ) H locs := hf
  refine lv_aload_n hx hb dL_law_258 rfl (lv_at hl 1 rfl) ?_
  refine lv_aload_n hx hb dL_law_259 rfl (lv_at hl 3 rfl) ?_
  refine lv_iload_n hx hb dL_law_260 rfl (lv_at hl 0 rfl) ?_
  refine lv_iconst (v := 1) hx hb dL_law_261 (by decide) ?_
  refine lv_iadd hx hb dL_law_262 ?_
  refine va_sld hx hb hX hbl hbA hf.2.2.1 h1 dL_law_263 ?_
  refine g_cv (o := some (.int r)) (As := [.int (xs (x3 + 1).toNatClampNeg)]) (rest := [.int r]) (st1 := [.int r, .int r]) (ci := 4) (a := wX G adx X') (b := []) S hf (c_X4_listed l G adm μ (xs (x3 + 1).toNatClampNeg) (r, μ') e2) (cwV 1 hts gL_law_X4_listed rfl rfl rfl (by decide +kernel) ⟨(Nat.le_of_ble_eq_true rfl), (Nat.le_of_ble_eq_true rfl)⟩) (by rw [List.append_nil]) rfl rfl rfl 0 rfl rfl hl.1 rfl rfl (Nat.le_of_ble_eq_true rfl) hfit dL_law_264 (fun H locs hf => ?_)
  have hf : Fr G (fun q => s.heap.size ≤ q) s (wX G adx X' ++ wM G adm μ') H locs := by rw [List.append_nil] at hf; exact hf
  refine lv_icmp_eq (tgt := 1383) hx hb dL_law_267 (by decide) (fun _ => ?_) (fun c9 => absurd rfl c9)
  exact K X' μ' H locs hR' hf
set_option maxHeartbeats 4000000 in
set_option maxRecDepth 100000 in
theorem law_2 {p : Program} {l : Launch} {e : Env} {s : State} {m : MethodId} {below : List Frame} {meth : Method} {c : Code} {b L : Nat} {xs : Nat → Int32} {G : GT} {adx : Nat → Nat → Nat} {adm : Nat → Nat} {X : K3} {μ : K2} {H : Heap} {locs : List Loc} {cells slots : Nat} {Q : State → Prop} {ls : Array Slot} {x3 : Int32} (S : CallFix p m c cL_law 4 s #[Value.ref b] wsL_law RL) (hX : va_X b L xs s s.heap) (hbl : b < s.heap.size) (hfit : cells ≤ room_1.cells ∧ slots ≤ room_1.slots) (hf : Fr G (fun q => s.heap.size ≤ q) s (wX G adx X ++ wM G adm μ) H locs) (hR : R X μ) (hl : lv_has ls 4 [(3, .int x3), (2, .ref (adm 0)), (1, .ref (adx 8 0)), (0, .ref b)]) (h1 : vp_in (x3 + 1) L) (h2 : vp_in (x3 + 2) L) (h3 : vp_in (x3 + 3) L) (h4 : vp_in (x3 + 4) L) (h5 : vp_in (x3 + 5) L) (K : ∀ (X' : K3) (μ' : K2) (H : Heap) (locs : List Loc), R X' μ' → Fr G (fun q => s.heap.size ≤ q) s (wX G adx X' ++ wM G adm μ') H locs → W p l e room_1 s m #[Value.ref b] below meth c H locs cells slots Q (F0 m 1383 ls [])) : W p l e room_1 s m #[Value.ref b] below meth c H locs cells slots Q (F0 m 272 ls []) := by
  obtain ⟨hx, hb, hml, hown, hts⟩ := id S
  have hbA : ¬ (fun q : Nat => s.heap.size ≤ q) b := Nat.not_le.mpr hbl
  obtain ⟨r, X', μ', e1, e2, hR'⟩ := s_corn hR (xs (x3 + 1).toNatClampNeg)
  refine lv_aload_n hx hb dL_law_272 rfl (lv_at hl 2 rfl) ?_
  refine lv_aload_n hx hb dL_law_273 rfl (lv_at hl 3 rfl) ?_
  refine lv_iload_n hx hb dL_law_274 rfl (lv_at hl 0 rfl) ?_
  refine lv_iconst (v := 1) hx hb dL_law_275 (by decide) ?_
  refine lv_iadd hx hb dL_law_276 ?_
  refine va_sld hx hb hX hbl hbA hf.2.2.1 h1 dL_law_277 ?_
  refine g_cv (o := some (.int r)) (As := [.int (xs (x3 + 1).toNatClampNeg)]) (rest := []) (st1 := [.int r]) (ci := 3) (a := []) (b := wM G adm μ) S hf (c_X3_corn l G adx X (xs (x3 + 1).toNatClampNeg) (r, X') e1) (cwV 1 hts gL_law_X3_corn rfl rfl rfl (by decide +kernel) ⟨(Nat.le_of_ble_eq_true rfl), (Nat.le_of_ble_eq_true rfl)⟩) rfl rfl rfl rfl 0 rfl rfl hl.1 rfl rfl (Nat.le_of_ble_eq_true rfl) hfit dL_law_278 (fun H locs hf => ?_)
  have hf : Fr G (fun q => s.heap.size ≤ q) s (wX G adx X' ++ wM G adm μ) H locs := hf
  refine lv_aload_n hx hb dL_law_281 rfl (lv_at hl 1 rfl) ?_
  refine lv_aload_n hx hb dL_law_282 rfl (lv_at hl 3 rfl) ?_
  refine lv_iload_n hx hb dL_law_283 rfl (lv_at hl 0 rfl) ?_
  refine lv_iconst (v := 1) hx hb dL_law_284 (by decide) ?_
  refine lv_iadd hx hb dL_law_285 ?_
  refine va_sld hx hb hX hbl hbA hf.2.2.1 h1 dL_law_286 ?_
  refine g_cv (o := some (.int r)) (As := [.int (xs (x3 + 1).toNatClampNeg)]) (rest := [.int r]) (st1 := [.int r, .int r]) (ci := 4) (a := wX G adx X') (b := []) S hf (c_X4_corn l G adm μ (xs (x3 + 1).toNatClampNeg) (r, μ') e2) (cwV 1 hts gL_law_X4_corn rfl rfl rfl (by decide +kernel) ⟨(Nat.le_of_ble_eq_true rfl), (Nat.le_of_ble_eq_true rfl)⟩) (by rw [List.append_nil]) rfl rfl rfl 0 rfl rfl hl.1 rfl rfl (Nat.le_of_ble_eq_true rfl) hfit dL_law_287 (fun H locs hf => ?_)
  have hf : Fr G (fun q => s.heap.size ≤ q) s (wX G adx X' ++ wM G adm μ') H locs := by rw [List.append_nil] at hf; exact hf
  refine lv_icmp_eq (tgt := 1383) hx hb dL_law_290 (by decide) (fun _ => ?_) (fun c9 => absurd rfl c9)
  exact K X' μ' H locs hR' hf
set_option maxHeartbeats 4000000 in
set_option maxRecDepth 100000 in
theorem law_3 {p : Program} {l : Launch} {e : Env} {s : State} {m : MethodId} {below : List Frame} {meth : Method} {c : Code} {b L : Nat} {xs : Nat → Int32} {G : GT} {adx : Nat → Nat → Nat} {adm : Nat → Nat} {X : K3} {μ : K2} {H : Heap} {locs : List Loc} {cells slots : Nat} {Q : State → Prop} {ls : Array Slot} {x3 : Int32} (S : CallFix p m c cL_law 4 s #[Value.ref b] wsL_law RL) (hX : va_X b L xs s s.heap) (hbl : b < s.heap.size) (hfit : cells ≤ room_1.cells ∧ slots ≤ room_1.slots) (hf : Fr G (fun q => s.heap.size ≤ q) s (wX G adx X ++ wM G adm μ) H locs) (hR : R X μ) (hl : lv_has ls 4 [(3, .int x3), (2, .ref (adm 0)), (1, .ref (adx 8 0)), (0, .ref b)]) (h1 : vp_in (x3 + 1) L) (h2 : vp_in (x3 + 2) L) (h3 : vp_in (x3 + 3) L) (h4 : vp_in (x3 + 4) L) (h5 : vp_in (x3 + 5) L) (K : ∀ (X' : K3) (μ' : K2) (H : Heap) (locs : List Loc), R X' μ' → Fr G (fun q => s.heap.size ≤ q) s (wX G adx X' ++ wM G adm μ') H locs → W p l e room_1 s m #[Value.ref b] below meth c H locs cells slots Q (F0 m 1383 ls [])) : W p l e room_1 s m #[Value.ref b] below meth c H locs cells slots Q (F0 m 295 ls []) := by
  obtain ⟨hx, hb, hml, hown, hts⟩ := id S
  have hbA : ¬ (fun q : Nat => s.heap.size ≤ q) b := Nat.not_le.mpr hbl
  obtain ⟨r, X', μ', e1, e2, hR'⟩ := s_bird hR (xs (x3 + 1).toNatClampNeg) (xs (x3 + 2).toNatClampNeg)
  refine lv_aload_n hx hb dL_law_295 rfl (lv_at hl 2 rfl) ?_
  refine lv_aload_n hx hb dL_law_296 rfl (lv_at hl 3 rfl) ?_
  refine lv_iload_n hx hb dL_law_297 rfl (lv_at hl 0 rfl) ?_
  refine lv_iconst (v := 1) hx hb dL_law_298 (by decide) ?_
  refine lv_iadd hx hb dL_law_299 ?_
  refine va_sld hx hb hX hbl hbA hf.2.2.1 h1 dL_law_300 ?_
  refine lv_aload_n hx hb dL_law_301 rfl (lv_at hl 3 rfl) ?_
  refine lv_iload_n hx hb dL_law_302 rfl (lv_at hl 0 rfl) ?_
  refine lv_iconst (v := 2) hx hb dL_law_303 (by decide) ?_
  refine lv_iadd hx hb dL_law_304 ?_
  refine va_sld hx hb hX hbl hbA hf.2.2.1 h2 dL_law_305 ?_
  refine g_cv (o := some (.int r)) (As := [.int (xs (x3 + 1).toNatClampNeg), .int (xs (x3 + 2).toNatClampNeg)]) (rest := []) (st1 := [.int r]) (ci := 3) (a := []) (b := wM G adm μ) S hf (c_X3_bird l G adx X (xs (x3 + 1).toNatClampNeg) (xs (x3 + 2).toNatClampNeg) (r, X') e1) (cwV 2 hts gL_law_X3_bird rfl rfl rfl (by decide +kernel) ⟨(Nat.le_of_ble_eq_true rfl), (Nat.le_of_ble_eq_true rfl)⟩) rfl rfl rfl rfl 0 rfl rfl hl.1 rfl rfl (Nat.le_of_ble_eq_true rfl) hfit dL_law_306 (fun H locs hf => ?_)
  have hf : Fr G (fun q => s.heap.size ≤ q) s (wX G adx X' ++ wM G adm μ) H locs := hf
  refine lv_aload_n hx hb dL_law_309 rfl (lv_at hl 1 rfl) ?_
  refine lv_aload_n hx hb dL_law_310 rfl (lv_at hl 3 rfl) ?_
  refine lv_iload_n hx hb dL_law_311 rfl (lv_at hl 0 rfl) ?_
  refine lv_iconst (v := 1) hx hb dL_law_312 (by decide) ?_
  refine lv_iadd hx hb dL_law_313 ?_
  refine va_sld hx hb hX hbl hbA hf.2.2.1 h1 dL_law_314 ?_
  refine lv_aload_n hx hb dL_law_315 rfl (lv_at hl 3 rfl) ?_
  refine lv_iload_n hx hb dL_law_316 rfl (lv_at hl 0 rfl) ?_
  refine lv_iconst (v := 2) hx hb dL_law_317 (by decide) ?_
  refine lv_iadd hx hb dL_law_318 ?_
  refine va_sld hx hb hX hbl hbA hf.2.2.1 h2 dL_law_319 ?_
  refine g_cv (o := some (.int r)) (As := [.int (xs (x3 + 1).toNatClampNeg), .int (xs (x3 + 2).toNatClampNeg)]) (rest := [.int r]) (st1 := [.int r, .int r]) (ci := 4) (a := wX G adx X') (b := []) S hf (c_X4_bird l G adm μ (xs (x3 + 1).toNatClampNeg) (xs (x3 + 2).toNatClampNeg) (r, μ') e2) (cwV 2 hts gL_law_X4_bird rfl rfl rfl (by decide +kernel) ⟨(Nat.le_of_ble_eq_true rfl), (Nat.le_of_ble_eq_true rfl)⟩) (by rw [List.append_nil]) rfl rfl rfl 0 rfl rfl hl.1 rfl rfl (Nat.le_of_ble_eq_true rfl) hfit dL_law_320 (fun H locs hf => ?_)
  have hf : Fr G (fun q => s.heap.size ≤ q) s (wX G adx X' ++ wM G adm μ') H locs := by rw [List.append_nil] at hf; exact hf
  refine lv_icmp_eq (tgt := 1383) hx hb dL_law_323 (by decide) (fun _ => ?_) (fun c9 => absurd rfl c9)
  exact K X' μ' H locs hR' hf
set_option maxHeartbeats 4000000 in
set_option maxRecDepth 100000 in
theorem law_4 {p : Program} {l : Launch} {e : Env} {s : State} {m : MethodId} {below : List Frame} {meth : Method} {c : Code} {b L : Nat} {xs : Nat → Int32} {G : GT} {adx : Nat → Nat → Nat} {adm : Nat → Nat} {X : K3} {μ : K2} {H : Heap} {locs : List Loc} {cells slots : Nat} {Q : State → Prop} {ls : Array Slot} {x3 : Int32} (S : CallFix p m c cL_law 4 s #[Value.ref b] wsL_law RL) (hX : va_X b L xs s s.heap) (hbl : b < s.heap.size) (hfit : cells ≤ room_1.cells ∧ slots ≤ room_1.slots) (hf : Fr G (fun q => s.heap.size ≤ q) s (wX G adx X ++ wM G adm μ) H locs) (hR : R X μ) (hl : lv_has ls 4 [(3, .int x3), (2, .ref (adm 0)), (1, .ref (adx 8 0)), (0, .ref b)]) (h1 : vp_in (x3 + 1) L) (h2 : vp_in (x3 + 2) L) (h3 : vp_in (x3 + 3) L) (h4 : vp_in (x3 + 4) L) (h5 : vp_in (x3 + 5) L) (K : ∀ (X' : K3) (μ' : K2) (H : Heap) (locs : List Loc), R X' μ' → Fr G (fun q => s.heap.size ≤ q) s (wX G adx X' ++ wM G adm μ') H locs → W p l e room_1 s m #[Value.ref b] below meth c H locs cells slots Q (F0 m 1383 ls [])) : W p l e room_1 s m #[Value.ref b] below meth c H locs cells slots Q (F0 m 328 ls []) := by
  obtain ⟨hx, hb, hml, hown, hts⟩ := id S
  have hbA : ¬ (fun q : Nat => s.heap.size ≤ q) b := Nat.not_le.mpr hbl
  obtain ⟨r, X', μ', e1, e2, hR'⟩ := s_hatch hR (xs (x3 + 1).toNatClampNeg) (xs (x3 + 2).toNatClampNeg)
  refine lv_aload_n hx hb dL_law_328 rfl (lv_at hl 2 rfl) ?_
  refine lv_aload_n hx hb dL_law_329 rfl (lv_at hl 3 rfl) ?_
  refine lv_iload_n hx hb dL_law_330 rfl (lv_at hl 0 rfl) ?_
  refine lv_iconst (v := 1) hx hb dL_law_331 (by decide) ?_
  refine lv_iadd hx hb dL_law_332 ?_
  refine va_sld hx hb hX hbl hbA hf.2.2.1 h1 dL_law_333 ?_
  refine lv_aload_n hx hb dL_law_334 rfl (lv_at hl 3 rfl) ?_
  refine lv_iload_n hx hb dL_law_335 rfl (lv_at hl 0 rfl) ?_
  refine lv_iconst (v := 2) hx hb dL_law_336 (by decide) ?_
  refine lv_iadd hx hb dL_law_337 ?_
  refine va_sld hx hb hX hbl hbA hf.2.2.1 h2 dL_law_338 ?_
  refine g_cv (o := some (.int r)) (As := [.int (xs (x3 + 1).toNatClampNeg), .int (xs (x3 + 2).toNatClampNeg)]) (rest := []) (st1 := [.int r]) (ci := 3) (a := []) (b := wM G adm μ) S hf (c_X3_hatch l G adx X (xs (x3 + 1).toNatClampNeg) (xs (x3 + 2).toNatClampNeg) (r, X') e1) (cwV 2 hts gL_law_X3_hatch rfl rfl rfl (by decide +kernel) ⟨(Nat.le_of_ble_eq_true rfl), (Nat.le_of_ble_eq_true rfl)⟩) rfl rfl rfl rfl 0 rfl rfl hl.1 rfl rfl (Nat.le_of_ble_eq_true rfl) hfit dL_law_339 (fun H locs hf => ?_)
  have hf : Fr G (fun q => s.heap.size ≤ q) s (wX G adx X' ++ wM G adm μ) H locs := hf
  refine lv_aload_n hx hb dL_law_342 rfl (lv_at hl 1 rfl) ?_
  refine lv_aload_n hx hb dL_law_343 rfl (lv_at hl 3 rfl) ?_
  refine lv_iload_n hx hb dL_law_344 rfl (lv_at hl 0 rfl) ?_
  refine lv_iconst (v := 1) hx hb dL_law_345 (by decide) ?_
  refine lv_iadd hx hb dL_law_346 ?_
  refine va_sld hx hb hX hbl hbA hf.2.2.1 h1 dL_law_347 ?_
  refine lv_aload_n hx hb dL_law_348 rfl (lv_at hl 3 rfl) ?_
  refine lv_iload_n hx hb dL_law_349 rfl (lv_at hl 0 rfl) ?_
  refine lv_iconst (v := 2) hx hb dL_law_350 (by decide) ?_
  refine lv_iadd hx hb dL_law_351 ?_
  refine va_sld hx hb hX hbl hbA hf.2.2.1 h2 dL_law_352 ?_
  refine g_cv (o := some (.int r)) (As := [.int (xs (x3 + 1).toNatClampNeg), .int (xs (x3 + 2).toNatClampNeg)]) (rest := [.int r]) (st1 := [.int r, .int r]) (ci := 4) (a := wX G adx X') (b := []) S hf (c_X4_hatch l G adm μ (xs (x3 + 1).toNatClampNeg) (xs (x3 + 2).toNatClampNeg) (r, μ') e2) (cwV 2 hts gL_law_X4_hatch rfl rfl rfl (by decide +kernel) ⟨(Nat.le_of_ble_eq_true rfl), (Nat.le_of_ble_eq_true rfl)⟩) (by rw [List.append_nil]) rfl rfl rfl 0 rfl rfl hl.1 rfl rfl (Nat.le_of_ble_eq_true rfl) hfit dL_law_353 (fun H locs hf => ?_)
  have hf : Fr G (fun q => s.heap.size ≤ q) s (wX G adx X' ++ wM G adm μ') H locs := by rw [List.append_nil] at hf; exact hf
  refine lv_icmp_eq (tgt := 1383) hx hb dL_law_356 (by decide) (fun _ => ?_) (fun c9 => absurd rfl c9)
  exact K X' μ' H locs hR' hf
set_option maxHeartbeats 4000000 in
set_option maxRecDepth 100000 in
theorem law_5 {p : Program} {l : Launch} {e : Env} {s : State} {m : MethodId} {below : List Frame} {meth : Method} {c : Code} {b L : Nat} {xs : Nat → Int32} {G : GT} {adx : Nat → Nat → Nat} {adm : Nat → Nat} {X : K3} {μ : K2} {H : Heap} {locs : List Loc} {cells slots : Nat} {Q : State → Prop} {ls : Array Slot} {x3 : Int32} (S : CallFix p m c cL_law 4 s #[Value.ref b] wsL_law RL) (hX : va_X b L xs s s.heap) (hbl : b < s.heap.size) (hfit : cells ≤ room_1.cells ∧ slots ≤ room_1.slots) (hf : Fr G (fun q => s.heap.size ≤ q) s (wX G adx X ++ wM G adm μ) H locs) (hR : R X μ) (hl : lv_has ls 4 [(3, .int x3), (2, .ref (adm 0)), (1, .ref (adx 8 0)), (0, .ref b)]) (h1 : vp_in (x3 + 1) L) (h2 : vp_in (x3 + 2) L) (h3 : vp_in (x3 + 3) L) (h4 : vp_in (x3 + 4) L) (h5 : vp_in (x3 + 5) L) (K : ∀ (X' : K3) (μ' : K2) (H : Heap) (locs : List Loc), R X' μ' → Fr G (fun q => s.heap.size ≤ q) s (wX G adx X' ++ wM G adm μ') H locs → W p l e room_1 s m #[Value.ref b] below meth c H locs cells slots Q (F0 m 1383 ls [])) : W p l e room_1 s m #[Value.ref b] below meth c H locs cells slots Q (F0 m 361 ls []) := by
  obtain ⟨hx, hb, hml, hown, hts⟩ := id S
  have hbA : ¬ (fun q : Nat => s.heap.size ≤ q) b := Nat.not_le.mpr hbl
  obtain ⟨r, X', μ', e1, e2, hR'⟩ := s_of hR (xs (x3 + 1).toNatClampNeg) (xs (x3 + 2).toNatClampNeg)
  refine lv_aload_n hx hb dL_law_361 rfl (lv_at hl 2 rfl) ?_
  refine lv_aload_n hx hb dL_law_362 rfl (lv_at hl 3 rfl) ?_
  refine lv_iload_n hx hb dL_law_363 rfl (lv_at hl 0 rfl) ?_
  refine lv_iconst (v := 1) hx hb dL_law_364 (by decide) ?_
  refine lv_iadd hx hb dL_law_365 ?_
  refine va_sld hx hb hX hbl hbA hf.2.2.1 h1 dL_law_366 ?_
  refine lv_aload_n hx hb dL_law_367 rfl (lv_at hl 3 rfl) ?_
  refine lv_iload_n hx hb dL_law_368 rfl (lv_at hl 0 rfl) ?_
  refine lv_iconst (v := 2) hx hb dL_law_369 (by decide) ?_
  refine lv_iadd hx hb dL_law_370 ?_
  refine va_sld hx hb hX hbl hbA hf.2.2.1 h2 dL_law_371 ?_
  refine g_cv (o := some (.int r)) (As := [.int (xs (x3 + 1).toNatClampNeg), .int (xs (x3 + 2).toNatClampNeg)]) (rest := []) (st1 := [.int r]) (ci := 3) (a := []) (b := wM G adm μ) S hf (c_X3_of l G adx X (xs (x3 + 1).toNatClampNeg) (xs (x3 + 2).toNatClampNeg) (r, X') e1) (cwV 2 hts gL_law_X3_of rfl rfl rfl (by decide +kernel) ⟨(Nat.le_of_ble_eq_true rfl), (Nat.le_of_ble_eq_true rfl)⟩) rfl rfl rfl rfl 0 rfl rfl hl.1 rfl rfl (Nat.le_of_ble_eq_true rfl) hfit dL_law_372 (fun H locs hf => ?_)
  have hf : Fr G (fun q => s.heap.size ≤ q) s (wX G adx X' ++ wM G adm μ) H locs := hf
  refine lv_aload_n hx hb dL_law_375 rfl (lv_at hl 1 rfl) ?_
  refine lv_aload_n hx hb dL_law_376 rfl (lv_at hl 3 rfl) ?_
  refine lv_iload_n hx hb dL_law_377 rfl (lv_at hl 0 rfl) ?_
  refine lv_iconst (v := 1) hx hb dL_law_378 (by decide) ?_
  refine lv_iadd hx hb dL_law_379 ?_
  refine va_sld hx hb hX hbl hbA hf.2.2.1 h1 dL_law_380 ?_
  refine lv_aload_n hx hb dL_law_381 rfl (lv_at hl 3 rfl) ?_
  refine lv_iload_n hx hb dL_law_382 rfl (lv_at hl 0 rfl) ?_
  refine lv_iconst (v := 2) hx hb dL_law_383 (by decide) ?_
  refine lv_iadd hx hb dL_law_384 ?_
  refine va_sld hx hb hX hbl hbA hf.2.2.1 h2 dL_law_385 ?_
  refine g_cv (o := some (.int r)) (As := [.int (xs (x3 + 1).toNatClampNeg), .int (xs (x3 + 2).toNatClampNeg)]) (rest := [.int r]) (st1 := [.int r, .int r]) (ci := 4) (a := wX G adx X') (b := []) S hf (c_X4_of l G adm μ (xs (x3 + 1).toNatClampNeg) (xs (x3 + 2).toNatClampNeg) (r, μ') e2) (cwV 2 hts gL_law_X4_of rfl rfl rfl (by decide +kernel) ⟨(Nat.le_of_ble_eq_true rfl), (Nat.le_of_ble_eq_true rfl)⟩) (by rw [List.append_nil]) rfl rfl rfl 0 rfl rfl hl.1 rfl rfl (Nat.le_of_ble_eq_true rfl) hfit dL_law_386 (fun H locs hf => ?_)
  have hf : Fr G (fun q => s.heap.size ≤ q) s (wX G adx X' ++ wM G adm μ') H locs := by rw [List.append_nil] at hf; exact hf
  refine lv_icmp_eq (tgt := 1383) hx hb dL_law_389 (by decide) (fun _ => ?_) (fun c9 => absurd rfl c9)
  exact K X' μ' H locs hR' hf
set_option maxHeartbeats 4000000 in
set_option maxRecDepth 100000 in
theorem law_6 {p : Program} {l : Launch} {e : Env} {s : State} {m : MethodId} {below : List Frame} {meth : Method} {c : Code} {b L : Nat} {xs : Nat → Int32} {G : GT} {adx : Nat → Nat → Nat} {adm : Nat → Nat} {X : K3} {μ : K2} {H : Heap} {locs : List Loc} {cells slots : Nat} {Q : State → Prop} {ls : Array Slot} {x3 : Int32} (S : CallFix p m c cL_law 4 s #[Value.ref b] wsL_law RL) (hX : va_X b L xs s s.heap) (hbl : b < s.heap.size) (hfit : cells ≤ room_1.cells ∧ slots ≤ room_1.slots) (hf : Fr G (fun q => s.heap.size ≤ q) s (wX G adx X ++ wM G adm μ) H locs) (hR : R X μ) (hl : lv_has ls 4 [(3, .int x3), (2, .ref (adm 0)), (1, .ref (adx 8 0)), (0, .ref b)]) (h1 : vp_in (x3 + 1) L) (h2 : vp_in (x3 + 2) L) (h3 : vp_in (x3 + 3) L) (h4 : vp_in (x3 + 4) L) (h5 : vp_in (x3 + 5) L) (K : ∀ (X' : K3) (μ' : K2) (H : Heap) (locs : List Loc), R X' μ' → Fr G (fun q => s.heap.size ≤ q) s (wX G adx X' ++ wM G adm μ') H locs → W p l e room_1 s m #[Value.ref b] below meth c H locs cells slots Q (F0 m 1383 ls [])) : W p l e room_1 s m #[Value.ref b] below meth c H locs cells slots Q (F0 m 394 ls []) := by
  obtain ⟨hx, hb, hml, hown, hts⟩ := id S
  have hbA : ¬ (fun q : Nat => s.heap.size ≤ q) b := Nat.not_le.mpr hbl
  obtain ⟨r, X', μ', e1, e2, hR'⟩ := s_change hR (xs (x3 + 1).toNatClampNeg) (xs (x3 + 2).toNatClampNeg) (xs (x3 + 3).toNatClampNeg)
  refine lv_aload_n hx hb dL_law_394 rfl (lv_at hl 2 rfl) ?_
  refine lv_aload_n hx hb dL_law_395 rfl (lv_at hl 3 rfl) ?_
  refine lv_iload_n hx hb dL_law_396 rfl (lv_at hl 0 rfl) ?_
  refine lv_iconst (v := 1) hx hb dL_law_397 (by decide) ?_
  refine lv_iadd hx hb dL_law_398 ?_
  refine va_sld hx hb hX hbl hbA hf.2.2.1 h1 dL_law_399 ?_
  refine lv_aload_n hx hb dL_law_400 rfl (lv_at hl 3 rfl) ?_
  refine lv_iload_n hx hb dL_law_401 rfl (lv_at hl 0 rfl) ?_
  refine lv_iconst (v := 2) hx hb dL_law_402 (by decide) ?_
  refine lv_iadd hx hb dL_law_403 ?_
  refine va_sld hx hb hX hbl hbA hf.2.2.1 h2 dL_law_404 ?_
  refine lv_aload_n hx hb dL_law_405 rfl (lv_at hl 3 rfl) ?_
  refine lv_iload_n hx hb dL_law_406 rfl (lv_at hl 0 rfl) ?_
  refine lv_iconst (v := 3) hx hb dL_law_407 (by decide) ?_
  refine lv_iadd hx hb dL_law_408 ?_
  refine va_sld hx hb hX hbl hbA hf.2.2.1 h3 dL_law_409 ?_
  refine g_cv (o := some (.int r)) (As := [.int (xs (x3 + 1).toNatClampNeg), .int (xs (x3 + 2).toNatClampNeg), .int (xs (x3 + 3).toNatClampNeg)]) (rest := []) (st1 := [.int r]) (ci := 3) (a := []) (b := wM G adm μ) S hf (c_X3_change l G adx X (xs (x3 + 1).toNatClampNeg) (xs (x3 + 2).toNatClampNeg) (xs (x3 + 3).toNatClampNeg) (r, X') e1) (cwV 3 hts gL_law_X3_change rfl rfl rfl (by decide +kernel) ⟨(Nat.le_of_ble_eq_true rfl), (Nat.le_of_ble_eq_true rfl)⟩) rfl rfl rfl rfl 0 rfl rfl hl.1 rfl rfl (Nat.le_of_ble_eq_true rfl) hfit dL_law_410 (fun H locs hf => ?_)
  have hf : Fr G (fun q => s.heap.size ≤ q) s (wX G adx X' ++ wM G adm μ) H locs := hf
  refine lv_aload_n hx hb dL_law_413 rfl (lv_at hl 1 rfl) ?_
  refine lv_aload_n hx hb dL_law_414 rfl (lv_at hl 3 rfl) ?_
  refine lv_iload_n hx hb dL_law_415 rfl (lv_at hl 0 rfl) ?_
  refine lv_iconst (v := 1) hx hb dL_law_416 (by decide) ?_
  refine lv_iadd hx hb dL_law_417 ?_
  refine va_sld hx hb hX hbl hbA hf.2.2.1 h1 dL_law_418 ?_
  refine lv_aload_n hx hb dL_law_419 rfl (lv_at hl 3 rfl) ?_
  refine lv_iload_n hx hb dL_law_420 rfl (lv_at hl 0 rfl) ?_
  refine lv_iconst (v := 2) hx hb dL_law_421 (by decide) ?_
  refine lv_iadd hx hb dL_law_422 ?_
  refine va_sld hx hb hX hbl hbA hf.2.2.1 h2 dL_law_423 ?_
  refine lv_aload_n hx hb dL_law_424 rfl (lv_at hl 3 rfl) ?_
  refine lv_iload_n hx hb dL_law_425 rfl (lv_at hl 0 rfl) ?_
  refine lv_iconst (v := 3) hx hb dL_law_426 (by decide) ?_
  refine lv_iadd hx hb dL_law_427 ?_
  refine va_sld hx hb hX hbl hbA hf.2.2.1 h3 dL_law_428 ?_
  refine g_cv (o := some (.int r)) (As := [.int (xs (x3 + 1).toNatClampNeg), .int (xs (x3 + 2).toNatClampNeg), .int (xs (x3 + 3).toNatClampNeg)]) (rest := [.int r]) (st1 := [.int r, .int r]) (ci := 4) (a := wX G adx X') (b := []) S hf (c_X4_change l G adm μ (xs (x3 + 1).toNatClampNeg) (xs (x3 + 2).toNatClampNeg) (xs (x3 + 3).toNatClampNeg) (r, μ') e2) (cwV 3 hts gL_law_X4_change rfl rfl rfl (by decide +kernel) ⟨(Nat.le_of_ble_eq_true rfl), (Nat.le_of_ble_eq_true rfl)⟩) (by rw [List.append_nil]) rfl rfl rfl 0 rfl rfl hl.1 rfl rfl (Nat.le_of_ble_eq_true rfl) hfit dL_law_429 (fun H locs hf => ?_)
  have hf : Fr G (fun q => s.heap.size ≤ q) s (wX G adx X' ++ wM G adm μ') H locs := by rw [List.append_nil] at hf; exact hf
  refine lv_icmp_eq (tgt := 1383) hx hb dL_law_432 (by decide) (fun _ => ?_) (fun c9 => absurd rfl c9)
  exact K X' μ' H locs hR' hf
