set_option maxHeartbeats 4000000 in
set_option maxRecDepth 100000 in
theorem law_7 {p : Program} {l : Launch} {e : Env} {s : State} {m : MethodId} {below : List Frame} {meth : Method} {c : Code} {b L : Nat} {xs : Nat → Int32} {G : GT} {adx : Nat → Nat → Nat} {adm : Nat → Nat} {X : K3} {μ : K2} {H : Heap} {locs : List Loc} {cells slots : Nat} {Q : State → Prop} {ls : Array Slot} {x3 : Int32} (S : CallFix p m c cL_law 4 s #[Value.ref b] wsL_law RL) (hX : va_X b L xs s s.heap) (hbl : b < s.heap.size) (hfit : cells ≤ room_1.cells ∧ slots ≤ room_1.slots) (hf : Fr G (fun q => s.heap.size ≤ q) s (wX G adx X ++ wM G adm μ) H locs) (hR : R X μ) (hl : lv_has ls 4 [(3, .int x3), (2, .ref (adm 0)), (1, .ref (adx 8 0)), (0, .ref b)]) (h1 : vp_in (x3 + 1) L) (h2 : vp_in (x3 + 2) L) (h3 : vp_in (x3 + 3) L) (h4 : vp_in (x3 + 4) L) (h5 : vp_in (x3 + 5) L) (K : ∀ (X' : K3) (μ' : K2) (H : Heap) (locs : List Loc), R X' μ' → Fr G (fun q => s.heap.size ≤ q) s (wX G adx X' ++ wM G adm μ') H locs → W p l e room_1 s m #[Value.ref b] below meth c H locs cells slots Q (F0 m 1383 ls [])) : W p l e room_1 s m #[Value.ref b] below meth c H locs cells slots Q (F0 m 437 ls []) := by
  obtain ⟨hx, hb, hml, hown, hts⟩ := id S
  have hbA : ¬ (fun q : Nat => s.heap.size ≤ q) b := Nat.not_le.mpr hbl
  obtain ⟨r, X', μ', e1, e2, hR'⟩ := s_loft hR (xs (x3 + 1).toNatClampNeg)
  refine lv_aload_n hx hb dL_law_437 rfl (lv_at hl 2 rfl) ?_
  refine lv_aload_n hx hb dL_law_438 rfl (lv_at hl 3 rfl) ?_
  refine lv_iload_n hx hb dL_law_439 rfl (lv_at hl 0 rfl) ?_
  refine lv_iconst (v := 1) hx hb dL_law_440 (by decide) ?_
  refine lv_iadd hx hb dL_law_441 ?_
  refine va_sld hx hb hX hbl hbA hf.2.2.1 h1 dL_law_442 ?_
  refine g_cv (o := some (.int r)) (As := [.int (xs (x3 + 1).toNatClampNeg)]) (rest := []) (st1 := [.int r]) (ci := 3) (a := []) (b := wM G adm μ) S hf (c_X3_loft l G adx X (xs (x3 + 1).toNatClampNeg) (r, X') e1) (cwV 1 hts gL_law_X3_loft rfl rfl rfl (by decide +kernel) ⟨(Nat.le_of_ble_eq_true rfl), (Nat.le_of_ble_eq_true rfl)⟩) rfl rfl rfl rfl 0 rfl rfl hl.1 rfl rfl (Nat.le_of_ble_eq_true rfl) hfit dL_law_443 (fun H locs hf => ?_)
  have hf : Fr G (fun q => s.heap.size ≤ q) s (wX G adx X' ++ wM G adm μ) H locs := hf
  refine lv_aload_n hx hb dL_law_446 rfl (lv_at hl 1 rfl) ?_
  refine lv_aload_n hx hb dL_law_447 rfl (lv_at hl 3 rfl) ?_
  refine lv_iload_n hx hb dL_law_448 rfl (lv_at hl 0 rfl) ?_
  refine lv_iconst (v := 1) hx hb dL_law_449 (by decide) ?_
  refine lv_iadd hx hb dL_law_450 ?_
  refine va_sld hx hb hX hbl hbA hf.2.2.1 h1 dL_law_451 ?_
  refine g_cv (o := some (.int r)) (As := [.int (xs (x3 + 1).toNatClampNeg)]) (rest := [.int r]) (st1 := [.int r, .int r]) (ci := 4) (a := wX G adx X') (b := []) S hf (c_X4_loft l G adm μ (xs (x3 + 1).toNatClampNeg) (r, μ') e2) (cwV 1 hts gL_law_X4_loft rfl rfl rfl (by decide +kernel) ⟨(Nat.le_of_ble_eq_true rfl), (Nat.le_of_ble_eq_true rfl)⟩) (by rw [List.append_nil]) rfl rfl rfl 0 rfl rfl hl.1 rfl rfl (Nat.le_of_ble_eq_true rfl) hfit dL_law_452 (fun H locs hf => ?_)
  have hf : Fr G (fun q => s.heap.size ≤ q) s (wX G adx X' ++ wM G adm μ') H locs := by rw [List.append_nil] at hf; exact hf
  refine lv_icmp_eq (tgt := 1383) hx hb dL_law_455 (by decide) (fun _ => ?_) (fun c9 => absurd rfl c9)
  exact K X' μ' H locs hR' hf
set_option maxHeartbeats 4000000 in
set_option maxRecDepth 100000 in
theorem law_8 {p : Program} {l : Launch} {e : Env} {s : State} {m : MethodId} {below : List Frame} {meth : Method} {c : Code} {b L : Nat} {xs : Nat → Int32} {G : GT} {adx : Nat → Nat → Nat} {adm : Nat → Nat} {X : K3} {μ : K2} {H : Heap} {locs : List Loc} {cells slots : Nat} {Q : State → Prop} {ls : Array Slot} {x3 : Int32} (S : CallFix p m c cL_law 4 s #[Value.ref b] wsL_law RL) (hX : va_X b L xs s s.heap) (hbl : b < s.heap.size) (hfit : cells ≤ room_1.cells ∧ slots ≤ room_1.slots) (hf : Fr G (fun q => s.heap.size ≤ q) s (wX G adx X ++ wM G adm μ) H locs) (hR : R X μ) (hl : lv_has ls 4 [(3, .int x3), (2, .ref (adm 0)), (1, .ref (adx 8 0)), (0, .ref b)]) (h1 : vp_in (x3 + 1) L) (h2 : vp_in (x3 + 2) L) (h3 : vp_in (x3 + 3) L) (h4 : vp_in (x3 + 4) L) (h5 : vp_in (x3 + 5) L) (K : ∀ (X' : K3) (μ' : K2) (H : Heap) (locs : List Loc), R X' μ' → Fr G (fun q => s.heap.size ≤ q) s (wX G adx X' ++ wM G adm μ') H locs → W p l e room_1 s m #[Value.ref b] below meth c H locs cells slots Q (F0 m 1383 ls [])) : W p l e room_1 s m #[Value.ref b] below meth c H locs cells slots Q (F0 m 460 ls []) := by
  obtain ⟨hx, hb, hml, hown, hts⟩ := id S
  have hbA : ¬ (fun q : Nat => s.heap.size ≤ q) b := Nat.not_le.mpr hbl
  obtain ⟨r, X', μ', e1, e2, hR'⟩ := s_issue hR (xs (x3 + 1).toNatClampNeg)
  refine lv_aload_n hx hb dL_law_460 rfl (lv_at hl 2 rfl) ?_
  refine lv_aload_n hx hb dL_law_461 rfl (lv_at hl 3 rfl) ?_
  refine lv_iload_n hx hb dL_law_462 rfl (lv_at hl 0 rfl) ?_
  refine lv_iconst (v := 1) hx hb dL_law_463 (by decide) ?_
  refine lv_iadd hx hb dL_law_464 ?_
  refine va_sld hx hb hX hbl hbA hf.2.2.1 h1 dL_law_465 ?_
  refine g_cv (o := some (.int r)) (As := [.int (xs (x3 + 1).toNatClampNeg)]) (rest := []) (st1 := [.int r]) (ci := 3) (a := []) (b := wM G adm μ) S hf (c_X3_issue l G adx X (xs (x3 + 1).toNatClampNeg) (r, X') e1) (cwV 1 hts gL_law_X3_issue rfl rfl rfl (by decide +kernel) ⟨(Nat.le_of_ble_eq_true rfl), (Nat.le_of_ble_eq_true rfl)⟩) rfl rfl rfl rfl 0 rfl rfl hl.1 rfl rfl (Nat.le_of_ble_eq_true rfl) hfit dL_law_466 (fun H locs hf => ?_)
  have hf : Fr G (fun q => s.heap.size ≤ q) s (wX G adx X' ++ wM G adm μ) H locs := hf
  refine lv_aload_n hx hb dL_law_469 rfl (lv_at hl 1 rfl) ?_
  refine lv_aload_n hx hb dL_law_470 rfl (lv_at hl 3 rfl) ?_
  refine lv_iload_n hx hb dL_law_471 rfl (lv_at hl 0 rfl) ?_
  refine lv_iconst (v := 1) hx hb dL_law_472 (by decide) ?_
  refine lv_iadd hx hb dL_law_473 ?_
  refine va_sld hx hb hX hbl hbA hf.2.2.1 h1 dL_law_474 ?_
  refine g_cv (o := some (.int r)) (As := [.int (xs (x3 + 1).toNatClampNeg)]) (rest := [.int r]) (st1 := [.int r, .int r]) (ci := 4) (a := wX G adx X') (b := []) S hf (c_X4_issue l G adm μ (xs (x3 + 1).toNatClampNeg) (r, μ') e2) (cwV 1 hts gL_law_X4_issue rfl rfl rfl (by decide +kernel) ⟨(Nat.le_of_ble_eq_true rfl), (Nat.le_of_ble_eq_true rfl)⟩) (by rw [List.append_nil]) rfl rfl rfl 0 rfl rfl hl.1 rfl rfl (Nat.le_of_ble_eq_true rfl) hfit dL_law_475 (fun H locs hf => ?_)
  have hf : Fr G (fun q => s.heap.size ≤ q) s (wX G adx X' ++ wM G adm μ') H locs := by rw [List.append_nil] at hf; exact hf
  refine lv_icmp_eq (tgt := 1383) hx hb dL_law_478 (by decide) (fun _ => ?_) (fun c9 => absurd rfl c9)
  exact K X' μ' H locs hR' hf
set_option maxHeartbeats 4000000 in
set_option maxRecDepth 100000 in
theorem law_9 {p : Program} {l : Launch} {e : Env} {s : State} {m : MethodId} {below : List Frame} {meth : Method} {c : Code} {b L : Nat} {xs : Nat → Int32} {G : GT} {adx : Nat → Nat → Nat} {adm : Nat → Nat} {X : K3} {μ : K2} {H : Heap} {locs : List Loc} {cells slots : Nat} {Q : State → Prop} {ls : Array Slot} {x3 : Int32} (S : CallFix p m c cL_law 4 s #[Value.ref b] wsL_law RL) (hX : va_X b L xs s s.heap) (hbl : b < s.heap.size) (hfit : cells ≤ room_1.cells ∧ slots ≤ room_1.slots) (hf : Fr G (fun q => s.heap.size ≤ q) s (wX G adx X ++ wM G adm μ) H locs) (hR : R X μ) (hl : lv_has ls 4 [(3, .int x3), (2, .ref (adm 0)), (1, .ref (adx 8 0)), (0, .ref b)]) (h1 : vp_in (x3 + 1) L) (h2 : vp_in (x3 + 2) L) (h3 : vp_in (x3 + 3) L) (h4 : vp_in (x3 + 4) L) (h5 : vp_in (x3 + 5) L) (K : ∀ (X' : K3) (μ' : K2) (H : Heap) (locs : List Loc), R X' μ' → Fr G (fun q => s.heap.size ≤ q) s (wX G adx X' ++ wM G adm μ') H locs → W p l e room_1 s m #[Value.ref b] below meth c H locs cells slots Q (F0 m 1383 ls [])) : W p l e room_1 s m #[Value.ref b] below meth c H locs cells slots Q (F0 m 483 ls []) := by
  obtain ⟨hx, hb, hml, hown, hts⟩ := id S
  have hbA : ¬ (fun q : Nat => s.heap.size ≤ q) b := Nat.not_le.mpr hbl
  obtain ⟨r, X', μ', e1, e2, hR'⟩ := s_go hR (xs (x3 + 1).toNatClampNeg)
  refine lv_aload_n hx hb dL_law_483 rfl (lv_at hl 2 rfl) ?_
  refine lv_aload_n hx hb dL_law_484 rfl (lv_at hl 3 rfl) ?_
  refine lv_iload_n hx hb dL_law_485 rfl (lv_at hl 0 rfl) ?_
  refine lv_iconst (v := 1) hx hb dL_law_486 (by decide) ?_
  refine lv_iadd hx hb dL_law_487 ?_
  refine va_sld hx hb hX hbl hbA hf.2.2.1 h1 dL_law_488 ?_
  refine g_cv (o := some (.int r)) (As := [.int (xs (x3 + 1).toNatClampNeg)]) (rest := []) (st1 := [.int r]) (ci := 3) (a := []) (b := wM G adm μ) S hf (c_X3_go l G adx X (xs (x3 + 1).toNatClampNeg) (r, X') e1) (cwV 1 hts gL_law_X3_go rfl rfl rfl (by decide +kernel) ⟨(Nat.le_of_ble_eq_true rfl), (Nat.le_of_ble_eq_true rfl)⟩) rfl rfl rfl rfl 0 rfl rfl hl.1 rfl rfl (Nat.le_of_ble_eq_true rfl) hfit dL_law_489 (fun H locs hf => ?_)
  have hf : Fr G (fun q => s.heap.size ≤ q) s (wX G adx X' ++ wM G adm μ) H locs := hf
  refine lv_aload_n hx hb dL_law_492 rfl (lv_at hl 1 rfl) ?_
  refine lv_aload_n hx hb dL_law_493 rfl (lv_at hl 3 rfl) ?_
  refine lv_iload_n hx hb dL_law_494 rfl (lv_at hl 0 rfl) ?_
  refine lv_iconst (v := 1) hx hb dL_law_495 (by decide) ?_
  refine lv_iadd hx hb dL_law_496 ?_
  refine va_sld hx hb hX hbl hbA hf.2.2.1 h1 dL_law_497 ?_
  refine g_cv (o := some (.int r)) (As := [.int (xs (x3 + 1).toNatClampNeg)]) (rest := [.int r]) (st1 := [.int r, .int r]) (ci := 4) (a := wX G adx X') (b := []) S hf (c_X4_go l G adm μ (xs (x3 + 1).toNatClampNeg) (r, μ') e2) (cwV 1 hts gL_law_X4_go rfl rfl rfl (by decide +kernel) ⟨(Nat.le_of_ble_eq_true rfl), (Nat.le_of_ble_eq_true rfl)⟩) (by rw [List.append_nil]) rfl rfl rfl 0 rfl rfl hl.1 rfl rfl (Nat.le_of_ble_eq_true rfl) hfit dL_law_498 (fun H locs hf => ?_)
  have hf : Fr G (fun q => s.heap.size ≤ q) s (wX G adx X' ++ wM G adm μ') H locs := by rw [List.append_nil] at hf; exact hf
  refine lv_icmp_eq (tgt := 1383) hx hb dL_law_501 (by decide) (fun _ => ?_) (fun c9 => absurd rfl c9)
  exact K X' μ' H locs hR' hf
set_option maxHeartbeats 4000000 in
set_option maxRecDepth 100000 in
theorem law_10 {p : Program} {l : Launch} {e : Env} {s : State} {m : MethodId} {below : List Frame} {meth : Method} {c : Code} {b L : Nat} {xs : Nat → Int32} {G : GT} {adx : Nat → Nat → Nat} {adm : Nat → Nat} {X : K3} {μ : K2} {H : Heap} {locs : List Loc} {cells slots : Nat} {Q : State → Prop} {ls : Array Slot} {x3 : Int32} (S : CallFix p m c cL_law 4 s #[Value.ref b] wsL_law RL) (hX : va_X b L xs s s.heap) (hbl : b < s.heap.size) (hfit : cells ≤ room_1.cells ∧ slots ≤ room_1.slots) (hf : Fr G (fun q => s.heap.size ≤ q) s (wX G adx X ++ wM G adm μ) H locs) (hR : R X μ) (hl : lv_has ls 4 [(3, .int x3), (2, .ref (adm 0)), (1, .ref (adx 8 0)), (0, .ref b)]) (h1 : vp_in (x3 + 1) L) (h2 : vp_in (x3 + 2) L) (h3 : vp_in (x3 + 3) L) (h4 : vp_in (x3 + 4) L) (h5 : vp_in (x3 + 5) L) (K : ∀ (X' : K3) (μ' : K2) (H : Heap) (locs : List Loc), R X' μ' → Fr G (fun q => s.heap.size ≤ q) s (wX G adx X' ++ wM G adm μ') H locs → W p l e room_1 s m #[Value.ref b] below meth c H locs cells slots Q (F0 m 1383 ls [])) : W p l e room_1 s m #[Value.ref b] below meth c H locs cells slots Q (F0 m 506 ls []) := by
  obtain ⟨hx, hb, hml, hown, hts⟩ := id S
  have hbA : ¬ (fun q : Nat => s.heap.size ≤ q) b := Nat.not_le.mpr hbl
  obtain ⟨r, X', μ', e1, e2, hR'⟩ := s_now hR (xs (x3 + 1).toNatClampNeg)
  refine lv_aload_n hx hb dL_law_506 rfl (lv_at hl 2 rfl) ?_
  refine lv_aload_n hx hb dL_law_507 rfl (lv_at hl 3 rfl) ?_
  refine lv_iload_n hx hb dL_law_508 rfl (lv_at hl 0 rfl) ?_
  refine lv_iconst (v := 1) hx hb dL_law_509 (by decide) ?_
  refine lv_iadd hx hb dL_law_510 ?_
  refine va_sld hx hb hX hbl hbA hf.2.2.1 h1 dL_law_511 ?_
  refine g_cv (o := some (.int r)) (As := [.int (xs (x3 + 1).toNatClampNeg)]) (rest := []) (st1 := [.int r]) (ci := 3) (a := []) (b := wM G adm μ) S hf (c_X3_now l G adx X (xs (x3 + 1).toNatClampNeg) (r, X') e1) (cwV 1 hts gL_law_X3_now rfl rfl rfl (by decide +kernel) ⟨(Nat.le_of_ble_eq_true rfl), (Nat.le_of_ble_eq_true rfl)⟩) rfl rfl rfl rfl 0 rfl rfl hl.1 rfl rfl (Nat.le_of_ble_eq_true rfl) hfit dL_law_512 (fun H locs hf => ?_)
  have hf : Fr G (fun q => s.heap.size ≤ q) s (wX G adx X' ++ wM G adm μ) H locs := hf
  refine lv_aload_n hx hb dL_law_515 rfl (lv_at hl 1 rfl) ?_
  refine lv_aload_n hx hb dL_law_516 rfl (lv_at hl 3 rfl) ?_
  refine lv_iload_n hx hb dL_law_517 rfl (lv_at hl 0 rfl) ?_
  refine lv_iconst (v := 1) hx hb dL_law_518 (by decide) ?_
  refine lv_iadd hx hb dL_law_519 ?_
  refine va_sld hx hb hX hbl hbA hf.2.2.1 h1 dL_law_520 ?_
  refine g_cv (o := some (.int r)) (As := [.int (xs (x3 + 1).toNatClampNeg)]) (rest := [.int r]) (st1 := [.int r, .int r]) (ci := 4) (a := wX G adx X') (b := []) S hf (c_X4_now l G adm μ (xs (x3 + 1).toNatClampNeg) (r, μ') e2) (cwV 1 hts gL_law_X4_now rfl rfl rfl (by decide +kernel) ⟨(Nat.le_of_ble_eq_true rfl), (Nat.le_of_ble_eq_true rfl)⟩) (by rw [List.append_nil]) rfl rfl rfl 0 rfl rfl hl.1 rfl rfl (Nat.le_of_ble_eq_true rfl) hfit dL_law_521 (fun H locs hf => ?_)
  have hf : Fr G (fun q => s.heap.size ≤ q) s (wX G adx X' ++ wM G adm μ') H locs := by rw [List.append_nil] at hf; exact hf
  refine lv_icmp_eq (tgt := 1383) hx hb dL_law_524 (by decide) (fun _ => ?_) (fun c9 => absurd rfl c9)
  exact K X' μ' H locs hR' hf
set_option maxHeartbeats 4000000 in
set_option maxRecDepth 100000 in
theorem law_11 {p : Program} {l : Launch} {e : Env} {s : State} {m : MethodId} {below : List Frame} {meth : Method} {c : Code} {b L : Nat} {xs : Nat → Int32} {G : GT} {adx : Nat → Nat → Nat} {adm : Nat → Nat} {X : K3} {μ : K2} {H : Heap} {locs : List Loc} {cells slots : Nat} {Q : State → Prop} {ls : Array Slot} {x3 : Int32} (S : CallFix p m c cL_law 4 s #[Value.ref b] wsL_law RL) (hX : va_X b L xs s s.heap) (hbl : b < s.heap.size) (hfit : cells ≤ room_1.cells ∧ slots ≤ room_1.slots) (hf : Fr G (fun q => s.heap.size ≤ q) s (wX G adx X ++ wM G adm μ) H locs) (hR : R X μ) (hl : lv_has ls 4 [(3, .int x3), (2, .ref (adm 0)), (1, .ref (adx 8 0)), (0, .ref b)]) (h1 : vp_in (x3 + 1) L) (h2 : vp_in (x3 + 2) L) (h3 : vp_in (x3 + 3) L) (h4 : vp_in (x3 + 4) L) (h5 : vp_in (x3 + 5) L) (K : ∀ (X' : K3) (μ' : K2) (H : Heap) (locs : List Loc), R X' μ' → Fr G (fun q => s.heap.size ≤ q) s (wX G adx X' ++ wM G adm μ') H locs → W p l e room_1 s m #[Value.ref b] below meth c H locs cells slots Q (F0 m 1383 ls [])) : W p l e room_1 s m #[Value.ref b] below meth c H locs cells slots Q (F0 m 529 ls []) := by
  obtain ⟨hx, hb, hml, hown, hts⟩ := id S
  have hbA : ¬ (fun q : Nat => s.heap.size ≤ q) b := Nat.not_le.mpr hbl
  obtain ⟨r, X', μ', e1, e2, hR'⟩ := s_ahead hR (xs (x3 + 1).toNatClampNeg) (xs (x3 + 2).toNatClampNeg) (xs (x3 + 3).toNatClampNeg)
  refine lv_aload_n hx hb dL_law_529 rfl (lv_at hl 2 rfl) ?_
  refine lv_aload_n hx hb dL_law_530 rfl (lv_at hl 3 rfl) ?_
  refine lv_iload_n hx hb dL_law_531 rfl (lv_at hl 0 rfl) ?_
  refine lv_iconst (v := 1) hx hb dL_law_532 (by decide) ?_
  refine lv_iadd hx hb dL_law_533 ?_
  refine va_sld hx hb hX hbl hbA hf.2.2.1 h1 dL_law_534 ?_
  refine lv_aload_n hx hb dL_law_535 rfl (lv_at hl 3 rfl) ?_
  refine lv_iload_n hx hb dL_law_536 rfl (lv_at hl 0 rfl) ?_
  refine lv_iconst (v := 2) hx hb dL_law_537 (by decide) ?_
  refine lv_iadd hx hb dL_law_538 ?_
  refine va_sld hx hb hX hbl hbA hf.2.2.1 h2 dL_law_539 ?_
  refine lv_aload_n hx hb dL_law_540 rfl (lv_at hl 3 rfl) ?_
  refine lv_iload_n hx hb dL_law_541 rfl (lv_at hl 0 rfl) ?_
  refine lv_iconst (v := 3) hx hb dL_law_542 (by decide) ?_
  refine lv_iadd hx hb dL_law_543 ?_
  refine va_sld hx hb hX hbl hbA hf.2.2.1 h3 dL_law_544 ?_
  refine g_cv (o := some (.int r)) (As := [.int (xs (x3 + 1).toNatClampNeg), .int (xs (x3 + 2).toNatClampNeg), .int (xs (x3 + 3).toNatClampNeg)]) (rest := []) (st1 := [.int r]) (ci := 3) (a := []) (b := wM G adm μ) S hf (c_X3_ahead l G adx X (xs (x3 + 1).toNatClampNeg) (xs (x3 + 2).toNatClampNeg) (xs (x3 + 3).toNatClampNeg) (r, X') e1) (cwV 3 hts gL_law_X3_ahead rfl rfl rfl (by decide +kernel) ⟨(Nat.le_of_ble_eq_true rfl), (Nat.le_of_ble_eq_true rfl)⟩) rfl rfl rfl rfl 0 rfl rfl hl.1 rfl rfl (Nat.le_of_ble_eq_true rfl) hfit dL_law_545 (fun H locs hf => ?_)
  have hf : Fr G (fun q => s.heap.size ≤ q) s (wX G adx X' ++ wM G adm μ) H locs := hf
  refine lv_aload_n hx hb dL_law_548 rfl (lv_at hl 1 rfl) ?_
  refine lv_aload_n hx hb dL_law_549 rfl (lv_at hl 3 rfl) ?_
  refine lv_iload_n hx hb dL_law_550 rfl (lv_at hl 0 rfl) ?_
  refine lv_iconst (v := 1) hx hb dL_law_551 (by decide) ?_
  refine lv_iadd hx hb dL_law_552 ?_
  refine va_sld hx hb hX hbl hbA hf.2.2.1 h1 dL_law_553 ?_
  refine lv_aload_n hx hb dL_law_554 rfl (lv_at hl 3 rfl) ?_
  refine lv_iload_n hx hb dL_law_555 rfl (lv_at hl 0 rfl) ?_
  refine lv_iconst (v := 2) hx hb dL_law_556 (by decide) ?_
  refine lv_iadd hx hb dL_law_557 ?_
  refine va_sld hx hb hX hbl hbA hf.2.2.1 h2 dL_law_558 ?_
  refine lv_aload_n hx hb dL_law_559 rfl (lv_at hl 3 rfl) ?_
  refine lv_iload_n hx hb dL_law_560 rfl (lv_at hl 0 rfl) ?_
  refine lv_iconst (v := 3) hx hb dL_law_561 (by decide) ?_
  refine lv_iadd hx hb dL_law_562 ?_
  refine va_sld hx hb hX hbl hbA hf.2.2.1 h3 dL_law_563 ?_
  refine g_cv (o := some (.int r)) (As := [.int (xs (x3 + 1).toNatClampNeg), .int (xs (x3 + 2).toNatClampNeg), .int (xs (x3 + 3).toNatClampNeg)]) (rest := [.int r]) (st1 := [.int r, .int r]) (ci := 4) (a := wX G adx X') (b := []) S hf (c_X4_ahead l G adm μ (xs (x3 + 1).toNatClampNeg) (xs (x3 + 2).toNatClampNeg) (xs (x3 + 3).toNatClampNeg) (r, μ') e2) (cwV 3 hts gL_law_X4_ahead rfl rfl rfl (by decide +kernel) ⟨(Nat.le_of_ble_eq_true rfl), (Nat.le_of_ble_eq_true rfl)⟩) (by rw [List.append_nil]) rfl rfl rfl 0 rfl rfl hl.1 rfl rfl (Nat.le_of_ble_eq_true rfl) hfit dL_law_564 (fun H locs hf => ?_)
  have hf : Fr G (fun q => s.heap.size ≤ q) s (wX G adx X' ++ wM G adm μ') H locs := by rw [List.append_nil] at hf; exact hf
  refine lv_icmp_eq (tgt := 1383) hx hb dL_law_567 (by decide) (fun _ => ?_) (fun c9 => absurd rfl c9)
  exact K X' μ' H locs hR' hf
set_option maxHeartbeats 4000000 in
set_option maxRecDepth 100000 in
theorem law_12 {p : Program} {l : Launch} {e : Env} {s : State} {m : MethodId} {below : List Frame} {meth : Method} {c : Code} {b L : Nat} {xs : Nat → Int32} {G : GT} {adx : Nat → Nat → Nat} {adm : Nat → Nat} {X : K3} {μ : K2} {H : Heap} {locs : List Loc} {cells slots : Nat} {Q : State → Prop} {ls : Array Slot} {x3 : Int32} (S : CallFix p m c cL_law 4 s #[Value.ref b] wsL_law RL) (hX : va_X b L xs s s.heap) (hbl : b < s.heap.size) (hfit : cells ≤ room_1.cells ∧ slots ≤ room_1.slots) (hf : Fr G (fun q => s.heap.size ≤ q) s (wX G adx X ++ wM G adm μ) H locs) (hR : R X μ) (hl : lv_has ls 4 [(3, .int x3), (2, .ref (adm 0)), (1, .ref (adx 8 0)), (0, .ref b)]) (h1 : vp_in (x3 + 1) L) (h2 : vp_in (x3 + 2) L) (h3 : vp_in (x3 + 3) L) (h4 : vp_in (x3 + 4) L) (h5 : vp_in (x3 + 5) L) (K : ∀ (X' : K3) (μ' : K2) (H : Heap) (locs : List Loc), R X' μ' → Fr G (fun q => s.heap.size ≤ q) s (wX G adx X' ++ wM G adm μ') H locs → W p l e room_1 s m #[Value.ref b] below meth c H locs cells slots Q (F0 m 1383 ls [])) : W p l e room_1 s m #[Value.ref b] below meth c H locs cells slots Q (F0 m 572 ls []) := by
  obtain ⟨hx, hb, hml, hown, hts⟩ := id S
  have hbA : ¬ (fun q : Nat => s.heap.size ≤ q) b := Nat.not_le.mpr hbl
  obtain ⟨r, X', μ', e1, e2, hR'⟩ := s_budget hR (xs (x3 + 1).toNatClampNeg)
  refine lv_aload_n hx hb dL_law_572 rfl (lv_at hl 2 rfl) ?_
  refine lv_aload_n hx hb dL_law_573 rfl (lv_at hl 3 rfl) ?_
  refine lv_iload_n hx hb dL_law_574 rfl (lv_at hl 0 rfl) ?_
  refine lv_iconst (v := 1) hx hb dL_law_575 (by decide) ?_
  refine lv_iadd hx hb dL_law_576 ?_
  refine va_sld hx hb hX hbl hbA hf.2.2.1 h1 dL_law_577 ?_
  refine g_cv (o := some (.int r)) (As := [.int (xs (x3 + 1).toNatClampNeg)]) (rest := []) (st1 := [.int r]) (ci := 3) (a := []) (b := wM G adm μ) S hf (c_X3_budget l G adx X (xs (x3 + 1).toNatClampNeg) (r, X') e1) (cwV 1 hts gL_law_X3_budget rfl rfl rfl (by decide +kernel) ⟨(Nat.le_of_ble_eq_true rfl), (Nat.le_of_ble_eq_true rfl)⟩) rfl rfl rfl rfl 0 rfl rfl hl.1 rfl rfl (Nat.le_of_ble_eq_true rfl) hfit dL_law_578 (fun H locs hf => ?_)
  have hf : Fr G (fun q => s.heap.size ≤ q) s (wX G adx X' ++ wM G adm μ) H locs := hf
  refine lv_aload_n hx hb dL_law_581 rfl (lv_at hl 1 rfl) ?_
  refine lv_aload_n hx hb dL_law_582 rfl (lv_at hl 3 rfl) ?_
  refine lv_iload_n hx hb dL_law_583 rfl (lv_at hl 0 rfl) ?_
  refine lv_iconst (v := 1) hx hb dL_law_584 (by decide) ?_
  refine lv_iadd hx hb dL_law_585 ?_
  refine va_sld hx hb hX hbl hbA hf.2.2.1 h1 dL_law_586 ?_
  refine g_cv (o := some (.int r)) (As := [.int (xs (x3 + 1).toNatClampNeg)]) (rest := [.int r]) (st1 := [.int r, .int r]) (ci := 4) (a := wX G adx X') (b := []) S hf (c_X4_budget l G adm μ (xs (x3 + 1).toNatClampNeg) (r, μ') e2) (cwV 1 hts gL_law_X4_budget rfl rfl rfl (by decide +kernel) ⟨(Nat.le_of_ble_eq_true rfl), (Nat.le_of_ble_eq_true rfl)⟩) (by rw [List.append_nil]) rfl rfl rfl 0 rfl rfl hl.1 rfl rfl (Nat.le_of_ble_eq_true rfl) hfit dL_law_587 (fun H locs hf => ?_)
  have hf : Fr G (fun q => s.heap.size ≤ q) s (wX G adx X' ++ wM G adm μ') H locs := by rw [List.append_nil] at hf; exact hf
  refine lv_icmp_eq (tgt := 1383) hx hb dL_law_590 (by decide) (fun _ => ?_) (fun c9 => absurd rfl c9)
  exact K X' μ' H locs hR' hf
set_option maxHeartbeats 4000000 in
set_option maxRecDepth 100000 in
theorem law_13 {p : Program} {l : Launch} {e : Env} {s : State} {m : MethodId} {below : List Frame} {meth : Method} {c : Code} {b L : Nat} {xs : Nat → Int32} {G : GT} {adx : Nat → Nat → Nat} {adm : Nat → Nat} {X : K3} {μ : K2} {H : Heap} {locs : List Loc} {cells slots : Nat} {Q : State → Prop} {ls : Array Slot} {x3 : Int32} (S : CallFix p m c cL_law 4 s #[Value.ref b] wsL_law RL) (hX : va_X b L xs s s.heap) (hbl : b < s.heap.size) (hfit : cells ≤ room_1.cells ∧ slots ≤ room_1.slots) (hf : Fr G (fun q => s.heap.size ≤ q) s (wX G adx X ++ wM G adm μ) H locs) (hR : R X μ) (hl : lv_has ls 4 [(3, .int x3), (2, .ref (adm 0)), (1, .ref (adx 8 0)), (0, .ref b)]) (h1 : vp_in (x3 + 1) L) (h2 : vp_in (x3 + 2) L) (h3 : vp_in (x3 + 3) L) (h4 : vp_in (x3 + 4) L) (h5 : vp_in (x3 + 5) L) (K : ∀ (X' : K3) (μ' : K2) (H : Heap) (locs : List Loc), R X' μ' → Fr G (fun q => s.heap.size ≤ q) s (wX G adx X' ++ wM G adm μ') H locs → W p l e room_1 s m #[Value.ref b] below meth c H locs cells slots Q (F0 m 1383 ls [])) : W p l e room_1 s m #[Value.ref b] below meth c H locs cells slots Q (F0 m 595 ls []) := by
  obtain ⟨hx, hb, hml, hown, hts⟩ := id S
  have hbA : ¬ (fun q : Nat => s.heap.size ≤ q) b := Nat.not_le.mpr hbl
  obtain ⟨r, X', μ', e1, e2, hR'⟩ := s_dies hR (xs (x3 + 1).toNatClampNeg)
  refine lv_aload_n hx hb dL_law_595 rfl (lv_at hl 2 rfl) ?_
  refine lv_aload_n hx hb dL_law_596 rfl (lv_at hl 3 rfl) ?_
  refine lv_iload_n hx hb dL_law_597 rfl (lv_at hl 0 rfl) ?_
  refine lv_iconst (v := 1) hx hb dL_law_598 (by decide) ?_
  refine lv_iadd hx hb dL_law_599 ?_
  refine va_sld hx hb hX hbl hbA hf.2.2.1 h1 dL_law_600 ?_
  refine g_cv (o := some (.int r)) (As := [.int (xs (x3 + 1).toNatClampNeg)]) (rest := []) (st1 := [.int r]) (ci := 3) (a := []) (b := wM G adm μ) S hf (c_X3_dies l G adx X (xs (x3 + 1).toNatClampNeg) (r, X') e1) (cwV 1 hts gL_law_X3_dies rfl rfl rfl (by decide +kernel) ⟨(Nat.le_of_ble_eq_true rfl), (Nat.le_of_ble_eq_true rfl)⟩) rfl rfl rfl rfl 0 rfl rfl hl.1 rfl rfl (Nat.le_of_ble_eq_true rfl) hfit dL_law_601 (fun H locs hf => ?_)
  have hf : Fr G (fun q => s.heap.size ≤ q) s (wX G adx X' ++ wM G adm μ) H locs := hf
  refine lv_aload_n hx hb dL_law_604 rfl (lv_at hl 1 rfl) ?_
  refine lv_aload_n hx hb dL_law_605 rfl (lv_at hl 3 rfl) ?_
  refine lv_iload_n hx hb dL_law_606 rfl (lv_at hl 0 rfl) ?_
  refine lv_iconst (v := 1) hx hb dL_law_607 (by decide) ?_
  refine lv_iadd hx hb dL_law_608 ?_
  refine va_sld hx hb hX hbl hbA hf.2.2.1 h1 dL_law_609 ?_
  refine g_cv (o := some (.int r)) (As := [.int (xs (x3 + 1).toNatClampNeg)]) (rest := [.int r]) (st1 := [.int r, .int r]) (ci := 4) (a := wX G adx X') (b := []) S hf (c_X4_dies l G adm μ (xs (x3 + 1).toNatClampNeg) (r, μ') e2) (cwV 1 hts gL_law_X4_dies rfl rfl rfl (by decide +kernel) ⟨(Nat.le_of_ble_eq_true rfl), (Nat.le_of_ble_eq_true rfl)⟩) (by rw [List.append_nil]) rfl rfl rfl 0 rfl rfl hl.1 rfl rfl (Nat.le_of_ble_eq_true rfl) hfit dL_law_610 (fun H locs hf => ?_)
  have hf : Fr G (fun q => s.heap.size ≤ q) s (wX G adx X' ++ wM G adm μ') H locs := by rw [List.append_nil] at hf; exact hf
  refine lv_icmp_eq (tgt := 1383) hx hb dL_law_613 (by decide) (fun _ => ?_) (fun c9 => absurd rfl c9)
  exact K X' μ' H locs hR' hf
