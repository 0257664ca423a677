set_option maxHeartbeats 4000000 in
set_option maxRecDepth 100000 in
theorem law_14 {p : Program} {l : Launch} {e : Env} {s : State} {m : MethodId} {below : List Frame} {meth : Method} {c : Code} {b L : Nat} {xs : Nat → Int32} {G : GT} {adx : Nat → Nat → Nat} {adm : Nat → Nat} {X : K3} {μ : K2} {H : Heap} {locs : List Loc} {cells slots : Nat} {Q : State → Prop} {ls : Array Slot} {x3 : Int32} (S : CallFix p m c cL_law 4 s #[Value.ref b] wsL_law RL) (hX : va_X b L xs s s.heap) (hbl : b < s.heap.size) (hfit : cells ≤ room_1.cells ∧ slots ≤ room_1.slots) (hf : Fr G (fun q => s.heap.size ≤ q) s (wX G adx X ++ wM G adm μ) H locs) (hR : R X μ) (hl : lv_has ls 4 [(3, .int x3), (2, .ref (adm 0)), (1, .ref (adx 8 0)), (0, .ref b)]) (h1 : vp_in (x3 + 1) L) (h2 : vp_in (x3 + 2) L) (h3 : vp_in (x3 + 3) L) (h4 : vp_in (x3 + 4) L) (h5 : vp_in (x3 + 5) L) (K : ∀ (X' : K3) (μ' : K2) (H : Heap) (locs : List Loc), R X' μ' → Fr G (fun q => s.heap.size ≤ q) s (wX G adx X' ++ wM G adm μ') H locs → W p l e room_1 s m #[Value.ref b] below meth c H locs cells slots Q (F0 m 1383 ls [])) : W p l e room_1 s m #[Value.ref b] below meth c H locs cells slots Q (F0 m 618 ls []) := by
  obtain ⟨hx, hb, hml, hown, hts⟩ := id S
  have hbA : ¬ (fun q : Nat => s.heap.size ≤ q) b := Nat.not_le.mpr hbl
  obtain ⟨r, X', μ', e1, e2, hR'⟩ := s_fails hR
  refine lv_aload_n hx hb dL_law_618 rfl (lv_at hl 2 rfl) ?_
  refine g_cv (o := some (.int r)) (As := []) (rest := []) (st1 := [.int r]) (ci := 3) (a := []) (b := wM G adm μ) S hf (c_X3_fails l G adx X (r, X') e1) (cwV 0 hts gL_law_X3_fails rfl rfl rfl (by decide +kernel) ⟨(Nat.le_of_ble_eq_true rfl), (Nat.le_of_ble_eq_true rfl)⟩) rfl rfl rfl rfl 0 rfl rfl hl.1 rfl rfl (Nat.le_of_ble_eq_true rfl) hfit dL_law_619 (fun H locs hf => ?_)
  have hf : Fr G (fun q => s.heap.size ≤ q) s (wX G adx X' ++ wM G adm μ) H locs := hf
  refine lv_aload_n hx hb dL_law_622 rfl (lv_at hl 1 rfl) ?_
  refine g_cv (o := some (.int r)) (As := []) (rest := [.int r]) (st1 := [.int r, .int r]) (ci := 4) (a := wX G adx X') (b := []) S hf (c_X4_fails l G adm μ (r, μ') e2) (cwV 0 hts gL_law_X4_fails rfl rfl rfl (by decide +kernel) ⟨(Nat.le_of_ble_eq_true rfl), (Nat.le_of_ble_eq_true rfl)⟩) (by rw [List.append_nil]) rfl rfl rfl 0 rfl rfl hl.1 rfl rfl (Nat.le_of_ble_eq_true rfl) hfit dL_law_623 (fun H locs hf => ?_)
  have hf : Fr G (fun q => s.heap.size ≤ q) s (wX G adx X' ++ wM G adm μ') H locs := by rw [List.append_nil] at hf; exact hf
  refine lv_icmp_eq (tgt := 1383) hx hb dL_law_626 (by decide) (fun _ => ?_) (fun c9 => absurd rfl c9)
  exact K X' μ' H locs hR' hf
set_option maxHeartbeats 4000000 in
set_option maxRecDepth 100000 in
theorem law_15 {p : Program} {l : Launch} {e : Env} {s : State} {m : MethodId} {below : List Frame} {meth : Method} {c : Code} {b L : Nat} {xs : Nat → Int32} {G : GT} {adx : Nat → Nat → Nat} {adm : Nat → Nat} {X : K3} {μ : K2} {H : Heap} {locs : List Loc} {cells slots : Nat} {Q : State → Prop} {ls : Array Slot} {x3 : Int32} (S : CallFix p m c cL_law 4 s #[Value.ref b] wsL_law RL) (hX : va_X b L xs s s.heap) (hbl : b < s.heap.size) (hfit : cells ≤ room_1.cells ∧ slots ≤ room_1.slots) (hf : Fr G (fun q => s.heap.size ≤ q) s (wX G adx X ++ wM G adm μ) H locs) (hR : R X μ) (hl : lv_has ls 4 [(3, .int x3), (2, .ref (adm 0)), (1, .ref (adx 8 0)), (0, .ref b)]) (h1 : vp_in (x3 + 1) L) (h2 : vp_in (x3 + 2) L) (h3 : vp_in (x3 + 3) L) (h4 : vp_in (x3 + 4) L) (h5 : vp_in (x3 + 5) L) (K : ∀ (X' : K3) (μ' : K2) (H : Heap) (locs : List Loc), R X' μ' → Fr G (fun q => s.heap.size ≤ q) s (wX G adx X' ++ wM G adm μ') H locs → W p l e room_1 s m #[Value.ref b] below meth c H locs cells slots Q (F0 m 1383 ls [])) : W p l e room_1 s m #[Value.ref b] below meth c H locs cells slots Q (F0 m 631 ls []) := by
  obtain ⟨hx, hb, hml, hown, hts⟩ := id S
  have hbA : ¬ (fun q : Nat => s.heap.size ≤ q) b := Nat.not_le.mpr hbl
  obtain ⟨r, X', μ', e1, e2, hR'⟩ := s_when hR (xs (x3 + 1).toNatClampNeg) (xs (x3 + 2).toNatClampNeg)
  refine lv_aload_n hx hb dL_law_631 rfl (lv_at hl 2 rfl) ?_
  refine lv_aload_n hx hb dL_law_632 rfl (lv_at hl 3 rfl) ?_
  refine lv_iload_n hx hb dL_law_633 rfl (lv_at hl 0 rfl) ?_
  refine lv_iconst (v := 1) hx hb dL_law_634 (by decide) ?_
  refine lv_iadd hx hb dL_law_635 ?_
  refine va_sld hx hb hX hbl hbA hf.2.2.1 h1 dL_law_636 ?_
  refine lv_aload_n hx hb dL_law_637 rfl (lv_at hl 3 rfl) ?_
  refine lv_iload_n hx hb dL_law_638 rfl (lv_at hl 0 rfl) ?_
  refine lv_iconst (v := 2) hx hb dL_law_639 (by decide) ?_
  refine lv_iadd hx hb dL_law_640 ?_
  refine va_sld hx hb hX hbl hbA hf.2.2.1 h2 dL_law_641 ?_
  refine g_cv (o := some (.int r)) (As := [.int (xs (x3 + 1).toNatClampNeg), .int (xs (x3 + 2).toNatClampNeg)]) (rest := []) (st1 := [.int r]) (ci := 3) (a := []) (b := wM G adm μ) S hf (c_X3_when l G adx X (xs (x3 + 1).toNatClampNeg) (xs (x3 + 2).toNatClampNeg) (r, X') e1) (cwV 2 hts gL_law_X3_when rfl rfl rfl (by decide +kernel) ⟨(Nat.le_of_ble_eq_true rfl), (Nat.le_of_ble_eq_true rfl)⟩) rfl rfl rfl rfl 0 rfl rfl hl.1 rfl rfl (Nat.le_of_ble_eq_true rfl) hfit dL_law_642 (fun H locs hf => ?_)
  have hf : Fr G (fun q => s.heap.size ≤ q) s (wX G adx X' ++ wM G adm μ) H locs := hf
  refine lv_aload_n hx hb dL_law_645 rfl (lv_at hl 1 rfl) ?_
  refine lv_aload_n hx hb dL_law_646 rfl (lv_at hl 3 rfl) ?_
  refine lv_iload_n hx hb dL_law_647 rfl (lv_at hl 0 rfl) ?_
  refine lv_iconst (v := 1) hx hb dL_law_648 (by decide) ?_
  refine lv_iadd hx hb dL_law_649 ?_
  refine va_sld hx hb hX hbl hbA hf.2.2.1 h1 dL_law_650 ?_
  refine lv_aload_n hx hb dL_law_651 rfl (lv_at hl 3 rfl) ?_
  refine lv_iload_n hx hb dL_law_652 rfl (lv_at hl 0 rfl) ?_
  refine lv_iconst (v := 2) hx hb dL_law_653 (by decide) ?_
  refine lv_iadd hx hb dL_law_654 ?_
  refine va_sld hx hb hX hbl hbA hf.2.2.1 h2 dL_law_655 ?_
  refine g_cv (o := some (.int r)) (As := [.int (xs (x3 + 1).toNatClampNeg), .int (xs (x3 + 2).toNatClampNeg)]) (rest := [.int r]) (st1 := [.int r, .int r]) (ci := 4) (a := wX G adx X') (b := []) S hf (c_X4_when l G adm μ (xs (x3 + 1).toNatClampNeg) (xs (x3 + 2).toNatClampNeg) (r, μ') e2) (cwV 2 hts gL_law_X4_when rfl rfl rfl (by decide +kernel) ⟨(Nat.le_of_ble_eq_true rfl), (Nat.le_of_ble_eq_true rfl)⟩) (by rw [List.append_nil]) rfl rfl rfl 0 rfl rfl hl.1 rfl rfl (Nat.le_of_ble_eq_true rfl) hfit dL_law_656 (fun H locs hf => ?_)
  have hf : Fr G (fun q => s.heap.size ≤ q) s (wX G adx X' ++ wM G adm μ') H locs := by rw [List.append_nil] at hf; exact hf
  refine lv_icmp_eq (tgt := 1383) hx hb dL_law_659 (by decide) (fun _ => ?_) (fun c9 => absurd rfl c9)
  exact K X' μ' H locs hR' hf
set_option maxHeartbeats 4000000 in
set_option maxRecDepth 100000 in
theorem law_16 {p : Program} {l : Launch} {e : Env} {s : State} {m : MethodId} {below : List Frame} {meth : Method} {c : Code} {b L : Nat} {xs : Nat → Int32} {G : GT} {adx : Nat → Nat → Nat} {adm : Nat → Nat} {X : K3} {μ : K2} {H : Heap} {locs : List Loc} {cells slots : Nat} {Q : State → Prop} {ls : Array Slot} {x3 : Int32} (S : CallFix p m c cL_law 4 s #[Value.ref b] wsL_law RL) (hX : va_X b L xs s s.heap) (hbl : b < s.heap.size) (hfit : cells ≤ room_1.cells ∧ slots ≤ room_1.slots) (hf : Fr G (fun q => s.heap.size ≤ q) s (wX G adx X ++ wM G adm μ) H locs) (hR : R X μ) (hl : lv_has ls 4 [(3, .int x3), (2, .ref (adm 0)), (1, .ref (adx 8 0)), (0, .ref b)]) (h1 : vp_in (x3 + 1) L) (h2 : vp_in (x3 + 2) L) (h3 : vp_in (x3 + 3) L) (h4 : vp_in (x3 + 4) L) (h5 : vp_in (x3 + 5) L) (K : ∀ (X' : K3) (μ' : K2) (H : Heap) (locs : List Loc), R X' μ' → Fr G (fun q => s.heap.size ≤ q) s (wX G adx X' ++ wM G adm μ') H locs → W p l e room_1 s m #[Value.ref b] below meth c H locs cells slots Q (F0 m 1383 ls [])) : W p l e room_1 s m #[Value.ref b] below meth c H locs cells slots Q (F0 m 664 ls []) := by
  obtain ⟨hx, hb, hml, hown, hts⟩ := id S
  have hbA : ¬ (fun q : Nat => s.heap.size ≤ q) b := Nat.not_le.mpr hbl
  obtain ⟨r, X', μ', e1, e2, hR'⟩ := s_ends hR
  refine lv_aload_n hx hb dL_law_664 rfl (lv_at hl 2 rfl) ?_
  refine g_cv (o := some (.int r)) (As := []) (rest := []) (st1 := [.int r]) (ci := 3) (a := []) (b := wM G adm μ) S hf (c_X3_ends l G adx X (r, X') e1) (cwV 0 hts gL_law_X3_ends rfl rfl rfl (by decide +kernel) ⟨(Nat.le_of_ble_eq_true rfl), (Nat.le_of_ble_eq_true rfl)⟩) rfl rfl rfl rfl 0 rfl rfl hl.1 rfl rfl (Nat.le_of_ble_eq_true rfl) hfit dL_law_665 (fun H locs hf => ?_)
  have hf : Fr G (fun q => s.heap.size ≤ q) s (wX G adx X' ++ wM G adm μ) H locs := hf
  refine lv_aload_n hx hb dL_law_668 rfl (lv_at hl 1 rfl) ?_
  refine g_cv (o := some (.int r)) (As := []) (rest := [.int r]) (st1 := [.int r, .int r]) (ci := 4) (a := wX G adx X') (b := []) S hf (c_X4_ends l G adm μ (r, μ') e2) (cwV 0 hts gL_law_X4_ends rfl rfl rfl (by decide +kernel) ⟨(Nat.le_of_ble_eq_true rfl), (Nat.le_of_ble_eq_true rfl)⟩) (by rw [List.append_nil]) rfl rfl rfl 0 rfl rfl hl.1 rfl rfl (Nat.le_of_ble_eq_true rfl) hfit dL_law_669 (fun H locs hf => ?_)
  have hf : Fr G (fun q => s.heap.size ≤ q) s (wX G adx X' ++ wM G adm μ') H locs := by rw [List.append_nil] at hf; exact hf
  refine lv_icmp_eq (tgt := 1383) hx hb dL_law_672 (by decide) (fun _ => ?_) (fun c9 => absurd rfl c9)
  exact K X' μ' H locs hR' hf
set_option maxHeartbeats 4000000 in
set_option maxRecDepth 100000 in
theorem law_17 {p : Program} {l : Launch} {e : Env} {s : State} {m : MethodId} {below : List Frame} {meth : Method} {c : Code} {b L : Nat} {xs : Nat → Int32} {G : GT} {adx : Nat → Nat → Nat} {adm : Nat → Nat} {X : K3} {μ : K2} {H : Heap} {locs : List Loc} {cells slots : Nat} {Q : State → Prop} {ls : Array Slot} {x3 : Int32} (S : CallFix p m c cL_law 4 s #[Value.ref b] wsL_law RL) (hX : va_X b L xs s s.heap) (hbl : b < s.heap.size) (hfit : cells ≤ room_1.cells ∧ slots ≤ room_1.slots) (hf : Fr G (fun q => s.heap.size ≤ q) s (wX G adx X ++ wM G adm μ) H locs) (hR : R X μ) (hl : lv_has ls 4 [(3, .int x3), (2, .ref (adm 0)), (1, .ref (adx 8 0)), (0, .ref b)]) (h1 : vp_in (x3 + 1) L) (h2 : vp_in (x3 + 2) L) (h3 : vp_in (x3 + 3) L) (h4 : vp_in (x3 + 4) L) (h5 : vp_in (x3 + 5) L) (K : ∀ (X' : K3) (μ' : K2) (H : Heap) (locs : List Loc), R X' μ' → Fr G (fun q => s.heap.size ≤ q) s (wX G adx X' ++ wM G adm μ') H locs → W p l e room_1 s m #[Value.ref b] below meth c H locs cells slots Q (F0 m 1383 ls [])) : W p l e room_1 s m #[Value.ref b] below meth c H locs cells slots Q (F0 m 677 ls []) := by
  obtain ⟨hx, hb, hml, hown, hts⟩ := id S
  have hbA : ¬ (fun q : Nat => s.heap.size ≤ q) b := Nat.not_le.mpr hbl
  obtain ⟨r, X', μ', e1, e2, hR'⟩ := s_harvestFor hR (xs (x3 + 1).toNatClampNeg) (xs (x3 + 2).toNatClampNeg)
  refine lv_aload_n hx hb dL_law_677 rfl (lv_at hl 2 rfl) ?_
  refine lv_aload_n hx hb dL_law_678 rfl (lv_at hl 3 rfl) ?_
  refine lv_iload_n hx hb dL_law_679 rfl (lv_at hl 0 rfl) ?_
  refine lv_iconst (v := 1) hx hb dL_law_680 (by decide) ?_
  refine lv_iadd hx hb dL_law_681 ?_
  refine va_sld hx hb hX hbl hbA hf.2.2.1 h1 dL_law_682 ?_
  refine lv_aload_n hx hb dL_law_683 rfl (lv_at hl 3 rfl) ?_
  refine lv_iload_n hx hb dL_law_684 rfl (lv_at hl 0 rfl) ?_
  refine lv_iconst (v := 2) hx hb dL_law_685 (by decide) ?_
  refine lv_iadd hx hb dL_law_686 ?_
  refine va_sld hx hb hX hbl hbA hf.2.2.1 h2 dL_law_687 ?_
  refine g_cv (o := some (.int r)) (As := [.int (xs (x3 + 1).toNatClampNeg), .int (xs (x3 + 2).toNatClampNeg)]) (rest := []) (st1 := [.int r]) (ci := 3) (a := []) (b := wM G adm μ) S hf (c_X3_harvestFor l G adx X (xs (x3 + 1).toNatClampNeg) (xs (x3 + 2).toNatClampNeg) (r, X') e1) (cwV 2 hts gL_law_X3_harvestFor rfl rfl rfl (by decide +kernel) ⟨(Nat.le_of_ble_eq_true rfl), (Nat.le_of_ble_eq_true rfl)⟩) rfl rfl rfl rfl 0 rfl rfl hl.1 rfl rfl (Nat.le_of_ble_eq_true rfl) hfit dL_law_688 (fun H locs hf => ?_)
  have hf : Fr G (fun q => s.heap.size ≤ q) s (wX G adx X' ++ wM G adm μ) H locs := hf
  refine lv_aload_n hx hb dL_law_691 rfl (lv_at hl 1 rfl) ?_
  refine lv_aload_n hx hb dL_law_692 rfl (lv_at hl 3 rfl) ?_
  refine lv_iload_n hx hb dL_law_693 rfl (lv_at hl 0 rfl) ?_
  refine lv_iconst (v := 1) hx hb dL_law_694 (by decide) ?_
  refine lv_iadd hx hb dL_law_695 ?_
  refine va_sld hx hb hX hbl hbA hf.2.2.1 h1 dL_law_696 ?_
  refine lv_aload_n hx hb dL_law_697 rfl (lv_at hl 3 rfl) ?_
  refine lv_iload_n hx hb dL_law_698 rfl (lv_at hl 0 rfl) ?_
  refine lv_iconst (v := 2) hx hb dL_law_699 (by decide) ?_
  refine lv_iadd hx hb dL_law_700 ?_
  refine va_sld hx hb hX hbl hbA hf.2.2.1 h2 dL_law_701 ?_
  refine g_cv (o := some (.int r)) (As := [.int (xs (x3 + 1).toNatClampNeg), .int (xs (x3 + 2).toNatClampNeg)]) (rest := [.int r]) (st1 := [.int r, .int r]) (ci := 4) (a := wX G adx X') (b := []) S hf (c_X4_harvestFor l G adm μ (xs (x3 + 1).toNatClampNeg) (xs (x3 + 2).toNatClampNeg) (r, μ') e2) (cwV 2 hts gL_law_X4_harvestFor rfl rfl rfl (by decide +kernel) ⟨(Nat.le_of_ble_eq_true rfl), (Nat.le_of_ble_eq_true rfl)⟩) (by rw [List.append_nil]) rfl rfl rfl 0 rfl rfl hl.1 rfl rfl (Nat.le_of_ble_eq_true rfl) hfit dL_law_702 (fun H locs hf => ?_)
  have hf : Fr G (fun q => s.heap.size ≤ q) s (wX G adx X' ++ wM G adm μ') H locs := by rw [List.append_nil] at hf; exact hf
  refine lv_icmp_eq (tgt := 1383) hx hb dL_law_705 (by decide) (fun _ => ?_) (fun c9 => absurd rfl c9)
  exact K X' μ' H locs hR' hf
set_option maxHeartbeats 4000000 in
set_option maxRecDepth 100000 in
theorem law_18 {p : Program} {l : Launch} {e : Env} {s : State} {m : MethodId} {below : List Frame} {meth : Method} {c : Code} {b L : Nat} {xs : Nat → Int32} {G : GT} {adx : Nat → Nat → Nat} {adm : Nat → Nat} {X : K3} {μ : K2} {H : Heap} {locs : List Loc} {cells slots : Nat} {Q : State → Prop} {ls : Array Slot} {x3 : Int32} (S : CallFix p m c cL_law 4 s #[Value.ref b] wsL_law RL) (hX : va_X b L xs s s.heap) (hbl : b < s.heap.size) (hfit : cells ≤ room_1.cells ∧ slots ≤ room_1.slots) (hf : Fr G (fun q => s.heap.size ≤ q) s (wX G adx X ++ wM G adm μ) H locs) (hR : R X μ) (hl : lv_has ls 4 [(3, .int x3), (2, .ref (adm 0)), (1, .ref (adx 8 0)), (0, .ref b)]) (h1 : vp_in (x3 + 1) L) (h2 : vp_in (x3 + 2) L) (h3 : vp_in (x3 + 3) L) (h4 : vp_in (x3 + 4) L) (h5 : vp_in (x3 + 5) L) (K : ∀ (X' : K3) (μ' : K2) (H : Heap) (locs : List Loc), R X' μ' → Fr G (fun q => s.heap.size ≤ q) s (wX G adx X' ++ wM G adm μ') H locs → W p l e room_1 s m #[Value.ref b] below meth c H locs cells slots Q (F0 m 1383 ls [])) : W p l e room_1 s m #[Value.ref b] below meth c H locs cells slots Q (F0 m 710 ls []) := by
  obtain ⟨hx, hb, hml, hown, hts⟩ := id S
  have hbA : ¬ (fun q : Nat => s.heap.size ≤ q) b := Nat.not_le.mpr hbl
  obtain ⟨r, X', μ', e1, e2, hR'⟩ := s_kindFor hR (xs (x3 + 1).toNatClampNeg) (xs (x3 + 2).toNatClampNeg)
  refine lv_aload_n hx hb dL_law_710 rfl (lv_at hl 2 rfl) ?_
  refine lv_aload_n hx hb dL_law_711 rfl (lv_at hl 3 rfl) ?_
  refine lv_iload_n hx hb dL_law_712 rfl (lv_at hl 0 rfl) ?_
  refine lv_iconst (v := 1) hx hb dL_law_713 (by decide) ?_
  refine lv_iadd hx hb dL_law_714 ?_
  refine va_sld hx hb hX hbl hbA hf.2.2.1 h1 dL_law_715 ?_
  refine lv_aload_n hx hb dL_law_716 rfl (lv_at hl 3 rfl) ?_
  refine lv_iload_n hx hb dL_law_717 rfl (lv_at hl 0 rfl) ?_
  refine lv_iconst (v := 2) hx hb dL_law_718 (by decide) ?_
  refine lv_iadd hx hb dL_law_719 ?_
  refine va_sld hx hb hX hbl hbA hf.2.2.1 h2 dL_law_720 ?_
  refine g_cv (o := some (.int r)) (As := [.int (xs (x3 + 1).toNatClampNeg), .int (xs (x3 + 2).toNatClampNeg)]) (rest := []) (st1 := [.int r]) (ci := 3) (a := []) (b := wM G adm μ) S hf (c_X3_kindFor l G adx X (xs (x3 + 1).toNatClampNeg) (xs (x3 + 2).toNatClampNeg) (r, X') e1) (cwV 2 hts gL_law_X3_kindFor rfl rfl rfl (by decide +kernel) ⟨(Nat.le_of_ble_eq_true rfl), (Nat.le_of_ble_eq_true rfl)⟩) rfl rfl rfl rfl 0 rfl rfl hl.1 rfl rfl (Nat.le_of_ble_eq_true rfl) hfit dL_law_721 (fun H locs hf => ?_)
  have hf : Fr G (fun q => s.heap.size ≤ q) s (wX G adx X' ++ wM G adm μ) H locs := hf
  refine lv_aload_n hx hb dL_law_724 rfl (lv_at hl 1 rfl) ?_
  refine lv_aload_n hx hb dL_law_725 rfl (lv_at hl 3 rfl) ?_
  refine lv_iload_n hx hb dL_law_726 rfl (lv_at hl 0 rfl) ?_
  refine lv_iconst (v := 1) hx hb dL_law_727 (by decide) ?_
  refine lv_iadd hx hb dL_law_728 ?_
  refine va_sld hx hb hX hbl hbA hf.2.2.1 h1 dL_law_729 ?_
  refine lv_aload_n hx hb dL_law_730 rfl (lv_at hl 3 rfl) ?_
  refine lv_iload_n hx hb dL_law_731 rfl (lv_at hl 0 rfl) ?_
  refine lv_iconst (v := 2) hx hb dL_law_732 (by decide) ?_
  refine lv_iadd hx hb dL_law_733 ?_
  refine va_sld hx hb hX hbl hbA hf.2.2.1 h2 dL_law_734 ?_
  refine g_cv (o := some (.int r)) (As := [.int (xs (x3 + 1).toNatClampNeg), .int (xs (x3 + 2).toNatClampNeg)]) (rest := [.int r]) (st1 := [.int r, .int r]) (ci := 4) (a := wX G adx X') (b := []) S hf (c_X4_kindFor l G adm μ (xs (x3 + 1).toNatClampNeg) (xs (x3 + 2).toNatClampNeg) (r, μ') e2) (cwV 2 hts gL_law_X4_kindFor rfl rfl rfl (by decide +kernel) ⟨(Nat.le_of_ble_eq_true rfl), (Nat.le_of_ble_eq_true rfl)⟩) (by rw [List.append_nil]) rfl rfl rfl 0 rfl rfl hl.1 rfl rfl (Nat.le_of_ble_eq_true rfl) hfit dL_law_735 (fun H locs hf => ?_)
  have hf : Fr G (fun q => s.heap.size ≤ q) s (wX G adx X' ++ wM G adm μ') H locs := by rw [List.append_nil] at hf; exact hf
  refine lv_icmp_eq (tgt := 1383) hx hb dL_law_738 (by decide) (fun _ => ?_) (fun c9 => absurd rfl c9)
  exact K X' μ' H locs hR' hf
set_option maxHeartbeats 4000000 in
set_option maxRecDepth 100000 in
theorem law_19 {p : Program} {l : Launch} {e : Env} {s : State} {m : MethodId} {below : List Frame} {meth : Method} {c : Code} {b L : Nat} {xs : Nat → Int32} {G : GT} {adx : Nat → Nat → Nat} {adm : Nat → Nat} {X : K3} {μ : K2} {H : Heap} {locs : List Loc} {cells slots : Nat} {Q : State → Prop} {ls : Array Slot} {x3 : Int32} (S : CallFix p m c cL_law 4 s #[Value.ref b] wsL_law RL) (hX : va_X b L xs s s.heap) (hbl : b < s.heap.size) (hfit : cells ≤ room_1.cells ∧ slots ≤ room_1.slots) (hf : Fr G (fun q => s.heap.size ≤ q) s (wX G adx X ++ wM G adm μ) H locs) (hR : R X μ) (hl : lv_has ls 4 [(3, .int x3), (2, .ref (adm 0)), (1, .ref (adx 8 0)), (0, .ref b)]) (h1 : vp_in (x3 + 1) L) (h2 : vp_in (x3 + 2) L) (h3 : vp_in (x3 + 3) L) (h4 : vp_in (x3 + 4) L) (h5 : vp_in (x3 + 5) L) (K : ∀ (X' : K3) (μ' : K2) (H : Heap) (locs : List Loc), R X' μ' → Fr G (fun q => s.heap.size ≤ q) s (wX G adx X' ++ wM G adm μ') H locs → W p l e room_1 s m #[Value.ref b] below meth c H locs cells slots Q (F0 m 1383 ls [])) : W p l e room_1 s m #[Value.ref b] below meth c H locs cells slots Q (F0 m 743 ls []) := by
  obtain ⟨hx, hb, hml, hown, hts⟩ := id S
  have hbA : ¬ (fun q : Nat => s.heap.size ≤ q) b := Nat.not_le.mpr hbl
  obtain ⟨r, X', μ', e1, e2, hR'⟩ := s_parentFor hR (xs (x3 + 1).toNatClampNeg) (xs (x3 + 2).toNatClampNeg)
  refine lv_aload_n hx hb dL_law_743 rfl (lv_at hl 2 rfl) ?_
  refine lv_aload_n hx hb dL_law_744 rfl (lv_at hl 3 rfl) ?_
  refine lv_iload_n hx hb dL_law_745 rfl (lv_at hl 0 rfl) ?_
  refine lv_iconst (v := 1) hx hb dL_law_746 (by decide) ?_
  refine lv_iadd hx hb dL_law_747 ?_
  refine va_sld hx hb hX hbl hbA hf.2.2.1 h1 dL_law_748 ?_
  refine lv_aload_n hx hb dL_law_749 rfl (lv_at hl 3 rfl) ?_
  refine lv_iload_n hx hb dL_law_750 rfl (lv_at hl 0 rfl) ?_
  refine lv_iconst (v := 2) hx hb dL_law_751 (by decide) ?_
  refine lv_iadd hx hb dL_law_752 ?_
  refine va_sld hx hb hX hbl hbA hf.2.2.1 h2 dL_law_753 ?_
  refine g_cv (o := some (.int r)) (As := [.int (xs (x3 + 1).toNatClampNeg), .int (xs (x3 + 2).toNatClampNeg)]) (rest := []) (st1 := [.int r]) (ci := 3) (a := []) (b := wM G adm μ) S hf (c_X3_parentFor l G adx X (xs (x3 + 1).toNatClampNeg) (xs (x3 + 2).toNatClampNeg) (r, X') e1) (cwV 2 hts gL_law_X3_parentFor rfl rfl rfl (by decide +kernel) ⟨(Nat.le_of_ble_eq_true rfl), (Nat.le_of_ble_eq_true rfl)⟩) rfl rfl rfl rfl 0 rfl rfl hl.1 rfl rfl (Nat.le_of_ble_eq_true rfl) hfit dL_law_754 (fun H locs hf => ?_)
  have hf : Fr G (fun q => s.heap.size ≤ q) s (wX G adx X' ++ wM G adm μ) H locs := hf
  refine lv_aload_n hx hb dL_law_757 rfl (lv_at hl 1 rfl) ?_
  refine lv_aload_n hx hb dL_law_758 rfl (lv_at hl 3 rfl) ?_
  refine lv_iload_n hx hb dL_law_759 rfl (lv_at hl 0 rfl) ?_
  refine lv_iconst (v := 1) hx hb dL_law_760 (by decide) ?_
  refine lv_iadd hx hb dL_law_761 ?_
  refine va_sld hx hb hX hbl hbA hf.2.2.1 h1 dL_law_762 ?_
  refine lv_aload_n hx hb dL_law_763 rfl (lv_at hl 3 rfl) ?_
  refine lv_iload_n hx hb dL_law_764 rfl (lv_at hl 0 rfl) ?_
  refine lv_iconst (v := 2) hx hb dL_law_765 (by decide) ?_
  refine lv_iadd hx hb dL_law_766 ?_
  refine va_sld hx hb hX hbl hbA hf.2.2.1 h2 dL_law_767 ?_
  refine g_cv (o := some (.int r)) (As := [.int (xs (x3 + 1).toNatClampNeg), .int (xs (x3 + 2).toNatClampNeg)]) (rest := [.int r]) (st1 := [.int r, .int r]) (ci := 4) (a := wX G adx X') (b := []) S hf (c_X4_parentFor l G adm μ (xs (x3 + 1).toNatClampNeg) (xs (x3 + 2).toNatClampNeg) (r, μ') e2) (cwV 2 hts gL_law_X4_parentFor rfl rfl rfl (by decide +kernel) ⟨(Nat.le_of_ble_eq_true rfl), (Nat.le_of_ble_eq_true rfl)⟩) (by rw [List.append_nil]) rfl rfl rfl 0 rfl rfl hl.1 rfl rfl (Nat.le_of_ble_eq_true rfl) hfit dL_law_768 (fun H locs hf => ?_)
  have hf : Fr G (fun q => s.heap.size ≤ q) s (wX G adx X' ++ wM G adm μ') H locs := by rw [List.append_nil] at hf; exact hf
  refine lv_icmp_eq (tgt := 1383) hx hb dL_law_771 (by decide) (fun _ => ?_) (fun c9 => absurd rfl c9)
  exact K X' μ' H locs hR' hf
set_option maxHeartbeats 4000000 in
set_option maxRecDepth 100000 in
theorem law_20 {p : Program} {l : Launch} {e : Env} {s : State} {m : MethodId} {below : List Frame} {meth : Method} {c : Code} {b L : Nat} {xs : Nat → Int32} {G : GT} {adx : Nat → Nat → Nat} {adm : Nat → Nat} {X : K3} {μ : K2} {H : Heap} {locs : List Loc} {cells slots : Nat} {Q : State → Prop} {ls : Array Slot} {x3 : Int32} (S : CallFix p m c cL_law 4 s #[Value.ref b] wsL_law RL) (hX : va_X b L xs s s.heap) (hbl : b < s.heap.size) (hfit : cells ≤ room_1.cells ∧ slots ≤ room_1.slots) (hf : Fr G (fun q => s.heap.size ≤ q) s (wX G adx X ++ wM G adm μ) H locs) (hR : R X μ) (hl : lv_has ls 4 [(3, .int x3), (2, .ref (adm 0)), (1, .ref (adx 8 0)), (0, .ref b)]) (h1 : vp_in (x3 + 1) L) (h2 : vp_in (x3 + 2) L) (h3 : vp_in (x3 + 3) L) (h4 : vp_in (x3 + 4) L) (h5 : vp_in (x3 + 5) L) (K : ∀ (X' : K3) (μ' : K2) (H : Heap) (locs : List Loc), R X' μ' → Fr G (fun q => s.heap.size ≤ q) s (wX G adx X' ++ wM G adm μ') H locs → W p l e room_1 s m #[Value.ref b] below meth c H locs cells slots Q (F0 m 1383 ls [])) : W p l e room_1 s m #[Value.ref b] below meth c H locs cells slots Q (F0 m 776 ls []) := by
  obtain ⟨hx, hb, hml, hown, hts⟩ := id S
  have hbA : ¬ (fun q : Nat => s.heap.size ≤ q) b := Nat.not_le.mpr hbl
  obtain ⟨r, X', μ', e1, e2, hR'⟩ := s_strike hR (xs (x3 + 1).toNatClampNeg)
  refine lv_aload_n hx hb dL_law_776 rfl (lv_at hl 2 rfl) ?_
  refine lv_aload_n hx hb dL_law_777 rfl (lv_at hl 3 rfl) ?_
  refine lv_iload_n hx hb dL_law_778 rfl (lv_at hl 0 rfl) ?_
  refine lv_iconst (v := 1) hx hb dL_law_779 (by decide) ?_
  refine lv_iadd hx hb dL_law_780 ?_
  refine va_sld hx hb hX hbl hbA hf.2.2.1 h1 dL_law_781 ?_
  refine g_cv (o := some (.int r)) (As := [.int (xs (x3 + 1).toNatClampNeg)]) (rest := []) (st1 := [.int r]) (ci := 3) (a := []) (b := wM G adm μ) S hf (c_X3_strike l G adx X (xs (x3 + 1).toNatClampNeg) (r, X') e1) (cwV 1 hts gL_law_X3_strike rfl rfl rfl (by decide +kernel) ⟨(Nat.le_of_ble_eq_true rfl), (Nat.le_of_ble_eq_true rfl)⟩) rfl rfl rfl rfl 0 rfl rfl hl.1 rfl rfl (Nat.le_of_ble_eq_true rfl) hfit dL_law_782 (fun H locs hf => ?_)
  have hf : Fr G (fun q => s.heap.size ≤ q) s (wX G adx X' ++ wM G adm μ) H locs := hf
  refine lv_aload_n hx hb dL_law_785 rfl (lv_at hl 1 rfl) ?_
  refine lv_aload_n hx hb dL_law_786 rfl (lv_at hl 3 rfl) ?_
  refine lv_iload_n hx hb dL_law_787 rfl (lv_at hl 0 rfl) ?_
  refine lv_iconst (v := 1) hx hb dL_law_788 (by decide) ?_
  refine lv_iadd hx hb dL_law_789 ?_
  refine va_sld hx hb hX hbl hbA hf.2.2.1 h1 dL_law_790 ?_
  refine g_cv (o := some (.int r)) (As := [.int (xs (x3 + 1).toNatClampNeg)]) (rest := [.int r]) (st1 := [.int r, .int r]) (ci := 4) (a := wX G adx X') (b := []) S hf (c_X4_strike l G adm μ (xs (x3 + 1).toNatClampNeg) (r, μ') e2) (cwV 1 hts gL_law_X4_strike rfl rfl rfl (by decide +kernel) ⟨(Nat.le_of_ble_eq_true rfl), (Nat.le_of_ble_eq_true rfl)⟩) (by rw [List.append_nil]) rfl rfl rfl 0 rfl rfl hl.1 rfl rfl (Nat.le_of_ble_eq_true rfl) hfit dL_law_791 (fun H locs hf => ?_)
  have hf : Fr G (fun q => s.heap.size ≤ q) s (wX G adx X' ++ wM G adm μ') H locs := by rw [List.append_nil] at hf; exact hf
  refine lv_icmp_eq (tgt := 1383) hx hb dL_law_794 (by decide) (fun _ => ?_) (fun c9 => absurd rfl c9)
  exact K X' μ' H locs hR' hf
