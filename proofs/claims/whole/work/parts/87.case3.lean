set_option maxHeartbeats 4000000 in
set_option maxRecDepth 100000 in
theorem law_21 {p : Program} {l : Launch} {e : Env} {s : State} {m : MethodId} {below : List Frame} {meth : Method} {c : Code} {b L : Nat} {xs : Nat → Int32} {G : GT} {adx : Nat → Nat → Nat} {adm : Nat → Nat} {X : K3} {μ : K2} {H : Heap} {locs : List Loc} {cells slots : Nat} {Q : State → Prop} {ls : Array Slot} {x3 : Int32} (S : CallFix p m c cL_law 4 s #[Value.ref b] wsL_law RL) (hX : va_X b L xs s s.heap) (hbl : b < s.heap.size) (hfit : cells ≤ room_1.cells ∧ slots ≤ room_1.slots) (hf : Fr G (fun q => s.heap.size ≤ q) s (wX G adx X ++ wM G adm μ) H locs) (hR : R X μ) (hl : lv_has ls 4 [(3, .int x3), (2, .ref (adm 0)), (1, .ref (adx 8 0)), (0, .ref b)]) (h1 : vp_in (x3 + 1) L) (h2 : vp_in (x3 + 2) L) (h3 : vp_in (x3 + 3) L) (h4 : vp_in (x3 + 4) L) (h5 : vp_in (x3 + 5) L) (K : ∀ (X' : K3) (μ' : K2) (H : Heap) (locs : List Loc), R X' μ' → Fr G (fun q => s.heap.size ≤ q) s (wX G adx X' ++ wM G adm μ') H locs → W p l e room_1 s m #[Value.ref b] below meth c H locs cells slots Q (F0 m 1383 ls [])) : W p l e room_1 s m #[Value.ref b] below meth c H locs cells slots Q (F0 m 799 ls []) := by
  obtain ⟨hx, hb, hml, hown, hts⟩ := id S
  have hbA : ¬ (fun q : Nat => s.heap.size ≤ q) b := Nat.not_le.mpr hbl
  obtain ⟨r, X', μ', e1, e2, hR'⟩ := s_deny hR (xs (x3 + 1).toNatClampNeg)
  refine lv_aload_n hx hb dL_law_799 rfl (lv_at hl 2 rfl) ?_
  refine lv_aload_n hx hb dL_law_800 rfl (lv_at hl 3 rfl) ?_
  refine lv_iload_n hx hb dL_law_801 rfl (lv_at hl 0 rfl) ?_
  refine lv_iconst (v := 1) hx hb dL_law_802 (by decide) ?_
  refine lv_iadd hx hb dL_law_803 ?_
  refine va_sld hx hb hX hbl hbA hf.2.2.1 h1 dL_law_804 ?_
  refine g_cv (o := some (.int r)) (As := [.int (xs (x3 + 1).toNatClampNeg)]) (rest := []) (st1 := [.int r]) (ci := 3) (a := []) (b := wM G adm μ) S hf (c_X3_deny l G adx X (xs (x3 + 1).toNatClampNeg) (r, X') e1) (cwV 1 hts gL_law_X3_deny rfl rfl rfl (by decide +kernel) ⟨(Nat.le_of_ble_eq_true rfl), (Nat.le_of_ble_eq_true rfl)⟩) rfl rfl rfl rfl 0 rfl rfl hl.1 rfl rfl (Nat.le_of_ble_eq_true rfl) hfit dL_law_805 (fun H locs hf => ?_)
  have hf : Fr G (fun q => s.heap.size ≤ q) s (wX G adx X' ++ wM G adm μ) H locs := hf
  refine lv_aload_n hx hb dL_law_808 rfl (lv_at hl 1 rfl) ?_
  refine lv_aload_n hx hb dL_law_809 rfl (lv_at hl 3 rfl) ?_
  refine lv_iload_n hx hb dL_law_810 rfl (lv_at hl 0 rfl) ?_
  refine lv_iconst (v := 1) hx hb dL_law_811 (by decide) ?_
  refine lv_iadd hx hb dL_law_812 ?_
  refine va_sld hx hb hX hbl hbA hf.2.2.1 h1 dL_law_813 ?_
  refine g_cv (o := some (.int r)) (As := [.int (xs (x3 + 1).toNatClampNeg)]) (rest := [.int r]) (st1 := [.int r, .int r]) (ci := 4) (a := wX G adx X') (b := []) S hf (c_X4_deny l G adm μ (xs (x3 + 1).toNatClampNeg) (r, μ') e2) (cwV 1 hts gL_law_X4_deny rfl rfl rfl (by decide +kernel) ⟨(Nat.le_of_ble_eq_true rfl), (Nat.le_of_ble_eq_true rfl)⟩) (by rw [List.append_nil]) rfl rfl rfl 0 rfl rfl hl.1 rfl rfl (Nat.le_of_ble_eq_true rfl) hfit dL_law_814 (fun H locs hf => ?_)
  have hf : Fr G (fun q => s.heap.size ≤ q) s (wX G adx X' ++ wM G adm μ') H locs := by rw [List.append_nil] at hf; exact hf
  refine lv_icmp_eq (tgt := 1383) hx hb dL_law_817 (by decide) (fun _ => ?_) (fun c9 => absurd rfl c9)
  exact K X' μ' H locs hR' hf
set_option maxHeartbeats 4000000 in
set_option maxRecDepth 100000 in
theorem law_22 {p : Program} {l : Launch} {e : Env} {s : State} {m : MethodId} {below : List Frame} {meth : Method} {c : Code} {b L : Nat} {xs : Nat → Int32} {G : GT} {adx : Nat → Nat → Nat} {adm : Nat → Nat} {X : K3} {μ : K2} {H : Heap} {locs : List Loc} {cells slots : Nat} {Q : State → Prop} {ls : Array Slot} {x3 : Int32} (S : CallFix p m c cL_law 4 s #[Value.ref b] wsL_law RL) (hX : va_X b L xs s s.heap) (hbl : b < s.heap.size) (hfit : cells ≤ room_1.cells ∧ slots ≤ room_1.slots) (hf : Fr G (fun q => s.heap.size ≤ q) s (wX G adx X ++ wM G adm μ) H locs) (hR : R X μ) (hl : lv_has ls 4 [(3, .int x3), (2, .ref (adm 0)), (1, .ref (adx 8 0)), (0, .ref b)]) (h1 : vp_in (x3 + 1) L) (h2 : vp_in (x3 + 2) L) (h3 : vp_in (x3 + 3) L) (h4 : vp_in (x3 + 4) L) (h5 : vp_in (x3 + 5) L) (K : ∀ (X' : K3) (μ' : K2) (H : Heap) (locs : List Loc), R X' μ' → Fr G (fun q => s.heap.size ≤ q) s (wX G adx X' ++ wM G adm μ') H locs → W p l e room_1 s m #[Value.ref b] below meth c H locs cells slots Q (F0 m 1383 ls [])) : W p l e room_1 s m #[Value.ref b] below meth c H locs cells slots Q (F0 m 822 ls []) := by
  obtain ⟨hx, hb, hml, hown, hts⟩ := id S
  have hbA : ¬ (fun q : Nat => s.heap.size ≤ q) b := Nat.not_le.mpr hbl
  obtain ⟨r, X', μ', e1, e2, hR'⟩ := s_fits hR (xs (x3 + 1).toNatClampNeg) (xs (x3 + 2).toNatClampNeg)
  refine lv_aload_n hx hb dL_law_822 rfl (lv_at hl 2 rfl) ?_
  refine lv_aload_n hx hb dL_law_823 rfl (lv_at hl 3 rfl) ?_
  refine lv_iload_n hx hb dL_law_824 rfl (lv_at hl 0 rfl) ?_
  refine lv_iconst (v := 1) hx hb dL_law_825 (by decide) ?_
  refine lv_iadd hx hb dL_law_826 ?_
  refine va_sld hx hb hX hbl hbA hf.2.2.1 h1 dL_law_827 ?_
  refine lv_aload_n hx hb dL_law_828 rfl (lv_at hl 3 rfl) ?_
  refine lv_iload_n hx hb dL_law_829 rfl (lv_at hl 0 rfl) ?_
  refine lv_iconst (v := 2) hx hb dL_law_830 (by decide) ?_
  refine lv_iadd hx hb dL_law_831 ?_
  refine va_sld hx hb hX hbl hbA hf.2.2.1 h2 dL_law_832 ?_
  refine g_cv (o := some (.int r)) (As := [.int (xs (x3 + 1).toNatClampNeg), .int (xs (x3 + 2).toNatClampNeg)]) (rest := []) (st1 := [.int r]) (ci := 3) (a := []) (b := wM G adm μ) S hf (c_X3_fits l G adx X (xs (x3 + 1).toNatClampNeg) (xs (x3 + 2).toNatClampNeg) (r, X') e1) (cwV 2 hts gL_law_X3_fits rfl rfl rfl (by decide +kernel) ⟨(Nat.le_of_ble_eq_true rfl), (Nat.le_of_ble_eq_true rfl)⟩) rfl rfl rfl rfl 0 rfl rfl hl.1 rfl rfl (Nat.le_of_ble_eq_true rfl) hfit dL_law_833 (fun H locs hf => ?_)
  have hf : Fr G (fun q => s.heap.size ≤ q) s (wX G adx X' ++ wM G adm μ) H locs := hf
  refine lv_aload_n hx hb dL_law_836 rfl (lv_at hl 1 rfl) ?_
  refine lv_aload_n hx hb dL_law_837 rfl (lv_at hl 3 rfl) ?_
  refine lv_iload_n hx hb dL_law_838 rfl (lv_at hl 0 rfl) ?_
  refine lv_iconst (v := 1) hx hb dL_law_839 (by decide) ?_
  refine lv_iadd hx hb dL_law_840 ?_
  refine va_sld hx hb hX hbl hbA hf.2.2.1 h1 dL_law_841 ?_
  refine lv_aload_n hx hb dL_law_842 rfl (lv_at hl 3 rfl) ?_
  refine lv_iload_n hx hb dL_law_843 rfl (lv_at hl 0 rfl) ?_
  refine lv_iconst (v := 2) hx hb dL_law_844 (by decide) ?_
  refine lv_iadd hx hb dL_law_845 ?_
  refine va_sld hx hb hX hbl hbA hf.2.2.1 h2 dL_law_846 ?_
  refine g_cv (o := some (.int r)) (As := [.int (xs (x3 + 1).toNatClampNeg), .int (xs (x3 + 2).toNatClampNeg)]) (rest := [.int r]) (st1 := [.int r, .int r]) (ci := 4) (a := wX G adx X') (b := []) S hf (c_X4_fits l G adm μ (xs (x3 + 1).toNatClampNeg) (xs (x3 + 2).toNatClampNeg) (r, μ') e2) (cwV 2 hts gL_law_X4_fits rfl rfl rfl (by decide +kernel) ⟨(Nat.le_of_ble_eq_true rfl), (Nat.le_of_ble_eq_true rfl)⟩) (by rw [List.append_nil]) rfl rfl rfl 0 rfl rfl hl.1 rfl rfl (Nat.le_of_ble_eq_true rfl) hfit dL_law_847 (fun H locs hf => ?_)
  have hf : Fr G (fun q => s.heap.size ≤ q) s (wX G adx X' ++ wM G adm μ') H locs := by rw [List.append_nil] at hf; exact hf
  refine lv_icmp_eq (tgt := 1383) hx hb dL_law_850 (by decide) (fun _ => ?_) (fun c9 => absurd rfl c9)
  exact K X' μ' H locs hR' hf
set_option maxHeartbeats 4000000 in
set_option maxRecDepth 100000 in
theorem law_23 {p : Program} {l : Launch} {e : Env} {s : State} {m : MethodId} {below : List Frame} {meth : Method} {c : Code} {b L : Nat} {xs : Nat → Int32} {G : GT} {adx : Nat → Nat → Nat} {adm : Nat → Nat} {X : K3} {μ : K2} {H : Heap} {locs : List Loc} {cells slots : Nat} {Q : State → Prop} {ls : Array Slot} {x3 : Int32} (S : CallFix p m c cL_law 4 s #[Value.ref b] wsL_law RL) (hX : va_X b L xs s s.heap) (hbl : b < s.heap.size) (hfit : cells ≤ room_1.cells ∧ slots ≤ room_1.slots) (hf : Fr G (fun q => s.heap.size ≤ q) s (wX G adx X ++ wM G adm μ) H locs) (hR : R X μ) (hl : lv_has ls 4 [(3, .int x3), (2, .ref (adm 0)), (1, .ref (adx 8 0)), (0, .ref b)]) (h1 : vp_in (x3 + 1) L) (h2 : vp_in (x3 + 2) L) (h3 : vp_in (x3 + 3) L) (h4 : vp_in (x3 + 4) L) (h5 : vp_in (x3 + 5) L) (K : ∀ (X' : K3) (μ' : K2) (H : Heap) (locs : List Loc), R X' μ' → Fr G (fun q => s.heap.size ≤ q) s (wX G adx X' ++ wM G adm μ') H locs → W p l e room_1 s m #[Value.ref b] below meth c H locs cells slots Q (F0 m 1383 ls [])) : W p l e room_1 s m #[Value.ref b] below meth c H locs cells slots Q (F0 m 855 ls []) := by
  obtain ⟨hx, hb, hml, hown, hts⟩ := id S
  have hbA : ¬ (fun q : Nat => s.heap.size ≤ q) b := Nat.not_le.mpr hbl
  obtain ⟨r, X', μ', e1, e2, hR'⟩ := s_kinds hR (xs (x3 + 1).toNatClampNeg) (xs (x3 + 2).toNatClampNeg)
  refine lv_aload_n hx hb dL_law_855 rfl (lv_at hl 2 rfl) ?_
  refine lv_aload_n hx hb dL_law_856 rfl (lv_at hl 3 rfl) ?_
  refine lv_iload_n hx hb dL_law_857 rfl (lv_at hl 0 rfl) ?_
  refine lv_iconst (v := 1) hx hb dL_law_858 (by decide) ?_
  refine lv_iadd hx hb dL_law_859 ?_
  refine va_sld hx hb hX hbl hbA hf.2.2.1 h1 dL_law_860 ?_
  refine lv_aload_n hx hb dL_law_861 rfl (lv_at hl 3 rfl) ?_
  refine lv_iload_n hx hb dL_law_862 rfl (lv_at hl 0 rfl) ?_
  refine lv_iconst (v := 2) hx hb dL_law_863 (by decide) ?_
  refine lv_iadd hx hb dL_law_864 ?_
  refine va_sld hx hb hX hbl hbA hf.2.2.1 h2 dL_law_865 ?_
  refine g_cv (o := some (.int r)) (As := [.int (xs (x3 + 1).toNatClampNeg), .int (xs (x3 + 2).toNatClampNeg)]) (rest := []) (st1 := [.int r]) (ci := 3) (a := []) (b := wM G adm μ) S hf (c_X3_kinds l G adx X (xs (x3 + 1).toNatClampNeg) (xs (x3 + 2).toNatClampNeg) (r, X') e1) (cwV 2 hts gL_law_X3_kinds rfl rfl rfl (by decide +kernel) ⟨(Nat.le_of_ble_eq_true rfl), (Nat.le_of_ble_eq_true rfl)⟩) rfl rfl rfl rfl 0 rfl rfl hl.1 rfl rfl (Nat.le_of_ble_eq_true rfl) hfit dL_law_866 (fun H locs hf => ?_)
  have hf : Fr G (fun q => s.heap.size ≤ q) s (wX G adx X' ++ wM G adm μ) H locs := hf
  refine lv_aload_n hx hb dL_law_869 rfl (lv_at hl 1 rfl) ?_
  refine lv_aload_n hx hb dL_law_870 rfl (lv_at hl 3 rfl) ?_
  refine lv_iload_n hx hb dL_law_871 rfl (lv_at hl 0 rfl) ?_
  refine lv_iconst (v := 1) hx hb dL_law_872 (by decide) ?_
  refine lv_iadd hx hb dL_law_873 ?_
  refine va_sld hx hb hX hbl hbA hf.2.2.1 h1 dL_law_874 ?_
  refine lv_aload_n hx hb dL_law_875 rfl (lv_at hl 3 rfl) ?_
  refine lv_iload_n hx hb dL_law_876 rfl (lv_at hl 0 rfl) ?_
  refine lv_iconst (v := 2) hx hb dL_law_877 (by decide) ?_
  refine lv_iadd hx hb dL_law_878 ?_
  refine va_sld hx hb hX hbl hbA hf.2.2.1 h2 dL_law_879 ?_
  refine g_cv (o := some (.int r)) (As := [.int (xs (x3 + 1).toNatClampNeg), .int (xs (x3 + 2).toNatClampNeg)]) (rest := [.int r]) (st1 := [.int r, .int r]) (ci := 4) (a := wX G adx X') (b := []) S hf (c_X4_kinds l G adm μ (xs (x3 + 1).toNatClampNeg) (xs (x3 + 2).toNatClampNeg) (r, μ') e2) (cwV 2 hts gL_law_X4_kinds rfl rfl rfl (by decide +kernel) ⟨(Nat.le_of_ble_eq_true rfl), (Nat.le_of_ble_eq_true rfl)⟩) (by rw [List.append_nil]) rfl rfl rfl 0 rfl rfl hl.1 rfl rfl (Nat.le_of_ble_eq_true rfl) hfit dL_law_880 (fun H locs hf => ?_)
  have hf : Fr G (fun q => s.heap.size ≤ q) s (wX G adx X' ++ wM G adm μ') H locs := by rw [List.append_nil] at hf; exact hf
  refine lv_icmp_eq (tgt := 1383) hx hb dL_law_883 (by decide) (fun _ => ?_) (fun c9 => absurd rfl c9)
  exact K X' μ' H locs hR' hf
set_option maxHeartbeats 4000000 in
set_option maxRecDepth 100000 in
theorem law_24 {p : Program} {l : Launch} {e : Env} {s : State} {m : MethodId} {below : List Frame} {meth : Method} {c : Code} {b L : Nat} {xs : Nat → Int32} {G : GT} {adx : Nat → Nat → Nat} {adm : Nat → Nat} {X : K3} {μ : K2} {H : Heap} {locs : List Loc} {cells slots : Nat} {Q : State → Prop} {ls : Array Slot} {x3 : Int32} (S : CallFix p m c cL_law 4 s #[Value.ref b] wsL_law RL) (hX : va_X b L xs s s.heap) (hbl : b < s.heap.size) (hfit : cells ≤ room_1.cells ∧ slots ≤ room_1.slots) (hf : Fr G (fun q => s.heap.size ≤ q) s (wX G adx X ++ wM G adm μ) H locs) (hR : R X μ) (hl : lv_has ls 4 [(3, .int x3), (2, .ref (adm 0)), (1, .ref (adx 8 0)), (0, .ref b)]) (h1 : vp_in (x3 + 1) L) (h2 : vp_in (x3 + 2) L) (h3 : vp_in (x3 + 3) L) (h4 : vp_in (x3 + 4) L) (h5 : vp_in (x3 + 5) L) (K : ∀ (X' : K3) (μ' : K2) (H : Heap) (locs : List Loc), R X' μ' → Fr G (fun q => s.heap.size ≤ q) s (wX G adx X' ++ wM G adm μ') H locs → W p l e room_1 s m #[Value.ref b] below meth c H locs cells slots Q (F0 m 1383 ls [])) : W p l e room_1 s m #[Value.ref b] below meth c H locs cells slots Q (F0 m 888 ls []) := by
  obtain ⟨hx, hb, hml, hown, hts⟩ := id S
  have hbA : ¬ (fun q : Nat => s.heap.size ≤ q) b := Nat.not_le.mpr hbl
  obtain ⟨r, X', μ', e1, e2, hR'⟩ := s_hatchings hR (xs (x3 + 1).toNatClampNeg)
  refine lv_aload_n hx hb dL_law_888 rfl (lv_at hl 2 rfl) ?_
  refine lv_aload_n hx hb dL_law_889 rfl (lv_at hl 3 rfl) ?_
  refine lv_iload_n hx hb dL_law_890 rfl (lv_at hl 0 rfl) ?_
  refine lv_iconst (v := 1) hx hb dL_law_891 (by decide) ?_
  refine lv_iadd hx hb dL_law_892 ?_
  refine va_sld hx hb hX hbl hbA hf.2.2.1 h1 dL_law_893 ?_
  refine g_cv (o := some (.int r)) (As := [.int (xs (x3 + 1).toNatClampNeg)]) (rest := []) (st1 := [.int r]) (ci := 3) (a := []) (b := wM G adm μ) S hf (c_X3_hatchings l G adx X (xs (x3 + 1).toNatClampNeg) (r, X') e1) (cwV 1 hts gL_law_X3_hatchings rfl rfl rfl (by decide +kernel) ⟨(Nat.le_of_ble_eq_true rfl), (Nat.le_of_ble_eq_true rfl)⟩) rfl rfl rfl rfl 0 rfl rfl hl.1 rfl rfl (Nat.le_of_ble_eq_true rfl) hfit dL_law_894 (fun H locs hf => ?_)
  have hf : Fr G (fun q => s.heap.size ≤ q) s (wX G adx X' ++ wM G adm μ) H locs := hf
  refine lv_aload_n hx hb dL_law_897 rfl (lv_at hl 1 rfl) ?_
  refine lv_aload_n hx hb dL_law_898 rfl (lv_at hl 3 rfl) ?_
  refine lv_iload_n hx hb dL_law_899 rfl (lv_at hl 0 rfl) ?_
  refine lv_iconst (v := 1) hx hb dL_law_900 (by decide) ?_
  refine lv_iadd hx hb dL_law_901 ?_
  refine va_sld hx hb hX hbl hbA hf.2.2.1 h1 dL_law_902 ?_
  refine g_cv (o := some (.int r)) (As := [.int (xs (x3 + 1).toNatClampNeg)]) (rest := [.int r]) (st1 := [.int r, .int r]) (ci := 4) (a := wX G adx X') (b := []) S hf (c_X4_hatchings l G adm μ (xs (x3 + 1).toNatClampNeg) (r, μ') e2) (cwV 1 hts gL_law_X4_hatchings rfl rfl rfl (by decide +kernel) ⟨(Nat.le_of_ble_eq_true rfl), (Nat.le_of_ble_eq_true rfl)⟩) (by rw [List.append_nil]) rfl rfl rfl 0 rfl rfl hl.1 rfl rfl (Nat.le_of_ble_eq_true rfl) hfit dL_law_903 (fun H locs hf => ?_)
  have hf : Fr G (fun q => s.heap.size ≤ q) s (wX G adx X' ++ wM G adm μ') H locs := by rw [List.append_nil] at hf; exact hf
  refine lv_icmp_eq (tgt := 1383) hx hb dL_law_906 (by decide) (fun _ => ?_) (fun c9 => absurd rfl c9)
  exact K X' μ' H locs hR' hf
set_option maxHeartbeats 4000000 in
set_option maxRecDepth 100000 in
theorem law_25 {p : Program} {l : Launch} {e : Env} {s : State} {m : MethodId} {below : List Frame} {meth : Method} {c : Code} {b L : Nat} {xs : Nat → Int32} {G : GT} {adx : Nat → Nat → Nat} {adm : Nat → Nat} {X : K3} {μ : K2} {H : Heap} {locs : List Loc} {cells slots : Nat} {Q : State → Prop} {ls : Array Slot} {x3 : Int32} (S : CallFix p m c cL_law 4 s #[Value.ref b] wsL_law RL) (hX : va_X b L xs s s.heap) (hbl : b < s.heap.size) (hfit : cells ≤ room_1.cells ∧ slots ≤ room_1.slots) (hf : Fr G (fun q => s.heap.size ≤ q) s (wX G adx X ++ wM G adm μ) H locs) (hR : R X μ) (hl : lv_has ls 4 [(3, .int x3), (2, .ref (adm 0)), (1, .ref (adx 8 0)), (0, .ref b)]) (h1 : vp_in (x3 + 1) L) (h2 : vp_in (x3 + 2) L) (h3 : vp_in (x3 + 3) L) (h4 : vp_in (x3 + 4) L) (h5 : vp_in (x3 + 5) L) (K : ∀ (X' : K3) (μ' : K2) (H : Heap) (locs : List Loc), R X' μ' → Fr G (fun q => s.heap.size ≤ q) s (wX G adx X' ++ wM G adm μ') H locs → W p l e room_1 s m #[Value.ref b] below meth c H locs cells slots Q (F0 m 1383 ls [])) : W p l e room_1 s m #[Value.ref b] below meth c H locs cells slots Q (F0 m 911 ls []) := by
  obtain ⟨hx, hb, hml, hown, hts⟩ := id S
  have hbA : ¬ (fun q : Nat => s.heap.size ≤ q) b := Nat.not_le.mpr hbl
  obtain ⟨r, X', μ', e1, e2, hR'⟩ := s_odds hR (xs (x3 + 1).toNatClampNeg) (xs (x3 + 2).toNatClampNeg) (xs (x3 + 3).toNatClampNeg)
  refine lv_aload_n hx hb dL_law_911 rfl (lv_at hl 2 rfl) ?_
  refine lv_aload_n hx hb dL_law_912 rfl (lv_at hl 3 rfl) ?_
  refine lv_iload_n hx hb dL_law_913 rfl (lv_at hl 0 rfl) ?_
  refine lv_iconst (v := 1) hx hb dL_law_914 (by decide) ?_
  refine lv_iadd hx hb dL_law_915 ?_
  refine va_sld hx hb hX hbl hbA hf.2.2.1 h1 dL_law_916 ?_
  refine lv_aload_n hx hb dL_law_917 rfl (lv_at hl 3 rfl) ?_
  refine lv_iload_n hx hb dL_law_918 rfl (lv_at hl 0 rfl) ?_
  refine lv_iconst (v := 2) hx hb dL_law_919 (by decide) ?_
  refine lv_iadd hx hb dL_law_920 ?_
  refine va_sld hx hb hX hbl hbA hf.2.2.1 h2 dL_law_921 ?_
  refine lv_aload_n hx hb dL_law_922 rfl (lv_at hl 3 rfl) ?_
  refine lv_iload_n hx hb dL_law_923 rfl (lv_at hl 0 rfl) ?_
  refine lv_iconst (v := 3) hx hb dL_law_924 (by decide) ?_
  refine lv_iadd hx hb dL_law_925 ?_
  refine va_sld hx hb hX hbl hbA hf.2.2.1 h3 dL_law_926 ?_
  refine g_cv (o := some (.long r)) (As := [.int (xs (x3 + 1).toNatClampNeg), .int (xs (x3 + 2).toNatClampNeg), .int (xs (x3 + 3).toNatClampNeg)]) (rest := []) (st1 := [.long r]) (ci := 3) (a := []) (b := wM G adm μ) S hf (c_X3_odds l G adx X (xs (x3 + 1).toNatClampNeg) (xs (x3 + 2).toNatClampNeg) (xs (x3 + 3).toNatClampNeg) (r, X') e1) (cwV 3 hts gL_law_X3_odds rfl rfl rfl (by decide +kernel) ⟨(Nat.le_of_ble_eq_true rfl), (Nat.le_of_ble_eq_true rfl)⟩) rfl rfl rfl rfl 0 rfl rfl hl.1 rfl rfl (Nat.le_of_ble_eq_true rfl) hfit dL_law_927 (fun H locs hf => ?_)
  have hf : Fr G (fun q => s.heap.size ≤ q) s (wX G adx X' ++ wM G adm μ) H locs := hf
  refine lv_aload_n hx hb dL_law_930 rfl (lv_at hl 1 rfl) ?_
  refine lv_aload_n hx hb dL_law_931 rfl (lv_at hl 3 rfl) ?_
  refine lv_iload_n hx hb dL_law_932 rfl (lv_at hl 0 rfl) ?_
  refine lv_iconst (v := 1) hx hb dL_law_933 (by decide) ?_
  refine lv_iadd hx hb dL_law_934 ?_
  refine va_sld hx hb hX hbl hbA hf.2.2.1 h1 dL_law_935 ?_
  refine lv_aload_n hx hb dL_law_936 rfl (lv_at hl 3 rfl) ?_
  refine lv_iload_n hx hb dL_law_937 rfl (lv_at hl 0 rfl) ?_
  refine lv_iconst (v := 2) hx hb dL_law_938 (by decide) ?_
  refine lv_iadd hx hb dL_law_939 ?_
  refine va_sld hx hb hX hbl hbA hf.2.2.1 h2 dL_law_940 ?_
  refine lv_aload_n hx hb dL_law_941 rfl (lv_at hl 3 rfl) ?_
  refine lv_iload_n hx hb dL_law_942 rfl (lv_at hl 0 rfl) ?_
  refine lv_iconst (v := 3) hx hb dL_law_943 (by decide) ?_
  refine lv_iadd hx hb dL_law_944 ?_
  refine va_sld hx hb hX hbl hbA hf.2.2.1 h3 dL_law_945 ?_
  refine g_cv (o := some (.long r)) (As := [.int (xs (x3 + 1).toNatClampNeg), .int (xs (x3 + 2).toNatClampNeg), .int (xs (x3 + 3).toNatClampNeg)]) (rest := [.long r]) (st1 := [.long r, .long r]) (ci := 4) (a := wX G adx X') (b := []) S hf (c_X4_odds l G adm μ (xs (x3 + 1).toNatClampNeg) (xs (x3 + 2).toNatClampNeg) (xs (x3 + 3).toNatClampNeg) (r, μ') e2) (cwV 3 hts gL_law_X4_odds rfl rfl rfl (by decide +kernel) ⟨(Nat.le_of_ble_eq_true rfl), (Nat.le_of_ble_eq_true rfl)⟩) (by rw [List.append_nil]) rfl rfl rfl 0 rfl rfl hl.1 rfl rfl (Nat.le_of_ble_eq_true rfl) hfit dL_law_946 (fun H locs hf => ?_)
  have hf : Fr G (fun q => s.heap.size ≤ q) s (wX G adx X' ++ wM G adm μ') H locs := by rw [List.append_nil] at hf; exact hf
  refine W.lcmp hx hb dL_law_949 ?_
  refine lv_if_eq (tgt := 1383) hx hb dL_law_950 (by decide) (fun _ => ?_) (fun c9 => absurd (cmp_self r) c9)
  exact K X' μ' H locs hR' hf
set_option maxHeartbeats 4000000 in
set_option maxRecDepth 100000 in
theorem law_26 {p : Program} {l : Launch} {e : Env} {s : State} {m : MethodId} {below : List Frame} {meth : Method} {c : Code} {b L : Nat} {xs : Nat → Int32} {G : GT} {adx : Nat → Nat → Nat} {adm : Nat → Nat} {X : K3} {μ : K2} {H : Heap} {locs : List Loc} {cells slots : Nat} {Q : State → Prop} {ls : Array Slot} {x3 : Int32} (S : CallFix p m c cL_law 4 s #[Value.ref b] wsL_law RL) (hX : va_X b L xs s s.heap) (hbl : b < s.heap.size) (hfit : cells ≤ room_1.cells ∧ slots ≤ room_1.slots) (hf : Fr G (fun q => s.heap.size ≤ q) s (wX G adx X ++ wM G adm μ) H locs) (hR : R X μ) (hl : lv_has ls 4 [(3, .int x3), (2, .ref (adm 0)), (1, .ref (adx 8 0)), (0, .ref b)]) (h1 : vp_in (x3 + 1) L) (h2 : vp_in (x3 + 2) L) (h3 : vp_in (x3 + 3) L) (h4 : vp_in (x3 + 4) L) (h5 : vp_in (x3 + 5) L) (K : ∀ (X' : K3) (μ' : K2) (H : Heap) (locs : List Loc), R X' μ' → Fr G (fun q => s.heap.size ≤ q) s (wX G adx X' ++ wM G adm μ') H locs → W p l e room_1 s m #[Value.ref b] below meth c H locs cells slots Q (F0 m 1383 ls [])) : W p l e room_1 s m #[Value.ref b] below meth c H locs cells slots Q (F0 m 955 ls []) := by
  obtain ⟨hx, hb, hml, hown, hts⟩ := id S
  have hbA : ¬ (fun q : Nat => s.heap.size ≤ q) b := Nat.not_le.mpr hbl
  obtain ⟨r, X', μ', e1, e2, hR'⟩ := s_seed hR (xs (x3 + 1).toNatClampNeg)
  refine lv_aload_n hx hb dL_law_955 rfl (lv_at hl 2 rfl) ?_
  refine lv_aload_n hx hb dL_law_956 rfl (lv_at hl 3 rfl) ?_
  refine lv_iload_n hx hb dL_law_957 rfl (lv_at hl 0 rfl) ?_
  refine lv_iconst (v := 1) hx hb dL_law_958 (by decide) ?_
  refine lv_iadd hx hb dL_law_959 ?_
  refine va_sld hx hb hX hbl hbA hf.2.2.1 h1 dL_law_960 ?_
  refine g_cv (o := some (.int r)) (As := [.int (xs (x3 + 1).toNatClampNeg)]) (rest := []) (st1 := [.int r]) (ci := 3) (a := []) (b := wM G adm μ) S hf (c_X3_seed l G adx X (xs (x3 + 1).toNatClampNeg) (r, X') e1) (cwV 1 hts gL_law_X3_seed rfl rfl rfl (by decide +kernel) ⟨(Nat.le_of_ble_eq_true rfl), (Nat.le_of_ble_eq_true rfl)⟩) rfl rfl rfl rfl 0 rfl rfl hl.1 rfl rfl (Nat.le_of_ble_eq_true rfl) hfit dL_law_961 (fun H locs hf => ?_)
  have hf : Fr G (fun q => s.heap.size ≤ q) s (wX G adx X' ++ wM G adm μ) H locs := hf
  refine lv_aload_n hx hb dL_law_964 rfl (lv_at hl 1 rfl) ?_
  refine lv_aload_n hx hb dL_law_965 rfl (lv_at hl 3 rfl) ?_
  refine lv_iload_n hx hb dL_law_966 rfl (lv_at hl 0 rfl) ?_
  refine lv_iconst (v := 1) hx hb dL_law_967 (by decide) ?_
  refine lv_iadd hx hb dL_law_968 ?_
  refine va_sld hx hb hX hbl hbA hf.2.2.1 h1 dL_law_969 ?_
  refine g_cv (o := some (.int r)) (As := [.int (xs (x3 + 1).toNatClampNeg)]) (rest := [.int r]) (st1 := [.int r, .int r]) (ci := 4) (a := wX G adx X') (b := []) S hf (c_X4_seed l G adm μ (xs (x3 + 1).toNatClampNeg) (r, μ') e2) (cwV 1 hts gL_law_X4_seed rfl rfl rfl (by decide +kernel) ⟨(Nat.le_of_ble_eq_true rfl), (Nat.le_of_ble_eq_true rfl)⟩) (by rw [List.append_nil]) rfl rfl rfl 0 rfl rfl hl.1 rfl rfl (Nat.le_of_ble_eq_true rfl) hfit dL_law_970 (fun H locs hf => ?_)
  have hf : Fr G (fun q => s.heap.size ≤ q) s (wX G adx X' ++ wM G adm μ') H locs := by rw [List.append_nil] at hf; exact hf
  refine lv_icmp_eq (tgt := 1383) hx hb dL_law_973 (by decide) (fun _ => ?_) (fun c9 => absurd rfl c9)
  exact K X' μ' H locs hR' hf
set_option maxHeartbeats 4000000 in
set_option maxRecDepth 100000 in
theorem law_27 {p : Program} {l : Launch} {e : Env} {s : State} {m : MethodId} {below : List Frame} {meth : Method} {c : Code} {b L : Nat} {xs : Nat → Int32} {G : GT} {adx : Nat → Nat → Nat} {adm : Nat → Nat} {X : K3} {μ : K2} {H : Heap} {locs : List Loc} {cells slots : Nat} {Q : State → Prop} {ls : Array Slot} {x3 : Int32} (S : CallFix p m c cL_law 4 s #[Value.ref b] wsL_law RL) (hX : va_X b L xs s s.heap) (hbl : b < s.heap.size) (hfit : cells ≤ room_1.cells ∧ slots ≤ room_1.slots) (hf : Fr G (fun q => s.heap.size ≤ q) s (wX G adx X ++ wM G adm μ) H locs) (hR : R X μ) (hl : lv_has ls 4 [(3, .int x3), (2, .ref (adm 0)), (1, .ref (adx 8 0)), (0, .ref b)]) (h1 : vp_in (x3 + 1) L) (h2 : vp_in (x3 + 2) L) (h3 : vp_in (x3 + 3) L) (h4 : vp_in (x3 + 4) L) (h5 : vp_in (x3 + 5) L) (K : ∀ (X' : K3) (μ' : K2) (H : Heap) (locs : List Loc), R X' μ' → Fr G (fun q => s.heap.size ≤ q) s (wX G adx X' ++ wM G adm μ') H locs → W p l e room_1 s m #[Value.ref b] below meth c H locs cells slots Q (F0 m 1383 ls [])) : W p l e room_1 s m #[Value.ref b] below meth c H locs cells slots Q (F0 m 978 ls []) := by
  obtain ⟨hx, hb, hml, hown, hts⟩ := id S
  have hbA : ¬ (fun q : Nat => s.heap.size ≤ q) b := Nat.not_le.mpr hbl
  obtain ⟨r, X', μ', e1, e2, hR'⟩ := s_feed hR (xs (x3 + 1).toNatClampNeg) (xs (x3 + 2).toNatClampNeg)
  refine lv_aload_n hx hb dL_law_978 rfl (lv_at hl 2 rfl) ?_
  refine lv_aload_n hx hb dL_law_979 rfl (lv_at hl 3 rfl) ?_
  refine lv_iload_n hx hb dL_law_980 rfl (lv_at hl 0 rfl) ?_
  refine lv_iconst (v := 1) hx hb dL_law_981 (by decide) ?_
  refine lv_iadd hx hb dL_law_982 ?_
  refine va_sld hx hb hX hbl hbA hf.2.2.1 h1 dL_law_983 ?_
  refine lv_aload_n hx hb dL_law_984 rfl (lv_at hl 3 rfl) ?_
  refine lv_iload_n hx hb dL_law_985 rfl (lv_at hl 0 rfl) ?_
  refine lv_iconst (v := 2) hx hb dL_law_986 (by decide) ?_
  refine lv_iadd hx hb dL_law_987 ?_
  refine va_sld hx hb hX hbl hbA hf.2.2.1 h2 dL_law_988 ?_
  refine g_cv (o := some (.int r)) (As := [.int (xs (x3 + 1).toNatClampNeg), .int (xs (x3 + 2).toNatClampNeg)]) (rest := []) (st1 := [.int r]) (ci := 3) (a := []) (b := wM G adm μ) S hf (c_X3_feed l G adx X (xs (x3 + 1).toNatClampNeg) (xs (x3 + 2).toNatClampNeg) (r, X') e1) (cwV 2 hts gL_law_X3_feed rfl rfl rfl (by decide +kernel) ⟨(Nat.le_of_ble_eq_true rfl), (Nat.le_of_ble_eq_true rfl)⟩) rfl rfl rfl rfl 0 rfl rfl hl.1 rfl rfl (Nat.le_of_ble_eq_true rfl) hfit dL_law_989 (fun H locs hf => ?_)
  have hf : Fr G (fun q => s.heap.size ≤ q) s (wX G adx X' ++ wM G adm μ) H locs := hf
  refine lv_aload_n hx hb dL_law_992 rfl (lv_at hl 1 rfl) ?_
  refine lv_aload_n hx hb dL_law_993 rfl (lv_at hl 3 rfl) ?_
  refine lv_iload_n hx hb dL_law_994 rfl (lv_at hl 0 rfl) ?_
  refine lv_iconst (v := 1) hx hb dL_law_995 (by decide) ?_
  refine lv_iadd hx hb dL_law_996 ?_
  refine va_sld hx hb hX hbl hbA hf.2.2.1 h1 dL_law_997 ?_
  refine lv_aload_n hx hb dL_law_998 rfl (lv_at hl 3 rfl) ?_
  refine lv_iload_n hx hb dL_law_999 rfl (lv_at hl 0 rfl) ?_
  refine lv_iconst (v := 2) hx hb dL_law_1000 (by decide) ?_
  refine lv_iadd hx hb dL_law_1001 ?_
  refine va_sld hx hb hX hbl hbA hf.2.2.1 h2 dL_law_1002 ?_
  refine g_cv (o := some (.int r)) (As := [.int (xs (x3 + 1).toNatClampNeg), .int (xs (x3 + 2).toNatClampNeg)]) (rest := [.int r]) (st1 := [.int r, .int r]) (ci := 4) (a := wX G adx X') (b := []) S hf (c_X4_feed l G adm μ (xs (x3 + 1).toNatClampNeg) (xs (x3 + 2).toNatClampNeg) (r, μ') e2) (cwV 2 hts gL_law_X4_feed rfl rfl rfl (by decide +kernel) ⟨(Nat.le_of_ble_eq_true rfl), (Nat.le_of_ble_eq_true rfl)⟩) (by rw [List.append_nil]) rfl rfl rfl 0 rfl rfl hl.1 rfl rfl (Nat.le_of_ble_eq_true rfl) hfit dL_law_1003 (fun H locs hf => ?_)
  have hf : Fr G (fun q => s.heap.size ≤ q) s (wX G adx X' ++ wM G adm μ') H locs := by rw [List.append_nil] at hf; exact hf
  refine lv_icmp_eq (tgt := 1383) hx hb dL_law_1006 (by decide) (fun _ => ?_) (fun c9 => absurd rfl c9)
  exact K X' μ' H locs hR' hf
