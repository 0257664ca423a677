/-! ===== the law's loop, and its entry ===== -/
theorem gt6 {i L : Nat} (hi : i ≤ 4000) (hL : L ≤ 3072) : (Int32.ofNat L - 6 < nI i) ↔ L < i + 6 := by
  have h := pk_sub_toInt (a := L) (b := 6) (by omega) (by omega)
  rw [i32_lt, nI_toInt (by omega)]
  show (nI L - nI 6).toInt < (i : Int) ↔ _
  rw [h]
  omega
set_option maxHeartbeats 4000000 in
set_option maxRecDepth 100000 in
theorem law_loop {p : Program} {l : Launch} {e : Env} {s : State} {m : MethodId} {below : List Frame} {meth : Method} {c : Code} {b L : Nat} {xs : Nat → Int32} {G : GT} {adx : Nat → Nat → Nat} {adm : Nat → Nat} {cells slots : Nat} (S : CallFix p m c cL_law 4 s #[Value.ref b] wsL_law RL) (hr : meth.sig.returnType = ret) (hlocks : meth.locks = false) (hX : va_X b L xs s s.heap) (hbl : b < s.heap.size) (hL : L ≤ 3072) (hfit : cells ≤ room_1.cells ∧ slots ≤ room_1.slots) :
    ∀ (n i : Nat) (X : K3) (μ : K2) (H : Heap) (locs : List Loc) (ls : Array Slot), i ≤ 4000 → L < i + n → R X μ → Fr G (fun q => s.heap.size ≤ q) s (wX G adx X ++ wM G adm μ) H locs → lv_has ls 4 [(3, .int (nI i)), (2, .ref (adm 0)), (1, .ref (adx 8 0)), (0, .ref b)] → W p l e room_1 s m #[Value.ref b] below meth c H locs cells slots (lw_Z below #[Value.ref b] s) (F0 m 18 ls []) := by
  obtain ⟨hx, hb, hml, hown, hts⟩ := id S
  have hbA : ¬ (fun q : Nat => s.heap.size ≤ q) b := Nat.not_le.mpr hbl
  intro n
  induction n with
  | zero =>
    intro i X μ H locs ls hi hn hR hf hl
    refine lv_iload_n hx hb dL_law_18 rfl (lv_at hl 0 rfl) ?_
    refine lv_aload_n hx hb dL_law_19 rfl (lv_at hl 3 rfl) ?_
    refine va_slen hx hb hX hbl hbA hf.2.2.1 dL_law_20 ?_
    refine lv_bipush (v := 6) hx hb dL_law_21 (by decide) ?_
    refine lv_isub hx hb dL_law_23 ?_
    refine lv_icmp_gt (tgt := 1389) hx hb dL_law_24 (by decide) (fun c1 => ?_) (fun c1 => absurd ((gt6 hi hL).mpr (by omega)) c1)
    refine lv_iconst (v := 1) hx hb dL_law_1389 (by decide) ?_
    refine va_forget (fun q hq => hf.2.2.1.2.2 q hq) ?_
    refine W.widen (k := 600000) (n := 7302250) hfit.1 hfit.2 ?_
    exact lw_ret hx hb hr hlocks dL_law_1390
  | succ n ih =>
    intro i X μ H locs ls hi hn hR hf hl
    refine lv_iload_n hx hb dL_law_18 rfl (lv_at hl 0 rfl) ?_
    refine lv_aload_n hx hb dL_law_19 rfl (lv_at hl 3 rfl) ?_
    refine va_slen hx hb hX hbl hbA hf.2.2.1 dL_law_20 ?_
    refine lv_bipush (v := 6) hx hb dL_law_21 (by decide) ?_
    refine lv_isub hx hb dL_law_23 ?_
    refine lv_icmp_gt (tgt := 1389) hx hb dL_law_24 (by decide) (fun c1 => ?_) (fun c1 => ?_)
    · refine lv_iconst (v := 1) hx hb dL_law_1389 (by decide) ?_
      refine va_forget (fun q hq => hf.2.2.1.2.2 q hq) ?_
      refine W.widen (k := 600000) (n := 7302250) hfit.1 hfit.2 ?_
      exact lw_ret hx hb hr hlocks dL_law_1390
    · have h6 : i + 6 ≤ L := Nat.not_lt.mp fun q => c1 ((gt6 hi hL).mpr q)
      have a0 : vp_in (nI i) L := vp_in_nI (by omega) (by omega)
      have a1 : vp_in (nI i + 1) L := by rw [show nI i + 1 = nI (i + 1) from nI_add i 1]; exact vp_in_nI (by omega) (by omega)
      have a2 : vp_in (nI i + 2) L := by rw [show nI i + 2 = nI (i + 2) from nI_add i 2]; exact vp_in_nI (by omega) (by omega)
      have a3 : vp_in (nI i + 3) L := by rw [show nI i + 3 = nI (i + 3) from nI_add i 3]; exact vp_in_nI (by omega) (by omega)
      have a4 : vp_in (nI i + 4) L := by rw [show nI i + 4 = nI (i + 4) from nI_add i 4]; exact vp_in_nI (by omega) (by omega)
      have a5 : vp_in (nI i + 5) L := by rw [show nI i + 5 = nI (i + 5) from nI_add i 5]; exact vp_in_nI (by omega) (by omega)
      have K : ∀ (X' : K3) (μ' : K2) (H : Heap) (locs : List Loc), R X' μ' → Fr G (fun q => s.heap.size ≤ q) s (wX G adx X' ++ wM G adm μ') H locs → W p l e room_1 s m #[Value.ref b] below meth c H locs cells slots (lw_Z below #[Value.ref b] s) (F0 m 1383 ls []) := by
        intro X' μ' H locs hR hf
        refine lv_iinc (v := nI (i + 6)) (lv' := [(3, .int (nI (i + 6))), (2, .ref (adm 0)), (1, .ref (adx 8 0)), (0, .ref b)]) hx hb dL_law_1383 hl (k := 0) rfl (by rw [← nI_add]; rfl) (by decide) rfl (fun ls hl => ?_)
        refine lv_goto (tgt := 18) hx hb dL_law_1386 (by decide) ?_
        exact ih (i + 6) X' μ' H locs ls (by omega) (by omega) hR hf hl
      refine lv_aload_n hx hb dL_law_27 rfl (lv_at hl 3 rfl) ?_
      refine lv_iload_n hx hb dL_law_28 rfl (lv_at hl 0 rfl) ?_
      refine va_sld hx hb hX hbl hbA hf.2.2.1 a0 dL_law_29 ?_
      refine lv_bipush (v := 63) hx hb dL_law_30 (by decide) ?_
      refine lv_iand hx hb dL_law_32 ?_
      refine lv_topi (fun x _ => ?_)
      by_cases ho : x.toInt < 0 ∨ 41 < x.toInt
      · refine lv_tableOut (tgt := 1383) hx hb dL_law_33 ho (by decide) ?_
        exact K X μ H locs hR hf
      · obtain ⟨j, hj, rfl⟩ := nI_of_range (x := x) (n := 41) (by omega) (by omega) (by omega)
        clear ho
        match j, hj with
        | 0, _ => refine lv_tableIn (tgt := 216) hx hb dL_law_33 (by decide +kernel) (by decide +kernel) rfl (by decide) ?_; exact law_0 S hX hbl hfit hf hR hl a1 a2 a3 a4 a5 K
        | 1, _ => refine lv_tableIn (tgt := 249) hx hb dL_law_33 (by decide +kernel) (by decide +kernel) rfl (by decide) ?_; exact law_1 S hX hbl hfit hf hR hl a1 a2 a3 a4 a5 K
        | 2, _ => refine lv_tableIn (tgt := 272) hx hb dL_law_33 (by decide +kernel) (by decide +kernel) rfl (by decide) ?_; exact law_2 S hX hbl hfit hf hR hl a1 a2 a3 a4 a5 K
        | 3, _ => refine lv_tableIn (tgt := 295) hx hb dL_law_33 (by decide +kernel) (by decide +kernel) rfl (by decide) ?_; exact law_3 S hX hbl hfit hf hR hl a1 a2 a3 a4 a5 K
        | 4, _ => refine lv_tableIn (tgt := 328) hx hb dL_law_33 (by decide +kernel) (by decide +kernel) rfl (by decide) ?_; exact law_4 S hX hbl hfit hf hR hl a1 a2 a3 a4 a5 K
        | 5, _ => refine lv_tableIn (tgt := 361) hx hb dL_law_33 (by decide +kernel) (by decide +kernel) rfl (by decide) ?_; exact law_5 S hX hbl hfit hf hR hl a1 a2 a3 a4 a5 K
        | 6, _ => refine lv_tableIn (tgt := 394) hx hb dL_law_33 (by decide +kernel) (by decide +kernel) rfl (by decide) ?_; exact law_6 S hX hbl hfit hf hR hl a1 a2 a3 a4 a5 K
        | 7, _ => refine lv_tableIn (tgt := 437) hx hb dL_law_33 (by decide +kernel) (by decide +kernel) rfl (by decide) ?_; exact law_7 S hX hbl hfit hf hR hl a1 a2 a3 a4 a5 K
        | 8, _ => refine lv_tableIn (tgt := 460) hx hb dL_law_33 (by decide +kernel) (by decide +kernel) rfl (by decide) ?_; exact law_8 S hX hbl hfit hf hR hl a1 a2 a3 a4 a5 K
        | 9, _ => refine lv_tableIn (tgt := 483) hx hb dL_law_33 (by decide +kernel) (by decide +kernel) rfl (by decide) ?_; exact law_9 S hX hbl hfit hf hR hl a1 a2 a3 a4 a5 K
        | 10, _ => refine lv_tableIn (tgt := 506) hx hb dL_law_33 (by decide +kernel) (by decide +kernel) rfl (by decide) ?_; exact law_10 S hX hbl hfit hf hR hl a1 a2 a3 a4 a5 K
        | 11, _ => refine lv_tableIn (tgt := 529) hx hb dL_law_33 (by decide +kernel) (by decide +kernel) rfl (by decide) ?_; exact law_11 S hX hbl hfit hf hR hl a1 a2 a3 a4 a5 K
        | 12, _ => refine lv_tableIn (tgt := 572) hx hb dL_law_33 (by decide +kernel) (by decide +kernel) rfl (by decide) ?_; exact law_12 S hX hbl hfit hf hR hl a1 a2 a3 a4 a5 K
        | 13, _ => refine lv_tableIn (tgt := 595) hx hb dL_law_33 (by decide +kernel) (by decide +kernel) rfl (by decide) ?_; exact law_13 S hX hbl hfit hf hR hl a1 a2 a3 a4 a5 K
        | 14, _ => refine lv_tableIn (tgt := 618) hx hb dL_law_33 (by decide +kernel) (by decide +kernel) rfl (by decide) ?_; exact law_14 S hX hbl hfit hf hR hl a1 a2 a3 a4 a5 K
        | 15, _ => refine lv_tableIn (tgt := 631) hx hb dL_law_33 (by decide +kernel) (by decide +kernel) rfl (by decide) ?_; exact law_15 S hX hbl hfit hf hR hl a1 a2 a3 a4 a5 K
        | 16, _ => refine lv_tableIn (tgt := 664) hx hb dL_law_33 (by decide +kernel) (by decide +kernel) rfl (by decide) ?_; exact law_16 S hX hbl hfit hf hR hl a1 a2 a3 a4 a5 K
        | 17, _ => refine lv_tableIn (tgt := 677) hx hb dL_law_33 (by decide +kernel) (by decide +kernel) rfl (by decide) ?_; exact law_17 S hX hbl hfit hf hR hl a1 a2 a3 a4 a5 K
        | 18, _ => refine lv_tableIn (tgt := 710) hx hb dL_law_33 (by decide +kernel) (by decide +kernel) rfl (by decide) ?_; exact law_18 S hX hbl hfit hf hR hl a1 a2 a3 a4 a5 K
        | 19, _ => refine lv_tableIn (tgt := 743) hx hb dL_law_33 (by decide +kernel) (by decide +kernel) rfl (by decide) ?_; exact law_19 S hX hbl hfit hf hR hl a1 a2 a3 a4 a5 K
        | 20, _ => refine lv_tableIn (tgt := 776) hx hb dL_law_33 (by decide +kernel) (by decide +kernel) rfl (by decide) ?_; exact law_20 S hX hbl hfit hf hR hl a1 a2 a3 a4 a5 K
        | 21, _ => refine lv_tableIn (tgt := 799) hx hb dL_law_33 (by decide +kernel) (by decide +kernel) rfl (by decide) ?_; exact law_21 S hX hbl hfit hf hR hl a1 a2 a3 a4 a5 K
        | 22, _ => refine lv_tableIn (tgt := 822) hx hb dL_law_33 (by decide +kernel) (by decide +kernel) rfl (by decide) ?_; exact law_22 S hX hbl hfit hf hR hl a1 a2 a3 a4 a5 K
        | 23, _ => refine lv_tableIn (tgt := 855) hx hb dL_law_33 (by decide +kernel) (by decide +kernel) rfl (by decide) ?_; exact law_23 S hX hbl hfit hf hR hl a1 a2 a3 a4 a5 K
        | 24, _ => refine lv_tableIn (tgt := 888) hx hb dL_law_33 (by decide +kernel) (by decide +kernel) rfl (by decide) ?_; exact law_24 S hX hbl hfit hf hR hl a1 a2 a3 a4 a5 K
        | 25, _ => refine lv_tableIn (tgt := 911) hx hb dL_law_33 (by decide +kernel) (by decide +kernel) rfl (by decide) ?_; exact law_25 S hX hbl hfit hf hR hl a1 a2 a3 a4 a5 K
        | 26, _ => refine lv_tableIn (tgt := 955) hx hb dL_law_33 (by decide +kernel) (by decide +kernel) rfl (by decide) ?_; exact law_26 S hX hbl hfit hf hR hl a1 a2 a3 a4 a5 K
        | 27, _ => refine lv_tableIn (tgt := 978) hx hb dL_law_33 (by decide +kernel) (by decide +kernel) rfl (by decide) ?_; exact law_27 S hX hbl hfit hf hR hl a1 a2 a3 a4 a5 K
        | 28, _ => refine lv_tableIn (tgt := 1011) hx hb dL_law_33 (by decide +kernel) (by decide +kernel) rfl (by decide) ?_; exact law_28 S hX hbl hfit hf hR hl a1 a2 a3 a4 a5 K
        | 29, _ => refine lv_tableIn (tgt := 1024) hx hb dL_law_33 (by decide +kernel) (by decide +kernel) rfl (by decide) ?_; exact law_29 S hX hbl hfit hf hR hl a1 a2 a3 a4 a5 K
        | 30, _ => refine lv_tableIn (tgt := 1037) hx hb dL_law_33 (by decide +kernel) (by decide +kernel) rfl (by decide) ?_; exact law_30 S hX hbl hfit hf hR hl a1 a2 a3 a4 a5 K
        | 31, _ => refine lv_tableIn (tgt := 1070) hx hb dL_law_33 (by decide +kernel) (by decide +kernel) rfl (by decide) ?_; exact law_31 S hX hbl hfit hf hR hl a1 a2 a3 a4 a5 K
        | 32, _ => refine lv_tableIn (tgt := 1103) hx hb dL_law_33 (by decide +kernel) (by decide +kernel) rfl (by decide) ?_; exact law_32 S hX hbl hfit hf hR hl a1 a2 a3 a4 a5 K
        | 33, _ => refine lv_tableIn (tgt := 1146) hx hb dL_law_33 (by decide +kernel) (by decide +kernel) rfl (by decide) ?_; exact law_33 S hX hbl hfit hf hR hl a1 a2 a3 a4 a5 K
        | 34, _ => refine lv_tableIn (tgt := 1189) hx hb dL_law_33 (by decide +kernel) (by decide +kernel) rfl (by decide) ?_; exact law_34 S hX hbl hfit hf hR hl a1 a2 a3 a4 a5 K
        | 35, _ => refine lv_tableIn (tgt := 1252) hx hb dL_law_33 (by decide +kernel) (by decide +kernel) rfl (by decide) ?_; exact law_35 S hX hbl hfit hf hR hl a1 a2 a3 a4 a5 K
        | 36, _ => refine lv_tableIn (tgt := 1275) hx hb dL_law_33 (by decide +kernel) (by decide +kernel) rfl (by decide) ?_; exact law_36 S hX hbl hfit hf hR hl a1 a2 a3 a4 a5 K
        | 37, _ => refine lv_tableIn (tgt := 1298) hx hb dL_law_33 (by decide +kernel) (by decide +kernel) rfl (by decide) ?_; exact law_37 S hX hbl hfit hf hR hl a1 a2 a3 a4 a5 K
        | 38, _ => refine lv_tableIn (tgt := 1311) hx hb dL_law_33 (by decide +kernel) (by decide +kernel) rfl (by decide) ?_; exact law_38 S hX hbl hfit hf hR hl a1 a2 a3 a4 a5 K
        | 39, _ => refine lv_tableIn (tgt := 1324) hx hb dL_law_33 (by decide +kernel) (by decide +kernel) rfl (by decide) ?_; exact law_39 S hX hbl hfit hf hR hl a1 a2 a3 a4 a5 K
        | 40, _ => refine lv_tableIn (tgt := 1337) hx hb dL_law_33 (by decide +kernel) (by decide +kernel) rfl (by decide) ?_; exact law_40 S hX hbl hfit hf hR hl a1 a2 a3 a4 a5 K
        | 41, _ => refine lv_tableIn (tgt := 1360) hx hb dL_law_33 (by decide +kernel) (by decide +kernel) rfl (by decide) ?_; exact law_41 S hX hbl hfit hf hR hl a1 a2 a3 a4 a5 K
        | j + 42, hj => exact absurd hj (by omega)
set_option maxHeartbeats 4000000 in
set_option maxRecDepth 100000 in
theorem whole_start {p : Program} {e : Env} {s : State} {m : MethodId} {below : List Frame} {meth : Method} {c : Code} (l : Launch) (hflags : l.flags = flags0) {b L : Nat} {xs : Nat → Int32} (hL : L ≤ 3072) (C0 : lw_At p s m meth c b L xs) : W p l e room_1 s m #[Value.ref b] below meth c s.heap [] 0 0 (lw_Z below #[Value.ref b] s) (entryFrame m ([Value.ref b] : List Value).toArray 4) := by
  obtain ⟨hx, hb, hr, hml, hown, hts0, hX, hbl, hlocks, hgv⟩ := C0
  obtain ⟨G, hK, hSg, hE⟩ := law_start hts0 hgv
  have hts : ∀ w ∈ wsL_law, w.before #[Value.ref b] s = true := fun w h => hts0 w (wsL_law_in w h)
  have S : CallFix p m c cL_law 4 s #[Value.ref b] wsL_law RL := ⟨hx, hb, hml, hown, hts⟩
  have hf : Fr G (fun q => s.heap.size ≤ q) s [] s.heap [] := ⟨fun k q h => by simp at h, ⟨fun i j p q h => by simp at h, fun k q h => by simp at h⟩, va_S.rf, hK, fun _ h => h, hSg⟩
  have hl := lv_entry ([.ref b]) (n := 4) (Nat.le_of_ble_eq_true rfl)
  rw [lg_entry_eq]
  generalize (lg_sl ([.ref b]) ++ List.replicate (4 - (lg_sl ([.ref b])).length) Slot.unset).toArray = ls at hl ⊢
  have hl : lv_has ls 4 [(0, .ref b)] := hl
  refine g_new (ci := 3) (fs := [.null, .null, .null, .null, .null, .null, .int 0]) (C := RX3) (T := TX3) (N := 7) S hf inlX3 tyX3 tyX3_ok tl_c3 tl_n3 tl_i3 rfl (fun j hj => match j, hj with | 0, _ => rfl | 1, _ => rfl | 2, _ => rfl | 3, _ => rfl | 4, _ => rfl | 5, _ => rfl | 6, _ => rfl | z + 7, h => absurd h (by omega)) (Nat.le_of_ble_eq_true rfl) (Nat.le_of_ble_eq_true rfl) dL_law_0 (fun q H hf => ?_)
  refine lv_dup hx hb dL_law_3 rfl ?_
  refine g_ci (a := []) (b := []) (rest := [.ref q]) S hf hE (c_X3_init l G q) (cwI 0 hts gL_law_X3_init rfl rfl rfl (hts _ tl_i3) (hts _ tl_m3) (hts _ tl_s3) rfl (by decide +kernel) ⟨(Nat.le_of_ble_eq_true rfl), (Nat.le_of_ble_eq_true rfl)⟩) rfl hl.1 (Nat.le_of_ble_eq_true rfl) ⟨(Nat.le_of_ble_eq_true rfl), (Nat.le_of_ble_eq_true rfl)⟩ dL_law_4 (fun w9 H2 locs2 hN hf2 => ?_)
  obtain ⟨adx, hq, rfl⟩ := hN
  subst hq
  have hf : Fr G (fun q => s.heap.size ≤ q) s (wX G adx sX0) H2 locs2 := by simpa only [List.nil_append, List.append_nil] using hf2
  refine lv_astore_n (lv' := [(1, .ref (adx 8 0)), (0, .ref b)]) hx hb dL_law_7 rfl hl (by decide) rfl (fun ls hl => ?_)
  refine g_new (ci := 4) (fs := [.null, .null, .null, .int 0, .null, .null, .null, .int 0, .int 0, .int 0, .int 0, .int 0, .int 0, .null, .null, .int 0, .int 0, .null, .null, .null, .null]) (C := RX4) (T := TX4) (N := 21) S hf inlX4 tyX4 tyX4_ok tl_c4 tl_n4 tl_i4 rfl (fun j hj => match j, hj with | 0, _ => rfl | 1, _ => rfl | 2, _ => rfl | 3, _ => rfl | 4, _ => rfl | 5, _ => rfl | 6, _ => rfl | 7, _ => rfl | 8, _ => rfl | 9, _ => rfl | 10, _ => rfl | 11, _ => rfl | 12, _ => rfl | 13, _ => rfl | 14, _ => rfl | 15, _ => rfl | 16, _ => rfl | 17, _ => rfl | 18, _ => rfl | 19, _ => rfl | 20, _ => rfl | z + 21, h => absurd h (by omega)) (Nat.le_of_ble_eq_true rfl) (Nat.le_of_ble_eq_true rfl) dL_law_8 (fun q H hf => ?_)
  refine lv_dup hx hb dL_law_11 rfl ?_
  refine g_ci (a := wX G adx sX0) (b := []) (rest := [.ref q]) S hf hE (c_X4_init l G q) (cwI 0 hts gL_law_X4_init rfl rfl rfl (hts _ tl_i4) (hts _ tl_m4) (hts _ tl_s4) rfl (by decide +kernel) ⟨(Nat.le_of_ble_eq_true rfl), (Nat.le_of_ble_eq_true rfl)⟩) (by rw [List.append_nil]) hl.1 (Nat.le_of_ble_eq_true rfl) ⟨(Nat.le_of_ble_eq_true rfl), (Nat.le_of_ble_eq_true rfl)⟩ dL_law_12 (fun w9 H3 locs3 hN hf3 => ?_)
  obtain ⟨adm, hq, rfl⟩ := hN
  subst hq
  have hf : Fr G (fun q => s.heap.size ≤ q) s (wX G adx sX0 ++ wM G adm sM0) H3 locs3 := by simpa only [List.append_nil] using hf3
  refine lv_astore_n (lv' := [(2, .ref (adm 0)), (1, .ref (adx 8 0)), (0, .ref b)]) hx hb dL_law_15 rfl hl (by decide) rfl (fun ls hl => ?_)
  refine lv_iconst (v := 0) hx hb dL_law_16 (by decide) ?_
  refine lv_istore_n (lv' := [(3, .int (nI 0)), (2, .ref (adm 0)), (1, .ref (adx 8 0)), (0, .ref b)]) hx hb dL_law_17 rfl hl (by decide) rfl (fun ls hl => ?_)
  exact law_loop S hr hlocks hX hbl hL ⟨(Nat.le_of_ble_eq_true rfl), (Nat.le_of_ble_eq_true rfl)⟩ (L + 1) 0 sX0 sM0 H3 locs3 ls (by omega) (by omega) R_start hf hl
