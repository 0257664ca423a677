def f_J6_bitCount_0f7a4 (a0 : Int32) : Option (Int32) := some ((((((((a0 - ((iushr a0 1) &&& 1431655765)) &&& 858993459) + ((iushr (a0 - ((iushr a0 1) &&& 1431655765)) 2) &&& 858993459)) + (iushr (((a0 - ((iushr a0 1) &&& 1431655765)) &&& 858993459) + ((iushr (a0 - ((iushr a0 1) &&& 1431655765)) 2) &&& 858993459)) 4)) &&& 252645135) + (iushr (((((a0 - ((iushr a0 1) &&& 1431655765)) &&& 858993459) + ((iushr (a0 - ((iushr a0 1) &&& 1431655765)) 2) &&& 858993459)) + (iushr (((a0 - ((iushr a0 1) &&& 1431655765)) &&& 858993459) + ((iushr (a0 - ((iushr a0 1) &&& 1431655765)) 2) &&& 858993459)) 4)) &&& 252645135) 8)) + (iushr ((((((a0 - ((iushr a0 1) &&& 1431655765)) &&& 858993459) + ((iushr (a0 - ((iushr a0 1) &&& 1431655765)) 2) &&& 858993459)) + (iushr (((a0 - ((iushr a0 1) &&& 1431655765)) &&& 858993459) + ((iushr (a0 - ((iushr a0 1) &&& 1431655765)) 2) &&& 858993459)) 4)) &&& 252645135) + (iushr (((((a0 - ((iushr a0 1) &&& 1431655765)) &&& 858993459) + ((iushr (a0 - ((iushr a0 1) &&& 1431655765)) 2) &&& 858993459)) + (iushr (((a0 - ((iushr a0 1) &&& 1431655765)) &&& 858993459) + ((iushr (a0 - ((iushr a0 1) &&& 1431655765)) 2) &&& 858993459)) 4)) &&& 252645135) 8)) 16)) &&& 63)
set_option maxHeartbeats 4000000 in
set_option maxRecDepth 100000 in
theorem c_J6_bitCount_0f7a4 (l : Launch) (G : GT)  (a0 : Int32) (q : Int32) (hF : f_J6_bitCount_0f7a4 a0 = some q) : Ct l G yJ6_bitCount_0f7a4 wsJ6_bitCount_0f7a4 ({ frames := 0, cells := 0, slots := 0, locals := 0 } : Room) ([.int a0] : List Value) (([] : va_W)) (some (.int q)) (([] : va_W)) := by
  have kc265 : Cond.constant RJ6 265 (1431655765) ∈ wsJ6_bitCount_0f7a4 := by decide +kernel
  have kc266 : Cond.constant RJ6 266 (858993459) ∈ wsJ6_bitCount_0f7a4 := by decide +kernel
  have kc267 : Cond.constant RJ6 267 (252645135) ∈ wsJ6_bitCount_0f7a4 := by decide +kernel
  refine Ct.of cJ6_bitCount_0f7a4 1 (some .int) (by decide) rfl (Nat.le_of_ble_eq_true rfl) ?_
  intro p e s m below meth c ls S hr hlocks hf hl
  have S : CallFix p m c cJ6_bitCount_0f7a4 1 s ([.int a0] : List Value).toArray wsJ6_bitCount_0f7a4 RJ6 := S
  obtain ⟨hx, hb, hml, hown, hts⟩ := id S
  have hl : lv_has ls 1 [(0, .int a0)] := hl
  unfold f_J6_bitCount_0f7a4 at hF
  refine lv_iload_n hx hb dJ6_bitCount_0f7a4_0 rfl (lv_at hl 0 rfl) ?_
  refine lv_iload_n hx hb dJ6_bitCount_0f7a4_1 rfl (lv_at hl 0 rfl) ?_
  refine lv_iconst (v := 1) hx hb dJ6_bitCount_0f7a4_2 (by decide) ?_
  refine lv_iushr (v := iushr a0 1) hx hb dJ6_bitCount_0f7a4_3 rfl ?_
  refine lv_ldcw (v := 1431655765) hx hb hown (hts _ kc265) dJ6_bitCount_0f7a4_4 ?_
  refine lv_iand hx hb dJ6_bitCount_0f7a4_7 ?_
  refine lv_isub hx hb dJ6_bitCount_0f7a4_8 ?_
  refine lv_istore_n (lv' := [(0, .int (a0 - ((iushr a0 1) &&& 1431655765)))]) hx hb dJ6_bitCount_0f7a4_9 rfl hl (by decide) rfl (fun ls hl => ?_)
  refine lv_iload_n hx hb dJ6_bitCount_0f7a4_10 rfl (lv_at hl 0 rfl) ?_
  refine lv_ldcw (v := 858993459) hx hb hown (hts _ kc266) dJ6_bitCount_0f7a4_11 ?_
  refine lv_iand hx hb dJ6_bitCount_0f7a4_14 ?_
  refine lv_iload_n hx hb dJ6_bitCount_0f7a4_15 rfl (lv_at hl 0 rfl) ?_
  refine lv_iconst (v := 2) hx hb dJ6_bitCount_0f7a4_16 (by decide) ?_
  refine lv_iushr (v := iushr (a0 - ((iushr a0 1) &&& 1431655765)) 2) hx hb dJ6_bitCount_0f7a4_17 rfl ?_
  refine lv_ldcw (v := 858993459) hx hb hown (hts _ kc266) dJ6_bitCount_0f7a4_18 ?_
  refine lv_iand hx hb dJ6_bitCount_0f7a4_21 ?_
  refine lv_iadd hx hb dJ6_bitCount_0f7a4_22 ?_
  refine lv_istore_n (lv' := [(0, .int (((a0 - ((iushr a0 1) &&& 1431655765)) &&& 858993459) + ((iushr (a0 - ((iushr a0 1) &&& 1431655765)) 2) &&& 858993459)))]) hx hb dJ6_bitCount_0f7a4_23 rfl hl (by decide) rfl (fun ls hl => ?_)
  refine lv_iload_n hx hb dJ6_bitCount_0f7a4_24 rfl (lv_at hl 0 rfl) ?_
  refine lv_iload_n hx hb dJ6_bitCount_0f7a4_25 rfl (lv_at hl 0 rfl) ?_
  refine lv_iconst (v := 4) hx hb dJ6_bitCount_0f7a4_26 (by decide) ?_
  refine lv_iushr (v := iushr (((a0 - ((iushr a0 1) &&& 1431655765)) &&& 858993459) + ((iushr (a0 - ((iushr a0 1) &&& 1431655765)) 2) &&& 858993459)) 4) hx hb dJ6_bitCount_0f7a4_27 rfl ?_
  refine lv_iadd hx hb dJ6_bitCount_0f7a4_28 ?_
  refine lv_ldcw (v := 252645135) hx hb hown (hts _ kc267) dJ6_bitCount_0f7a4_29 ?_
  refine lv_iand hx hb dJ6_bitCount_0f7a4_32 ?_
  refine lv_istore_n (lv' := [(0, .int (((((a0 - ((iushr a0 1) &&& 1431655765)) &&& 858993459) + ((iushr (a0 - ((iushr a0 1) &&& 1431655765)) 2) &&& 858993459)) + (iushr (((a0 - ((iushr a0 1) &&& 1431655765)) &&& 858993459) + ((iushr (a0 - ((iushr a0 1) &&& 1431655765)) 2) &&& 858993459)) 4)) &&& 252645135))]) hx hb dJ6_bitCount_0f7a4_33 rfl hl (by decide) rfl (fun ls hl => ?_)
  refine lv_iload_n hx hb dJ6_bitCount_0f7a4_34 rfl (lv_at hl 0 rfl) ?_
  refine lv_iload_n hx hb dJ6_bitCount_0f7a4_35 rfl (lv_at hl 0 rfl) ?_
  refine lv_bipush (v := 8) hx hb dJ6_bitCount_0f7a4_36 (by decide) ?_
  refine lv_iushr (v := iushr (((((a0 - ((iushr a0 1) &&& 1431655765)) &&& 858993459) + ((iushr (a0 - ((iushr a0 1) &&& 1431655765)) 2) &&& 858993459)) + (iushr (((a0 - ((iushr a0 1) &&& 1431655765)) &&& 858993459) + ((iushr (a0 - ((iushr a0 1) &&& 1431655765)) 2) &&& 858993459)) 4)) &&& 252645135) 8) hx hb dJ6_bitCount_0f7a4_38 rfl ?_
  refine lv_iadd hx hb dJ6_bitCount_0f7a4_39 ?_
  refine lv_istore_n (lv' := [(0, .int ((((((a0 - ((iushr a0 1) &&& 1431655765)) &&& 858993459) + ((iushr (a0 - ((iushr a0 1) &&& 1431655765)) 2) &&& 858993459)) + (iushr (((a0 - ((iushr a0 1) &&& 1431655765)) &&& 858993459) + ((iushr (a0 - ((iushr a0 1) &&& 1431655765)) 2) &&& 858993459)) 4)) &&& 252645135) + (iushr (((((a0 - ((iushr a0 1) &&& 1431655765)) &&& 858993459) + ((iushr (a0 - ((iushr a0 1) &&& 1431655765)) 2) &&& 858993459)) + (iushr (((a0 - ((iushr a0 1) &&& 1431655765)) &&& 858993459) + ((iushr (a0 - ((iushr a0 1) &&& 1431655765)) 2) &&& 858993459)) 4)) &&& 252645135) 8)))]) hx hb dJ6_bitCount_0f7a4_40 rfl hl (by decide) rfl (fun ls hl => ?_)
  refine lv_iload_n hx hb dJ6_bitCount_0f7a4_41 rfl (lv_at hl 0 rfl) ?_
  refine lv_iload_n hx hb dJ6_bitCount_0f7a4_42 rfl (lv_at hl 0 rfl) ?_
  refine lv_bipush (v := 16) hx hb dJ6_bitCount_0f7a4_43 (by decide) ?_
  refine lv_iushr (v := iushr ((((((a0 - ((iushr a0 1) &&& 1431655765)) &&& 858993459) + ((iushr (a0 - ((iushr a0 1) &&& 1431655765)) 2) &&& 858993459)) + (iushr (((a0 - ((iushr a0 1) &&& 1431655765)) &&& 858993459) + ((iushr (a0 - ((iushr a0 1) &&& 1431655765)) 2) &&& 858993459)) 4)) &&& 252645135) + (iushr (((((a0 - ((iushr a0 1) &&& 1431655765)) &&& 858993459) + ((iushr (a0 - ((iushr a0 1) &&& 1431655765)) 2) &&& 858993459)) + (iushr (((a0 - ((iushr a0 1) &&& 1431655765)) &&& 858993459) + ((iushr (a0 - ((iushr a0 1) &&& 1431655765)) 2) &&& 858993459)) 4)) &&& 252645135) 8)) 16) hx hb dJ6_bitCount_0f7a4_45 rfl ?_
  refine lv_iadd hx hb dJ6_bitCount_0f7a4_46 ?_
  refine lv_istore_n (lv' := [(0, .int (((((((a0 - ((iushr a0 1) &&& 1431655765)) &&& 858993459) + ((iushr (a0 - ((iushr a0 1) &&& 1431655765)) 2) &&& 858993459)) + (iushr (((a0 - ((iushr a0 1) &&& 1431655765)) &&& 858993459) + ((iushr (a0 - ((iushr a0 1) &&& 1431655765)) 2) &&& 858993459)) 4)) &&& 252645135) + (iushr (((((a0 - ((iushr a0 1) &&& 1431655765)) &&& 858993459) + ((iushr (a0 - ((iushr a0 1) &&& 1431655765)) 2) &&& 858993459)) + (iushr (((a0 - ((iushr a0 1) &&& 1431655765)) &&& 858993459) + ((iushr (a0 - ((iushr a0 1) &&& 1431655765)) 2) &&& 858993459)) 4)) &&& 252645135) 8)) + (iushr ((((((a0 - ((iushr a0 1) &&& 1431655765)) &&& 858993459) + ((iushr (a0 - ((iushr a0 1) &&& 1431655765)) 2) &&& 858993459)) + (iushr (((a0 - ((iushr a0 1) &&& 1431655765)) &&& 858993459) + ((iushr (a0 - ((iushr a0 1) &&& 1431655765)) 2) &&& 858993459)) 4)) &&& 252645135) + (iushr (((((a0 - ((iushr a0 1) &&& 1431655765)) &&& 858993459) + ((iushr (a0 - ((iushr a0 1) &&& 1431655765)) 2) &&& 858993459)) + (iushr (((a0 - ((iushr a0 1) &&& 1431655765)) &&& 858993459) + ((iushr (a0 - ((iushr a0 1) &&& 1431655765)) 2) &&& 858993459)) 4)) &&& 252645135) 8)) 16)))]) hx hb dJ6_bitCount_0f7a4_47 rfl hl (by decide) rfl (fun ls hl => ?_)
  refine lv_iload_n hx hb dJ6_bitCount_0f7a4_48 rfl (lv_at hl 0 rfl) ?_
  refine lv_bipush (v := 63) hx hb dJ6_bitCount_0f7a4_49 (by decide) ?_
  refine lv_iand hx hb dJ6_bitCount_0f7a4_51 ?_
  exact g_iret S hr hlocks hf (congrArg (fun z : Int32 => z) (Option.some.inj hF)) rfl dJ6_bitCount_0f7a4_52
def f_X3_within (a0 : Int32) (a1 : Int32) (a2 : Int32) : Option (Int32) := if a0 < a1 then (some (0)) else (if a2 < a0 then (some (0)) else (some (1)))
set_option maxHeartbeats 4000000 in
set_option maxRecDepth 100000 in
theorem c_X3_within (l : Launch) (G : GT)  (a0 : Int32) (a1 : Int32) (a2 : Int32) (q : Int32) (hF : f_X3_within a0 a1 a2 = some q) : Ct l G yX3_within wsX3_within ({ frames := 0, cells := 0, slots := 0, locals := 0 } : Room) ([.int a0, .int a1, .int a2] : List Value) (([] : va_W)) (some (.int q)) (([] : va_W)) := by
  refine Ct.of cX3_within 3 (some .boolean) (by decide) rfl (Nat.le_of_ble_eq_true rfl) ?_
  intro p e s m below meth c ls S hr hlocks hf hl
  have S : CallFix p m c cX3_within 3 s ([.int a0, .int a1, .int a2] : List Value).toArray wsX3_within RX3 := S
  obtain ⟨hx, hb, hml, hown, hts⟩ := id S
  have hl : lv_has ls 3 [(0, .int a0), (1, .int a1), (2, .int a2)] := hl
  unfold f_X3_within at hF
  refine lv_iload_n hx hb dX3_within_0 rfl (lv_at hl 0 rfl) ?_
  refine lv_iload_n hx hb dX3_within_1 rfl (lv_at hl 1 rfl) ?_
  refine lv_icmp_lt (tgt := 14) hx hb dX3_within_2 (by decide) (fun c1 => ?_) (fun c1 => ?_)
  · replace hF := (if_pos c1).symm.trans hF
    refine lv_iconst (v := 0) hx hb dX3_within_14 (by decide) ?_
    exact g_zret S hr hlocks hf (by decide) (congrArg (fun z : Int32 => z) (Option.some.inj hF)) rfl dX3_within_15
  · replace hF := (if_neg c1).symm.trans hF
    refine lv_iload_n hx hb dX3_within_5 rfl (lv_at hl 0 rfl) ?_
    refine lv_iload_n hx hb dX3_within_6 rfl (lv_at hl 2 rfl) ?_
    refine lv_icmp_gt (tgt := 14) hx hb dX3_within_7 (by decide) (fun c2 => ?_) (fun c2 => ?_)
    · replace hF := (if_pos c2).symm.trans hF
      refine lv_iconst (v := 0) hx hb dX3_within_14 (by decide) ?_
      exact g_zret S hr hlocks hf (by decide) (congrArg (fun z : Int32 => z) (Option.some.inj hF)) rfl dX3_within_15
    · replace hF := (if_neg c2).symm.trans hF
      refine lv_iconst (v := 1) hx hb dX3_within_10 (by decide) ?_
      refine lv_goto (tgt := 15) hx hb dX3_within_11 (by decide) ?_
      exact g_zret S hr hlocks hf (by decide) (congrArg (fun z : Int32 => z) (Option.some.inj hF)) rfl dX3_within_15
