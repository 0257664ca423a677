/-! ===== what stands at the law's entry ===== -/
theorem mem_of_map {α : Type} {L ws : List α} (is : List Nat) (h : is.map (fun i => L[i]?) = ws.map some) : ∀ w ∈ ws, w ∈ L := by
  intro w hw
  have h1 : some w ∈ ws.map some := List.mem_map.mpr ⟨w, hw, rfl⟩
  rw [← h] at h1
  obtain ⟨i, -, hi⟩ := List.mem_map.mp h1
  exact List.mem_of_getElem? hi
abbrev sFL : List Cond := flatC (Cond.and given_1 narrow_1)
def mIx : List Nat := [30, 32, 34, 36, 38, 40, 42, 265, 273, 275, 277, 279, 288, 290, 292]
abbrev strV (mi : Nat) : Term := .field (.string "PigeonRollsModel" mi) "java/lang/String" "value" "[B"
def strA (mi : Nat) (bs : List Int32) : List Cond := [.exactly (.string "PigeonRollsModel" mi) "java/lang/String", .eq (.field (.string "PigeonRollsModel" mi) "java/lang/String" "coder" "B") (.int 0), .arrayOf (strV mi) .byte, .eq (.length (strV mi)) (.int (Int32.ofNat bs.length))] ++ (List.range bs.length).map (fun j => .eq (.elem (strV mi) (.int (Int32.ofNat j))) (.int (bs.getD j 0)))
abbrev zT (n : String) : Term := .static "PigeonRolls$Kingdom" n "[I"
def zA (n : String) (bs : List Int32) : List Cond := [.arrayOf (zT n) .int, .eq (.length (zT n)) (.int (Int32.ofNat bs.length))] ++ (List.range bs.length).map (fun j => .eq (.elem (zT n) (.int (Int32.ofNat j))) (.int (bs.getD j 0)))

theorem st_s0 : ∀ w ∈ strA 30 [98, 105, 114, 100], w ∈ sFL := mem_of_map [172, 173, 174, 175, 176, 177, 178, 179] (by decide +kernel)
theorem st_s1 : ∀ w ∈ strA 32 [104, 101, 110], w ∈ sFL := mem_of_map [181, 182, 183, 184, 185, 186, 187] (by decide +kernel)
theorem st_s2 : ∀ w ∈ strA 34 [99, 111, 99, 107], w ∈ sFL := mem_of_map [189, 190, 191, 192, 193, 194, 195, 196] (by decide +kernel)
theorem st_s3 : ∀ w ∈ strA 36 [100, 117, 107, 101], w ∈ sFL := mem_of_map [198, 199, 200, 201, 202, 203, 204, 205] (by decide +kernel)
theorem st_s4 : ∀ w ∈ strA 38 [101, 97, 103, 108, 101], w ∈ sFL := mem_of_map [207, 208, 209, 210, 211, 212, 213, 214, 215] (by decide +kernel)
theorem st_s5 : ∀ w ∈ strA 40 [106, 97, 99, 107, 100, 97, 119], w ∈ sFL := mem_of_map [217, 218, 219, 220, 221, 222, 223, 224, 225, 226, 227] (by decide +kernel)
theorem st_s6 : ∀ w ∈ strA 42 [119, 105, 100, 111, 119], w ∈ sFL := mem_of_map [229, 230, 231, 232, 233, 234, 235, 236, 237] (by decide +kernel)
theorem st_s7 : ∀ w ∈ strA 265 [108, 111, 102, 116], w ∈ sFL := mem_of_map [239, 240, 241, 242, 243, 244, 245, 246] (by decide +kernel)
theorem st_s8 : ∀ w ∈ strA 273 [102, 114, 111, 109], w ∈ sFL := mem_of_map [248, 249, 250, 251, 252, 253, 254, 255] (by decide +kernel)
theorem st_s9 : ∀ w ∈ strA 275 [97, 103, 101, 100], w ∈ sFL := mem_of_map [257, 258, 259, 260, 261, 262, 263, 264] (by decide +kernel)
theorem st_s10 : ∀ w ∈ strA 277 [99, 97, 114, 114, 105, 101, 100], w ∈ sFL := mem_of_map [266, 267, 268, 269, 270, 271, 272, 273, 274, 275, 276] (by decide +kernel)
theorem st_s11 : ∀ w ∈ strA 279 [98, 111, 121], w ∈ sFL := mem_of_map [278, 279, 280, 281, 282, 283, 284] (by decide +kernel)
theorem st_s12 : ∀ w ∈ strA 288 [104, 97, 114, 118, 101, 115, 116], w ∈ sFL := mem_of_map [286, 287, 288, 289, 290, 291, 292, 293, 294, 295, 296] (by decide +kernel)
theorem st_s13 : ∀ w ∈ strA 290 [99, 111, 114, 110], w ∈ sFL := mem_of_map [298, 299, 300, 301, 302, 303, 304, 305] (by decide +kernel)
theorem st_s14 : ∀ w ∈ strA 292 [115, 116, 114, 105, 107, 101], w ∈ sFL := mem_of_map [307, 308, 309, 310, 311, 312, 313, 314, 315, 316] (by decide +kernel)
theorem st_zLIFE : ∀ w ∈ zA "LIFE" [60, 80, 50, 100, 200, 9999, 100], w ∈ sFL := mem_of_map [5, 6, 7, 8, 9, 10, 11, 12, 13] (by decide +kernel)
theorem st_zUNDER : ∀ w ∈ zA "UNDER" [-1, 0, 0, 2, 3, 0, 1], w ∈ sFL := mem_of_map [32, 33, 34, 35, 36, 37, 38, 39, 40] (by decide +kernel)
theorem st_zMOST : ∀ w ∈ zA "MOST" [6, 5, 0, 9999, 1, 1, 1, 9999, 9999], w ∈ sFL := mem_of_map [15, 16, 17, 18, 19, 20, 21, 22, 23, 24, 25] (by decide +kernel)
theorem st_eqs : ∀ w ∈ (strTab.take 15).map (fun q => Cond.eq (.string q.1 q.2.1) (.string "PigeonRollsModel" (mIx.getD q.2.2.2 0))), w ∈ sFL := mem_of_map [180, 188, 197, 206, 216, 228, 238, 247, 256, 265, 277, 285, 297, 306, 317] (by decide +kernel)
theorem st_refs : ∀ w ∈ strTab.map (fun q => Cond.stringRef q.1 q.2.1 q.2.2.1), w ∈ tables_1 := mem_of_map [490, 484, 485, 486, 487, 488, 489, 548, 561, 562, 564, 565, 566, 571, 576, 661, 662, 663, 664, 665, 666, 667, 1048, 1057, 1058, 1059, 1060, 1065, 1066, 1067] (by decide +kernel)
theorem tb_lLIFE : Cond.laysStatic "PigeonRolls$Kingdom" "LIFE" "[I" ∈ lw_tbl := List.mem_append_right _ (List.mem_of_getElem? (i := 213) (by decide +kernel))
theorem tb_lUNDER : Cond.laysStatic "PigeonRolls$Kingdom" "UNDER" "[I" ∈ lw_tbl := List.mem_append_right _ (List.mem_of_getElem? (i := 595) (by decide +kernel))
theorem tb_lMOST : Cond.laysStatic "PigeonRolls$Kingdom" "MOST" "[I" ∈ lw_tbl := List.mem_append_right _ (List.mem_of_getElem? (i := 259) (by decide +kernel))
theorem tb_lC : Cond.laysStatic "java/lang/String" "COMPACT_STRINGS" "Z" ∈ lw_tbl := List.mem_append_right _ (List.mem_of_getElem? (i := 504) (by decide +kernel))
theorem tb_lS : Cond.laysStatic "jdk/internal/util/Preconditions" "SIOOBE_FORMATTER" "Ljava/util/function/BiFunction;" ∈ lw_tbl := List.mem_append_right _ (List.mem_of_getElem? (i := 520) (by decide +kernel))
theorem tb_iK : Cond.initialized "PigeonRolls$Kingdom" ∈ lw_tbl := List.mem_append_right _ (List.mem_of_getElem? (i := 2) (by decide +kernel))
theorem tb_iS : Cond.initialized "java/lang/String" ∈ lw_tbl := List.mem_append_right _ (List.mem_of_getElem? (i := 9) (by decide +kernel))
theorem tb_iP : Cond.initialized "jdk/internal/util/Preconditions" ∈ lw_tbl := List.mem_append_right _ (List.mem_of_getElem? (i := 11) (by decide +kernel))
theorem tb_ac : Cond.arrayClass .int ∈ lw_tbl := List.mem_append_right _ (List.mem_of_getElem? (i := 98) (by decide +kernel))
theorem tb_aA : Cond.arrayOver (.array .int) ∈ lw_tbl := List.mem_append_right _ (List.mem_of_getElem? (i := 28) (by decide +kernel))
theorem tb_aX : Cond.arrayOver (.object "PigeonRolls$Sheet") ∈ lw_tbl := List.mem_append_right _ (List.mem_of_getElem? (i := 126) (by decide +kernel))
theorem tb_aS : Cond.arrayOver (.object "java/lang/String") ∈ lw_tbl := List.mem_append_right _ (List.mem_of_getElem? (i := 660) (by decide +kernel))
theorem tb_n0 : Cond.instantiable RX0 16 ∈ lw_tbl := List.mem_append_right _ (List.mem_of_getElem? (i := 22) (by decide +kernel))
theorem tb_n1 : Cond.instantiable RX1 3 ∈ lw_tbl := List.mem_append_right _ (List.mem_of_getElem? (i := 127) (by decide +kernel))
theorem tb_n2 : Cond.instantiable RX2 6 ∈ lw_tbl := List.mem_append_right _ (List.mem_of_getElem? (i := 100) (by decide +kernel))
theorem tb_n3 : Cond.instantiable RX3 7 ∈ lw_tbl := List.mem_append_right _ (List.mem_of_getElem? (i := 14) (by decide +kernel))
theorem tb_n4 : Cond.instantiable RX4 21 ∈ lw_tbl := List.mem_append_right _ (List.mem_of_getElem? (i := 654) (by decide +kernel))
theorem tb_w0 : Cond.methodLinkNest "PigeonRolls$Kingdom" 69 yX3_within "PigeonRolls" ∈ lw_tbl := List.mem_append_right _ (List.mem_of_getElem? (i := 257) (by decide +kernel))
theorem tb_w1 : Cond.methodLinkNest "PigeonRolls" 24 yX2_init "PigeonRolls" ∈ lw_tbl := List.mem_append_right _ (List.mem_of_getElem? (i := 101) (by decide +kernel))
theorem tb_w2 : Cond.methodLinkNest "PigeonRolls" 43 yX1_init "PigeonRolls" ∈ lw_tbl := List.mem_append_right _ (List.mem_of_getElem? (i := 128) (by decide +kernel))
theorem tb_fC : Cond.eq (.static "java/lang/String" "COMPACT_STRINGS" "Z") (.int 1) ∈ sFL := List.mem_of_getElem? (i := 26) (by decide +kernel)
theorem tb_fS : Cond.isRef (.static "jdk/internal/util/Preconditions" "SIOOBE_FORMATTER" "Ljava/util/function/BiFunction;") ∈ sFL := List.mem_of_getElem? (i := 27) (by decide +kernel)
theorem st_all : ∀ i, i < 15 → ∀ w ∈ strA (mIx.getD i 0) (swords.getD i []), w ∈ sFL := fun i hi => match i, hi with
  | 0, _ => st_s0
  | 1, _ => st_s1
  | 2, _ => st_s2
  | 3, _ => st_s3
  | 4, _ => st_s4
  | 5, _ => st_s5
  | 6, _ => st_s6
  | 7, _ => st_s7
  | 8, _ => st_s8
  | 9, _ => st_s9
  | 10, _ => st_s10
  | 11, _ => st_s11
  | 12, _ => st_s12
  | 13, _ => st_s13
  | 14, _ => st_s14
  | n + 15, h => absurd h (by omega)
theorem st_one {args : Array Value} {s : State} {mi : Nat} {bs : List Int32} {A : Nat → Prop} (hN : bs.length < 2 ^ 31) (h : ∀ w ∈ strA mi bs, w.before args s = true) (hA : ∀ a : Nat, a < s.heap.size → ¬ A a) :
    ∃ q : Nat × Nat, (Term.string "PigeonRollsModel" mi).eval args s none [] s = some (.ref q.1) ∧ va_O "java/lang/String" q.1 A s s.heap ∧ va_OF "java/lang/String" "coder" "B" (.int 0) q.1 A s s.heap ∧ va_OF "java/lang/String" "value" "[B" (.ref q.2) q.1 A s s.heap ∧ va_T .byte q.2 bs.length (fun j => .int (bs.getD j 0)) A s s.heap := by
  have h1 : (Cond.exactly (.string "PigeonRollsModel" mi) "java/lang/String").before args s = true := h _ (List.mem_append_left _ (List.mem_of_getElem? (i := 0) rfl))
  have h2 : (Cond.eq (.field (.string "PigeonRollsModel" mi) "java/lang/String" "coder" "B") (.int 0)).before args s = true := h _ (List.mem_append_left _ (List.mem_of_getElem? (i := 1) rfl))
  have h3 : (Cond.arrayOf (strV mi) .byte).before args s = true := h _ (List.mem_append_left _ (List.mem_of_getElem? (i := 2) rfl))
  have h4 : (Cond.eq (.length (strV mi)) (.int (Int32.ofNat bs.length))).before args s = true := h _ (List.mem_append_left _ (List.mem_of_getElem? (i := 3) rfl))
  have h5 : ∀ j : Nat, j < bs.length → (Cond.eq (.elem (strV mi) (.int (Int32.ofNat j))) (.int (bs.getD j 0))).before args s = true := fun j hj => h _ (List.mem_append_right _ (List.mem_map.mpr ⟨j, List.mem_range.mpr hj, rfl⟩))
  obtain ⟨a, c, cA, kA, q1, q2, q3, q4, q5, q6, -⟩ := Cond.exactly_spec (args := args) (first := s) (o := none) (s := s) (idx := []) (t := .string "PigeonRollsModel" mi) (cls := "java/lang/String") h1
  obtain ⟨t, ht, hT⟩ := va_Tof (f := fun j => .int (bs.getD j 0)) (A := A) hN h3 (va_eqt h4) (fun j hj => va_eqt (h5 j hj)) hA
  exact ⟨(a, t), q1, ⟨cA, q3, q5, by rw [q6]; exact q2, hA a (Array.getElem?_eq_some_iff.mp q3).1⟩, vk_OFof q1 (va_eqt h2) hA, vk_OFof q1 ht hA, hT⟩
theorem st_tab {args : Array Value} {s : State} {n : String} {bs : List Int32} {A : Nat → Prop} (hN : bs.length < 2 ^ 31) (hl : (Cond.laysStatic "PigeonRolls$Kingdom" n "[I").before args s = true) (hi : (Cond.initialized "PigeonRolls$Kingdom").before args s = true) (h : ∀ w ∈ zA n bs, w.before args s = true) (hA : ∀ a : Nat, a < s.heap.size → ¬ A a) :
    ∃ t : Nat, va_Z "PigeonRolls$Kingdom" n "[I" (.ref t) A s s.heap ∧ va_T .int t bs.length (fun j => .int (bs.getD j 0)) A s s.heap := by
  have h3 : (Cond.arrayOf (zT n) .int).before args s = true := h _ (List.mem_append_left _ (List.mem_of_getElem? (i := 0) rfl))
  have h4 : (Cond.eq (.length (zT n)) (.int (Int32.ofNat bs.length))).before args s = true := h _ (List.mem_append_left _ (List.mem_of_getElem? (i := 1) rfl))
  have h5 : ∀ j : Nat, j < bs.length → (Cond.eq (.elem (zT n) (.int (Int32.ofNat j))) (.int (bs.getD j 0))).before args s = true := fun j hj => h _ (List.mem_append_right _ (List.mem_map.mpr ⟨j, List.mem_range.mpr hj, rfl⟩))
  obtain ⟨t, ht, hT⟩ := va_Tof (f := fun j => .int (bs.getD j 0)) (A := A) hN h3 (va_eqt h4) (fun j hj => va_eqt (h5 j hj)) hA
  exact ⟨t, va_Zref hl hi ht hA, hT⟩
theorem st_K {args : Array Value} {s : State} (hts : ∀ w ∈ lw_tbl, w.before args s = true) : ∃ (dC : Nat → ClassId) (dI : Nat → Nat → Nat), ∀ (k : Nat) (q : vw_C), vwCl[k]? = some q → u_Kn s q.1 q.2.1 q.2.2 (dC k) (dI k) := by
  obtain ⟨c0, i0, h0⟩ := u_known (C := RX0) (T := TX0) (N := 16) (n := 16) hts inX0 (hts _ tb_n0)
  obtain ⟨c1, i1, h1⟩ := u_known (C := RX1) (T := TX1) (N := 3) (n := 3) hts inX1 (hts _ tb_n1)
  obtain ⟨c2, i2, h2⟩ := u_known (C := RX2) (T := TX2) (N := 6) (n := 6) hts inX2 (hts _ tb_n2)
  obtain ⟨c3, i3, h3⟩ := u_known (C := RX3) (T := TX3) (N := 7) (n := 7) hts inX3 (hts _ tb_n3)
  obtain ⟨c4, i4, h4⟩ := u_known (C := RX4) (T := TX4) (N := 21) (n := 21) hts inX4 (hts _ tb_n4)
  refine ⟨fun k => match k with | 0 => c0 | 1 => c1 | 2 => c2 | 3 => c3 | _ => c4, fun k => match k with | 0 => i0 | 1 => i1 | 2 => i2 | 3 => i3 | _ => i4, ?_⟩
  intro k q hq
  match k, hq with
  | 0, hq => cases hq; exact h0
  | 1, hq => cases hq; exact h1
  | 2, hq => cases hq; exact h2
  | 3, hq => cases hq; exact h3
  | 4, hq => cases hq; exact h4
  | k + 5, hq => simp [vwCl] at hq
theorem st_arr {args : Array Value} {s : State} (hts : ∀ w ∈ lw_tbl, w.before args s = true) : ∃ g : Nat → ClassId, ∀ (k : Nat) (q : ClassId × FieldType), ([(g 0, .int), (g 1, .array .int), (g 2, .object "PigeonRolls$Sheet"), (g 3, .object "java/lang/String")] : List (ClassId × FieldType))[k]? = some q → ArrOfT s q.1 q.2 ∧ va_RA s q.1 q.2 := by
  obtain ⟨c0, k0, p0, a0, a1, a2⟩ := Cond.arrayClass_spec (hts _ tb_ac)
  obtain ⟨p1, c1, k1, b0, -, b1, b2, b3⟩ := arrayOverA_spec (hts _ tb_aA)
  obtain ⟨p2, c2, k2, d0, -, d1, d2, d3⟩ := Cond.arrayOver_spec (hts _ tb_aX)
  obtain ⟨p3, c3, k3, e0, -, e1, e2, e3⟩ := Cond.arrayOver_spec (hts _ tb_aS)
  refine ⟨fun k => match k with | 0 => c0 | 1 => c1 | 2 => c2 | _ => c3, ?_⟩
  intro k q hq
  match k, hq with
  | 0, hq => cases hq; exact ⟨fun n z => ⟨fun k h => (by cases h), k0, a1, p0, a2⟩, a0⟩
  | 1, hq => cases hq; exact ⟨fun n z => ⟨fun k h => (by cases h), k1, b1, p1, b2⟩, b3⟩
  | 2, hq => cases hq; exact ⟨fun n z => ⟨fun k h => (by cases h), k2, d1, p2, d2⟩, k2, p2, d1, d2, d0, d3⟩
  | 3, hq => cases hq; exact ⟨fun n z => ⟨fun k h => (by cases h), k3, e1, p3, e2⟩, k3, p3, e1, e2, e0, e3⟩
  | k + 4, hq => simp at hq
theorem st_len : ∀ i, i < 15 → (swords.getD i []).length < 2 ^ 31 := by decide +kernel
theorem st_mIx : ∀ q ∈ strTab.drop 15, q.1 = "PigeonRollsModel" ∧ q.2.1 = mIx.getD q.2.2.2 0 ∧ q.2.2.2 < 15 := by decide +kernel
theorem st_tIx : ∀ q ∈ strTab.take 15, q.2.2.2 < 15 := by decide +kernel
theorem law_start {args : Array Value} {s : State} (hts : ∀ w ∈ lw_tbl, w.before args s = true) (hgv : (Cond.and given_1 narrow_1).before args s = true) : ∃ G : GT, va_K (gD G) vwCl (gty G) s ∧ Sg G (fun q => s.heap.size ≤ q) s s.heap ∧ En s := by
  have hfl := flat_of_before _ hgv
  have hA : ∀ a : Nat, a < s.heap.size → ¬ (fun q => s.heap.size ≤ q) a := fun a h => Nat.not_le.mpr h
  obtain ⟨dC, dI, hK⟩ := st_K hts
  obtain ⟨g, hg⟩ := st_arr hts
  obtain ⟨t0, z0, y0⟩ := st_tab (bs := [60, 80, 50, 100, 200, 9999, 100]) (by decide) (hts _ tb_lLIFE) (hts _ tb_iK) (fun w h => hfl w (st_zLIFE w h)) hA
  obtain ⟨t1, z1, y1⟩ := st_tab (bs := [-1, 0, 0, 2, 3, 0, 1]) (by decide) (hts _ tb_lUNDER) (hts _ tb_iK) (fun w h => hfl w (st_zUNDER w h)) hA
  obtain ⟨t2, z2, y2⟩ := st_tab (bs := [6, 5, 0, 9999, 1, 1, 1, 9999, 9999]) (by decide) (hts _ tb_lMOST) (hts _ tb_iK) (fun w h => hfl w (st_zMOST w h)) hA
  have hs0 : ∀ i : Nat, ∃ q : Nat × Nat, i < 15 → (Term.string "PigeonRollsModel" (mIx.getD i 0)).eval args s none [] s = some (.ref q.1) ∧ va_O "java/lang/String" q.1 (fun q => s.heap.size ≤ q) s s.heap ∧ va_OF "java/lang/String" "coder" "B" (.int 0) q.1 (fun q => s.heap.size ≤ q) s s.heap ∧ va_OF "java/lang/String" "value" "[B" (.ref q.2) q.1 (fun q => s.heap.size ≤ q) s s.heap ∧ va_T .byte q.2 (swords.getD i []).length (fun j => .int ((swords.getD i []).getD j 0)) (fun q => s.heap.size ≤ q) s s.heap := by
    intro i
    by_cases hi : i < 15
    · obtain ⟨q, hq⟩ := st_one (A := fun q => s.heap.size ≤ q) (st_len i hi) (fun w h => hfl w (st_all i hi w h)) hA
      exact ⟨q, fun _ => hq⟩
    · exact ⟨(0, 0), fun h => absurd h hi⟩
  obtain ⟨ad, had⟩ := Classical.axiomOfChoice hs0
  refine ⟨(dC, dI, g, (fun k => match k with | 0 => t0 | 1 => t1 | _ => t2), (fun i => (ad i).1), (fun i => (ad i).2)), ⟨hK, hg⟩, ⟨⟨z0, y0⟩, ⟨z1, y1⟩, ⟨z2, y2⟩, ⟨va_Zof (hts _ tb_lC) (hts _ tb_iS) (va_eqi (hfl _ tb_fC)) hA, va_Zqof (hts _ tb_lS) (hts _ tb_iP) (hfl _ tb_fS) hA, va_Nw.of rfl (hts _ tb_w0)⟩, fun i hi => (had i hi).2, ?_⟩, ⟨hts _ tb_aA, va_AO.of (hts _ tb_aX), va_AO.of (hts _ tb_aS), va_Nw.of rfl (hts _ tb_w1), va_Nw.of rfl (hts _ tb_w2)⟩⟩
  intro q hq
  have h1 : (Cond.stringRef q.1 q.2.1 q.2.2.1).before args s = true := hts _ (List.mem_append_right _ (st_refs _ (List.mem_map.mpr ⟨q, hq, rfl⟩)))
  rw [← List.take_append_drop 15 strTab] at hq
  rcases List.mem_append.mp hq with h | h
  · have h2 := hfl _ (st_eqs _ (List.mem_map.mpr ⟨q, h, rfl⟩))
    exact vk_R.of h1 (va_eqv h2 (had _ (st_tIx q h)).1)
  · obtain ⟨e1, e2, e3⟩ := st_mIx q h
    refine vk_R.of h1 ?_
    rw [e1, e2]
    exact (had _ e3).1
