/-! ===== the layer: globals, static facts, worlds, frames, contracts ===== -/
abbrev GT : Type := (Nat → ClassId) × (Nat → Nat → Nat) × (Nat → ClassId) × (Nat → Nat) × (Nat → Nat) × (Nat → Nat)
abbrev gD (G : GT) : va_G := (G.1, G.2.1)
abbrev gc (G : GT) (k : Nat) : ClassId := G.2.2.1 k
abbrev gt (G : GT) (k : Nat) : Nat := G.2.2.2.1 k
abbrev gk (G : GT) (k : Nat) : Nat := G.2.2.2.2.1 k
abbrev gv (G : GT) (k : Nat) : Nat := G.2.2.2.2.2 k
abbrev gty (G : GT) : List (ClassId × FieldType) := [(gc G 0, .int), (gc G 1, .array .int), (gc G 2, .object "PigeonRolls$Sheet"), (gc G 3, .object "java/lang/String")]
def tbLife (i : Nat) : Int32 := ([60, 80, 50, 100, 200, 9999, 100] : List Int32).getD i 0
def tbUnder (i : Nat) : Int32 := ([-1, 0, 0, 2, 3, 0, 1] : List Int32).getD i 0
def tbMost (i : Nat) : Int32 := ([6, 5, 0, 9999, 1, 1, 1, 9999, 9999] : List Int32).getD i 0
def swords : List (List Int32) := [[98, 105, 114, 100], [104, 101, 110], [99, 111, 99, 107], [100, 117, 107, 101], [101, 97, 103, 108, 101], [106, 97, 99, 107, 100, 97, 119], [119, 105, 100, 111, 119], [108, 111, 102, 116], [102, 114, 111, 109], [97, 103, 101, 100], [99, 97, 114, 114, 105, 101, 100], [98, 111, 121], [104, 97, 114, 118, 101, 115, 116], [99, 111, 114, 110], [115, 116, 114, 105, 107, 101]]
def slen (i : Nat) : Nat := (swords.getD i []).length
def sch (i j : Nat) : Int32 := (swords.getD i []).getD j 0
def strTab : List (String × Nat × String × Nat) := [("PigeonRolls$Tape", 109, "bird", 0), ("PigeonRolls$Tape", 97, "hen", 1), ("PigeonRolls$Tape", 99, "cock", 2), ("PigeonRolls$Tape", 101, "duke", 3), ("PigeonRolls$Tape", 103, "eagle", 4), ("PigeonRolls$Tape", 105, "jackdaw", 5), ("PigeonRolls$Tape", 107, "widow", 6), ("PigeonRolls$Tape", 117, "loft", 7), ("PigeonRolls$Tape", 123, "from", 8), ("PigeonRolls$Tape", 128, "aged", 9), ("PigeonRolls$Tape", 140, "carried", 10), ("PigeonRolls$Tape", 144, "boy", 11), ("PigeonRolls$Tape", 78, "harvest", 12), ("PigeonRolls$Tape", 83, "corn", 13), ("PigeonRolls$Tape", 88, "strike", 14), ("PigeonRollsModel", 30, "bird", 0), ("PigeonRollsModel", 32, "hen", 1), ("PigeonRollsModel", 34, "cock", 2), ("PigeonRollsModel", 36, "duke", 3), ("PigeonRollsModel", 38, "eagle", 4), ("PigeonRollsModel", 40, "jackdaw", 5), ("PigeonRollsModel", 42, "widow", 6), ("PigeonRollsModel", 265, "loft", 7), ("PigeonRollsModel", 273, "from", 8), ("PigeonRollsModel", 275, "aged", 9), ("PigeonRollsModel", 277, "carried", 10), ("PigeonRollsModel", 279, "boy", 11), ("PigeonRollsModel", 288, "harvest", 12), ("PigeonRollsModel", 290, "corn", 13), ("PigeonRollsModel", 292, "strike", 14)]
def sg_Z (G : GT) (k : Nat) (n : String) (N : Nat) (f : Nat → Int32) (A : Nat → Prop) (U : State) (H : Heap) : Prop := va_Z "PigeonRolls$Kingdom" n "[I" (.ref (gt G k)) A U H ∧ va_T .int (gt G k) N (fun j => .int (f j)) A U H
def sg_J (A : Nat → Prop) (U : State) (H : Heap) : Prop := va_Z "java/lang/String" "COMPACT_STRINGS" "Z" (.int 1) A U H ∧ va_Zq "jdk/internal/util/Preconditions" "SIOOBE_FORMATTER" "Ljava/util/function/BiFunction;" A U H ∧ va_Nw (.methodLinkNest RX0 69 yX3_within RX3) U
def sg_W (G : GT) (i : Nat) (A : Nat → Prop) (U : State) (H : Heap) : Prop := va_O "java/lang/String" (gk G i) A U H ∧ va_OF "java/lang/String" "coder" "B" (.int 0) (gk G i) A U H ∧ va_OF "java/lang/String" "value" "[B" (.ref (gv G i)) (gk G i) A U H ∧ va_T .byte (gv G i) (slen i) (fun j => .int (sch i j)) A U H
def Sg (G : GT) (A : Nat → Prop) (U : State) (H : Heap) : Prop := sg_Z G 0 "LIFE" 7 tbLife A U H ∧ sg_Z G 1 "UNDER" 7 tbUnder A U H ∧ sg_Z G 2 "MOST" 9 tbMost A U H ∧ sg_J A U H ∧ (∀ i, i < 15 → sg_W G i A U H) ∧ ∀ q ∈ strTab, vk_R q.1 q.2.1 q.2.2.1 (gk G q.2.2.2) U
theorem sg_Z.to {G : GT} {k : Nat} {n : String} {N : Nat} {f : Nat → Int32} {A B : Nat → Prop} {s U : State} {H H1 : Heap} (hvm : s.vm.Alike U.vm) (hq : ∀ a : Nat, a < H.size → ¬ A a → H1[a]? = H[a]?) (hAB : ∀ q, B q → A q) (h : sg_Z G k n N f A s H) : sg_Z G k n N f B U H1 :=
  ⟨va_Z.moved hvm ((h.1.kept hq).narrow hAB), va_T.moved hvm ((h.2.kept hq).narrow hAB)⟩
theorem sg_J.to {A B : Nat → Prop} {s U : State} {H H1 : Heap} (hn : va_Nw (.methodLinkNest RX0 69 yX3_within RX3) s → va_Nw (.methodLinkNest RX0 69 yX3_within RX3) U) (hvm : s.vm.Alike U.vm) (hq : ∀ a : Nat, a < H.size → ¬ A a → H1[a]? = H[a]?) (hAB : ∀ q, B q → A q) (h : sg_J A s H) : sg_J B U H1 :=
  ⟨va_Z.moved hvm ((h.1.kept hq).narrow hAB), va_Zq.moved hvm ((h.2.1.kept hq).narrow hAB), hn h.2.2⟩
theorem sg_W.to {G : GT} {i : Nat} {A B : Nat → Prop} {s U : State} {H H1 : Heap} (hvm : s.vm.Alike U.vm) (hq : ∀ a : Nat, a < H.size → ¬ A a → H1[a]? = H[a]?) (hAB : ∀ q, B q → A q) (h : sg_W G i A s H) : sg_W G i B U H1 :=
  ⟨va_O.moved hvm ((h.1.kept hq).narrow hAB), va_OF.moved hvm ((h.2.1.kept hq).narrow hAB), va_OF.moved hvm ((h.2.2.1.kept hq).narrow hAB), va_T.moved hvm ((h.2.2.2.kept hq).narrow hAB)⟩
theorem Sg.to {G : GT} {A B : Nat → Prop} {s U : State} {H H1 : Heap} (hvm : s.vm.Alike U.vm) (hq : ∀ a : Nat, a < H.size → ¬ A a → H1[a]? = H[a]?) (hAB : ∀ q, B q → A q) (hr : ∀ (o : String) (k : Nat) (tx : String) (a : Nat), vk_R o k tx a s → vk_R o k tx a U) (hn : va_Nw (.methodLinkNest RX0 69 yX3_within RX3) s → va_Nw (.methodLinkNest RX0 69 yX3_within RX3) U) (h : Sg G A s H) : Sg G B U H1 :=
  ⟨h.1.to hvm hq hAB, h.2.1.to hvm hq hAB, h.2.2.1.to hvm hq hAB, h.2.2.2.1.to hn hvm hq hAB, fun i hi => (h.2.2.2.2.1 i hi).to hvm hq hAB, fun q hm => hr _ _ _ _ (h.2.2.2.2.2 q hm)⟩
/-- what stands at a point of a method's walk -/
def Fr (G : GT) (A : Nat → Prop) (s : State) (w : va_W) (H : Heap) (locs : List Loc) : Prop :=
  va_P (gD G) vwCl w H ∧ va_D A w ∧ va_S A s.heap H locs ∧ va_K (gD G) vwCl (gty G) s ∧ (∀ q, s.heap.size ≤ q → A q) ∧ Sg G A s s.heap
def CPre (G : GT) (w : va_W) (sz : Nat) : State → Prop := fun U => U.heap.size = sz ∧ va_P (gD G) vwCl w U.heap ∧ va_K (gD G) vwCl (gty G) U ∧ va_D (fun _ => True) w ∧ Sg G (va_A w sz) U U.heap
def CPost (G : GT) (w : va_W) (sz : Nat) (o : Option Value) (w' : va_W) : Array Value → State → Outcome → State → Prop := fun _ st oc t => oc = .returned o ∧ va_P (gD G) vwCl w' t.heap ∧ va_F (va_A w sz) st t
/-- a method's contract: over the world w, with the arguments av, it answers o, and the world is w' -/
def Ct (l : Launch) (G : GT) (y : MethodName) (ws : List Cond) (rm : Room) (av : List Value) (w : va_W) (o : Option Value) (w' : va_W) : Prop := ∀ sz : Nat, Met l y ws rm (va_Pc av (CPre G w sz)) (CPost G w sz o w') 0 0 (va_A w sz)
theorem CPre.blind {G : GT} {w : va_W} {sz : Nat} {av : List Value} : FrameBlind (va_Pc av (CPre G w sz)) := by
  intro a U g mk q
  obtain ⟨q0, q1, qP, qK, qD, qS⟩ := q
  exact ⟨q0, q1, qP, va_K.moved (u := U) (U := U.calling g mk a) (Vm.Alike.refl U.vm) qK, qD, qS.to (U := U.calling g mk a) (Vm.Alike.refl U.vm) (fun _ _ _ => rfl) (fun _ h => h) (fun _ _ _ _ h => h.same rfl) (fun h => h.same rfl rfl)⟩
theorem va_P_iff {D : va_G} {cl : List vw_C} {w : va_W} {H : Heap} : va_P D cl w H ↔ ∀ q ∈ w, va_at D cl q H := by
  refine ⟨fun h q hq => ?_, fun h k q hk => h q (List.mem_of_getElem? hk)⟩
  obtain ⟨k, hk⟩ := List.mem_iff_getElem?.mp hq
  exact h k q hk
theorem va_D.same {A : Nat → Prop} {w w1 : va_W} (h : va_D A w) (e : w1.map Prod.fst = w.map Prod.fst) : va_D A w1 := by
  have key : ∀ (k : Nat) (q : Nat × va_E), w1[k]? = some q → ∃ q', w[k]? = some q' ∧ q'.1 = q.1 := by
    intro k q hk
    have h1 : (w1.map Prod.fst)[k]? = some q.1 := by rw [List.getElem?_map, hk]; rfl
    rw [e, List.getElem?_map] at h1
    cases hq : w[k]? with
    | none => rw [hq] at h1; cases h1
    | some q' => rw [hq] at h1; exact ⟨q', rfl, Option.some.inj h1⟩
  refine ⟨fun i j x y hi hj hxy => ?_, fun k q hk => ?_⟩
  · obtain ⟨x', a1, a2⟩ := key i x hi
    obtain ⟨y', b1, b2⟩ := key j y hj
    exact h.1 i j x' y' a1 b1 (by rw [a2, b2]; exact hxy)
  · obtain ⟨q', a1, a2⟩ := key k q hk
    rw [← a2]
    exact h.2 k q' a1
theorem fr_join {D : va_G} {cl : List vw_C} {A : Nat → Prop} {a w b w1 : va_W} {H H1 : Heap} (hP : va_P D cl (a ++ (w ++ b)) H) (hD : va_D A (a ++ (w ++ b))) (hk : ∀ q : Nat, q < H.size → ¬ va_A w H.size q → H1[q]? = H[q]?) (hP1 : va_P D cl w1 H1) (hsm : w1.map Prod.fst = w.map Prod.fst) : va_P D cl (a ++ (w1 ++ b)) H1 ∧ va_D A (a ++ (w1 ++ b)) := by
  refine ⟨?_, hD.same (by rw [List.map_append, List.map_append, List.map_append, List.map_append, hsm])⟩
  rw [va_P_iff] at hP hP1 ⊢
  intro q hq
  have inw : ∀ (k : Nat) (e : va_E), w[k]? = some (q.1, e) → (a ++ (w ++ b))[a.length + k]? = some (q.1, e) := by
    intro k e h
    have hl : k < w.length := (List.getElem?_eq_some_iff.mp h).1
    rw [List.getElem?_append_right (by omega), show a.length + k - a.length = k by omega, List.getElem?_append_left hl]
    exact h
  have kept : ∀ i, (a ++ (w ++ b))[i]? = some q → (i < a.length ∨ a.length + w.length ≤ i) → va_at D cl q H1 := by
    intro i hi hor
    have hin : q ∈ a ++ (w ++ b) := List.mem_of_getElem? hi
    have hlt := (hP q hin).lt
    refine (hP q hin).kept (hk q.1 hlt ?_)
    rintro (⟨k, e, h⟩ | h)
    · have hl : k < w.length := (List.getElem?_eq_some_iff.mp h).1
      have := hD.1 i (a.length + k) q (q.1, e) hi (inw k e h) rfl
      omega
    · omega
  rcases List.mem_append.mp hq with h | h
  · obtain ⟨i, hi⟩ := List.mem_iff_getElem?.mp h
    have hl : i < a.length := (List.getElem?_eq_some_iff.mp hi).1
    exact kept i (by rw [List.getElem?_append_left hl]; exact hi) (Or.inl hl)
  · rcases List.mem_append.mp h with h | h
    · exact hP1 q h
    · obtain ⟨i, hi⟩ := List.mem_iff_getElem?.mp h
      refine kept (a.length + (w.length + i)) ?_ (Or.inr (by omega))
      rw [List.getElem?_append_right (by omega), show a.length + (w.length + i) - a.length = w.length + i by omega, List.getElem?_append_right (by omega), show w.length + i - w.length = i by omega]
      exact hi
theorem fr_part {D : va_G} {cl : List vw_C} {a w b : va_W} {H : Heap} (hP : va_P D cl (a ++ (w ++ b)) H) : va_P D cl w H := by
  rw [va_P_iff] at hP ⊢
  exact fun q h => hP q (List.mem_append_right _ (List.mem_append_left _ h))
theorem fr_partD {A : Nat → Prop} {a w b : va_W} (hD : va_D A (a ++ (w ++ b))) : va_D (fun _ => True) w := by
  have inw : ∀ (k : Nat) (q : Nat × va_E), w[k]? = some q → (a ++ (w ++ b))[a.length + k]? = some q := by
    intro k q h
    have hl : k < w.length := (List.getElem?_eq_some_iff.mp h).1
    rw [List.getElem?_append_right (by omega), show a.length + k - a.length = k by omega, List.getElem?_append_left hl]
    exact h
  refine ⟨fun i j p q hi hj hpq => ?_, fun _ _ _ => trivial⟩
  have := hD.1 _ _ p q (inw i p hi) (inw j q hj) hpq
  omega
theorem fr_free {A : Nat → Prop} {a w b : va_W} {H0 H : Heap} {locs : List Loc} (hD : va_D A (a ++ (w ++ b))) (hS : va_S A H0 H locs) (hA : ∀ q, H0.size ≤ q → A q) : ∀ q, va_A w H.size q → A q := by
  rintro q (⟨k, e, h⟩ | h)
  · have hl : k < w.length := (List.getElem?_eq_some_iff.mp h).1
    refine hD.2 (a.length + k) (q, e) ?_
    rw [List.getElem?_append_right (by omega), show a.length + k - a.length = k by omega, List.getElem?_append_left hl]
    exact h
  · exact hA q (Nat.le_trans hS.1 h)
theorem gd_some {α : Type} {c : Prop} {i : Decidable c} {a : Option α} {x : α} (h : (@ite _ c i a none) = some x) : c ∧ a = some x := by
  by_cases hc : c
  · rw [if_pos hc] at h; exact ⟨hc, h⟩
  · rw [if_neg hc] at h; cases h
abbrev irem (x y : Int32) : Int32 := x - x / y * y
abbrev iushr (x y : Int32) : Int32 := (x.toUInt32 >>> (y.toUInt32 &&& Int32.toUInt32 31)).toInt32
abbrev imin (x y : Int32) : Int32 := if y < x then y else x
abbrev imax (x y : Int32) : Int32 := if x < y then y else x
def shc {α : Type} (o : Option Nat) (a : α) (f : Nat → α) : α := match o with
  | none => a
  | some j => f j
theorem shc_none {α : Type} {a : α} {f : Nat → α} : shc none a f = a := rfl
theorem shc_some {α : Type} {j : Nat} {a : α} {f : Nat → α} : shc (some j) a f = f j := rfl
theorem nz {v : Int32} (h : v = 0 ∨ v = 1) : narrow .boolean (.int v) = .int v := by rcases h with rfl | rfl <;> decide
abbrev ix (i : Int32) (n : Nat) : Prop := ¬ (i < 0 ∨ n ≤ i.toNatClampNeg)
theorem ix_lt {i : Int32} {n : Nat} (h : ix i n) : i.toNatClampNeg < n := Nat.not_le.mp fun q => h (Or.inr q)
section LAY
variable {p : Program} {l : Launch} {e : Env} {R : Room} {s : State} {m : MethodId} {args : Array Value} {below : List Frame} {meth : Method} {c : Code} {H : Heap} {locs : List Loc} {cells slots : Nat} {Q : State → Prop}
variable {G : GT} {A : Nat → Prop} {ww : va_W} {cc : ByteArray} {pc nL : Nat} {ls : Array Slot} {rest st0 : List Value} {Ts : List Cond} {own : String}
theorem Ct.of {y : MethodName} {ws ws' : List Cond} {rm : Room} {av : List Value} {w w' : va_W} {o : Option Value} (cc : ByteArray) (maxL : Nat) (ret : Option FieldType) (hy : plainName y.cls = true) (hw : ws = Cond.code y cc maxL ret :: ws') (hav : (lg_sl av).length ≤ maxL)
    (body : ∀ (p : Program) (e : Env) (s : State) (m : MethodId) (below : List Frame) (meth : Method) (c : Code) (ls : Array Slot), CallFix p m c cc maxL s av.toArray ws y.cls → meth.sig.returnType = ret → meth.locks = false → Fr G (va_A w s.heap.size) s w s.heap [] → lv_has ls maxL (lv_args 0 av) → W p l e rm s m av.toArray below meth c s.heap [] 0 0 (MQ below (CPost G w s.heap.size o w') av.toArray s 0 0 (va_A w s.heap.size)) (F0 m 0 ls [])) : Ct l G y ws rm av w o w' := by
  intro sz
  refine Met.ofW (cc := cc) (maxL := maxL) (ret := ret) hy hw ?_
  intro p e s m args below meth c s₁ B hml hv
  obtain ⟨rfl, hsz, hP, hK, hD0, hG⟩ := hv
  subst hsz
  have hown : s.vm.findClass y.cls = some m.cls := findClass_of_methodNamed B.named
  have hl := lv_entry av (n := maxL) hav
  rw [lg_entry_eq]
  exact body p e s m below meth c _ ⟨B.exec, B.bytes, hml, hown, atoms_spec (ws := ws) B.pre⟩ B.returns B.notSynchronized ⟨hP, hD0.self, va_S.rf, hK, fun q h => Or.inr h, hG⟩ hl
theorem g_iret {w w1 w' : va_W} {sz : Nat} {v r : Int32} (S : CallFix p m c cc nL s args Ts own) (hr : meth.sig.returnType = some .int) (hlocks : meth.locks = false) (hf : Fr G (va_A w sz) s w1 H locs) (ev : v = r) (ew : w1 = w') (hdg : decode cc pc = .ok (.ireturn, 1)) : W p l e R s m args below meth c H locs cells slots (MQ below (CPost G w sz (some (.int r)) w') args s cells slots (va_A w sz)) (F0 m pc ls [.int v]) := by
  subst ev; subst ew
  exact W.iret S.1 S.2.1 hr (fun t ht _ => ⟨rfl, by rw [ht]; exact hf.1, hf.2.2.1.F ht⟩) hf.2.2.1.2.2 hdg hlocks
theorem g_zret {w w1 w' : va_W} {sz : Nat} {v r : Int32} {ty : FieldType} (S : CallFix p m c cc nL s args Ts own) (hr : meth.sig.returnType = some ty) (hlocks : meth.locks = false) (hf : Fr G (va_A w sz) s w1 H locs) (hn : narrow ty (.int v) = .int v) (ev : v = r) (ew : w1 = w') (hdg : decode cc pc = .ok (.ireturn, 1)) : W p l e R s m args below meth c H locs cells slots (MQ below (CPost G w sz (some (.int r)) w') args s cells slots (va_A w sz)) (F0 m pc ls [.int v]) := by
  subst ev; subst ew
  exact W.zret S.1 S.2.1 hr hn (fun t ht _ => ⟨rfl, by rw [ht]; exact hf.1, hf.2.2.1.F ht⟩) hf.2.2.1.2.2 hdg hlocks
theorem g_lret {w w1 w' : va_W} {sz : Nat} {v r : Int64} (S : CallFix p m c cc nL s args Ts own) (hr : meth.sig.returnType = some .long) (hlocks : meth.locks = false) (hf : Fr G (va_A w sz) s w1 H locs) (ev : v = r) (ew : w1 = w') (hdg : decode cc pc = .ok (.lreturn, 1)) : W p l e R s m args below meth c H locs cells slots (MQ below (CPost G w sz (some (.long r)) w') args s cells slots (va_A w sz)) (F0 m pc ls [.long v]) := by
  subst ev; subst ew
  exact W.lret S.1 S.2.1 hr (fun t ht _ => ⟨rfl, by rw [ht]; exact hf.1, hf.2.2.1.F ht⟩) hf.2.2.1.2.2 hdg hlocks
theorem g_vret {w w1 w' : va_W} {sz : Nat} (S : CallFix p m c cc nL s args Ts own) (hr : meth.sig.returnType = none) (hlocks : meth.locks = false) (hf : Fr G (va_A w sz) s w1 H locs) (ew : w1 = w') (hdg : decode cc pc = .ok (.return_, 1)) : W p l e R s m args below meth c H locs cells slots (MQ below (CPost G w sz none w') args s cells slots (va_A w sz)) (F0 m pc ls []) := by
  subst ew
  exact W.vret S.1 S.2.1 hr (fun t ht _ => ⟨rfl, by rw [ht]; exact hf.1, hf.2.2.1.F ht⟩) hf.2.2.1.2.2 hdg hlocks
theorem g_aret {w w1 w' : va_W} {sz : Nat} {v r : Value} {rt : String} (S : CallFix p m c cc nL s args Ts own) (hr : meth.sig.returnType = some (.object rt)) (hlocks : meth.locks = false) (hf : Fr G (va_A w sz) s w1 H locs) (hv : v = .null ∨ ∃ a, v = .ref a) (ev : v = r) (ew : w1 = w') (hdg : decode cc pc = .ok (.areturn, 1)) : W p l e R s m args below meth c H locs cells slots (MQ below (CPost G w sz (some r) w') args s cells slots (va_A w sz)) (F0 m pc ls [v]) := by
  subst ev; subst ew
  exact W.aret S.1 S.2.1 hr (Or.inl ⟨_, rfl⟩) hv (fun t ht _ => ⟨rfl, by rw [ht]; exact hf.1, hf.2.2.1.F ht⟩) hf.2.2.1.2.2 hdg hlocks
theorem g_get {ref C : String} {T : u_T} {N ci index a : Nat} (S : CallFix p m c cc nL s args Ts own) (hf : Fr G A s ww H locs) (hin : ∀ w ∈ u_ws C T N, w ∈ Ts) (q0 : Nat) {fs : List Value} (he : ww[q0]? = some (a, .inr (ci, fs))) (hc : vwCl[ci]? = some (C, T, N)) (k : Nat) (hk : k < N) (hlink : Cond.fieldLink own index ref (T k).2.1 (T k).2.2.1 ∈ Ts) (hsame : (T k).1 = ref) {v : Value} (hv : fs[k]? = some v) (hdg : decode cc pc = .ok (.getfield index, 3))
    (kk : W p l e R s m args below meth c H locs cells slots Q (F0 m (pc + 3) ls (v :: rest))) : W p l e R s m args below meth c H locs cells slots Q (F0 m pc ls (.ref a :: rest)) :=
  va_get S.1 S.2.1 S.2.2.2.2 hin S.2.2.2.1 hf.2.2.2.1 hf.1 q0 he hc k hk (S.2.2.2.2 _ hlink) (fun x h => by rw [hsame] at h; exact h) hv hdg kk
theorem g_put {ref C : String} {T : u_T} {N ci index a : Nat} {ww' : va_W} (S : CallFix p m c cc nL s args Ts own) (hf : Fr G A s ww H locs) (hin : ∀ w ∈ u_ws C T N, w ∈ Ts) (ty0 : Nat → FieldType) (hty : ∀ k, k < N → parseFieldDescriptor (T k).2.2.1 = some (ty0 k)) (hnm : ∀ a, a < N → ∀ b, b < N → a ≠ b → (T a).2.1 ≠ (T b).2.1) (q0 : Nat) {fs : List Value} (he : ww[q0]? = some (a, .inr (ci, fs))) (hc : vwCl[ci]? = some (C, T, N)) (k : Nat) (hk : k < N) (hlink : Cond.fieldLink own index ref (T k).2.1 (T k).2.2.1 ∈ Ts) (hsame : (T k).1 = ref) (hfin : (T k).2.2.2 = false) {v : Value} (hn : narrow (ty0 k) v = v) (hfit : fits (ty0 k) v = true) (hl : k < fs.length) (hw : ww.set q0 (a, .inr (ci, fs.set k v)) = ww')
    (hdg : decode cc pc = .ok (.putfield index, 3)) (kk : ∀ (H1 : Heap) (locs1 : List Loc), Fr G A s ww' H1 locs1 → W p l e R s m args below meth c H1 locs1 cells slots Q (F0 m (pc + 3) ls rest)) : W p l e R s m args below meth c H locs cells slots Q (F0 m pc ls (v :: .ref a :: rest)) := by
  subst hw
  exact va_put S.1 S.2.1 S.2.2.2.2 hin ty0 hty hnm S.2.2.2.1 hf.2.2.2.1 hf.1 hf.2.1 hf.2.2.1 q0 he hc k hk (S.2.2.2.2 _ hlink) (fun x h => by rw [hsame] at h; exact h) hfin (hty k hk) hn hfit hl hdg (fun H1 locs1 h1 h2 h3 => kk H1 locs1 ⟨h1, h2, h3, hf.2.2.2⟩)
theorem g_ald {a n : Nat} {f : Nat → Int32} {i : Int32} (S : CallFix p m c cc nL s args Ts own) (hf : Fr G A s ww H locs) (q0 : Nat) (ha : ww[q0]? = some (a, .inl (gc G 0, n, .inl f))) (hin : ix i n) {v : Int32} (hv : f i.toNatClampNeg = v) (hdg : decode cc pc = .ok (.iaload, 1))
    (kk : W p l e R s m args below meth c H locs cells slots Q (F0 m (pc + 1) ls (.int v :: rest))) : W p l e R s m args below meth c H locs cells slots Q (F0 m pc ls (.int i :: .ref a :: rest)) := by
  subst hv
  exact va_iald S.1 S.2.1 hf.2.2.2.1 hf.1 q0 0 ha rfl hin hdg kk
theorem g_ast {a n : Nat} {f : Nat → Int32} {i x : Int32} {ww' : va_W} (S : CallFix p m c cc nL s args Ts own) (hf : Fr G A s ww H locs) (q0 : Nat) (ha : ww[q0]? = some (a, .inl (gc G 0, n, .inl f))) (hin : ix i n) (hw : ww.set q0 (a, .inl (gc G 0, n, .inl (upd f i.toNatClampNeg x))) = ww') (hdg : decode cc pc = .ok (.iastore, 1))
    (kk : ∀ (H1 : Heap) (locs1 : List Loc), Fr G A s ww' H1 locs1 → W p l e R s m args below meth c H1 locs1 cells slots Q (F0 m (pc + 1) ls rest)) : W p l e R s m args below meth c H locs cells slots Q (F0 m pc ls (.int x :: .int i :: .ref a :: rest)) := by
  subst hw
  exact va_iast S.1 S.2.1 hf.2.2.2.1 hf.1 hf.2.1 hf.2.2.1 q0 0 ha rfl hin hdg (fun H1 locs1 h1 h2 h3 => kk H1 locs1 ⟨h1, h2, h3, hf.2.2.2⟩)
/-- a load out of an array of references: of rows (kind 1), of sheets (2), of texts (3) -/
theorem g_aald {a n t0 : Nat} {cA : ClassId} {ty : FieldType} {f : Nat → Option Nat} {i : Int32} (S : CallFix p m c cc nL s args Ts own) (hf : Fr G A s ww H locs) (q0 : Nat) (ha : ww[q0]? = some (a, .inl (cA, n, .inr (.inr (.inr (.inr f)))))) (ht : (gty G)[t0]? = some (cA, ty)) (hty : ty.isReference = true) (hin : ix i n) {v : Nat} (hv : f i.toNatClampNeg = some v) (hdg : decode cc pc = .ok (.aaload, 1))
    (kk : W p l e R s m args below meth c H locs cells slots Q (F0 m (pc + 1) ls (.ref v :: rest))) : W p l e R s m args below meth c H locs cells slots Q (F0 m pc ls (.int i :: .ref a :: rest)) := by
  have hlt : i.toNatClampNeg < n := Nat.not_le.mp fun q => hin (Or.inr q)
  refine W.aald (v := .ref v) (ty := ty) S.1 S.2.1 (hf.1 q0 _ ha) ((hf.2.2.2.1.2 t0 _ ht).1 n (fun j => va_rf (f j))) hty (fun q => by cases q) (by show ¬ (i < 0 ∨ (arrV _ _ _).slots.size ≤ _); rw [arrV_size]; exact hin) (by show (arrV _ _ _).slots[_]? = _; rw [arrV_read _ _ hlt, hv]; rfl) rfl rfl hdg kk
/-- a table's place -/
theorem g_gets {k : Nat} {nm : String} {N : Nat} {f : Nat → Int32} {index : Nat} (S : CallFix p m c cc nL s args Ts own) (hf : Fr G A s ww H locs) (hZ : sg_Z G k nm N f A s s.heap) (hlink : Cond.fieldLink own index "PigeonRolls$Kingdom" nm "[I" ∈ Ts) (hdg : decode cc pc = .ok (.getstatic index, 3))
    (kk : W p l e R s m args below meth c H locs cells slots Q (F0 m (pc + 3) ls (.ref (gt G k) :: rest))) : W p l e R s m args below meth c H locs cells slots Q (F0 m pc ls rest) :=
  va_gets S.1 S.2.1 hZ.1 hf.2.2.1 S.2.2.2.1 (S.2.2.2.2 _ hlink) (fun _ h => h) hdg kk
theorem g_tald {k : Nat} {nm : String} {N : Nat} {f : Nat → Int32} {i : Int32} (S : CallFix p m c cc nL s args Ts own) (hf : Fr G A s ww H locs) (hZ : sg_Z G k nm N f A s s.heap) (hin : ix i N) (hdg : decode cc pc = .ok (.iaload, 1))
    (kk : W p l e R s m args below meth c H locs cells slots Q (F0 m (pc + 1) ls (.int (f i.toNatClampNeg) :: rest))) : W p l e R s m args below meth c H locs cells slots Q (F0 m pc ls (.int i :: .ref (gt G k) :: rest)) :=
  va_ti S.1 S.2.1 hZ.2 hf.2.2.1 hin rfl hdg kk
theorem g_run {y : MethodName} {w w1 a b : va_W} {o : Option Value} {argv : Array Value} {g : JFrame} (hf : Fr G A s ww H locs) (hw : ww = a ++ (w ++ b)) (hsm : w1.map Prod.fst = w.map Prod.fst) (hg : g = F0 m pc ls st0)
    (hrun : va_Run p l e R s m args below meth c H locs cells slots 0 0 g rest (CPost G w H.size o w1 argv) (va_A w H.size))
    (kk : ∀ (H1 : Heap) (locs1 : List Loc), Fr G A s (a ++ (w1 ++ b)) H1 locs1 → W p l e R s m args below meth c H1 locs1 cells slots Q (F0 m (pc + 3) ls (o.toList ++ rest))) : W p l e R s m args below meth c H locs cells slots Q (F0 m pc ls st0) := by
  subst hw; subst hg
  intro T hT X
  obtain ⟨v, st₀, t, T', L, h0, X', hL, e1, e2, ⟨hv, hP1, hz, hk⟩, st⟩ := hrun T hT X
  have hv := Outcome.returned.inj hv
  subst hv
  rw [h0] at hz hk
  obtain ⟨hP, hD, hS, hK, hA, hG⟩ := hf
  have hF := fr_free hD hS hA
  have hk' : ∀ q : Nat, q < H.size → ¬ va_A w H.size q → T'.heap[q]? = H[q]? := fun q h1 h2 => by rw [e1]; exact hk q h1 h2
  obtain ⟨hP', hD'⟩ := fr_join hP hD hk' (by rw [e1]; exact hP1) hsm
  obtain ⟨t2, a1, b1⟩ := kk T'.heap (locs ++ L) ⟨hP', hD', ⟨Nat.le_trans hS.1 (by rw [e1]; exact hz), fun q h1 h2 => by rw [hk' q (Nat.lt_of_lt_of_le h1 hS.1) (fun z => h2 (hF q z))]; exact hS.2.1 q h1 h2, fun q hq => by
      rcases List.mem_append.mp hq with h | h
      · exact hS.2.2 q h
      · exact hF _ (hL q h)⟩, hK, hA, hG⟩ T' rfl X'
  exact ⟨t2, st t2 a1, b1⟩
theorem g_pre {w a b : va_W} {av : List Value} (hf : Fr G A s (a ++ (w ++ b)) H locs) : ∀ U : State, U.heap = H → s.WarmedH U.vm → va_Pc av (CPre G w H.size) av.toArray U := by
  intro U hU hW
  obtain ⟨hP, hD, hS, hK, hA, hG⟩ := hf
  subst hU
  exact ⟨rfl, rfl, fr_part hP, va_K.moved hW.alike hK, fr_partD hD, hG.to hW.alike (fun q h1 h2 => hS.2.1 q h1 h2) (fr_free hD hS hA) (fun _ _ _ _ h => h.warm hW) (fun h => va_Nw.warmM hW h)⟩
/-- a call of an instance method: its world w lies in ours between a and b -/
theorem g_cv {y : MethodName} {ws : List Cond} {rm : Room} {w w1 a b : va_W} {o : Option Value} {C : String} {index maxL n bb : Nat} {bytes : ByteArray} {ret : Option FieldType} {As st1 : List Value} {ci : Nat} {q : vw_C} {fs : List Value} (S : CallFix p m c cc nL s args Ts own) (hf : Fr G A s ww H locs) (hc : Ct l G y ws rm (.ref bb :: As) w o w1) (cw : CallW R s args own C index y bytes maxL ret ws rm 0 0 n) (hw : ww = a ++ (w ++ b)) (hsm : w1.map Prod.fst = w.map Prod.fst) (hcl : vwCl[ci]? = some q) (hqC : q.1 = C) (qr : Nat) (he : w[qr]? = some (bb, .inr (ci, fs))) (hn : As.length = n) (hl : ls.size = nL) (hst : st0 = As.reverse ++ .ref bb :: rest) (hst1 : o.toList ++ rest = st1) (hroom : (rest.map fun v => v.category).sum ≤ 8) (hfit : cells ≤ R.cells ∧ slots ≤ R.slots) (hdg : decode cc pc = .ok (.invokevirtual index, 3))
    (kk : ∀ (H1 : Heap) (locs1 : List Loc), Fr G A s (a ++ (w1 ++ b)) H1 locs1 → W p l e R s m args below meth c H1 locs1 cells slots Q (F0 m (pc + 3) ls st1)) : W p l e R s m args below meth c H locs cells slots Q (F0 m pc ls st0) := by
  have hf' := hf
  rw [hw] at hf'
  subst hst1
  refine g_run (y := y) hf hw hsm rfl (va_runV (g := F0 m pc ls st0) S (hc H.size) cw ⟨CPre.blind, ?_, g_pre hf'⟩ rfl hn hl hst (lv_room hroom) hdg hfit) kk
  have hr := va_recv hf'.2.2.2.1 (fr_part hf'.1) hcl he
  rw [hqC] at hr
  exact hr
/-- the same, where its world is ours -/
theorem g_cv0 {y : MethodName} {ws : List Cond} {rm : Room} {w1 : va_W} {o : Option Value} {C : String} {index maxL n bb : Nat} {bytes : ByteArray} {ret : Option FieldType} {As st1 : List Value} {ci : Nat} {q : vw_C} {fs : List Value} (S : CallFix p m c cc nL s args Ts own) (hf : Fr G A s ww H locs) (hc : Ct l G y ws rm (.ref bb :: As) ww o w1) (cw : CallW R s args own C index y bytes maxL ret ws rm 0 0 n) (hsm : w1.map Prod.fst = ww.map Prod.fst) (hcl : vwCl[ci]? = some q) (hqC : q.1 = C) (qr : Nat) (he : ww[qr]? = some (bb, .inr (ci, fs))) (hn : As.length = n) (hl : ls.size = nL) (hst : st0 = As.reverse ++ .ref bb :: rest) (hst1 : o.toList ++ rest = st1) (hroom : (rest.map fun v => v.category).sum ≤ 8) (hfit : cells ≤ R.cells ∧ slots ≤ R.slots) (hdg : decode cc pc = .ok (.invokevirtual index, 3))
    (kk : ∀ (H1 : Heap) (locs1 : List Loc), Fr G A s w1 H1 locs1 → W p l e R s m args below meth c H1 locs1 cells slots Q (F0 m (pc + 3) ls st1)) : W p l e R s m args below meth c H locs cells slots Q (F0 m pc ls st0) :=
  g_cv (a := []) (b := []) S hf hc cw (by rw [List.append_nil]; rfl) hsm hcl hqC qr he hn hl hst hst1 hroom hfit hdg (fun H1 locs1 h => kk H1 locs1 (by rw [List.append_nil] at h; exact h))
/-- a call of a static method -/
theorem g_cs {y : MethodName} {ws : List Cond} {rm : Room} {w w1 a b : va_W} {o : Option Value} {index maxL n : Nat} {bytes : ByteArray} {ret : Option FieldType} {As st1 : List Value} (S : CallFix p m c cc nL s args Ts own) (hf : Fr G A s ww H locs) (hc : Ct l G y ws rm As w o w1) (cw : CallB R s args own index y bytes maxL ret ws rm 0 0 n ∧ (Cond.static y).before args s = true) (hw : ww = a ++ (w ++ b)) (hsm : w1.map Prod.fst = w.map Prod.fst) (hn : As.length = n) (hl : ls.size = nL) (hst : st0 = As.reverse ++ rest) (hst1 : o.toList ++ rest = st1) (hroom : (rest.map fun v => v.category).sum ≤ 8) (hfit : cells ≤ R.cells ∧ slots ≤ R.slots) (hdg : decode cc pc = .ok (.invokestatic index, 3))
    (kk : ∀ (H1 : Heap) (locs1 : List Loc), Fr G A s (a ++ (w1 ++ b)) H1 locs1 → W p l e R s m args below meth c H1 locs1 cells slots Q (F0 m (pc + 3) ls st1)) : W p l e R s m args below meth c H locs cells slots Q (F0 m pc ls st0) := by
  have hf' := hf
  rw [hw] at hf'
  subst hst1
  exact g_run (y := y) hf hw hsm rfl (va_runS (g := F0 m pc ls st0) S (hc H.size) cw ⟨CPre.blind, g_pre hf'⟩ rfl hn hl hst (lv_room hroom) hdg hfit) kk
theorem g_cs0 {y : MethodName} {ws : List Cond} {rm : Room} {o : Option Value} {index maxL n : Nat} {bytes : ByteArray} {ret : Option FieldType} {As st1 : List Value} (S : CallFix p m c cc nL s args Ts own) (hf : Fr G A s ww H locs) (hc : Ct l G y ws rm As [] o []) (cw : CallB R s args own index y bytes maxL ret ws rm 0 0 n ∧ (Cond.static y).before args s = true) (hn : As.length = n) (hl : ls.size = nL) (hst : st0 = As.reverse ++ rest) (hst1 : o.toList ++ rest = st1) (hroom : (rest.map fun v => v.category).sum ≤ 8) (hfit : cells ≤ R.cells ∧ slots ≤ R.slots) (hdg : decode cc pc = .ok (.invokestatic index, 3))
    (kk : ∀ (H1 : Heap) (locs1 : List Loc), Fr G A s ww H1 locs1 → W p l e R s m args below meth c H1 locs1 cells slots Q (F0 m (pc + 3) ls st1)) : W p l e R s m args below meth c H locs cells slots Q (F0 m pc ls st0) :=
  g_cs (a := []) (b := ww) S hf hc cw rfl rfl hn hl hst hst1 hroom hfit hdg kk
/-- a call on a text -/
theorem g_cstr {y : MethodName} {ws : List Cond} {rm : Room} {o : Option Value} {index maxL n w : Nat} {bytes : ByteArray} {ret : Option FieldType} {As st1 : List Value} (S : CallFix p m c cc nL s args Ts own) (hf : Fr G A s ww H locs) (h15 : w < 15) (hc : Ct l G y ws rm (.ref (gk G w) :: As) [] o []) (cw : CallW R s args own "java/lang/String" index y bytes maxL ret ws rm 0 0 n) (hn : As.length = n) (hl : ls.size = nL) (hst : st0 = As.reverse ++ .ref (gk G w) :: rest) (hst1 : o.toList ++ rest = st1) (hroom : (rest.map fun v => v.category).sum ≤ 8) (hfit : cells ≤ R.cells ∧ slots ≤ R.slots) (hdg : decode cc pc = .ok (.invokevirtual index, 3))
    (kk : ∀ (H1 : Heap) (locs1 : List Loc), Fr G A s ww H1 locs1 → W p l e R s m args below meth c H1 locs1 cells slots Q (F0 m (pc + 3) ls st1)) : W p l e R s m args below meth c H locs cells slots Q (F0 m pc ls st0) := by
  have hf' : Fr G A s ([] ++ ([] ++ ww)) H locs := hf
  subst hst1
  refine g_run (y := y) (a := []) (b := ww) (w := []) (w1 := []) hf rfl rfl rfl (va_runV (g := F0 m pc ls st0) S (hc H.size) cw ⟨CPre.blind, ?_, g_pre hf'⟩ rfl hn hl hst (lv_room hroom) hdg hfit) kk
  obtain ⟨cell, h1, h2, h3, h4⟩ := (hf.2.2.2.2.2.2.2.2.2.1 w h15).1
  exact ⟨cell, by rw [hf.2.2.1.2.1 _ (Array.getElem?_eq_some_iff.mp h1).1 h4]; exact h1, h2, h3⟩
theorem g_alen {a t0 : Nat} {cA : ClassId} {x : vp_A} {ty : FieldType} {v : Int32} (S : CallFix p m c cc nL s args Ts own) (hf : Fr G A s ww H locs) (q0 : Nat) (ha : ww[q0]? = some (a, .inl (cA, x))) (ht : (gty G)[t0]? = some (cA, ty)) (hv : Int32.ofNat x.1 = v) (hdg : decode cc pc = .ok (.arraylength, 1))
    (kk : W p l e R s m args below meth c H locs cells slots Q (F0 m (pc + 1) ls (.int v :: rest))) : W p l e R s m args below meth c H locs cells slots Q (F0 m pc ls (.ref a :: rest)) :=
  va_alen S.1 S.2.1 hf.2.2.2.1 hf.1 q0 t0 ha ht hv hdg kk
theorem g_copy {a0 a n0 n1 index : Nat} {f g : Nat → Int32} {sp dp n : Int32} {ww' : va_W} (S : CallFix p m c cc nL s args Ts own) (hf : Fr G A s ww H locs) (q0 q1 : Nat) (ha0 : ww[q0]? = some (a0, .inl (gc G 0, n0, .inl f))) (ha1 : ww[q1]? = some (a, .inl (gc G 0, n1, .inl g))) (h1 : ¬ sp < 0) (h2 : ¬ dp < 0) (h3 : ¬ n < 0) (h4 : sp.toNatClampNeg + n.toNatClampNeg ≤ n0) (h5 : dp.toNatClampNeg + n.toNatClampNeg ≤ n1) (hl : ls.size = nL) (hlink : (Cond.methodLink own index arraycopyName).before args s = true) (hnat : (Cond.native arraycopyName).before args s = true) (hstat : (Cond.static arraycopyName).before args s = true) (hini : (Cond.initialized "java/lang/System").before args s = true) (hframes : 1 ≤ R.frames) (hlocals : (rest.map fun v => v.category).sum + (nativeFrameWords "java/lang/System" "arraycopy" 5 + 11) ≤ R.locals) (hw : ww.set q1 (a, .inl (gc G 0, n1, .inl (va_cpy f g sp.toNatClampNeg dp.toNatClampNeg n.toNatClampNeg))) = ww') (hdg : decode cc pc = .ok (.invokestatic index, 3))
    (kk : ∀ (H1 : Heap) (locs1 : List Loc), Fr G A s ww' H1 locs1 → W p l e R s m args below meth c H1 locs1 cells slots Q (F0 m (pc + 3) ls rest)) : W p l e R s m args below meth c H locs cells slots Q (F0 m pc ls (.int n :: .int dp :: .ref a :: .int sp :: .ref a0 :: rest)) := by
  subst hw
  exact va_copyi (ty := .int) S.1 S.2.1 (S.2.2.1.trans hl.symm) S.2.2.2.1 hlink hnat hstat hini hf.2.2.2.1 hf.1 hf.2.1 hf.2.2.1 q0 q1 0 0 ha0 ha1 rfl rfl rfl h1 h2 h3 h4 h5 (fun _ _ => rfl) hframes hlocals hdg (fun H1 locs1 h1 h2 h3 => kk H1 locs1 ⟨h1, h2, h3, hf.2.2.2⟩)
/-- a call of a nest mate's static method -/
theorem g_csn {y : MethodName} {ws : List Cond} {rm : Room} {o : Option Value} {index maxL n : Nat} {host : String} {bytes : ByteArray} {ret : Option FieldType} {As st1 : List Value} (S : CallFix p m c cc nL s args Ts own) (hf : Fr G A s ww H locs) (hc : Ct l G y ws rm As [] o []) (cw : va_CN R s args own index y host bytes maxL ret ws rm 0 0 n ∧ (Cond.static y).before args s = true ∧ True) (hn : As.length = n) (hl : ls.size = nL) (hst : st0 = As.reverse ++ rest) (hst1 : o.toList ++ rest = st1) (hroom : (rest.map fun v => v.category).sum ≤ 8) (hfit : cells ≤ R.cells ∧ slots ≤ R.slots) (hdg : decode cc pc = .ok (.invokestatic index, 3))
    (kk : ∀ (H1 : Heap) (locs1 : List Loc), Fr G A s ww H1 locs1 → W p l e R s m args below meth c H1 locs1 cells slots Q (F0 m (pc + 3) ls st1)) : W p l e R s m args below meth c H locs cells slots Q (F0 m pc ls st0) := by
  have hf' : Fr G A s ([] ++ ([] ++ ww)) H locs := hf
  subst hst1
  exact g_run (y := y) (a := []) (b := ww) (w := []) (w1 := []) hf rfl rfl rfl (va_runSN (g := F0 m pc ls st0) S (hc H.size) cw ⟨CPre.blind, g_pre hf'⟩ rfl hn hl hst (lv_room hroom) hdg hfit) kk
end LAY
/-! ===== worlds ===== -/
abbrev K2 : Type := Nat → Nat → Int32
abbrev K3 : Type := Nat → Nat → Nat → Int32
def wK (G : GT) (ad : Nat → Nat) (σ : K2) : va_W := [
  (ad 0, .inr (0, [.int (σ 11 0), .int (σ 11 1), .int (σ 11 2), .int (σ 11 3), .ref (ad 1), .ref (ad 2), .ref (ad 3), .ref (ad 4), .ref (ad 5), .ref (ad 6), .ref (ad 7), .ref (ad 8), .ref (ad 9), .ref (ad 10), .ref (ad 11), .ref (ad 12)])),
  (ad 1, .inl (gc G 0, 6, .inl (σ 9))), (ad 2, .inl (gc G 0, 10, .inl (σ 10))),
  (ad 3, .inl (gc G 1, 9, .inr (.inr (.inr (.inr (fun i => if i < 9 then some (ad (4 + i)) else none)))))),
  (ad 4, .inl (gc G 0, 8, .inl (σ 0))), (ad 5, .inl (gc G 0, 8, .inl (σ 1))), (ad 6, .inl (gc G 0, 8, .inl (σ 2))), (ad 7, .inl (gc G 0, 8, .inl (σ 3))), (ad 8, .inl (gc G 0, 8, .inl (σ 4))), (ad 9, .inl (gc G 0, 8, .inl (σ 5))), (ad 10, .inl (gc G 0, 8, .inl (σ 6))), (ad 11, .inl (gc G 0, 8, .inl (σ 7))), (ad 12, .inl (gc G 0, 8, .inl (σ 8)))]
def wS (G : GT) (ad : Nat → Nat) (σ : K2) : va_W := [(ad 0, .inr (1, [.int (σ 1 0), .int (σ 1 1), .ref (ad 1)])), (ad 1, .inl (gc G 0, 40, .inl (σ 0)))]
def wT (G : GT) (ad : Nat → Nat) (σ : K2) : va_W := [(ad 0, .inr (2, [.ref (ad 1), .int (σ 1 0), .int (σ 1 1), .int (σ 1 2), .int (σ 1 3), .int (σ 1 4)])), (ad 1, .inl (gc G 0, 120, .inl (σ 0)))]
def wY (G : GT) (ad : Nat → Nat → Nat) (x : K2) : va_W := [(ad 8 0, .inr (3, [.ref (ad 0 0), .ref (ad 1 0), .ref (ad 2 0), .ref (ad 3 0), .ref (ad 8 1), .ref (ad 8 2), .int (x 1 0)])),
  (ad 8 1, .inl (gc G 2, 4, .inr (.inr (.inr (.inr (fun i => if i < 4 then some (ad (4 + i) 0) else none)))))), (ad 8 2, .inl (gc G 0, 7, .inl (x 0)))]
def wX (G : GT) (ad : Nat → Nat → Nat) (X : K3) : va_W := wY G ad (X 8) ++ (wK G (ad 1) (X 1) ++ (wK G (ad 0) (X 0) ++ (wK G (ad 2) (X 2) ++ (wT G (ad 3) (X 3) ++ (wS G (ad 4) (X 4) ++ (wS G (ad 5) (X 5) ++ (wS G (ad 6) (X 6) ++ wS G (ad 7) (X 7))))))))
def wM (G : GT) (ad : Nat → Nat) (σ : K2) : va_W := [
  (ad 0, .inr (4, [.ref (ad 1), .ref (ad 2), .ref (ad 3), .int (σ 11 0), .ref (ad 4), .ref (ad 5), .ref (ad 6), .int (σ 11 1), .int (σ 11 2), .int (σ 11 3), .int (σ 11 4), .int (σ 11 5), .int (σ 11 6), .ref (ad 12), .ref (ad 7), .int (σ 11 7), .int (σ 11 8), .ref (ad 8), .ref (ad 9), .ref (ad 10), .ref (ad 11)])),
  (ad 2, .inl (gc G 0, 92, .inl (σ 1))), (ad 1, .inl (gc G 0, 92, .inl (σ 0))), (ad 3, .inl (gc G 0, 92, .inl (σ 2))), (ad 4, .inl (gc G 0, 8, .inl (σ 3))), (ad 5, .inl (gc G 0, 8, .inl (σ 4))), (ad 6, .inl (gc G 0, 120, .inl (σ 5))), (ad 7, .inl (gc G 0, 720, .inl (σ 6))), (ad 8, .inl (gc G 0, 4, .inl (σ 7))), (ad 9, .inl (gc G 0, 4, .inl (σ 8))), (ad 10, .inl (gc G 0, 160, .inl (σ 9))), (ad 11, .inl (gc G 0, 40, .inl (σ 10))),
  (ad 12, .inl (gc G 3, 7, .inr (.inr (.inr (.inr (fun i => if i < 7 then some (gk G i) else none))))))]
theorem wK_r {G : GT} {ad : Nat → Nat} {σ : K2} {i : Nat} (h : i < 9) : (wK G ad σ)[4 + i]? = some (ad (4 + i), .inl (gc G 0, 8, .inl (σ i))) := match i, h with
  | 0, _ => rfl
  | 1, _ => rfl
  | 2, _ => rfl
  | 3, _ => rfl
  | 4, _ => rfl
  | 5, _ => rfl
  | 6, _ => rfl
  | 7, _ => rfl
  | 8, _ => rfl
  | n + 9, h => absurd h (by omega)
theorem wK_r_set {G : GT} {ad : Nat → Nat} {σ : K2} {i : Nat} {f : Nat → Int32} (h : i < 9) : (wK G ad σ).set (4 + i) (ad (4 + i), .inl (gc G 0, 8, .inl f)) = wK G ad (va_up σ i f) := match i, h with
  | 0, _ => rfl
  | 1, _ => rfl
  | 2, _ => rfl
  | 3, _ => rfl
  | 4, _ => rfl
  | 5, _ => rfl
  | 6, _ => rfl
  | 7, _ => rfl
  | 8, _ => rfl
  | n + 9, h => absurd h (by omega)
theorem wKK_a {G : GT} {ad ad2 : Nat → Nat} {σ κ : K2} {i : Nat} (h : i < 9) : (wK G ad σ ++ wK G ad2 κ)[4 + i]? = some (ad (4 + i), .inl (gc G 0, 8, .inl (σ i))) := match i, h with
  | 0, _ => rfl
  | 1, _ => rfl
  | 2, _ => rfl
  | 3, _ => rfl
  | 4, _ => rfl
  | 5, _ => rfl
  | 6, _ => rfl
  | 7, _ => rfl
  | 8, _ => rfl
  | n + 9, h => absurd h (by omega)
theorem wKK_b {G : GT} {ad ad2 : Nat → Nat} {σ κ : K2} {i : Nat} (h : i < 9) : (wK G ad σ ++ wK G ad2 κ)[17 + i]? = some (ad2 (4 + i), .inl (gc G 0, 8, .inl (κ i))) := match i, h with
  | 0, _ => rfl
  | 1, _ => rfl
  | 2, _ => rfl
  | 3, _ => rfl
  | 4, _ => rfl
  | 5, _ => rfl
  | 6, _ => rfl
  | 7, _ => rfl
  | 8, _ => rfl
  | n + 9, h => absurd h (by omega)
theorem wKK_a_set {G : GT} {ad ad2 : Nat → Nat} {σ κ : K2} {i : Nat} {f : Nat → Int32} (h : i < 9) : (wK G ad σ ++ wK G ad2 κ).set (4 + i) (ad (4 + i), .inl (gc G 0, 8, .inl f)) = wK G ad (va_up σ i f) ++ wK G ad2 κ := match i, h with
  | 0, _ => rfl
  | 1, _ => rfl
  | 2, _ => rfl
  | 3, _ => rfl
  | 4, _ => rfl
  | 5, _ => rfl
  | 6, _ => rfl
  | 7, _ => rfl
  | 8, _ => rfl
  | n + 9, h => absurd h (by omega)
theorem wKK_b_set {G : GT} {ad ad2 : Nat → Nat} {σ κ : K2} {i : Nat} {f : Nat → Int32} (h : i < 9) : (wK G ad σ ++ wK G ad2 κ).set (17 + i) (ad2 (4 + i), .inl (gc G 0, 8, .inl f)) = wK G ad σ ++ wK G ad2 (va_up κ i f) := match i, h with
  | 0, _ => rfl
  | 1, _ => rfl
  | 2, _ => rfl
  | 3, _ => rfl
  | 4, _ => rfl
  | 5, _ => rfl
  | 6, _ => rfl
  | 7, _ => rfl
  | 8, _ => rfl
  | n + 9, h => absurd h (by omega)
theorem wKJ_a {G : GT} {ad ad2 : Nat → Nat} {σ κ : K2} {i : Nat} (h : i < 9) : (wK G ad σ ++ wK G ad2 κ)[4 + i]? = some (ad (4 + i), .inl (gc G 0, 8, .inl (σ i))) := match i, h with
  | 0, _ => rfl
  | 1, _ => rfl
  | 2, _ => rfl
  | 3, _ => rfl
  | 4, _ => rfl
  | 5, _ => rfl
  | 6, _ => rfl
  | 7, _ => rfl
  | 8, _ => rfl
  | n + 9, h => absurd h (by omega)
theorem wKJ_b {G : GT} {ad ad2 : Nat → Nat} {σ κ : K2} {i : Nat} (h : i < 9) : (wK G ad σ ++ wK G ad2 κ)[17 + i]? = some (ad2 (4 + i), .inl (gc G 0, 8, .inl (κ i))) := match i, h with
  | 0, _ => rfl
  | 1, _ => rfl
  | 2, _ => rfl
  | 3, _ => rfl
  | 4, _ => rfl
  | 5, _ => rfl
  | 6, _ => rfl
  | 7, _ => rfl
  | 8, _ => rfl
  | n + 9, h => absurd h (by omega)
theorem wKJ_a_set {G : GT} {ad ad2 : Nat → Nat} {σ κ : K2} {i : Nat} {f : Nat → Int32} (h : i < 9) : (wK G ad σ ++ wK G ad2 κ).set (4 + i) (ad (4 + i), .inl (gc G 0, 8, .inl f)) = wK G ad (va_up σ i f) ++ wK G ad2 κ := match i, h with
  | 0, _ => rfl
  | 1, _ => rfl
  | 2, _ => rfl
  | 3, _ => rfl
  | 4, _ => rfl
  | 5, _ => rfl
  | 6, _ => rfl
  | 7, _ => rfl
  | 8, _ => rfl
  | n + 9, h => absurd h (by omega)
theorem wKJ_b_set {G : GT} {ad ad2 : Nat → Nat} {σ κ : K2} {i : Nat} {f : Nat → Int32} (h : i < 9) : (wK G ad σ ++ wK G ad2 κ).set (17 + i) (ad2 (4 + i), .inl (gc G 0, 8, .inl f)) = wK G ad σ ++ wK G ad2 (va_up κ i f) := match i, h with
  | 0, _ => rfl
  | 1, _ => rfl
  | 2, _ => rfl
  | 3, _ => rfl
  | 4, _ => rfl
  | 5, _ => rfl
  | 6, _ => rfl
  | 7, _ => rfl
  | 8, _ => rfl
  | n + 9, h => absurd h (by omega)
theorem wX_r0 {G : GT} {ad : Nat → Nat → Nat} {X : K3} {i : Nat} (h : i < 9) : (wX G ad X)[20 + i]? = some (ad 0 (4 + i), .inl (gc G 0, 8, .inl (X 0 i))) := match i, h with
  | 0, _ => rfl
  | 1, _ => rfl
  | 2, _ => rfl
  | 3, _ => rfl
  | 4, _ => rfl
  | 5, _ => rfl
  | 6, _ => rfl
  | 7, _ => rfl
  | 8, _ => rfl
  | n + 9, h => absurd h (by omega)
theorem wX_r0_set {G : GT} {ad : Nat → Nat → Nat} {X : K3} {i : Nat} {f : Nat → Int32} (h : i < 9) : (wX G ad X).set (20 + i) (ad 0 (4 + i), .inl (gc G 0, 8, .inl f)) = wX G ad (va_up X 0 (va_up (X 0) i f)) := match i, h with
  | 0, _ => rfl
  | 1, _ => rfl
  | 2, _ => rfl
  | 3, _ => rfl
  | 4, _ => rfl
  | 5, _ => rfl
  | 6, _ => rfl
  | 7, _ => rfl
  | 8, _ => rfl
  | n + 9, h => absurd h (by omega)
theorem wX_r2 {G : GT} {ad : Nat → Nat → Nat} {X : K3} {i : Nat} (h : i < 9) : (wX G ad X)[33 + i]? = some (ad 2 (4 + i), .inl (gc G 0, 8, .inl (X 2 i))) := match i, h with
  | 0, _ => rfl
  | 1, _ => rfl
  | 2, _ => rfl
  | 3, _ => rfl
  | 4, _ => rfl
  | 5, _ => rfl
  | 6, _ => rfl
  | 7, _ => rfl
  | 8, _ => rfl
  | n + 9, h => absurd h (by omega)
theorem wX_r2_set {G : GT} {ad : Nat → Nat → Nat} {X : K3} {i : Nat} {f : Nat → Int32} (h : i < 9) : (wX G ad X).set (33 + i) (ad 2 (4 + i), .inl (gc G 0, 8, .inl f)) = wX G ad (va_up X 2 (va_up (X 2) i f)) := match i, h with
  | 0, _ => rfl
  | 1, _ => rfl
  | 2, _ => rfl
  | 3, _ => rfl
  | 4, _ => rfl
  | 5, _ => rfl
  | 6, _ => rfl
  | 7, _ => rfl
  | 8, _ => rfl
  | n + 9, h => absurd h (by omega)
theorem wX_so {G : GT} {ad : Nat → Nat → Nat} {X : K3} {i : Nat} (h : i < 4) : (wX G ad X)[44 + 2 * i]? = some (ad (4 + i) 0, .inr (1, [.int (X (4 + i) 1 0), .int (X (4 + i) 1 1), .ref (ad (4 + i) 1)])) := match i, h with
  | 0, _ => rfl
  | 1, _ => rfl
  | 2, _ => rfl
  | 3, _ => rfl
  | n + 4, h => absurd h (by omega)
theorem wX_sn {G : GT} {ad : Nat → Nat → Nat} {X : K3} {i : Nat} (h : i < 4) : (wX G ad X)[45 + 2 * i]? = some (ad (4 + i) 1, .inl (gc G 0, 40, .inl (X (4 + i) 0))) := match i, h with
  | 0, _ => rfl
  | 1, _ => rfl
  | 2, _ => rfl
  | 3, _ => rfl
  | n + 4, h => absurd h (by omega)
theorem wX_sn_set {G : GT} {ad : Nat → Nat → Nat} {X : K3} {i : Nat} {f : Nat → Int32} (h : i < 4) : (wX G ad X).set (45 + 2 * i) (ad (4 + i) 1, .inl (gc G 0, 40, .inl f)) = wX G ad (va_up X (4 + i) (va_up (X (4 + i)) 0 f)) := match i, h with
  | 0, _ => rfl
  | 1, _ => rfl
  | 2, _ => rfl
  | 3, _ => rfl
  | n + 4, h => absurd h (by omega)
theorem wX_sw {G : GT} {ad : Nat → Nat → Nat} {X : K3} {i : Nat} (h : i < 4) : wX G ad X = List.take (44 + 2 * i) (wX G ad X) ++ (wS G (ad (4 + i)) (X (4 + i)) ++ List.drop (46 + 2 * i) (wX G ad X)) := match i, h with
  | 0, _ => rfl
  | 1, _ => rfl
  | 2, _ => rfl
  | 3, _ => rfl
  | n + 4, h => absurd h (by omega)
theorem wX_sw_set {G : GT} {ad : Nat → Nat → Nat} {X : K3} {i : Nat} {τ : K2} (h : i < 4) : List.take (44 + 2 * i) (wX G ad X) ++ (wS G (ad (4 + i)) τ ++ List.drop (46 + 2 * i) (wX G ad X)) = wX G ad (va_up X (4 + i) τ) := match i, h with
  | 0, _ => rfl
  | 1, _ => rfl
  | 2, _ => rfl
  | 3, _ => rfl
  | n + 4, h => absurd h (by omega)
