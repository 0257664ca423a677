/-! ===== constructors: contracts that make cells ===== -/
def En (U : State) : Prop := va_AOA .int U ∧ va_AO RX1 U ∧ va_AO "java/lang/String" U ∧ va_Nw (.methodLinkNest RX3 24 yX2_init RX3) U ∧ va_Nw (.methodLinkNest RX3 43 yX1_init RX3) U
theorem En.warm {s U : State} (hW : s.WarmedH U.vm) (h : En s) : En U := ⟨over_moved hW.alike h.1, va_AO.moved hW.alike h.2.1, va_AO.moved hW.alike h.2.2.1, va_Nw.warmM hW h.2.2.2.1, va_Nw.warmM hW h.2.2.2.2⟩
theorem va_D_iff {A : Nat → Prop} {w : va_W} : va_D A w ↔ (w.map Prod.fst).Nodup ∧ ∀ q ∈ w, A q.1 := by
  constructor
  · intro h
    refine ⟨?_, fun q hq => ?_⟩
    · rw [List.Nodup, List.pairwise_iff_getElem]
      intro i j hi hj hij e
      have hi' : i < w.length := by simpa using hi
      have hj' : j < w.length := by simpa using hj
      have := h.1 i j w[i] w[j] (List.getElem?_eq_getElem hi') (List.getElem?_eq_getElem hj') (by simpa using e)
      omega
    · obtain ⟨k, hk⟩ := List.mem_iff_getElem?.mp hq
      exact h.2 k q hk
  · intro h
    refine ⟨fun i j p q hi hj e => ?_, fun k q hk => h.2 q (List.mem_of_getElem? hk)⟩
    obtain ⟨hi', ei⟩ := List.getElem?_eq_some_iff.mp hi
    obtain ⟨hj', ej⟩ := List.getElem?_eq_some_iff.mp hj
    have hn := h.1
    rw [List.Nodup, List.pairwise_iff_getElem] at hn
    rcases Nat.lt_trichotomy i j with hl | hl | hl
    · exact (hn i j (by simpa using hi') (by simpa using hj') hl (by rw [List.getElem_map, List.getElem_map, ei, ej]; exact e)).elim
    · exact hl
    · exact (hn j i (by simpa using hj') (by simpa using hi') hl (by rw [List.getElem_map, List.getElem_map, ei, ej]; exact e.symm)).elim
theorem va_A_iff {w : va_W} {sz q : Nat} : va_A w sz q ↔ q ∈ w.map Prod.fst ∨ sz ≤ q := by
  constructor
  · rintro (⟨k, e, h⟩ | h)
    · exact Or.inl (List.mem_map.mpr ⟨_, List.mem_of_getElem? h, rfl⟩)
    · exact Or.inr h
  · rintro (h | h)
    · obtain ⟨x, hx, rfl⟩ := List.mem_map.mp h
      obtain ⟨k, hk⟩ := List.mem_iff_getElem?.mp hx
      exact Or.inl ⟨k, x.2, hk⟩
    · exact Or.inr h
theorem fr_joinI {D : va_G} {cl : List vw_C} {A : Nat → Prop} {a w b w1 : va_W} {H H1 : Heap} (hP : va_P D cl (a ++ (w ++ b)) H) (hD : va_D A (a ++ (w ++ b))) (hF : ∀ q, va_A w H.size q → A q) (hk : ∀ q : Nat, q < H.size → ¬ va_A w H.size q → H1[q]? = H[q]?) (hP1 : va_P D cl w1 H1) (hD1 : va_D (va_A w H.size) w1) : va_P D cl (a ++ (w1 ++ b)) H1 ∧ va_D A (a ++ (w1 ++ b)) := by
  rw [va_P_iff] at hP hP1
  rw [va_D_iff] at hD hD1
  obtain ⟨hn, hA⟩ := hD
  rw [List.map_append, List.map_append, List.nodup_append, List.nodup_append] at hn
  obtain ⟨na, ⟨nw, nb, dwb⟩, dab⟩ := hn
  have outA : ∀ x ∈ a.map Prod.fst, ¬ va_A w H.size x := by
    intro x hx h
    obtain ⟨q, hq, rfl⟩ := List.mem_map.mp hx
    rcases va_A_iff.mp h with h | h
    · exact dab _ hx _ (List.mem_append_left _ h) rfl
    · exact absurd (hP q (List.mem_append_left _ hq)).lt (by omega)
  have outB : ∀ x ∈ b.map Prod.fst, ¬ va_A w H.size x := by
    intro x hx h
    obtain ⟨q, hq, rfl⟩ := List.mem_map.mp hx
    rcases va_A_iff.mp h with h | h
    · exact dwb _ h _ hx rfl
    · exact absurd (hP q (List.mem_append_right _ (List.mem_append_right _ hq))).lt (by omega)
  have in1 : ∀ x ∈ w1.map Prod.fst, va_A w H.size x := by
    intro x hx
    obtain ⟨q, hq, rfl⟩ := List.mem_map.mp hx
    exact hD1.2 q hq
  refine ⟨va_P_iff.mpr fun q hq => ?_, va_D_iff.mpr ⟨?_, fun q hq => ?_⟩⟩
  · rcases List.mem_append.mp hq with h | h
    · have h9 := hP q (List.mem_append_left _ h)
      exact h9.kept (hk q.1 h9.lt (outA _ (List.mem_map.mpr ⟨q, h, rfl⟩)))
    · rcases List.mem_append.mp h with h | h
      · exact hP1 q h
      · have h9 := hP q (List.mem_append_right _ (List.mem_append_right _ h))
        exact h9.kept (hk q.1 h9.lt (outB _ (List.mem_map.mpr ⟨q, h, rfl⟩)))
  · rw [List.map_append, List.map_append, List.nodup_append, List.nodup_append]
    refine ⟨na, ⟨hD1.1, nb, fun x hx y hy e => ?_⟩, fun x hx y hy e => ?_⟩
    · exact outB y hy (e ▸ in1 x hx)
    · rcases List.mem_append.mp hy with h | h
      · exact outA x hx (e ▸ in1 y h)
      · exact dab x hx y (List.mem_append_right _ h) e
  · rcases List.mem_append.mp hq with h | h
    · exact hA q (List.mem_append_left _ h)
    · rcases List.mem_append.mp h with h | h
      · exact hF _ (hD1.2 q h)
      · exact hA q (List.mem_append_right _ (List.mem_append_right _ h))
theorem Fr.perm {G : GT} {A : Nat → Prop} {s : State} {ww w2 : va_W} {H : Heap} {locs : List Loc} (hf : Fr G A s ww H locs) (hp : ww.Perm w2) : Fr G A s w2 H locs := by
  obtain ⟨hP, hD, h⟩ := hf
  refine ⟨?_, ?_, h⟩
  · rw [va_P_iff] at hP ⊢
    exact fun q hq => hP q (hp.mem_iff.mpr hq)
  · rw [va_D_iff] at hD ⊢
    exact ⟨(hp.map Prod.fst).nodup_iff.mp hD.1, fun q hq => hD.2 q (hp.mem_iff.mpr hq)⟩
def IPre (G : GT) (w : va_W) (sz : Nat) : State → Prop := fun U => CPre G w sz U ∧ En U
def IPost (G : GT) (w : va_W) (sz : Nat) (N : va_W → Prop) : Array Value → State → Outcome → State → Prop := fun _ st oc t => oc = .returned none ∧ (∃ w', N w' ∧ va_P (gD G) vwCl w' t.heap ∧ va_D (va_A w sz) w') ∧ va_F (va_A w sz) st t
def Ci (l : Launch) (G : GT) (y : MethodName) (ws : List Cond) (rm : Room) (h0 : Nat) (w : va_W) (N : va_W → Prop) : Prop := ∀ sz : Nat, Met l y ws rm (va_Pc [.ref h0] (IPre G w sz)) (IPost G w sz N) rm.cells rm.slots (va_A w sz)
theorem IPre.blind {G : GT} {w : va_W} {sz h0 : Nat} : FrameBlind (va_Pc [.ref h0] (IPre G w sz)) := by
  intro a U g mk q
  obtain ⟨q0, q1, q2⟩ := q
  have h := CPre.blind (G := G) (w := w) (sz := sz) (av := [.ref h0]) a U g mk ⟨q0, q1⟩
  exact ⟨h.1, h.2, over_moved (Vm.Alike.refl U.vm) q2.1, va_AO.moved (U := U.calling g mk a) (Vm.Alike.refl U.vm) q2.2.1, va_AO.moved (U := U.calling g mk a) (Vm.Alike.refl U.vm) q2.2.2.1, q2.2.2.2.1.same rfl rfl, q2.2.2.2.2.same rfl rfl⟩
section LAI
variable {p : Program} {l : Launch} {e : Env} {R : Room} {s : State} {m : MethodId} {args : Array Value} {below : List Frame} {meth : Method} {c : Code} {H : Heap} {locs : List Loc} {cells slots : Nat} {Q : State → Prop}
variable {G : GT} {A : Nat → Prop} {ww : va_W} {cc : ByteArray} {pc nL : Nat} {ls : Array Slot} {rest st0 : List Value} {Ts : List Cond} {own : String}
theorem Ci.of {y : MethodName} {ws ws' : List Cond} {rm : Room} {h0 : Nat} {w : va_W} {N : va_W → Prop} (cc : ByteArray) (maxL : Nat) (hy : plainName y.cls = true) (hw : ws = Cond.code y cc maxL none :: ws') (hav : 1 ≤ maxL)
    (body : ∀ (p : Program) (e : Env) (s : State) (m : MethodId) (below : List Frame) (meth : Method) (c : Code) (ls : Array Slot), CallFix p m c cc maxL s ([.ref h0] : List Value).toArray ws y.cls → meth.sig.returnType = none → meth.locks = false → meth.name = y.name → Fr G (va_A w s.heap.size) s w s.heap [] → En s → lv_has ls maxL [(0, .ref h0)] → W p l e rm s m ([.ref h0] : List Value).toArray below meth c s.heap [] 0 0 (MQ below (IPost G w s.heap.size N) ([.ref h0] : List Value).toArray s rm.cells rm.slots (va_A w s.heap.size)) (F0 m 0 ls [])) : Ci l G y ws rm h0 w N := by
  intro sz
  refine Met.ofW (cc := cc) (maxL := maxL) (ret := none) hy hw ?_
  intro p e s m args below meth c s₁ B hml hv
  obtain ⟨rfl, ⟨hsz, hP, hK, hD0, hG⟩, hE⟩ := hv
  subst hsz
  have hown : s.vm.findClass y.cls = some m.cls := findClass_of_methodNamed B.named
  have hl := lv_entry [.ref h0] (n := maxL) hav
  rw [lg_entry_eq]
  exact body p e s m below meth c _ ⟨B.exec, B.bytes, hml, hown, atoms_spec (ws := ws) B.pre⟩ B.returns B.notSynchronized (name_of_methodNamed B.named B.method).1 ⟨hP, hD0.self, va_S.rf, hK, fun q h => Or.inr h, hG⟩ hE hl
theorem g_iend {w w1 : va_W} {sz : Nat} {N : va_W → Prop} {mc ms : Nat} (S : CallFix p m c cc nL s args Ts own) (hr : meth.sig.returnType = none) (hlocks : meth.locks = false) (hf : Fr G (va_A w sz) s w1 H locs) (hN : N w1) (hc : cells = mc) (hs : slots = ms) (hdg : decode cc pc = .ok (.return_, 1)) : W p l e R s m args below meth c H locs cells slots (MQ below (IPost G w sz N) args s mc ms (va_A w sz)) (F0 m pc ls []) := by
  subst hc; subst hs
  exact W.vret S.1 S.2.1 hr (fun t ht _ => ⟨rfl, ⟨w1, hN, by rw [ht]; exact hf.1, hf.2.1⟩, hf.2.2.1.F ht⟩) hf.2.2.1.2.2 hdg hlocks
theorem g_runI {w a b : va_W} {N : va_W → Prop} {mc ms : Nat} {argv : Array Value} {g : JFrame} (hf : Fr G A s ww H locs) (hw : ww = a ++ (w ++ b)) (hg : g = F0 m pc ls st0)
    (hrun : va_Run p l e R s m args below meth c H locs cells slots mc ms g rest (IPost G w H.size N argv) (va_A w H.size))
    (kk : ∀ (w1 : va_W) (H1 : Heap) (locs1 : List Loc), N w1 → Fr G A s (a ++ (w1 ++ b)) H1 locs1 → W p l e R s m args below meth c H1 locs1 (cells + mc) (slots + ms) Q (F0 m (pc + 3) ls rest)) : W p l e R s m args below meth c H locs cells slots Q (F0 m pc ls st0) := by
  subst hw; subst hg
  intro T hT X
  obtain ⟨v, st₀, t, T', L, h0, X', hL, e1, e2, ⟨hv, ⟨w1, hN, hP1, hD1⟩, hz, hk⟩, st⟩ := hrun T hT X
  have hv := Outcome.returned.inj hv
  subst hv
  rw [h0] at hz hk
  obtain ⟨hP, hD, hS, hK, hA, hG⟩ := hf
  have hF := fr_free hD hS hA
  have hk' : ∀ q : Nat, q < H.size → ¬ va_A w H.size q → T'.heap[q]? = H[q]? := fun q h1 h2 => by rw [e1]; exact hk q h1 h2
  obtain ⟨hP', hD'⟩ := fr_joinI hP hD hF hk' (by rw [e1]; exact hP1) hD1
  obtain ⟨t2, a1, b1⟩ := kk w1 T'.heap (locs ++ L) hN ⟨hP', hD', ⟨Nat.le_trans hS.1 (by rw [e1]; exact hz), fun q h1 h2 => by rw [hk' q (Nat.lt_of_lt_of_le h1 hS.1) (fun z => h2 (hF q z))]; exact hS.2.1 q h1 h2, fun q hq => by
      rcases List.mem_append.mp hq with h | h
      · exact hS.2.2 q h
      · exact hF _ (hL q h)⟩, hK, hA, hG⟩ T' rfl X'
  exact ⟨t2, st t2 a1, b1⟩
theorem g_preI {w a b : va_W} {h0 : Nat} (hf : Fr G A s (a ++ (w ++ b)) H locs) (hE : En s) : ∀ U : State, U.heap = H → s.WarmedH U.vm → va_Pc [.ref h0] (IPre G w H.size) ([.ref h0] : List Value).toArray U := by
  intro U hU hW
  have h := g_pre (av := [.ref h0]) hf U hU hW
  exact ⟨h.1, h.2, hE.warm hW⟩
theorem g_ci {y : MethodName} {ws : List Cond} {rm : Room} {w a b : va_W} {N : va_W → Prop} {index maxL bb : Nat} {bytes : ByteArray} (S : CallFix p m c cc nL s args Ts own) (hf : Fr G A s ww H locs) (hE : En s) (hc : Ci l G y ws rm bb w N) (cw : CallB R s args own index y bytes maxL none ws rm rm.cells rm.slots 0 ∧ y.name = "<init>" ∧ (Cond.instanceMethod y).before args s = true) (hw : ww = a ++ (w ++ b)) (hl : ls.size = nL) (hroom : (rest.map fun v => v.category).sum ≤ 8) (hfit : cells + rm.cells ≤ R.cells ∧ slots + rm.slots ≤ R.slots) (hdg : decode cc pc = .ok (.invokespecial index, 3))
    (kk : ∀ (w1 : va_W) (H1 : Heap) (locs1 : List Loc), N w1 → Fr G A s (a ++ (w1 ++ b)) H1 locs1 → W p l e R s m args below meth c H1 locs1 (cells + rm.cells) (slots + rm.slots) Q (F0 m (pc + 3) ls rest)) : W p l e R s m args below meth c H locs cells slots Q (F0 m pc ls (.ref bb :: rest)) := by
  have hf' := hf
  rw [hw] at hf'
  exact g_runI hf hw rfl (va_runI (g := F0 m pc ls (.ref bb :: rest)) (As := []) S (hc H.size) cw ⟨IPre.blind, g_preI hf' hE⟩ rfl rfl hl rfl (lv_room hroom) hdg hfit) kk
theorem g_cin {y : MethodName} {ws : List Cond} {rm : Room} {w a b : va_W} {N : va_W → Prop} {index maxL bb : Nat} {host : String} {bytes : ByteArray} (S : CallFix p m c cc nL s args Ts own) (hf : Fr G A s ww H locs) (hE : En s) (hc : Ci l G y ws rm bb w N) (cw : va_CN R s args own index y host bytes maxL none ws rm rm.cells rm.slots 0 ∧ y.name = "<init>" ∧ (Cond.instanceMethod y).before args s = true) (hw : ww = a ++ (w ++ b)) (hl : ls.size = nL) (hroom : (rest.map fun v => v.category).sum ≤ 8) (hfit : cells + rm.cells ≤ R.cells ∧ slots + rm.slots ≤ R.slots) (hdg : decode cc pc = .ok (.invokespecial index, 3))
    (kk : ∀ (w1 : va_W) (H1 : Heap) (locs1 : List Loc), N w1 → Fr G A s (a ++ (w1 ++ b)) H1 locs1 → W p l e R s m args below meth c H1 locs1 (cells + rm.cells) (slots + rm.slots) Q (F0 m (pc + 3) ls rest)) : W p l e R s m args below meth c H locs cells slots Q (F0 m pc ls (.ref bb :: rest)) := by
  have hf' := hf
  rw [hw] at hf'
  exact g_runI hf hw rfl (va_runIN (g := F0 m pc ls (.ref bb :: rest)) (As := []) S (hc H.size) cw ⟨IPre.blind, g_preI hf' hE⟩ rfl rfl hl rfl (lv_room hroom) hdg hfit) kk
theorem g_new {C : String} {T : u_T} {N ci index : Nat} {fs : List Value} (S : CallFix p m c cc nL s args Ts own) (hf : Fr G A s ww H locs) (hin : ∀ w ∈ u_ws C T N, w ∈ Ts) (ty : Nat → FieldType) (hty : ∀ k, k < N → parseFieldDescriptor (T k).2.2.1 = some (ty k)) (hcl : Cond.classLink own index C ∈ Ts) (hinst : Cond.instantiable C N ∈ Ts) (hini : Cond.initialized C ∈ Ts) (hc : vwCl[ci]? = some (C, T, N)) (hfs : ∀ j, j < N → defaultValue (ty j) = vp_V fs j) (hcells : cells + 1 ≤ R.cells) (hslots : slots + N ≤ R.slots) (hdg : decode cc pc = .ok (.new index, 3))
    (kk : ∀ (q : Nat) (H1 : Heap), Fr G A s (ww ++ [(q, .inr (ci, fs))]) H1 locs → W p l e R s m args below meth c H1 locs (cells + 1) (slots + N) Q (F0 m (pc + 3) ls (.ref q :: rest))) : W p l e R s m args below meth c H locs cells slots Q (F0 m pc ls rest) :=
  va_new S.1 S.2.1 S.2.2.2.2 hin ty hty S.2.2.2.1 (S.2.2.2.2 _ hcl) (S.2.2.2.2 _ hinst) (S.2.2.2.2 _ hini) hf.2.2.2.1 hf.1 hf.2.1 hf.2.2.1 hf.2.2.2.2.1 hc hfs hcells hslots hdg (fun q H1 h1 h2 h3 => kk q H1 ⟨h1, h2, h3, hf.2.2.2⟩)
theorem g_newi {n : Int32} {N' : Nat} (S : CallFix p m c cc nL s args Ts own) (hf : Fr G A s ww H locs) (harr : Cond.arrayClass .int ∈ Ts) (hn : ¬ n < 0) (hN : n.toNatClampNeg = N') (hbytes : N' * 4 ≤ 536870912) (hcells : cells + 1 ≤ R.cells) (hslots : slots + N' ≤ R.slots) (hdg : decode cc pc = .ok (.newarray .int, 2))
    (kk : ∀ (q : Nat) (H1 : Heap), Fr G A s (ww ++ [(q, .inl (gc G 0, N', .inl (fun _ => 0)))]) H1 locs → W p l e R s m args below meth c H1 locs (cells + 1) (slots + N') Q (F0 m (pc + 2) ls (.ref q :: rest))) : W p l e R s m args below meth c H locs cells slots Q (F0 m pc ls (.int n :: rest)) := by
  refine va_newa (atype := .int) (ty := .int) (a0 := (N', .inl (fun _ => 0))) S.1 S.2.1 (S.2.2.2.2 _ harr) rfl hf.2.2.2.1 hf.1 hf.2.1 hf.2.2.1 hf.2.2.2.2.1 (fun cA => rfl) hn hN hbytes hcells hslots hdg (fun q cA H1 hK hP hD hS => ?_)
  have e1 : s.vm.findClass ("[" ++ FieldType.int.toString) = some cA := (hK.2 4 (cA, .int) rfl).2
  have e2 : s.vm.findClass ("[" ++ FieldType.int.toString) = some (gc G 0) := (hf.2.2.2.1.2 0 (gc G 0, .int) rfl).2
  have e3 : cA = gc G 0 := Option.some.inj (e1.symm.trans e2)
  subst e3
  exact kk q H1 ⟨hP, hD, hS, hf.2.2.2⟩
theorem g_newq {C : String} {index t0 : Nat} {n : Int32} {N' : Nat} (S : CallFix p m c cc nL s args Ts own) (hf : Fr G A s ww H locs) (hcl : Cond.classLink own index C ∈ Ts) (hover : va_AO C s) (ht : (gty G)[t0]? = some (gc G t0, .object C)) (hn : ¬ n < 0) (hN : n.toNatClampNeg = N') (hbytes : N' * 4 ≤ 536870912) (hcells : cells + 1 ≤ R.cells) (hslots : slots + N' ≤ R.slots) (hdg : decode cc pc = .ok (.anewarray index, 3))
    (kk : ∀ (q : Nat) (H1 : Heap), Fr G A s (ww ++ [(q, .inl (gc G t0, N', .inr (.inr (.inr (.inr (fun _ => none))))))]) H1 locs → W p l e R s m args below meth c H1 locs (cells + 1) (slots + N') Q (F0 m (pc + 3) ls (.ref q :: rest))) : W p l e R s m args below meth c H locs cells slots Q (F0 m pc ls (.int n :: rest)) := by
  refine va_newq S.1 S.2.1 S.2.2.2.1 (S.2.2.2.2 _ hcl) hover hf.2.2.2.1 hf.1 hf.2.1 hf.2.2.1 hf.2.2.2.2.1 hn hN hbytes hcells hslots hdg (fun q cA H1 hK hP hD hS => ?_)
  obtain ⟨-, -, -, -, -, e1⟩ := (hK.2 4 (cA, .object C) rfl).2
  obtain ⟨-, -, -, -, -, e2⟩ := (hf.2.2.2.1.2 t0 (gc G t0, .object C) ht).2
  have e3 : cA = gc G t0 := Option.some.inj (e1.symm.trans e2)
  subst e3
  exact kk q H1 ⟨hP, hD, hS, hf.2.2.2⟩
theorem g_putF {ref C : String} {T : u_T} {N ci index a : Nat} {ww' : va_W} (S : CallFix p m c cc nL s args Ts own) (hf : Fr G A s ww H locs) (hin : ∀ w ∈ u_ws C T N, w ∈ Ts) (ty0 : Nat → FieldType) (hty : ∀ k, k < N → parseFieldDescriptor (T k).2.2.1 = some (ty0 k)) (hnm : ∀ a, a < N → ∀ b, b < N → a ≠ b → (T a).2.1 ≠ (T b).2.1) (q0 : Nat) {fs : List Value} (he : ww[q0]? = some (a, .inr (ci, fs))) (hc : vwCl[ci]? = some (C, T, N)) (k : Nat) (hk : k < N) (hlink : Cond.fieldLink own index ref (T k).2.1 (T k).2.2.1 ∈ Ts) (hsame : (T k).1 = ref) (hfin : (T k).2.2.2 = true) (hin2 : meth.name = "<init>") (hdecl : (T k).1 = own) {v : Value} (hn : narrow (ty0 k) v = v) (hfit : fits (ty0 k) v = true) (hl : k < fs.length) (hw : ww.set q0 (a, .inr (ci, fs.set k v)) = ww')
    (hdg : decode cc pc = .ok (.putfield index, 3)) (kk : ∀ (H1 : Heap) (locs1 : List Loc), Fr G A s ww' H1 locs1 → W p l e R s m args below meth c H1 locs1 cells slots Q (F0 m (pc + 3) ls rest)) : W p l e R s m args below meth c H locs cells slots Q (F0 m pc ls (v :: .ref a :: rest)) := by
  subst hw
  exact va_putF S.1 S.2.1 S.2.2.2.2 hin ty0 hty hnm S.2.2.2.1 hf.2.2.2.1 hf.1 hf.2.1 hf.2.2.1 q0 he hc k hk (S.2.2.2.2 _ hlink) (fun x h => by rw [hsame] at h; exact h) hfin hin2 hdecl (hty k hk) hn hfit hl hdg (fun H1 locs1 h1 h2 h3 => kk H1 locs1 ⟨h1, h2, h3, hf.2.2.2⟩)
theorem g_astq {a n t0 ci v : Nat} {r : vw_C} {vs : List Value} {f : Nat → Option Nat} {i : Int32} {ww' : va_W} (S : CallFix p m c cc nL s args Ts own) (hf : Fr G A s ww H locs) (q0 qk : Nat) (ha : ww[q0]? = some (a, .inl (gc G t0, n, .inr (.inr (.inr (.inr f)))))) (ht : (gty G)[t0]? = some (gc G t0, .object r.1)) (hv : ww[qk]? = some (v, .inr (ci, vs))) (hc : vwCl[ci]? = some r) (hin : ix i n) (hw : ww.set q0 (a, .inl (gc G t0, n, .inr (.inr (.inr (.inr (va_up f i.toNatClampNeg (some v))))))) = ww') (hdg : decode cc pc = .ok (.aastore, 1))
    (kk : ∀ (H1 : Heap) (locs1 : List Loc), Fr G A s ww' H1 locs1 → W p l e R s m args below meth c H1 locs1 cells slots Q (F0 m (pc + 1) ls rest)) : W p l e R s m args below meth c H locs cells slots Q (F0 m pc ls (.ref v :: .int i :: .ref a :: rest)) := by
  subst hw
  exact va_astq S.1 S.2.1 hf.2.2.2.1 hf.1 hf.2.1 hf.2.2.1 q0 t0 qk ci ha ht hv hc hin hdg (fun H1 locs1 h1 h2 h3 => kk H1 locs1 ⟨h1, h2, h3, hf.2.2.2⟩)
theorem g_astr {a n w : Nat} {f : Nat → Option Nat} {i : Int32} {ww' : va_W} (S : CallFix p m c cc nL s args Ts own) (hf : Fr G A s ww H locs) (q0 : Nat) (h15 : w < 15) (ha : ww[q0]? = some (a, .inl (gc G 3, n, .inr (.inr (.inr (.inr f)))))) (hin : ix i n) (hw : ww.set q0 (a, .inl (gc G 3, n, .inr (.inr (.inr (.inr (va_up f i.toNatClampNeg (some (gk G w)))))))) = ww') (hdg : decode cc pc = .ok (.aastore, 1))
    (kk : ∀ (H1 : Heap) (locs1 : List Loc), Fr G A s ww' H1 locs1 → W p l e R s m args below meth c H1 locs1 cells slots Q (F0 m (pc + 1) ls rest)) : W p l e R s m args below meth c H locs cells slots Q (F0 m pc ls (.ref (gk G w) :: .int i :: .ref a :: rest)) := by
  subst hw
  refine vb_astq (E := "java/lang/String") (C := "java/lang/String") S.1 S.2.1 hf.2.2.2.1 hf.1 hf.2.1 hf.2.2.1 q0 3 ha rfl ?_ (fun comp c0 h1 h2 => vb_asgS comp c0 h1 h2) hin hdg (fun H1 locs1 h1 h2 h3 => kk H1 locs1 ⟨h1, h2, h3, hf.2.2.2⟩)
  obtain ⟨cell, h1, h2, h3, h4⟩ := (hf.2.2.2.2.2.2.2.2.2.1 w h15).1
  exact ⟨cell, by rw [hf.2.2.1.2.1 _ (Array.getElem?_eq_some_iff.mp h1).1 h4]; exact h1, h2, h3⟩
theorem g_mna {index : Nat} (S : CallFix p m c cc nL s args Ts own) (hf : Fr G A s ww H locs) (hcl : Cond.classLink own index "[[I" ∈ Ts) (hover : va_AOA .int s) (harr : Cond.arrayClass .int ∈ Ts) (hcells : cells + 10 ≤ R.cells) (hslots : slots + 81 ≤ R.slots) (hdg : decode cc pc = .ok (.multianewarray index 2, 4))
    (kk : ∀ (q : Nat) (r : Nat → Nat) (H1 : Heap), Fr G A s (ww ++ [(q, .inl (gc G 1, 9, .inr (.inr (.inr (.inr (fun i => if i < 9 then some (r i) else none)))))), (r 0, .inl (gc G 0, 8, .inl (fun _ => 0))), (r 1, .inl (gc G 0, 8, .inl (fun _ => 0))), (r 2, .inl (gc G 0, 8, .inl (fun _ => 0))), (r 3, .inl (gc G 0, 8, .inl (fun _ => 0))), (r 4, .inl (gc G 0, 8, .inl (fun _ => 0))), (r 5, .inl (gc G 0, 8, .inl (fun _ => 0))), (r 6, .inl (gc G 0, 8, .inl (fun _ => 0))), (r 7, .inl (gc G 0, 8, .inl (fun _ => 0))), (r 8, .inl (gc G 0, 8, .inl (fun _ => 0)))]) H1 locs → W p l e R s m args below meth c H1 locs (cells + 10) (slots + 81) Q (F0 m (pc + 4) ls (.ref q :: rest))) : W p l e R s m args below meth c H locs cells slots Q (F0 m pc ls (.int 8 :: .int 9 :: rest)) := by
  have e2 : s.vm.findClass (FieldType.array .int).toString = some (gc G 0) := (hf.2.2.2.1.2 0 (gc G 0, .int) rfl).2
  have hP0 : va_P (gD G) vwCl (ww ++ va_pl [] (fun _ => (.inl (gc G 0, 8, .inl (fun _ => 0)) : va_E))) H := by rw [show va_pl [] (fun _ => (.inl (gc G 0, 8, .inl (fun _ => 0)) : va_E)) = [] from rfl, List.append_nil]; exact hf.1
  have hD0 : va_D A (ww ++ va_pl [] (fun _ => (.inl (gc G 0, 8, .inl (fun _ => 0)) : va_E))) := by rw [show va_pl [] (fun _ => (.inl (gc G 0, 8, .inl (fun _ => 0)) : va_E)) = [] from rfl, List.append_nil]; exact hf.2.1
  refine va_mna (X := ww) (L := []) (z := (8, .inl (fun _ => 0))) (N' := 9) (K' := 8) S.1 S.2.1 S.2.2.2.1 (S.2.2.2.2 _ hcl) hover (S.2.2.2.2 _ harr) e2 hf.2.2.2.1 hP0 hD0 hf.2.2.1 hf.2.2.2.2.1 (by decide) (by decide) rfl rfl (by decide) (by decide) (by decide) rfl rfl hcells hslots (fun c => (arrV_new c 8 (.int 0))) hdg (fun q r cA H1 _ _ hK hP hD hS => ?_)
  have e3 : s.vm.findClass ("[" ++ (FieldType.array .int).toString) = some cA := (hK.2 4 (cA, .array .int) rfl).2
  have e4 : s.vm.findClass ("[" ++ (FieldType.array .int).toString) = some (gc G 1) := (hf.2.2.2.1.2 1 (gc G 1, .array .int) rfl).2
  have e5 : cA = gc G 1 := Option.some.inj (e3.symm.trans e4)
  subst e5
  have ew : (ww ++ [(q, .inl (gc G 1, 9, .inr (.inr (.inr (.inr (fun i => if i < 9 then some (r i) else none))))))]) ++ va_pl ([] ++ (List.range 9).map r) (vr_up (fun _ => (.inl (gc G 0, 8, .inl (fun _ => 0)) : va_E)) ((List.range 9).map r) (.inl (gc G 0, (8, .inl (fun _ => 0))))) = ww ++ [(q, .inl (gc G 1, 9, .inr (.inr (.inr (.inr (fun i => if i < 9 then some (r i) else none)))))), (r 0, .inl (gc G 0, 8, .inl (fun _ => 0))), (r 1, .inl (gc G 0, 8, .inl (fun _ => 0))), (r 2, .inl (gc G 0, 8, .inl (fun _ => 0))), (r 3, .inl (gc G 0, 8, .inl (fun _ => 0))), (r 4, .inl (gc G 0, 8, .inl (fun _ => 0))), (r 5, .inl (gc G 0, 8, .inl (fun _ => 0))), (r 6, .inl (gc G 0, 8, .inl (fun _ => 0))), (r 7, .inl (gc G 0, 8, .inl (fun _ => 0))), (r 8, .inl (gc G 0, 8, .inl (fun _ => 0)))] := by
    rw [← vr_rows (fun a _ h => absurd h List.not_mem_nil), List.append_assoc]
    rfl
  rw [ew] at hP hD
  exact kk q r H1 ⟨hP, hD, hS, hf.2.2.2⟩
end LAI
