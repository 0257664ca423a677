theorem wM_u0 {G : GT} {ad : Nat → Nat} {μ : K2} {F f : Nat → Int32} : (wM G ad (va_up μ 0 F)).set 2 (ad 1, .inl (gc G 0, 92, .inl f)) = wM G ad (va_up μ 0 f) := rfl
theorem wM_u3 {G : GT} {ad : Nat → Nat} {μ : K2} {F f : Nat → Int32} : (wM G ad (va_up μ 3 F)).set 4 (ad 4, .inl (gc G 0, 8, .inl f)) = wM G ad (va_up μ 3 f) := rfl
theorem wM_u6 {G : GT} {ad : Nat → Nat} {μ : K2} {F f : Nat → Int32} : (wM G ad (va_up μ 6 F)).set 7 (ad 7, .inl (gc G 0, 720, .inl f)) = wM G ad (va_up μ 6 f) := rfl
theorem ldcSW {p : Program} {l : Launch} {e : Env} {R : Room} {s : State} {m : MethodId} {args : Array Value} {below : List Frame} {meth : Method} {c : Code} {H : Heap} {locs : List Loc} {cells slots : Nat} {Q : State → Prop} {cc : ByteArray} {pc : Nat} {ls : Array Slot} {rest : List Value} (hexec : p.tables.exec = Jvm.exec) (hb : c.code = cc) {own tx : String} {index q : Nat} (hown : s.vm.findClass own = some m.cls) (hZ : vk_R own index tx q s) (hdg : decode cc pc = .ok (.ldc_w index, 3))
    (k : W p l e R s m args below meth c H locs cells slots Q (F0 m (pc + 3) ls (.ref q :: rest))) : W p l e R s m args below meth c H locs cells slots Q (F0 m pc ls rest) := by
  intro T hT X
  obtain ⟨t, a1, b1⟩ := k T hT X
  exact ⟨t, X.ldcStringW hexec hown (text := tx) (a := q) hZ.1 hZ.2 (g := F0 m pc ls rest) rfl (by rw [hb]; exact hdg) t a1, b1⟩
