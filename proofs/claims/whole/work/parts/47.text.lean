theorem tbl_neg : ∀ p, p ≤ 120 → (-1 : Int32) - nI p < 0 := by decide +kernel
theorem s_text {X : K3} {μ : K2} (h : R X μ) : Sim (f_X3_text X) (f_X4_text μ) := by
  have hb8 := h.ki.1.2
  obtain ⟨l1, n, hn, l2, l3⟩ := h.2.2.2.2.1
  unfold f_X3_text f_X4_text f_X2_readInto
  rw [h.trial, bd_some]
  obtain ⟨τ0, ht0⟩ : ∃ s, s = va_up (X 3) 1 (upd (X 3 1) 3 0) := ⟨_, rfl⟩
  obtain ⟨m0, hm0⟩ : ∃ s, s = va_up μ 11 (upd (upd (upd (upd (μ 11) 3 0) 6 0) 7 0) 8 ((μ 0) 1)) := ⟨_, rfl⟩
  rw [← ht0, ← hm0]
  have hTB : TB τ0 m0 n 0 := by
    rw [ht0, hm0]
    refine ⟨hn, Nat.zero_le _, ?_, ?_, ?_, ?_, ?_⟩
    · rw [up_s, upd_n (by decide)]; exact l2
    · rw [up_s, upd_n (by decide), upd_n (by decide), upd_n (by decide), upd_n (by decide), l1]; exact l2
    · rw [up_s, upd_s]; rfl
    · rw [up_s, upd_n (by decide), upd_n (by decide), upd_n (by decide), upd_s]; rfl
    · intro i hi
      rw [up_n (by decide), up_n (by decide)]
      exact l3 i hi
  obtain ⟨a1, b1, τ1, m1, s1, s2, t1, -, -, km⟩ := tok_both hTB
  rw [s1, bd_some, s2, bd_some]
  have r0 : ∀ c, c ≠ 11 → m1 c = μ c := fun c hc => (km.1 c hc).trans (by rw [hm0, up_n hc])
  have r110 : m1 11 0 = μ 11 0 := km.2.1.trans (by rw [hm0, up_s, upd_n (by decide), upd_n (by decide), upd_n (by decide), upd_n (by decide)])
  have r116 : m1 11 6 = 0 := km.2.2.2.1.trans (by rw [hm0, up_s, upd_n (by decide), upd_n (by decide), upd_s])
  have r117 : m1 11 7 = nI 0 := km.2.2.2.2.1.trans (by rw [hm0, up_s, upd_n (by decide), upd_s]; rfl)
  have r118 : m1 11 8 = nI (nb (X 0)) := km.2.2.2.2.2.trans (by rw [hm0, up_s, upd_s, n1 h.kim, h.d0])
  have hbn1 := t1.1.2.1
  have hab1 := t1.2.1
  rcases read_both (σ0 := X 0) (n - a1) τ1 m1 (X 0) n a1 b1 0 (Nat.le_refl _) t1 r116 r117 (by omega) r118 h.ki h.cz0 rfl 1000 1000 (by omega) (by omega) with ⟨τ', σ', k', m', p1, p2, p3, p4, p5, p6, p7, p8, p9⟩ | ⟨τ', σ', m', p1, p2, ⟨p3, p, hp, ep⟩, p4, p5, p6⟩
  · have p1' : f_X2_readInto_L11 1000 τ1 (X 0) 1 = some (nI k', τ', σ') := p1
    obtain ⟨m2, hm2⟩ : ∃ s, s = va_up m' 11 (upd (m' 11) 1 0) := ⟨_, rfl⟩
    have q7 : m2 11 7 = nI k' := by rw [hm2, up_s, upd_n (by decide)]; exact p4
    have q0 : m2 0 = μ 0 := by rw [hm2, up_n (by decide), p8 0 (by decide) (by decide), r0 0 (by decide)]
    have q6 : m2 6 = m' 6 := by rw [hm2, up_n (by decide)]
    obtain ⟨r, e1, e2⟩ := told_all (m := m2) p3 q6 (by rw [q0, h.d0]) q7 k' (Nat.le_refl _) σ' p5 (999 - k' + 1)
    rw [show 999 - k' + 1 + k' = 1000 by omega] at e1
    rw [p1', bd_some, p2, ← hm2, e1, f_X4_text_L111, up_n (show (11 : Nat) ≠ 0 by decide), q7, if_pos (nI_le (Nat.le_refl _) (by omega)), f_X4_text_B133, up_n (show (11 : Nat) ≠ 0 by decide), q7]
    rw [if_neg (show ¬ (nI k', τ', σ').1 < 0 from nI_pos (by omega)), X0_become h.cz0 p7, bd_some]
    refine Sim.of (((h.X2 p7).X0 (n := r) ⟨e2.symm, p6⟩).tape ?_ ?_ ?_)
    · have z1 : va_up τ' 1 (upd (τ' 1) 0 0) 1 0 = 0 := by rw [up_s, upd_s]
      have z2 : va_up m2 0 r 11 1 = 0 := by rw [up_n (by decide), hm2, up_s, upd_s]
      show RT (va_up τ' 1 (upd (τ' 1) 0 0) 1 0) _ (va_up m2 0 r 11 1) _
      rw [z1, z2]
      exact ⟨rfl, 0, by omega, rfl, fun i hi => by omega⟩
    · intro c c5 c6 c11
      by_cases c0 : c = 0
      · subst c0; rw [up_s, up_s]
      · rw [up_n c0, up_n c0, hm2, up_n c11, p8 c c6 c11, r0 c c11]
    · rw [up_n (by decide), up_n (by decide), hm2, up_s, upd_n (by decide), p9, r110]
  · have p1' : f_X2_readInto_L11 1000 τ1 (X 0) 1 = some ((-1) - τ' 1 2, τ', σ') := p1
    rw [p1', bd_some, p2]
    rw [if_pos (show ((-1) - τ' 1 2, τ', σ').1 < 0 by show (-1) - τ' 1 2 < 0; rw [ep]; exact tbl_neg p hp)]
    refine Sim.of' (by rw [p3]) ((h.X2 p4).tape ?_ ?_ ?_)
    · have z1 : va_up τ' 1 (upd (τ' 1) 0 0) 1 0 = 0 := by rw [up_s, upd_s]
      have z2 : va_up m' 11 (upd (m' 11) 1 0) 11 1 = 0 := by rw [up_s, upd_s]
      show RT (va_up τ' 1 (upd (τ' 1) 0 0) 1 0) _ (va_up m' 11 (upd (m' 11) 1 0) 11 1) _
      rw [z1, z2]
      exact ⟨rfl, 0, by omega, rfl, fun i hi => by omega⟩
    · intro c c5 c6 c11
      rw [up_n c11, p5 c c6 c11, r0 c c11]
    · rw [up_s, upd_n (by decide), p6, r110]
