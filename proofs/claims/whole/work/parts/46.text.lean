/-! ===== pure: a text read on both sides ===== -/
theorem told_all {f : Nat → Int32} {σ0 : K2} {m : K2} {K : Nat} (hK : K ≤ 120) (hf : m 6 = f) (hd : dec (m 0) = σ0) (h7 : m 11 7 = nI K) : ∀ k, k ≤ K → ∀ σ, Appl f σ0 k σ → ∀ N, ∃ r, f_X4_text_L111 (N + k) m 0 = f_X4_text_L111 N (va_up m 0 r) (nI k) ∧ dec r = σ := by
  intro k
  induction k with
  | zero =>
    intro _ σ hA N
    have hA' : σ = σ0 := hA
    exact ⟨m 0, by rw [up_self0]; rfl, by rw [hd, hA']⟩
  | succ k ih =>
    intro hk σ' hA N
    obtain ⟨σ, h1, h2, h3⟩ := hA
    obtain ⟨r, e1, e2⟩ := ih (by omega) σ h1 (N + 1)
    obtain ⟨r', e3, e4⟩ := told_step (m := va_up m 0 r) (k := k) (by omega) (by rw [up_n (show (6 : Nat) ≠ 0 by decide), hf]; exact h3) (by rw [up_s]; exact e2) h2
    refine ⟨r', ?_, e4⟩
    have e6 : (6 : Int32) * nI k = nI (6 * k) := (Int32.ofNat_mul 6 k).symm
    rw [show N + (k + 1) = N + 1 + k by omega, e1, f_X4_text_L111, up_n (show (11 : Nat) ≠ 0 by decide), h7, if_neg (nI_ge (by omega) (by omega)), e6, e3, bd_some, bx_uu, nI_1]
theorem read_both {σ0 : K2} (t : Nat) : ∀ (τ m σ : K2) (n a b k : Nat), n - a ≤ t → TT τ m n a b → m 11 6 = 0 → m 11 7 = nI k → 2 * k ≤ a → m 11 8 = nI (nb σ) → KI σ → Cz σ → Appl (m 6) σ0 k σ → ∀ n1 n2, t < n1 → t + 1 < n2 →
    (∃ τ' σ' k' m', f_X2_readInto_L11 n1 τ σ (nI (k + 1)) = some (nI k', τ', σ') ∧ Option.bind (f_X4_readItem m) (fun q => f_X4_text_L33 n2 q) = f_X4_text_L111 1000 (va_up m' 11 (upd (m' 11) 1 0)) 0 ∧ k' ≤ 120 ∧ m' 11 7 = nI k' ∧ Appl (m' 6) σ0 k' σ' ∧ KI σ' ∧ Cz σ' ∧ (∀ c, c ≠ 6 → c ≠ 11 → m' c = m c) ∧ m' 11 0 = m 11 0) ∨
    (∃ τ' σ' m', f_X2_readInto_L11 n1 τ σ (nI (k + 1)) = some ((-1) - τ' 1 2, τ', σ') ∧ Option.bind (f_X4_readItem m) (fun q => f_X4_text_L33 n2 q) = some ((-1) - m' 11 2, va_up m' 11 (upd (m' 11) 1 0)) ∧ At τ' m' ∧ Cz σ' ∧ (∀ c, c ≠ 6 → c ≠ 11 → m' c = m c) ∧ m' 11 0 = m 11 0) := by
  induction t using Nat.strongRecOn with
  | ind t ih =>
    intro τ m σ n a b k ht h h6 h7 hka h8 hK hC hA n1 n2 hn1 hn2
    obtain ⟨n1, rfl⟩ : ∃ z, n1 = z + 1 := ⟨n1 - 1, by omega⟩
    obtain ⟨n2, rfl⟩ : ∃ z, n2 = z + 1 := ⟨n2 - 1, by omega⟩
    have hn := h.1.1
    have hbn := h.1.2.1
    have hab := h.2.1
    have n10 : ¬ (1 : Int32) = 0 := by decide
    rw [f_X2_readInto_L11, if_neg (show ¬ (120 : Int32) < nI (k + 1) from nI_nlt (a := 120) (by omega) (by omega))]
    rcases item_both h h6 h7 (by omega) h8 hK with ⟨τ', m', σ', x1, y1, ⟨a', b', t', l⟩, g6, g7, g8, gI, gj, gr, g0⟩ | ⟨τ', m', x1, y1, w6, wA, wr, w0⟩
    · have hA' : Appl (m' 6) σ0 (k + 1) σ' := ⟨σ, Appl.congr gj hA, hK, gI⟩
      have hK' := gI.ki hK
      have hC' := gI.cz hK hC
      have hbn' := t'.1.2.1
      have hab' := t'.2.1
      have hat : At τ' (wrong m') := (Wr.of t').2.1
      have hw6 : ¬ wrong m' 11 6 = 0 := by unfold wrong; rw [up_s, upd_s]; exact n10
      have bad74 : ¬ m' 11 4 = 0 → f_X4_text_B74 m' = some ((-1) - wrong m' 11 2, va_up (wrong m') 11 (upd (wrong m' 11) 1 0)) := by
        intro z
        rw [f_X4_text_B74, if_neg z, must0, bd_some, if_neg hw6]
      have wrow : ∀ c, c ≠ 6 → c ≠ 11 → wrong m' c = m c := fun c c6 c11 => ((Wr.of t').2.2.1 c c11).trans (gr c c6 c11)
      have w110 : wrong m' 11 0 = m 11 0 := ((Wr.of t').2.2.2.1).trans g0
      rw [x1, bd_some, y1, bd_some]
      rw [show ((1 : Int32), τ', σ').1 = 1 from rfl, if_neg n10, f_X4_text_L33, if_pos g6]
      show (∃ τ'' σ'' k'' m'', (if τ' 1 1 = 0 then some (nI (k + 1), τ', σ') else if τ' 1 1 = 3 then Option.bind (f_X2_step τ') (fun q9 => f_X2_readInto_L11 n1 q9 σ' (nI (k + 1) + 1)) else some ((-1) - τ' 1 2, τ', σ')) = some (nI k'', τ'', σ'') ∧ _) ∨ (∃ τ'' σ'' m'', (if τ' 1 1 = 0 then some (nI (k + 1), τ', σ') else if τ' 1 1 = 3 then Option.bind (f_X2_step τ') (fun q9 => f_X2_readInto_L11 n1 q9 σ' (nI (k + 1) + 1)) else some ((-1) - τ' 1 2, τ', σ')) = some ((-1) - τ'' 1 2, τ'', σ'') ∧ _)
      rcases t'.2.2.2.2.2 with ⟨z1, z2, -⟩ | ⟨lt, ⟨z1, z2⟩ | ⟨z1, z2, -⟩ | ⟨z2, z1, z3⟩ | ⟨z2, z1, z3⟩⟩
      · obtain ⟨a2, b2, τ2, m2, s1, s2, t2, -, -, km⟩ := tok_both t'.1
        have m26 : m2 11 6 = 0 := km.2.2.2.1.trans g6
        rw [if_pos z1, if_neg (show ¬ m' 11 4 = 3 by rw [z2]; decide), f_X4_text_B74, if_pos z2, must1 g6, s2, bd_some, if_pos m26]
        refine Or.inl ⟨τ', σ', k + 1, m2, rfl, rfl, by omega, km.2.2.2.2.1.trans g7, ?_, hK', hC', fun c c6 c11 => (km.1 c c11).trans (gr c c6 c11), km.2.1.trans g0⟩
        rw [km.1 6 (by decide)]; exact hA'
      · rw [if_neg (show ¬ τ' 1 1 = 0 by rw [z1]; decide), if_neg (show ¬ τ' 1 1 = 3 by rw [z1]; decide), if_neg (show ¬ m' 11 4 = 3 by rw [z2]; decide), bad74 (by rw [z2]; decide)]
        exact Or.inr ⟨τ', σ', wrong m', rfl, rfl, hat, hC', wrow, w110⟩
      · rw [if_neg (show ¬ τ' 1 1 = 0 by rw [z1]; decide), if_neg (show ¬ τ' 1 1 = 3 by rw [z1]; decide), if_neg (show ¬ m' 11 4 = 3 by rw [z2]; decide), bad74 (by rw [z2]; decide)]
        exact Or.inr ⟨τ', σ', wrong m', rfl, rfl, hat, hC', wrow, w110⟩
      · obtain ⟨a2, b2, τ2, m2, s1, s2, t2, l2, -, km⟩ := tok_both t'.1
        have ca : (nI a').toNatClampNeg = a' := nI_clamp (by omega)
        have ia : ix (nI a') 120 := ix_nI (by omega) (by omega)
        have m26 : m2 11 6 = 0 := km.2.2.2.1.trans g6
        have by9 : m' 5 a' = 59 := ((t'.1.2.2.2.2.2.2 a' (by omega)).1).trans z3
        rw [if_neg (show ¬ τ' 1 1 = 0 by rw [z1]; decide), if_pos z1, s1, bd_some, if_pos z2, t'.2.2.2.1, if_pos ia, ca, if_pos by9, must1 g6, s2, bd_some, nI_1]
        have hbn2 := t2.1.2.1
        have hab2 := t2.2.1
        rcases ih (n - a2) (by omega) τ2 m2 σ' n a2 b2 (k + 1) (Nat.le_refl _) t2 m26 (km.2.2.2.2.1.trans g7) (by omega) (km.2.2.2.2.2.trans g8) hK' hC' (by rw [km.1 6 (by decide)]; exact hA') n1 n2 (by omega) (by omega) with ⟨τ3, σ3, k3, m3, p1, p2, p3, p4, p5, p6, p7, p8, p9⟩ | ⟨τ3, σ3, m3, p1, p2, p3, p4, p5, p6⟩
        · exact Or.inl ⟨τ3, σ3, k3, m3, p1, p2, p3, p4, p5, p6, p7, fun c c6 c11 => ((p8 c c6 c11).trans (km.1 c c11)).trans (gr c c6 c11), (p9.trans km.2.1).trans g0⟩
        · exact Or.inr ⟨τ3, σ3, m3, p1, p2, p3, p4, fun c c6 c11 => ((p5 c c6 c11).trans (km.1 c c11)).trans (gr c c6 c11), (p6.trans km.2.1).trans g0⟩
      · have ca : (nI a').toNatClampNeg = a' := nI_clamp (by omega)
        have ia : ix (nI a') 120 := ix_nI (by omega) (by omega)
        have by9 : ¬ m' 5 a' = 59 := fun q => z3 (((t'.1.2.2.2.2.2.2 a' (by omega)).1).symm.trans q)
        rw [if_neg (show ¬ τ' 1 1 = 0 by rw [z1]; decide), if_neg (show ¬ τ' 1 1 = 3 by rw [z1]; decide), if_pos z2, t'.2.2.2.1, if_pos ia, ca, if_neg by9, bad74 (by rw [z2]; decide)]
        exact Or.inr ⟨τ', σ', wrong m', rfl, rfl, hat, hC', wrow, w110⟩
    · rw [x1, bd_some, y1, bd_some]
      have w60 : ¬ m' 11 6 = 0 := by rw [w6]; exact n10
      refine Or.inr ⟨τ', σ, m', ?_, ?_, wA, hC, wr, w0⟩
      · exact if_pos rfl
      · rw [f_X4_text_L33, if_neg w60, f_X4_text_B74, mustW w6, mustW w6, bd_some, if_neg w60, ite_self]
