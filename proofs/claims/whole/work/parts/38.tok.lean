/-! ===== pure: a step of the tape on both sides ===== -/
def TB (τ m : K2) (n b : Nat) : Prop := n ≤ 120 ∧ b ≤ n ∧ τ 1 0 = nI n ∧ m 11 1 = nI n ∧ τ 1 3 = nI b ∧ m 11 3 = nI b ∧ HB τ m n
def Tk (τ m : K2) (n a b : Nat) : Prop := (τ 1 1 = 0 ∧ m 11 4 = 0 ∧ a = n) ∨ (a < b ∧ ((τ 1 1 = 1 ∧ m 11 4 = 1) ∨ (τ 1 1 = 2 ∧ m 11 4 = 2 ∧ ∃ v, v ≤ 10000 ∧ τ 1 4 = nI v) ∨ (m 11 4 = 3 ∧ τ 1 1 = 3 ∧ τ 0 a = 59) ∨ (m 11 4 = 3 ∧ τ 1 1 = 4 ∧ ¬ τ 0 a = 59)))
def TT (τ m : K2) (n a b : Nat) : Prop := TB τ m n b ∧ a ≤ b ∧ τ 1 2 = nI a ∧ m 11 2 = nI a ∧ m 11 5 = τ 1 4 ∧ Tk τ m n a b
def KM (m m' : K2) : Prop := (∀ c, c ≠ 11 → m' c = m c) ∧ m' 11 0 = m 11 0 ∧ m' 11 1 = m 11 1 ∧ m' 11 6 = m 11 6 ∧ m' 11 7 = m 11 7 ∧ m' 11 8 = m 11 8
theorem KM.rf (m : K2) : KM m m := ⟨fun _ _ => rfl, rfl, rfl, rfl, rfl, rfl⟩
theorem KM.trans {a b c : K2} (h : KM a b) (g : KM b c) : KM a c := ⟨fun r hr => (g.1 r hr).trans (h.1 r hr), g.2.1.trans h.2.1, g.2.2.1.trans h.2.2.1, g.2.2.2.1.trans h.2.2.2.1, g.2.2.2.2.1.trans h.2.2.2.2.1, g.2.2.2.2.2.trans h.2.2.2.2.2⟩
theorem KM.of {m : K2} {s : Nat → Int32} (h0 : s 0 = m 11 0) (h1 : s 1 = m 11 1) (h6 : s 6 = m 11 6) (h7 : s 7 = m 11 7) (h8 : s 8 = m 11 8) : KM m (va_up m 11 s) :=
  ⟨fun _ hc => up_n hc, by rw [up_s]; exact h0, by rw [up_s]; exact h1, by rw [up_s]; exact h6, by rw [up_s]; exact h7, by rw [up_s]; exact h8⟩
theorem TT.mk' {τ m : K2} {n a b : Nat} {r s : Nat → Int32} (hn : n ≤ 120) (hB : HB τ m n) (hab : a ≤ b) (hbn : b ≤ n) (r0 : r 0 = nI n) (s1 : s 1 = nI n) (r2 : r 2 = nI a) (s2 : s 2 = nI a) (r3 : r 3 = nI b) (s3 : s 3 = nI b) (hv : s 5 = r 4)
    (hk : (r 1 = 0 ∧ s 4 = 0 ∧ a = n) ∨ (a < b ∧ ((r 1 = 1 ∧ s 4 = 1) ∨ (r 1 = 2 ∧ s 4 = 2 ∧ ∃ v, v ≤ 10000 ∧ r 4 = nI v) ∨ (s 4 = 3 ∧ r 1 = 3 ∧ τ 0 a = 59) ∨ (s 4 = 3 ∧ r 1 = 4 ∧ ¬ τ 0 a = 59)))) : TT (va_up τ 1 r) (va_up m 11 s) n a b := by
  have x0 : va_up τ 1 r 0 = τ 0 := up_n (by decide)
  have y5 : va_up m 11 s 5 = m 5 := up_n (by decide)
  unfold TT TB Tk HB
  rw [up_s, up_s, x0, y5]
  exact ⟨⟨hn, hbn, r0, s1, r3, s3, hB⟩, hab, r2, s2, hv, hk⟩
theorem tok_both {τ m : K2} {n b : Nat} (h : TB τ m n b) : ∃ a' b' τ' m', f_X2_step τ = some τ' ∧ f_X4_token m = some m' ∧ TT τ' m' n a' b' ∧ b ≤ a' ∧ τ' 0 = τ 0 ∧ KM m m' := by
  obtain ⟨hn, hb, t0, m1, t3, m3, hB⟩ := h
  obtain ⟨p, p1, p2, p3, p4⟩ := tok_skip hn hB (n - b) b (by omega) 1000 1000 (by omega) (by omega) (upd (τ 1) 2 (nI b)) (upd (m 11) 2 (nI b)) (by rw [upd_n (by decide)]; exact t0) (by rw [upd_n (by decide)]; exact m1) upd_s upd_s
  rw [upd_upd] at p3 p4
  have sx : f_X2_step τ = f_X2_step_B46 (va_up τ 1 (upd (τ 1) 2 (nI p))) := by
    unfold f_X2_step
    rw [t3]; exact p3
  have sm : f_X4_token m = f_X4_token_B34 (va_up m 11 (upd (m 11) 2 (nI p))) := by
    unfold f_X4_token
    rw [m3]; exact p4
  rw [sx, sm]
  have cp : (nI p).toNatClampNeg = p := nI_clamp (by omega)
  have s1 : upd (m 11) 2 (nI p) 1 = nI n := by rw [upd_n (by decide)]; exact m1
  have r0 : upd (τ 1) 2 (nI p) 0 = nI n := by rw [upd_n (by decide)]; exact t0
  have x0 : ∀ r : Nat → Int32, va_up τ 1 r 0 = τ 0 := fun r => up_n (by decide)
  unfold f_X2_step_B46 f_X4_token_B34
  simp only [up_s, upd_s, bx_uu, r0, x0]
  by_cases e : p = n
  · subst e
    rw [if_neg (nI_nlt (Nat.le_refl _) (by omega)), byte_out hn s1, bd_some, if_neg (show ¬ (0 : Int32) ≤ -1 by decide)]
    refine ⟨p, p, _, _, rfl, rfl, TT.mk' hn hB (Nat.le_refl _) (Nat.le_refl _) ?_ ?_ ?_ ?_ ?_ ?_ ?_ ?_, p1, x0 _, KM.of ?_ ?_ ?_ ?_ ?_⟩
    · simpa [upd] using t0
    · simpa [upd] using m1
    · simp [upd]
    · simp [upd]
    · simp [upd]
    · simp [upd]
    · simp [upd]
    · exact Or.inl ⟨by simp [upd], by simp [upd], rfl⟩
    · simp [upd]
    · simp [upd]
    · simp [upd]
    · simp [upd]
    · simp [upd]
  · have hp : p < n := by omega
    obtain ⟨hbt, c, hc, ec⟩ := hB p hp
    have h0 : 0 ≤ τ 0 p := by rw [ec]; exact nI_pos' (by omega)
    rw [if_pos (nI_lt hp (by omega)), if_pos (ix_nI (by omega) (by omega)), cp, byte_in hn s1 hp, bd_some, hbt, if_pos h0, lett_X, bd_some, within_X4, bd_some]
    by_cases l : 97 ≤ τ 0 p ∧ τ 0 p ≤ 122
    · rw [if_pos l, itn10, itn10]
      obtain ⟨q, q1, q2, q3, q4, q5⟩ := tok_word hn hB (n - p) p (by omega) 1000 1000 (by omega) (by omega) (upd (upd (upd (upd (τ 1) 2 (nI p)) 1 1) 3 (nI p)) 4 0) (upd (upd (upd (upd (m 11) 2 (nI p)) 3 (nI p)) 4 1) 5 0) (by simpa [upd] using t0) (by simpa [upd] using m1) (by simp [upd]) (by simp [upd])
      rw [q3, q4]
      have := q5 hp l
      refine ⟨p, q, _, _, rfl, rfl, TT.mk' hn hB q1 q2 ?_ ?_ ?_ ?_ ?_ ?_ ?_ ?_, p1, x0 _, KM.of ?_ ?_ ?_ ?_ ?_⟩
      · simpa [upd] using t0
      · simpa [upd] using m1
      · simp [upd]
      · simp [upd]
      · simp [upd]
      · simp [upd]
      · simp [upd]
      · exact Or.inr ⟨this, Or.inl ⟨by simp [upd], by simp [upd]⟩⟩
      · simp [upd]
      · simp [upd]
      · simp [upd]
      · simp [upd]
      · simp [upd]
    · rw [if_neg l, itn00, itn00, dig_X, bd_some, within_X4, bd_some]
      by_cases d : 48 ≤ τ 0 p ∧ τ 0 p ≤ 57
      · rw [if_pos d, itn10, itn10]
        obtain ⟨q, v, hv, q1, q2, q3, q4, q5⟩ := tok_num hn hB (n - p) p (by omega) 1000 1000 (by omega) (by omega) (upd (upd (upd (upd (τ 1) 2 (nI p)) 1 2) 3 (nI p)) 4 0) (upd (upd (upd (upd (m 11) 2 (nI p)) 3 (nI p)) 4 2) 5 0) 0 (by omega) (by simpa [upd] using t0) (by simpa [upd] using m1) (by simp [upd]) (by simp [upd]) upd_s upd_s
        rw [q3, q4]
        have := q5 hp d
        refine ⟨p, q, _, _, rfl, rfl, TT.mk' hn hB q1 q2 ?_ ?_ ?_ ?_ ?_ ?_ ?_ ?_, p1, x0 _, KM.of ?_ ?_ ?_ ?_ ?_⟩
        · simpa [upd] using t0
        · simpa [upd] using m1
        · simp [upd]
        · simp [upd]
        · simp [upd]
        · simp [upd]
        · simp [upd]
        · exact Or.inr ⟨this, Or.inr (Or.inl ⟨by simp [upd], by simp [upd], v, hv, by simp [upd]⟩)⟩
        · simp [upd]
        · simp [upd]
        · simp [upd]
        · simp [upd]
        · simp [upd]
      · rw [if_neg d, itn00, itn00, nI_1]
        by_cases z : τ 0 p = 59
        · rw [if_pos z]
          refine ⟨p, p + 1, _, _, rfl, rfl, TT.mk' hn hB (by omega) (by omega) ?_ ?_ ?_ ?_ ?_ ?_ ?_ ?_, p1, x0 _, KM.of ?_ ?_ ?_ ?_ ?_⟩
          · simpa [upd] using t0
          · simpa [upd] using m1
          · simp [upd]
          · simp [upd]
          · simp [upd]
          · simp [upd]
          · simp [upd]
          · exact Or.inr ⟨by omega, Or.inr (Or.inr (Or.inl ⟨by simp [upd], by simp [upd], z⟩))⟩
          · simp [upd]
          · simp [upd]
          · simp [upd]
          · simp [upd]
          · simp [upd]
        · rw [if_neg z]
          refine ⟨p, p + 1, _, _, rfl, rfl, TT.mk' hn hB (by omega) (by omega) ?_ ?_ ?_ ?_ ?_ ?_ ?_ ?_, p1, x0 _, KM.of ?_ ?_ ?_ ?_ ?_⟩
          · simpa [upd] using t0
          · simpa [upd] using m1
          · simp [upd]
          · simp [upd]
          · simp [upd]
          · simp [upd]
          · simp [upd]
          · exact Or.inr ⟨by omega, Or.inr (Or.inr (Or.inr ⟨by simp [upd], by simp [upd], z⟩))⟩
          · simp [upd]
          · simp [upd]
          · simp [upd]
          · simp [upd]
          · simp [upd]
