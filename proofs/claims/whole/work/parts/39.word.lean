/-! ===== pure: words and numbers at hand ===== -/
theorem slen_b : ∀ w, w < 15 → 1 ≤ slen w ∧ slen w ≤ 10 := by decide
theorem word_both {τ m : K2} {n a b w : Nat} (h : TT τ m n a b) (hw : w < 15) : ∃ q, f_X2_isWord τ w = some (bI q) ∧ f_X4_isWord m w = some (bI q) ∧ (q = true → a < b ∧ τ 1 1 = 1 ∧ b = a + slen w ∧ ∀ i, i < slen w → τ 0 (a + i) = sch w i) := by
  obtain ⟨⟨hn, hb, t0, m1, t3, m3, hB⟩, hab, t2, m2, hv, hk⟩ := h
  have hs := slen_b w hw
  have m0 : ∀ k, k < 1000 → f_X4_isWord_L32 m w 1000 0 0 = some 0 := by
    intro k _
    show f_X4_isWord_L32 m w (999 + 1) 0 0 = some 0
    rw [f_X4_isWord_L32, if_pos (show (0 : Int32) = 0 ∨ (0 : Int32) = 1 from Or.inl rfl), itn00, ite_self]
  have m0' : ∀ n2 x, f_X4_isWord_L32 m w (n2 + 1) 0 x = some 0 := by
    intro n2 x
    rw [f_X4_isWord_L32, if_pos (show (0 : Int32) = 0 ∨ (0 : Int32) = 1 from Or.inl rfl), itn00, ite_self]
  have tm : (τ 1 1 = 1) ↔ (m 11 4 = 1) := by
    rcases hk with ⟨k1, k2, -⟩ | ⟨-, ⟨k1, k2⟩ | ⟨k1, k2, -⟩ | ⟨k2, k1, -⟩ | ⟨k2, k1, -⟩⟩ <;> (rw [k1, k2] <;> decide)
  have ed : nI b - nI a = nI (b - a) := pk_sub hab
  unfold f_X2_isWord f_X4_isWord
  rw [t3, t2, m3, m2, ed]
  by_cases c1 : τ 1 1 = 1
  · rw [if_pos c1, if_pos (tm.mp c1)]
    by_cases c2 : b - a = slen w
    · have c2' : nI (b - a) = nI (slen w) := by rw [c2]
      rw [if_pos c2', if_pos c2']
      have key : ∀ t k, k + t = slen w → ∀ n1 n2, t < n1 → t + 1 < n2 → (∀ i, i < k → τ 0 (a + i) = sch w i) → ∃ q, f_X2_isWord_L28 τ w n1 (nI k) = some (bI q) ∧ f_X4_isWord_L32 m w n2 1 (nI k) = some (bI q) ∧ (q = true → ∀ i, i < slen w → τ 0 (a + i) = sch w i) := by
        intro t
        induction t with
        | zero =>
          intro k hk n1 n2 h1 h2 hi
          obtain ⟨n1, rfl⟩ : ∃ z, n1 = z + 1 := ⟨n1 - 1, by omega⟩
          obtain ⟨n2, rfl⟩ : ∃ z, n2 = z + 1 := ⟨n2 - 1, by omega⟩
          refine ⟨true, ?_, ?_, fun _ i hi' => hi i (by omega)⟩
          · rw [f_X2_isWord_L28, if_pos (nI_le (by omega) (by omega))]; rfl
          · rw [f_X4_isWord_L32, if_pos (nI_le (by omega) (by omega)), if_pos (show (1 : Int32) = 0 ∨ (1 : Int32) = 1 from Or.inr rfl)]; rfl
        | succ t ih =>
          intro k hk n1 n2 h1 h2 hi
          obtain ⟨n1, rfl⟩ : ∃ z, n1 = z + 1 := ⟨n1 - 1, by omega⟩
          obtain ⟨n2, rfl⟩ : ∃ z, n2 = z + 1 := ⟨n2 - 1, by omega⟩
          obtain ⟨n3, hn3⟩ : ∃ z, n2 = z + 1 := ⟨n2 - 1, by omega⟩
          have i1 : ix (nI (a + k)) 120 := ix_nI (by omega) (by omega)
          have i2 : ix (nI k) (slen w) := ix_nI (by omega) (by omega)
          have c1 : (nI (a + k)).toNatClampNeg = a + k := nI_clamp (by omega)
          have c2 : (nI k).toNatClampNeg = k := nI_clamp (by omega)
          have ex : f_X2_isWord_L28 τ w (n1 + 1) (nI k) = if τ 0 (a + k) = sch w k then f_X2_isWord_L28 τ w n1 (nI (k + 1)) else some 0 := by
            rw [f_X2_isWord_L28, if_neg (nI_ge (by omega) (by omega)), t2, nI_add, if_pos i1, if_pos i2, c1, c2, nI_1]
          have em : f_X4_isWord_L32 m w (n2 + 1) 1 (nI k) = if τ 0 (a + k) = sch w k then f_X4_isWord_L32 m w n2 1 (nI (k + 1)) else f_X4_isWord_L32 m w n2 0 (nI (k + 1)) := by
            rw [f_X4_isWord_L32, if_neg (nI_ge (by omega) (by omega)), itn10, m2, nI_add, if_pos i1, if_pos i2, c1, c2, nI_1, (hB (a + k) (by omega)).1]
          rw [ex, em]
          by_cases z : τ 0 (a + k) = sch w k
          · rw [if_pos z, if_pos z]
            exact ih (k + 1) (by omega) n1 n2 (by omega) (by omega) (fun i hi' => by
              by_cases e : i = k
              · subst e; exact z
              · exact hi i (by omega))
          · rw [if_neg z, if_neg z, hn3, m0']
            exact ⟨false, rfl, rfl, fun q => by cases q⟩
      obtain ⟨q, e1, e2, e3⟩ := key (slen w) 0 (by omega) 1000 1000 (by omega) (by omega) (fun i hi => by omega)
      exact ⟨q, e1, e2, fun hq => ⟨by omega, c1, by omega, e3 hq⟩⟩
    · have c2' : ¬ nI (b - a) = nI (slen w) := fun q => c2 ((nI_eq (by omega) (by omega)).mp q)
      rw [if_neg c2', if_neg c2', m0 0 (by omega)]
      exact ⟨false, rfl, rfl, fun q => by cases q⟩
  · rw [if_neg c1, if_neg (fun q => c1 (tm.mpr q)), m0 0 (by omega)]
    exact ⟨false, rfl, rfl, fun q => by cases q⟩
theorem must1 {m : K2} (h6 : m 11 6 = 0) : f_X4_must m 1 = f_X4_token m := by
  unfold f_X4_must
  rw [if_pos h6, itn10]
  have e : va_up m 11 (upd (m 11) 6 0) = m := by
    have : upd (m 11) 6 0 = m 11 := by
      rw [← h6]; exact upd_same
    rw [this, up_self0]
  rw [e]
  cases f_X4_token m <;> rfl
def wrong (m : K2) : K2 := va_up m 11 (upd (m 11) 6 1)
theorem must0 (m : K2) : f_X4_must m 0 = some (wrong m) := by
  unfold f_X4_must
  rw [itn00, ite_self]
  rfl
theorem mustW {m : K2} (h6 : m 11 6 = 1) (x : Int32) : f_X4_must m x = some m := by
  unfold f_X4_must
  rw [if_neg (show ¬ m 11 6 = 0 by rw [h6]; decide)]
  have : upd (m 11) 6 1 = m 11 := by
    rw [← h6]; exact upd_same
  rw [this, up_self0]
theorem takesW {m : K2} (h6 : m 11 6 = 1) (w : Nat) : f_X4_takesWord m w = some (0, m) := by
  unfold f_X4_takesWord
  rw [if_neg (show ¬ m 11 6 = 0 by rw [h6]; decide)]
theorem numberW {m : K2} (h6 : m 11 6 = 1) (x y : Int32) : f_X4_number m x y = some (m 11 5, m) := by
  unfold f_X4_number
  rw [mustW h6, mustW h6, within_X4, bd_some, bd_some, ite_self, ite_self]
/-- a word taken or not, on both sides -/
theorem took_both {τ m : K2} {n a b w : Nat} (h : TT τ m n a b) (h6 : m 11 6 = 0) (hw : w < 15) :
    (f_X2_tookWord τ w = some (0, τ) ∧ f_X4_takesWord m w = some (0, m) ∧ f_X2_isWord τ w = some 0) ∨ (∃ τ' m' a' b', f_X2_tookWord τ w = some (1, τ') ∧ f_X4_takesWord m w = some (1, m') ∧ TT τ' m' n a' b' ∧ a < b ∧ b ≤ a' ∧ τ' 0 = τ 0 ∧ KM m m') := by
  obtain ⟨q, e1, e2, e3⟩ := word_both h hw
  unfold f_X2_tookWord f_X4_takesWord
  rw [if_pos h6, e1, e2, bd_some, bd_some]
  cases q
  · exact Or.inl ⟨rfl, rfl, rfl⟩
  · obtain ⟨a', b', τ', m', s1, s2, s3, s4, s5, s6⟩ := tok_both h.1
    refine Or.inr ⟨τ', m', a', b', ?_, ?_, s3, (e3 rfl).1, s4, s5, s6⟩
    · rw [if_neg (show ¬ bI true = 0 by decide), s1, bd_some]
    · rw [if_neg (show ¬ bI true = 0 by decide), must1 h6, s2, bd_some]
/-- a number taken or not, on both sides -/
theorem num_both {τ m : K2} {n a b : Nat} (h : TT τ m n a b) (h6 : m 11 6 = 0) (M : Int32) :
    (∃ v τ' m' a' b', v ≤ 10000 ∧ nI v ≤ M ∧ f_X2_takeNumber τ M = some (nI v, τ') ∧ f_X4_number m 0 M = some (nI v, m') ∧ TT τ' m' n a' b' ∧ a < b ∧ b ≤ a' ∧ τ' 0 = τ 0 ∧ KM m m') ∨ (f_X2_takeNumber τ M = some (-2, τ) ∧ f_X4_number m 0 M = some (m 11 5, wrong m)) := by
  have hk := h.2.2.2.2.2
  have hv := h.2.2.2.2.1
  have tm : (τ 1 1 = 2) ↔ (m 11 4 = 2) := by
    rcases hk with ⟨k1, k2, -⟩ | ⟨-, ⟨k1, k2⟩ | ⟨k1, k2, -⟩ | ⟨k2, k1, -⟩ | ⟨k2, k1, -⟩⟩ <;> (rw [k1, k2] <;> decide)
  unfold f_X2_takeNumber f_X4_number
  rw [must0, bd_some, hv]
  by_cases c1 : τ 1 1 = 2
  · rw [if_pos c1, if_pos (tm.mp c1), within_X4, bd_some]
    obtain ⟨hab, v, hv1, hv2⟩ : a < b ∧ ∃ v, v ≤ 10000 ∧ τ 1 4 = nI v := by
      rcases hk with ⟨k1, -⟩ | ⟨k0, ⟨k1, -⟩ | ⟨-, -, k3⟩ | ⟨-, k1, -⟩ | ⟨-, k1, -⟩⟩
      · rw [k1] at c1; exact absurd c1 (by decide)
      · rw [k1] at c1; exact absurd c1 (by decide)
      · exact ⟨k0, k3⟩
      · rw [k1] at c1; exact absurd c1 (by decide)
      · rw [k1] at c1; exact absurd c1 (by decide)
    rw [hv2]
    by_cases c2 : nI v ≤ M
    · obtain ⟨a', b', τ', m', s1, s2, s3, s4, s5, s6⟩ := tok_both h.1
      refine Or.inl ⟨v, τ', m', a', b', hv1, c2, ?_, ?_, s3, hab, s4, s5, s6⟩
      · rw [if_pos c2, s1, bd_some]
      · rw [if_pos (show 0 ≤ nI v ∧ nI v ≤ M from ⟨nI_pos' (by omega), c2⟩), itn10, must1 h6, s2, bd_some]
    · refine Or.inr ⟨?_, ?_⟩
      · rw [if_neg c2]
      · rw [if_neg (show ¬ (0 ≤ nI v ∧ nI v ≤ M) from fun q => c2 q.2), itn00]
  · rw [if_neg c1, if_neg (fun q => c1 (tm.mpr q))]
    exact Or.inr ⟨rfl, rfl⟩
