/-! ===== pure: feeding the tape ===== -/
theorem R.tape {X : K3} {μ : K2} (h : R X μ) {τ μ' : K2} (ht : RT (τ 1 0) (τ 0) (μ' 11 1) (μ' 5)) (hr : ∀ c, c ≠ 5 → c ≠ 6 → c ≠ 11 → μ' c = μ c) (h11 : μ' 11 0 = μ 11 0) : R (va_up X 3 τ) μ' := by
  obtain ⟨a1, a2, a3, a4, a5, a6⟩ := h
  have x0 : va_up X 3 τ 0 = X 0 := up_n (by decide)
  have x1 : va_up X 3 τ 1 = X 1 := up_n (by decide)
  have x2 : va_up X 3 τ 2 = X 2 := up_n (by decide)
  have x8 : va_up X 3 τ 8 = X 8 := up_n (by decide)
  unfold R
  rw [x0, x1, x2, x8, hr 0 (by decide) (by decide) (by decide), hr 1 (by decide) (by decide) (by decide), hr 3 (by decide) (by decide) (by decide), hr 7 (by decide) (by decide) (by decide), hr 8 (by decide) (by decide) (by decide), hr 9 (by decide) (by decide) (by decide), h11, up_s]
  refine ⟨a1, a2, a3, a4, ht, fun k hk => ?_⟩
  rw [up_n (by omega)]
  exact a6 k hk
theorem byte_eq (x : Int32) {t : Nat} (ht : t < 4) : ∃ b, b < 256 ∧ iushr x (8 * nI t) &&& 255 = nI b ∧ (x >>> ((8 * nI t) &&& 31)) &&& 255 = nI b := by
  have e8 : (8 : Int32) * nI t = nI (8 * t) := (Int32.ofNat_mul 8 t).symm
  rw [e8]
  have hb : ∀ i, i < 32 → bt (nI ((x.toBitVec.toNat >>> (8 * t)) % 256)) i = (decide (i < 8) && bt x (8 * t + i)) := by
    intro i hi
    rw [bt_nI hi]
    show ((x.toBitVec.toNat >>> (8 * t)) % 2 ^ 8).testBit i = _
    rw [Nat.testBit_mod_two_pow, Nat.testBit_shiftRight]
    rfl
  refine ⟨(x.toBitVec.toNat >>> (8 * t)) % 256, Nat.mod_lt _ (by omega), ?_, ?_⟩
  · apply b_ext
    intro i hi
    have h1 : bt (iushr x (nI (8 * t))) i = bt x (8 * t + i) := b_ushr (8 * t) (by omega) x i
    rw [hb i hi, b_and, h1, b_255, Bool.and_comm]
  · apply b_ext
    intro i hi
    rw [hb i hi, b_and, b_sshr (8 * t) (by omega) x hi, b_255, Bool.and_comm]
    by_cases c : i < 8
    · rw [if_pos (by omega)]
    · simp [c]
section OPS
variable {X : K3} {μ : K2}
theorem feed_core (x : Int32) : ∀ t, t ≤ 4 → ∀ n1 n2, t < n1 → t < n2 → ∀ (Y : K3) (m : K2) (n : Nat), R Y m → Y 3 1 0 = nI n → n + t ≤ 120 → Sim (f_X3_feed_L39 n1 Y x (nI t + (-1))) (f_X4_feed_L38 n2 m x (nI t + (-1))) := by
  intro t
  induction t with
  | zero =>
    intro ht n1 n2 h1 h2 Y m n hY hl hn
    obtain ⟨n1, rfl⟩ : ∃ z, n1 = z + 1 := ⟨n1 - 1, by omega⟩
    obtain ⟨n2, rfl⟩ : ∃ z, n2 = z + 1 := ⟨n2 - 1, by omega⟩
    rw [f_X3_feed_L39, if_pos dn_neg, f_X4_feed_L38, if_pos dn_neg, f_X3_feed_B66, f_X4_feed_B77]
    exact Sim.of' hY.2.2.2.2.1.1.symm hY
  | succ t ih =>
    intro ht n1 n2 h1 h2 Y m n hY hl hn
    obtain ⟨n1, rfl⟩ : ∃ z, n1 = z + 1 := ⟨n1 - 1, by omega⟩
    obtain ⟨n2, rfl⟩ : ∃ z, n2 = z + 1 := ⟨n2 - 1, by omega⟩
    obtain ⟨l1, n', hn', l2, l3⟩ := hY.2.2.2.2.1
    have en : n' = n := by
      rw [hl] at l2
      exact ((nI_eq (by omega) (by omega)).mp l2).symm
    subst en
    have hm : m 11 1 = nI n' := by rw [l1, hl]
    obtain ⟨b, hb, e1, e2⟩ := byte_eq x (t := t) (by omega)
    have ci : (nI n').toNatClampNeg = n' := nI_clamp (by omega)
    have i1 : ix (nI n') 120 := ix_nI (by omega) (by omega)
    have xa : f_X2_append (Y 3) (nI b) = some (va_up (va_up (Y 3) 0 (upd (Y 3 0) n' (nI b))) 1 (upd (Y 3 1) 0 (nI (n' + 1)))) := by
      unfold f_X2_append
      rw [hl, if_neg (show ¬ (120 : Int32) ≤ nI n' from nI_ge (b := 120) (by omega) (by omega)), if_pos i1, ci, nI_1]
    rw [f_X3_feed_L39, nI_dn, if_neg (nI_pos (by omega)), e1, xa, bd_some]
    rw [f_X4_feed_L38, if_neg (nI_pos (by omega)), hm, if_pos i1, ci, e2, nI_1]
    refine ih (by omega) n1 n2 (by omega) (by omega) _ _ (n' + 1) (hY.tape ?_ ?_ ?_) ?_ (by omega)
    · rw [up_s, upd_s, up_n (show (0 : Nat) ≠ 1 by decide), up_s, up_s, upd_s, up_n (show (5 : Nat) ≠ 11 by decide), up_s]
      refine ⟨rfl, n' + 1, by omega, rfl, fun i hi => ?_⟩
      by_cases e : i = n'
      · subst e
        rw [upd_s, upd_s]
        exact ⟨rfl, b, hb, rfl⟩
      · rw [upd_n e, upd_n e]
        exact l3 i (by omega)
    · intro c h5 h6 h11
      rw [up_n h11, up_n h5]
    · rw [up_s, upd_n (by decide)]
    · rw [up_s, up_s, upd_s]
theorem s_feed (h : R X μ) (x a : Int32) : Sim (f_X3_feed X x a) (f_X4_feed μ x a) := by
  unfold f_X3_feed f_X4_feed
  rw [within_X3, within_X4, bd_some, bd_some]
  obtain ⟨l1, n, hn, l2, l3⟩ := h.2.2.2.2.1
  rw [l1]
  by_cases c : 1 ≤ a ∧ a ≤ 4
  · rw [if_pos c, itn10, itn10]
    obtain ⟨k, hk, rfl⟩ := rng (n := 4) (show 0 ≤ a ∧ a ≤ 4 from ⟨by
        have := c.1
        rw [i32_le] at this ⊢
        have e2 : (1 : Int32).toInt = 1 := rfl
        have e3 : (0 : Int32).toInt = 0 := rfl
        omega, c.2⟩) rfl (by omega)
    by_cases d : n + k ≤ 120
    · have d' : X 3 1 0 + nI k ≤ 120 := by
        rw [l2, nI_add]
        exact nI_le (b := 120) d (by omega)
      have es : nI k - 1 = nI k + (-1) := by
        match k, hk with
        | 0, _ => decide
        | 1, _ => decide
        | 2, _ => decide
        | 3, _ => decide
        | 4, _ => decide
      rw [if_pos d', if_pos d', es]
      exact feed_core x k hk 1000 1000 (by omega) (by omega) X μ n h l2 d
    · have d' : ¬ X 3 1 0 + nI k ≤ 120 := by
        rw [l2, nI_add]
        exact nI_ge (a := 120) (by omega) (by omega)
      rw [if_neg d', if_neg d']
      exact find1 h
  · rw [if_neg c, itn00, itn00]; exact find0 h
end OPS
