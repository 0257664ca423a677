/-! ===== pure: the tokens of the tape ===== -/
section TOK
variable {τ m : K2} {n : Nat}
theorem byte_in (hn : n ≤ 120) {s : Nat → Int32} (h1 : s 1 = nI n) {p : Nat} (hp : p < n) : f_X4_byteAt (va_up m 11 s) (nI p) = some (m 5 p) := by
  unfold f_X4_byteAt
  rw [up_s, h1, if_neg (nI_ge hp (by omega)), if_pos (ix_nI (by omega) (by omega)), up_n (show (5 : Nat) ≠ 11 by decide), nI_clamp (by omega)]
theorem byte_out (hn : n ≤ 120) {s : Nat → Int32} (h1 : s 1 = nI n) : f_X4_byteAt (va_up m 11 s) (nI n) = some (-1) := by
  unfold f_X4_byteAt
  rw [up_s, h1, if_pos (nI_le (Nat.le_refl _) (by omega))]
theorem lett_X (x : Int32) : f_X2_isLetter x = some (if 97 ≤ x ∧ x ≤ 122 then 1 else 0) := within_X4 x 97 122
theorem dig_X (x : Int32) : f_X2_isDigit x = some (if 48 ≤ x ∧ x ≤ 57 then 1 else 0) := within_X4 x 48 57
def HB (τ m : K2) (n : Nat) : Prop := ∀ i, i < n → m 5 i = τ 0 i ∧ ∃ c, c < 256 ∧ τ 0 i = nI c
theorem tok_skip (hn : n ≤ 120) (hB : HB τ m n) : ∀ t p, p + t = n → ∀ n1 n2, t < n1 → t < n2 → ∀ r s : Nat → Int32, r 0 = nI n → s 1 = nI n → r 2 = nI p → s 2 = nI p → ∃ p', p ≤ p' ∧ p' ≤ n ∧ f_X2_step_L8 n1 (va_up τ 1 r) = f_X2_step_B46 (va_up τ 1 (upd r 2 (nI p'))) ∧ f_X4_token_L8 n2 (va_up m 11 s) = f_X4_token_B34 (va_up m 11 (upd s 2 (nI p'))) := by
  intro t
  induction t with
  | zero =>
    intro p hp n1 n2 h1 h2 r s r0 s1 r2 s2
    obtain ⟨n1, rfl⟩ : ∃ z, n1 = z + 1 := ⟨n1 - 1, by omega⟩
    obtain ⟨n2, rfl⟩ : ∃ z, n2 = z + 1 := ⟨n2 - 1, by omega⟩
    have hpn : p = n := by omega
    subst hpn
    refine ⟨p, Nat.le_refl _, Nat.le_refl _, ?_, ?_⟩
    · rw [f_X2_step_L8, up_s, r0, r2, if_pos (nI_le (Nat.le_refl _) (by omega)), ← r2, upd_same]
    · rw [f_X4_token_L8, up_s, s2, byte_out hn s1, bd_some, if_neg (show ¬ (-1 : Int32) = 32 by decide), ← s2, upd_same]
  | succ t ih =>
    intro p hp n1 n2 h1 h2 r s r0 s1 r2 s2
    obtain ⟨n1, rfl⟩ : ∃ z, n1 = z + 1 := ⟨n1 - 1, by omega⟩
    obtain ⟨n2, rfl⟩ : ∃ z, n2 = z + 1 := ⟨n2 - 1, by omega⟩
    have cp : (nI p).toNatClampNeg = p := nI_clamp (by omega)
    have ip : ix (nI p) 120 := ix_nI (by omega) (by omega)
    obtain ⟨hb, -⟩ := hB p (by omega)
    by_cases e : τ 0 p = 32
    · obtain ⟨p', q1, q2, q3, q4⟩ := ih (p + 1) (by omega) n1 n2 (by omega) (by omega) (upd r 2 (nI (p + 1))) (upd s 2 (nI (p + 1))) (by rw [upd_n (by decide)]; exact r0) (by rw [upd_n (by decide)]; exact s1) upd_s upd_s
      refine ⟨p', by omega, q2, ?_, ?_⟩
      · rw [f_X2_step_L8, up_s, r0, r2, if_neg (nI_ge (by omega) (by omega)), if_pos ip, cp, up_n (show (0 : Nat) ≠ 1 by decide), if_pos e, bx_uu, nI_1, q3, upd_upd]
      · rw [f_X4_token_L8, up_s, s2, byte_in hn s1 (by omega), bd_some, hb, if_pos e, bx_uu, nI_1, q4, upd_upd]
    · refine ⟨p, Nat.le_refl _, by omega, ?_, ?_⟩
      · rw [f_X2_step_L8, up_s, r0, r2, if_neg (nI_ge (by omega) (by omega)), if_pos ip, cp, up_n (show (0 : Nat) ≠ 1 by decide), if_neg e, ← r2, upd_same]
      · rw [f_X4_token_L8, up_s, s2, byte_in hn s1 (by omega), bd_some, hb, if_neg e, ← s2, upd_same]
theorem tok_word (hn : n ≤ 120) (hB : HB τ m n) : ∀ t q, q + t = n → ∀ n1 n2, t < n1 → t < n2 → ∀ r s : Nat → Int32, r 0 = nI n → s 1 = nI n → r 3 = nI q → s 3 = nI q → ∃ q', q ≤ q' ∧ q' ≤ n ∧ f_X2_step_L98 n1 (va_up τ 1 r) = some (va_up τ 1 (upd r 3 (nI q'))) ∧ f_X4_token_L84 n2 (va_up m 11 s) = some (va_up m 11 (upd s 3 (nI q'))) ∧ (q < n → (97 ≤ τ 0 q ∧ τ 0 q ≤ 122) → q < q') := by
  intro t
  induction t with
  | zero =>
    intro q hq n1 n2 h1 h2 r s r0 s1 r3 s3
    obtain ⟨n1, rfl⟩ : ∃ z, n1 = z + 1 := ⟨n1 - 1, by omega⟩
    obtain ⟨n2, rfl⟩ : ∃ z, n2 = z + 1 := ⟨n2 - 1, by omega⟩
    have hqn : q = n := by omega
    subst hqn
    refine ⟨q, Nat.le_refl _, Nat.le_refl _, ?_, ?_, fun h => by omega⟩
    · rw [f_X2_step_L98, up_s, r0, r3, if_pos (nI_le (Nat.le_refl _) (by omega)), ← r3, upd_same]
    · rw [f_X4_token_L84, up_s, s3, byte_out hn s1, bd_some, within_X4, bd_some, if_neg (show ¬ ((97 : Int32) ≤ -1 ∧ (-1 : Int32) ≤ 122) by decide), itn00, ← s3, upd_same]
  | succ t ih =>
    intro q hq n1 n2 h1 h2 r s r0 s1 r3 s3
    obtain ⟨n1, rfl⟩ : ∃ z, n1 = z + 1 := ⟨n1 - 1, by omega⟩
    obtain ⟨n2, rfl⟩ : ∃ z, n2 = z + 1 := ⟨n2 - 1, by omega⟩
    have cq : (nI q).toNatClampNeg = q := nI_clamp (by omega)
    have iq : ix (nI q) 120 := ix_nI (by omega) (by omega)
    obtain ⟨hb, -⟩ := hB q (by omega)
    by_cases e : 97 ≤ τ 0 q ∧ τ 0 q ≤ 122
    · obtain ⟨q', p1, p2, p3, p4, -⟩ := ih (q + 1) (by omega) n1 n2 (by omega) (by omega) (upd r 3 (nI (q + 1))) (upd s 3 (nI (q + 1))) (by rw [upd_n (by decide)]; exact r0) (by rw [upd_n (by decide)]; exact s1) upd_s upd_s
      refine ⟨q', by omega, p2, ?_, ?_, fun _ _ => by omega⟩
      · rw [f_X2_step_L98, up_s, r0, r3, if_neg (nI_ge (by omega) (by omega)), if_pos iq, cq, up_n (show (0 : Nat) ≠ 1 by decide), lett_X, bd_some, if_pos e, itn10, bx_uu, nI_1, p3, upd_upd]
      · rw [f_X4_token_L84, up_s, s3, byte_in hn s1 (by omega), bd_some, hb, within_X4, bd_some, if_pos e, itn10, bx_uu, nI_1, p4, upd_upd]
    · refine ⟨q, Nat.le_refl _, by omega, ?_, ?_, fun _ h => absurd h e⟩
      · rw [f_X2_step_L98, up_s, r0, r3, if_neg (nI_ge (by omega) (by omega)), if_pos iq, cq, up_n (show (0 : Nat) ≠ 1 by decide), lett_X, bd_some, if_neg e, itn00, ← r3, upd_same]
      · rw [f_X4_token_L84, up_s, s3, byte_in hn s1 (by omega), bd_some, hb, within_X4, bd_some, if_neg e, itn00, ← s3, upd_same]
theorem upd_comm {f : Nat → Int32} {a b : Nat} {x y : Int32} (h : a ≠ b) : upd (upd f a x) b y = upd (upd f b y) a x := by
  funext k
  by_cases e : k = b
  · subst e; rw [upd_s, upd_n (fun q => h q.symm), upd_s]
  · rw [upd_n e]
    by_cases e2 : k = a
    · subst e2; rw [upd_s, upd_s]
    · rw [upd_n e2, upd_n e2, upd_n e]
theorem upd34 {f : Nat → Int32} {a b : Nat} {x y u v : Int32} (h : a ≠ b) : upd (upd (upd (upd f a x) b y) a u) b v = upd (upd f a u) b v := by
  rw [upd_comm (f := upd f a x) (fun q => h q.symm), upd_upd, upd_upd]
theorem tok_num (hn : n ≤ 120) (hB : HB τ m n) : ∀ t q, q + t = n → ∀ n1 n2, t < n1 → t < n2 → ∀ (r s : Nat → Int32) (v : Nat), v ≤ 10000 → r 0 = nI n → s 1 = nI n → r 3 = nI q → s 3 = nI q → r 4 = nI v → s 5 = nI v → ∃ q' v', v' ≤ 10000 ∧ q ≤ q' ∧ q' ≤ n ∧ f_X2_step_L157 n1 (va_up τ 1 r) = some (va_up τ 1 (upd (upd r 3 (nI q')) 4 (nI v'))) ∧ f_X4_token_L131 n2 (va_up m 11 s) = some (va_up m 11 (upd (upd s 3 (nI q')) 5 (nI v'))) ∧ (q < n → (48 ≤ τ 0 q ∧ τ 0 q ≤ 57) → q < q') := by
  intro t
  induction t with
  | zero =>
    intro q hq n1 n2 h1 h2 r s v hv r0 s1 r3 s3 r4 s5
    obtain ⟨n1, rfl⟩ : ∃ z, n1 = z + 1 := ⟨n1 - 1, by omega⟩
    obtain ⟨n2, rfl⟩ : ∃ z, n2 = z + 1 := ⟨n2 - 1, by omega⟩
    have hqn : q = n := by omega
    subst hqn
    refine ⟨q, v, hv, Nat.le_refl _, Nat.le_refl _, ?_, ?_, fun h => by omega⟩
    · rw [f_X2_step_L157, up_s, r0, r3, if_pos (nI_le (Nat.le_refl _) (by omega)), ← r3, upd_same, ← r4, upd_same]
    · rw [f_X4_token_L131, up_s, s3, byte_out hn s1, bd_some, within_X4, bd_some, if_neg (show ¬ ((48 : Int32) ≤ -1 ∧ (-1 : Int32) ≤ 57) by decide), itn00, ← s3, upd_same, ← s5, upd_same]
  | succ t ih =>
    intro q hq n1 n2 h1 h2 r s v hv r0 s1 r3 s3 r4 s5
    obtain ⟨n1, rfl⟩ : ∃ z, n1 = z + 1 := ⟨n1 - 1, by omega⟩
    obtain ⟨n2, rfl⟩ : ∃ z, n2 = z + 1 := ⟨n2 - 1, by omega⟩
    have cq : (nI q).toNatClampNeg = q := nI_clamp (by omega)
    have iq : ix (nI q) 120 := ix_nI (by omega) (by omega)
    obtain ⟨hb, c, hc, ec⟩ := hB q (by omega)
    by_cases e : 48 ≤ τ 0 q ∧ τ 0 q ≤ 57
    · have c48 : 48 ≤ c := by
        have := e.1
        rw [ec] at this
        exact (nI_leI (a := 48) (by omega) (by omega)).mp this
      have ex : imin 10000 (nI v * 10 + τ 0 q - 48) = nI (min 10000 (v * 10 + c - 48)) := by
        have e1 : nI v * (10 : Int32) = nI (v * 10) := (Int32.ofNat_mul v 10).symm
        have e2 : nI (v * 10 + c) - (48 : Int32) = nI (v * 10 + c - 48) := pk_sub (b := 48) (by omega)
        rw [ec, e1, nI_add, e2]
        exact imin_nI (a := 10000) (by omega) (by omega)
      have em : imin 10000 ((10 : Int32) * nI v + τ 0 q - 48) = nI (min 10000 (v * 10 + c - 48)) := by
        rw [Int32.mul_comm]; exact ex
      obtain ⟨q', v', hv', p1, p2, p3, p4, -⟩ := ih (q + 1) (by omega) n1 n2 (by omega) (by omega) (upd (upd r 3 (nI (q + 1))) 4 (nI (min 10000 (v * 10 + c - 48)))) (upd (upd s 3 (nI (q + 1))) 5 (nI (min 10000 (v * 10 + c - 48)))) (min 10000 (v * 10 + c - 48)) (by omega) (by rw [upd_n (by decide), upd_n (by decide)]; exact r0) (by rw [upd_n (by decide), upd_n (by decide)]; exact s1) (by rw [upd_n (by decide), upd_s]) (by rw [upd_n (by decide), upd_s]) upd_s upd_s
      refine ⟨q', v', hv', by omega, p2, ?_, ?_, fun _ _ => by omega⟩
      · rw [f_X2_step_L157, up_s, r0, r3, if_neg (nI_ge (by omega) (by omega)), if_pos iq, cq, up_n (show (0 : Nat) ≠ 1 by decide), dig_X, bd_some, if_pos e, itn10, bx_uu, nI_1, r4, ex, p3, upd34 (by decide)]
      · rw [f_X4_token_L131, up_s, s3, byte_in hn s1 (by omega), bd_some, hb, within_X4, bd_some, if_pos e, itn10, bd_some, bx_uu, nI_1, s5, em, p4, upd34 (by decide)]
    · refine ⟨q, v, hv, Nat.le_refl _, by omega, ?_, ?_, fun _ h => absurd h e⟩
      · rw [f_X2_step_L157, up_s, r0, r3, if_neg (nI_ge (by omega) (by omega)), if_pos iq, cq, up_n (show (0 : Nat) ≠ 1 by decide), dig_X, bd_some, if_neg e, itn00, ← r3, upd_same, ← r4, upd_same]
      · rw [f_X4_token_L131, up_s, s3, byte_in hn s1 (by omega), bd_some, hb, within_X4, bd_some, if_neg e, itn00, ← s3, upd_same, ← s5, upd_same]
end TOK
