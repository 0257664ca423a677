/-! ===== pure: a bird read on both sides ===== -/
theorem opt_both {τ m : K2} {n a b w : Nat} (h : TT τ m n a b) (h6 : m 11 6 = 0) (hw : w < 15) (M d : Int32) (Mf : K2 → Int32) (hM : ∀ m', KM m m' → Mf m' = M) (K : K2 → Int32 → Option K2) :
    (∃ v τ' m' a' b', f_X2_takeOptional τ w M d = some (v, τ') ∧ Option.bind (f_X4_takesWord m w) (fun q => if q.1 = 0 then K q.2 d else Option.bind (f_X4_number q.2 0 (Mf q.2)) (fun q2 => K q2.2 q2.1)) = K m' v ∧ TT τ' m' n a' b' ∧ a ≤ a' ∧ KM m m' ∧ (v = d ∨ ∃ z, z ≤ 10000 ∧ v = nI z ∧ nI z ≤ M)) ∨
    (∃ τ' m' v, f_X2_takeOptional τ w M d = some (-2, τ') ∧ Option.bind (f_X4_takesWord m w) (fun q => if q.1 = 0 then K q.2 d else Option.bind (f_X4_number q.2 0 (Mf q.2)) (fun q2 => K q2.2 q2.1)) = K m' v ∧ Wr m τ' m') := by
  unfold f_X2_takeOptional
  rcases took_both h h6 hw with ⟨e1, e2, -⟩ | ⟨τ1, m1, a1, b1, e1, e2, t1, hab, hba, -, km⟩
  · refine Or.inl ⟨d, τ, m, a, b, ?_, ?_, h, Nat.le_refl _, KM.rf m, Or.inl rfl⟩
    · rw [e1, bd_some]; exact if_pos rfl
    · rw [e2, bd_some]; exact if_pos rfl
  · have hm61 : m1 11 6 = 0 := km.2.2.2.1.trans h6
    have ht21 : m1 11 2 = τ1 1 2 := by rw [t1.2.2.1, t1.2.2.2.1]
    have h10 : ¬ (1 : Int32) = 0 := by decide
    rcases num_both t1 hm61 M with ⟨v, τ2, m2, a2, b2, hv, hvM, f1, f2, t2, hab2, hba2, -, km2⟩ | ⟨f1, f2⟩
    · refine Or.inl ⟨nI v, τ2, m2, a2, b2, ?_, ?_, t2, by omega, km.trans km2, Or.inr ⟨v, hv, rfl, hvM⟩⟩
      · rw [e1, bd_some]
        refine (if_neg h10).trans ?_
        rw [f1, bd_some]
      · rw [e2, bd_some]
        refine (if_neg h10).trans ?_
        rw [hM m1 km, f2, bd_some]
    · refine Or.inr ⟨τ1, wrong m1, m1 11 5, ?_, ?_, Wr.km km (Wr.of t1)⟩
      · rw [e1, bd_some]
        refine (if_neg h10).trans ?_
        rw [f1, bd_some]
      · rw [e2, bd_some]
        refine (if_neg h10).trans ?_
        rw [hM m1 km, f2, bd_some]
theorem Bad.bump {m τ m' : K2} (h : Bad m τ m') (x : Int32) : Bad m τ (va_up m' 11 (upd (m' 11) 8 x)) :=
  ⟨by rw [up_s, upd_n (by decide)]; exact h.1, ⟨by rw [up_s, upd_n (by decide)]; exact h.2.1.1, h.2.1.2⟩, fun c h6 h11 => by rw [up_n h11]; exact h.2.2.1 c h6 h11, by rw [up_s, upd_n (by decide)]; exact h.2.2.2⟩
section BIRD
variable {m τ m1 : K2} {k : Nat}
theorem badB104 (h : Wr m τ m1) (h7 : m 11 7 = nI k) (hk : k < 120) (x1 x2 x3 x4 z : Int32) : ∃ m', f_X4_readBird_B104 m1 x1 x2 x3 x4 z = some m' ∧ Bad m τ m' := by
  obtain ⟨m', g1, g2⟩ := bad_add h h7 hk x1 x2 x3 x4 z 0
  refine ⟨_, ?_, g2.bump ((m' 11 8) + 1)⟩
  rw [f_X4_readBird_B104, takesW h.1, bd_some]
  refine (if_pos rfl).trans ?_
  rw [g1, bd_some]
theorem badB87 (h : Wr m τ m1) (h7 : m 11 7 = nI k) (hk : k < 120) (x1 x2 x3 z : Int32) : ∃ m', f_X4_readBird_B87 m1 x1 x2 x3 z = some m' ∧ Bad m τ m' := by
  obtain ⟨m', g1, g2⟩ := badB104 h h7 hk x1 x2 x3 z 0
  refine ⟨m', ?_, g2⟩
  rw [f_X4_readBird_B87, takesW h.1, bd_some]
  exact (if_pos rfl).trans g1
theorem badB64 (h : Wr m τ m1) (h7 : m 11 7 = nI k) (hk : k < 120) (x1 x2 z : Int32) : ∃ m', f_X4_readBird_B64 m1 x1 x2 z = some m' ∧ Bad m τ m' := by
  obtain ⟨m', g1, g2⟩ := badB87 h h7 hk x1 x2 z 0
  refine ⟨m', ?_, g2⟩
  rw [f_X4_readBird_B64, takesW h.1, bd_some]
  exact (if_pos rfl).trans g1
theorem badB38 (h : Wr m τ m1) (h7 : m 11 7 = nI k) (hk : k < 120) (x1 z : Int32) : ∃ m', f_X4_readBird_B38 m1 x1 z = some m' ∧ Bad m τ m' := by
  obtain ⟨m', g1, g2⟩ := badB64 h h7 hk x1 z (-1)
  refine ⟨m', ?_, g2⟩
  rw [f_X4_readBird_B38, takesW h.1, bd_some]
  exact (if_pos rfl).trans g1
end BIRD
theorem nb_birdS {σ : K2} {f : Nat → Int32} (hb : nb σ < 8) : nb (birdS σ f) = nb σ + 1 := by
  rw [← nb_addS hb (f 0) (f 1) (f 2)]
  exact nb_eq rfl
theorem good_bird {m m1 τ1 σ : K2} {k n a a1 b1 : Nat} (h : TT τ1 m1 n a1 b1) (ha : a < a1) (hm : KM m m1) (h6 : m 11 6 = 0) (h7 : m 11 7 = nI k) (hk : k < 120) (h8 : m 11 8 = nI (nb σ)) (hb : nb σ < 8) {x1 x2 x3 x4 x5 x6 : Int32} (i0 : ∃ z, z ≤ 6 ∧ x1 = nI z) (i1 : ∃ z, z ≤ 5 ∧ x2 = nI z) (i2 : x3 = -1 ∨ ∃ z, z < nb σ ∧ x3 = nI z) (i3 : ∃ z, z ≤ 9999 ∧ x4 = nI z) (i4 : x5 = 0 ∨ x5 = 1) (i5 : x6 = 0 ∨ x6 = 1) :
    ∃ m', Option.bind (f_X4_addItem m1 x1 x2 x3 x4 x5 x6) (fun q => some (va_up q 11 (upd (q 11) 8 ((q 11 8) + 1)))) = some m' ∧ Good m σ k n a τ1 m' (va_up (va_up (va_up (addS σ x1 x2 x3) 3 (upd (addS σ x1 x2 x3 3) (nb σ) x4)) 4 (upd (addS σ x1 x2 x3 4) (nb σ) x5)) 5 (upd (addS σ x1 x2 x3 5) (nb σ) x6)) := by
  have e6 : m1 6 = m 6 := hm.1 6 (by decide)
  have hS : birdS σ (fun j => row6 (m 6) k x1 x2 x3 x4 x5 x6 (6 * k + j)) = va_up (va_up (va_up (addS σ x1 x2 x3) 3 (upd (addS σ x1 x2 x3 3) (nb σ) x4)) 4 (upd (addS σ x1 x2 x3 4) (nb σ) x5)) 5 (upd (addS σ x1 x2 x3 5) (nb σ) x6) := by
    unfold birdS
    have f0 : row6 (m 6) k x1 x2 x3 x4 x5 x6 (6 * k + 0) = x1 := row6_0
    simp only [f0, row6_1, row6_2, row6_3, row6_4, row6_5]
  have hI : It (fun j => row6 (m 6) k x1 x2 x3 x4 x5 x6 (6 * k + j)) σ (birdS σ (fun j => row6 (m 6) k x1 x2 x3 x4 x5 x6 (6 * k + j))) := by
    refine Or.inr (Or.inr (Or.inr ⟨hb, ?_, ?_, ?_, ?_, ?_, ?_, rfl⟩))
    · show ∃ z, z ≤ 6 ∧ row6 (m 6) k x1 x2 x3 x4 x5 x6 (6 * k) = nI z
      rw [row6_0]; exact i0
    · show ∃ z, z ≤ 5 ∧ row6 (m 6) k x1 x2 x3 x4 x5 x6 (6 * k + 1) = nI z
      rw [row6_1]; exact i1
    · show row6 (m 6) k x1 x2 x3 x4 x5 x6 (6 * k + 2) = -1 ∨ ∃ z, z < nb σ ∧ row6 (m 6) k x1 x2 x3 x4 x5 x6 (6 * k + 2) = nI z
      rw [row6_2]; exact i2
    · show ∃ z, z ≤ 9999 ∧ row6 (m 6) k x1 x2 x3 x4 x5 x6 (6 * k + 3) = nI z
      rw [row6_3]; exact i3
    · show row6 (m 6) k x1 x2 x3 x4 x5 x6 (6 * k + 4) = 0 ∨ row6 (m 6) k x1 x2 x3 x4 x5 x6 (6 * k + 4) = 1
      rw [row6_4]; exact i4
    · show row6 (m 6) k x1 x2 x3 x4 x5 x6 (6 * k + 5) = 0 ∨ row6 (m 6) k x1 x2 x3 x4 x5 x6 (6 * k + 5) = 1
      rw [row6_5]; exact i5
  rw [M_addItem hk (hm.2.2.2.2.1.trans h7) x1 x2 x3 x4 x5 x6, bd_some]
  have hN := nb_birdS (σ := σ) (f := fun j => row6 (m 6) k x1 x2 x3 x4 x5 x6 (6 * k + j)) hb
  refine ⟨_, rfl, ?_⟩
  rw [← hS, bx_uu, up_s]
  refine ⟨⟨a1, b1, h.keep ?_ ?_, ha⟩, ?_, ?_, ?_, ?_, fun j hj => ?_, fun c hc6 hc11 => ?_, ?_⟩
  · rw [up_n (by decide), up_n (by decide)]
  · intro i h1 h5
    rw [up_s, upd_n (by omega), upd_n (by omega)]
  · rw [up_s, upd_n (by decide), upd_n (by decide)]; exact hm.2.2.2.1.trans h6
  · rw [up_s, upd_n (by decide), upd_s]
  · rw [up_s, upd_s, upd_n (by decide), hN, hm.2.2.2.2.2.trans h8, nI_1]
  · rw [up_n (by decide), up_s, e6]; exact hI
  · rw [up_n (by decide), up_s, row6_n hj, e6]
  · rw [up_n hc11, up_n hc6]; exact hm.1 c hc11
  · rw [up_s, upd_n (by decide), upd_n (by decide)]; exact hm.2.1
