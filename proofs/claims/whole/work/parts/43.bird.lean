theorem rng5 {v : Int32} {M : Nat} (hM : M ≤ 10000) (h : v = 0 ∨ ∃ z, z ≤ 10000 ∧ v = nI z ∧ nI z ≤ nI M) : ∃ z, z ≤ M ∧ v = nI z := by
  rcases h with e | ⟨z, h1, h2, h3⟩
  · exact ⟨0, by omega, e⟩
  · exact ⟨z, (nI_leI (by omega) (by omega)).mp h3, h2⟩
theorem not_m2 {v d : Int32} {M : Int32} (hd : ¬ d = -2) (h : v = d ∨ ∃ z, z ≤ 10000 ∧ v = nI z ∧ nI z ≤ M) : ¬ v = -2 := by
  rcases h with e | ⟨z, h1, h2, -⟩
  · rw [e]; exact hd
  · rw [h2]; exact ne_m2 h1
theorem bird_both {τ m σ : K2} {n a b k kd : Nat} (h : TT τ m n a b) (hab : a < b) (h6 : m 11 6 = 0) (h7 : m 11 7 = nI k) (hka : k ≤ a) (h8 : m 11 8 = nI (nb σ)) (hK : KI σ) (hkd : kd ≤ 6) :
    (∃ τ' m' σ', f_X2_readBird τ σ (nI kd) = some (1, τ', σ') ∧ f_X4_readBird m (nI kd) = some m' ∧ Good m σ k n a τ' m' σ') ∨ (∃ τ' m', f_X2_readBird τ σ (nI kd) = some (0, τ', σ) ∧ f_X4_readBird m (nI kd) = some m' ∧ Bad m τ' m') := by
  have hn := h.1.1
  have hbn := h.1.2.1
  have hk : k < 120 := by omega
  have hb8 := hK.1.2
  have ht2 : m 11 2 = τ 1 2 := by rw [h.2.2.1, h.2.2.2.1]
  unfold f_X2_readBird f_X4_readBird
  rw [X0_isFull hK, bd_some, h8]
  by_cases hf : nb σ < 8
  · rw [if_pos hf, itn00, if_neg (show ¬ (8 : Int32) ≤ nI (nb σ) from nI_ge (b := 8) hf (by omega)), must1 h6]
    obtain ⟨a1, b1, τ1, m1, s1, s2, t1, hba1, -, km1⟩ := tok_both h.1
    rw [s1, bd_some, s2, bd_some]
    have h61 : m1 11 6 = 0 := km1.2.2.2.1.trans h6
    rcases opt_both t1 h61 (w := 7) (by omega) 5 0 (fun _ => 5) (fun _ _ => rfl) (fun q v => f_X4_readBird_B38 q (nI kd) v) with ⟨v1, τ2, m2, a2, b2, x1, y1, t2, l2, km2, z1⟩ | ⟨τ2, m2, v1, x1, y1, w1⟩
    · rw [x1, bd_some, if_neg (not_m2 (by decide) z1)]
      have km12 := km1.trans km2
      have h62 : m2 11 6 = 0 := km12.2.2.2.1.trans h6
      have h82 : m2 11 8 = nI (nb σ) := km12.2.2.2.2.2.trans h8
      have yy1 : Option.bind (f_X4_takesWord m1 7) (fun q31 => if q31.1 = 0 then (f_X4_readBird_B38 q31.2 (nI kd) 0) else (Option.bind (f_X4_number q31.2 0 5) (fun q34 => f_X4_readBird_B38 q34.2 (nI kd) q34.1))) = f_X4_readBird_B38 m2 (nI kd) v1 := y1
      rw [yy1, f_X4_readBird_B38, hK.1.1]
      rcases opt_both t2 h62 (w := 8) (by omega) (nI (nb σ) - 1) (-1) (fun q => q 11 8 - 1) (fun q hq => by show q 11 8 - 1 = _; rw [hq.2.2.2.2.2, h82]) (fun q v => f_X4_readBird_B64 q (nI kd) v1 v) with ⟨v2, τ3, m3, a3, b3, x2, y2, t3, l3, km3, z2⟩ | ⟨τ3, m3, v2, x2, y2, w2⟩
      · rw [x2, bd_some, if_neg (not_m2 (by decide) z2)]
        have km13 := km12.trans km3
        have h63 : m3 11 6 = 0 := km13.2.2.2.1.trans h6
        rw [y2, f_X4_readBird_B64]
        rcases opt_both t3 h63 (w := 9) (by omega) 9999 0 (fun _ => 9999) (fun _ _ => rfl) (fun q v => f_X4_readBird_B87 q (nI kd) v1 v2 v) with ⟨v3, τ4, m4, a4, b4, x3, y3, t4, l4, km4, z3⟩ | ⟨τ4, m4, v3, x3, y3, w3⟩
        · rw [x3, bd_some, if_neg (not_m2 (by decide) z3)]
          have km14 := km13.trans km4
          have h64 : m4 11 6 = 0 := km14.2.2.2.1.trans h6
          have i1 := rng5 (M := 5) (by omega) z1
          have i2 : v2 = -1 ∨ ∃ z, z < nb σ ∧ v2 = nI z := by
            rcases z2 with e | ⟨z, q1, q2, q3⟩
            · exact Or.inl e
            · refine Or.inr ⟨z, ?_, q2⟩
              rw [i32_le, nI_toInt (by omega)] at q3
              have e1 : (nI (nb σ) - 1).toInt = (nb σ : Int) - 1 := pk_sub_toInt (b := 1) (by omega) (by omega)
              omega
          have i3 := rng5 (M := 9999) (by omega) z3
          have cb : (nI (nb σ)).toNatClampNeg = nb σ := nI_clamp (by omega)
          rw [y3, f_X4_readBird_B87, X0_add hK hf, bd_some]
          rw [if_pos (show ix (nI (nb σ)) 8 from ix_nI hf (by omega)), cb]
          have last : ∀ (τ5 m5 : K2) (a5 b5 : Nat) (z : Int32), TT τ5 m5 n a5 b5 → a < a5 → KM m m5 → (z = 0 ∨ z = 1) → ∃ τ' m' y, (y = 0 ∨ y = 1) ∧ f_X2_tookWord τ5 11 = some (y, τ') ∧ f_X4_readBird_B104 m5 (nI kd) v1 v2 v3 z = some m' ∧ Good m σ k n a τ' m' (va_up (va_up (va_up (addS σ (nI kd) v1 v2) 3 (upd (addS σ (nI kd) v1 v2 3) (nb σ) v3)) 4 (upd (addS σ (nI kd) v1 v2 4) (nb σ) z)) 5 (upd (addS σ (nI kd) v1 v2 5) (nb σ) y)) := by
            intro τ5 m5 a5 b5 z t5 l5 km5 hz
            have h65 : m5 11 6 = 0 := km5.2.2.2.1.trans h6
            rw [f_X4_readBird_B104]
            rcases took_both t5 h65 (w := 11) (by omega) with ⟨e1, e2, -⟩ | ⟨τ6, m6, a6, b6, e1, e2, t6, hab6, hba6, -, km6⟩
            · obtain ⟨m', g1, g2⟩ := good_bird t5 l5 km5 h6 h7 hk h8 hf ⟨kd, hkd, rfl⟩ i1 i2 i3 hz (Or.inl rfl)
              refine ⟨τ5, m', 0, Or.inl rfl, e1, ?_, g2⟩
              rw [e2, bd_some]
              exact (if_pos rfl).trans g1
            · have hab5 := t5.2.1
              obtain ⟨m', g1, g2⟩ := good_bird t6 (show a < a6 by omega) (km5.trans km6) h6 h7 hk h8 hf ⟨kd, hkd, rfl⟩ i1 i2 i3 hz (Or.inr rfl)
              refine ⟨τ6, m', 1, Or.inr rfl, e1, ?_, g2⟩
              rw [e2, bd_some]
              exact (if_neg (show ¬ (1 : Int32) = 0 by decide)).trans g1
          rcases took_both t4 h64 (w := 10) (by omega) with ⟨e1, e2, -⟩ | ⟨τ5, m5, a5, b5, e1, e2, t5, hab5, hba5, -, km5⟩
          · obtain ⟨τ', m', y, hy, g1, g2, g3⟩ := last τ4 m4 a4 b4 0 t4 (by omega) km14 (Or.inl rfl)
            refine Or.inl ⟨τ', m', _, ?_, ?_, g3⟩
            · rw [e1, bd_some]
              refine (if_pos rfl).trans ?_
              rw [g1, bd_some]
              rcases hy with rfl | rfl
              · exact if_pos rfl
              · exact if_neg (show ¬ (1 : Int32) = 0 by decide)
            · rw [e2, bd_some]
              exact (if_pos rfl).trans g2
          · have hab4 := t4.2.1
            obtain ⟨τ', m', y, hy, g1, g2, g3⟩ := last τ5 m5 a5 b5 1 t5 (by omega) (km14.trans km5) (Or.inr rfl)
            refine Or.inl ⟨τ', m', _, ?_, ?_, g3⟩
            · rw [e1, bd_some]
              refine (if_neg (show ¬ (1 : Int32) = 0 by decide)).trans ?_
              rw [g1, bd_some]
              rcases hy with rfl | rfl
              · exact if_pos rfl
              · exact if_neg (show ¬ (1 : Int32) = 0 by decide)
            · rw [e2, bd_some]
              exact (if_neg (show ¬ (1 : Int32) = 0 by decide)).trans g2
        · obtain ⟨m', g1, g2⟩ := badB87 (Wr.km km13 w3) h7 hk (nI kd) v1 v2 v3
          refine Or.inr ⟨τ4, m', ?_, ?_, g2⟩
          · rw [x3, bd_some]; exact if_pos rfl
          · rw [y3]; exact g1
      · obtain ⟨m', g1, g2⟩ := badB64 (Wr.km km12 w2) h7 hk (nI kd) v1 v2
        refine Or.inr ⟨τ3, m', ?_, ?_, g2⟩
        · rw [x2, bd_some]; exact if_pos rfl
        · rw [y2]; exact g1
    · obtain ⟨m', g1, g2⟩ := badB38 (Wr.km km1 w1) h7 hk (nI kd) v1
      refine Or.inr ⟨τ2, m', ?_, ?_, g2⟩
      · rw [x1, bd_some]; exact if_pos rfl
      · exact Eq.trans y1 g1
  · have hw6 : wrong m 11 6 = 1 := by unfold wrong; rw [up_s, upd_s]
    obtain ⟨m', g1, g2⟩ := badB38 (Wr.of h) h7 hk (nI kd) 0
    refine Or.inr ⟨τ, m', ?_, ?_, g2⟩
    · rw [if_neg hf, itn10]
    · rw [if_pos (show (8 : Int32) ≤ nI (nb σ) from nI_le (a := 8) (by omega) (by omega)), must0, bd_some, takesW hw6, bd_some]
      exact (if_pos rfl).trans g1
