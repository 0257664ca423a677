/-! ===== pure: an item, whichever ===== -/
theorem item_both {τ m σ : K2} {n a b k : Nat} (h : TT τ m n a b) (h6 : m 11 6 = 0) (h7 : m 11 7 = nI k) (hka : k ≤ a) (h8 : m 11 8 = nI (nb σ)) (hK : KI σ) :
    (∃ τ' m' σ', f_X2_readItem τ σ = some (1, τ', σ') ∧ f_X4_readItem m = some m' ∧ Good m σ k n a τ' m' σ') ∨ (∃ τ' m', f_X2_readItem τ σ = some (0, τ', σ) ∧ f_X4_readItem m = some m' ∧ Bad m τ' m') := by
  have o1 : (1 : Int32) = 0 ∨ (1 : Int32) = 1 := Or.inr rfl
  have o0 : (0 : Int32) = 0 ∨ (0 : Int32) = 1 := Or.inl rfl
  have n10 : ¬ (1 : Int32) = 0 := by decide
  unfold f_X2_readItem
  rcases kind_both h with ⟨e1, e2⟩ | ⟨kd, hkd, hab, e1, e2⟩
  · rw [e1, bd_some, if_pos (show (-1 : Int32) < 0 by decide), e2, f_X4_readItem_B38, if_pos (show (-1 : Int32) < 0 by decide)]
    rcases took_both h h6 (w := 12) (by omega) with ⟨x1, y1, -⟩ | ⟨τ1, m1, a1, b1, x1, y1, t1, hab1, hba1, -, km1⟩
    · rw [x1, bd_some, if_pos rfl, y1, bd_some, if_pos rfl]
      rcases took_both h h6 (w := 13) (by omega) with ⟨x2, y2, -⟩ | ⟨τ1, m1, a1, b1, x2, y2, t1, hab1, hba1, -, km1⟩
      · rw [x2, bd_some, if_pos rfl, y2, bd_some, if_pos rfl]
        rcases took_both h h6 (w := 14) (by omega) with ⟨x3, y3, -⟩ | ⟨τ1, m1, a1, b1, x3, y3, t1, hab1, hba1, -, km1⟩
        · refine Or.inr ⟨τ, wrong m, ?_, ?_, (Wr.of h).bad⟩
          · rw [x3, bd_some]; exact if_pos rfl
          · rw [y3, bd_some]
            refine (if_pos rfl).trans ?_
            rw [must0, bd_some]
        · rcases strike_both t1 km1 h6 h7 h8 hK (show a < a1 by omega) hka with ⟨τ', m', σ', p1, p2, p3⟩ | ⟨τ', m', p1, p2, p3⟩
          · refine Or.inl ⟨τ', m', σ', ?_, ?_, p3⟩
            · rw [x3, bd_some]
              refine (if_neg n10).trans ?_
              rw [p1, bd_some]
              exact if_pos o1
            · rw [y3, bd_some]
              exact (if_neg n10).trans p2
          · refine Or.inr ⟨τ', m', ?_, ?_, p3⟩
            · rw [x3, bd_some]
              refine (if_neg n10).trans ?_
              rw [p1, bd_some]
              exact if_pos o0
            · rw [y3, bd_some]
              exact (if_neg n10).trans p2
      · rcases corn_both (σ := σ) t1 km1 h6 h7 h8 (show a < a1 by omega) hka with ⟨τ', m', σ', p1, p2, p3⟩ | ⟨τ', m', p1, p2, p3⟩
        · refine Or.inl ⟨τ', m', σ', ?_, ?_, p3⟩
          · rw [x2, bd_some]
            refine (if_neg n10).trans ?_
            rw [p1, bd_some]
            exact if_pos o1
          · rw [y2, bd_some]
            exact (if_neg n10).trans p2
        · refine Or.inr ⟨τ', m', ?_, ?_, p3⟩
          · rw [x2, bd_some]
            refine (if_neg n10).trans ?_
            rw [p1, bd_some]
            exact if_pos o0
          · rw [y2, bd_some]
            exact (if_neg n10).trans p2
    · rcases harvest_both (σ := σ) t1 km1 ⟨a, by omega, hka⟩ h6 h7 h8 hK (show a < a1 by omega) with ⟨τ', m', σ', p1, p2, p3⟩ | ⟨τ', m', p1, p2, p3⟩
      · refine Or.inl ⟨τ', m', σ', ?_, ?_, p3⟩
        · rw [x1, bd_some]
          refine (if_neg n10).trans ?_
          rw [p1, bd_some]
          exact if_pos o1
        · rw [y1, bd_some]
          exact (if_neg n10).trans p2
      · refine Or.inr ⟨τ', m', ?_, ?_, p3⟩
        · rw [x1, bd_some]
          refine (if_neg n10).trans ?_
          rw [p1, bd_some]
          exact if_pos o0
        · rw [y1, bd_some]
          exact (if_neg n10).trans p2
  · rw [e1, bd_some, if_neg (nI_pos (by omega)), e2, f_X4_readItem_B38, if_neg (nI_pos (by omega))]
    rcases bird_both h hab h6 h7 hka h8 hK hkd with ⟨τ', m', σ', p1, p2, p3⟩ | ⟨τ', m', p1, p2, p3⟩
    · refine Or.inl ⟨τ', m', σ', ?_, ?_, p3⟩
      · rw [p1, bd_some]; exact if_pos o1
      · rw [p2, bd_some]
    · refine Or.inr ⟨τ', m', ?_, ?_, p3⟩
      · rw [p1, bd_some]; exact if_pos o0
      · rw [p2, bd_some]
