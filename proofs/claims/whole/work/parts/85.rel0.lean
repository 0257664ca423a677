/-! ===== both sides as the constructors leave them ===== -/
theorem now0_lt : ∀ k, k < 20 → now0 k = (if k = 2 then 1 else if 10 ≤ k then -1 else 0) := by decide +kernel
theorem now0_ge {k : Nat} (h : 20 ≤ k) : now0 k = 0 := by
  unfold now0 upd
  rw [if_neg (by omega), if_neg (by omega), if_neg (by omega), if_neg (by omega), if_neg (by omega), if_neg (by omega), if_neg (by omega), if_neg (by omega), if_neg (by omega), if_neg (by omega), if_neg (by omega)]
theorem spots0_lt : ∀ k, k < 10 → spots0 k = -1 := by decide +kernel
theorem spots0_ge {k : Nat} (h : 10 ≤ k) : spots0 k = 0 := by
  unfold spots0 upd
  rw [if_neg (by omega), if_neg (by omega), if_neg (by omega), if_neg (by omega), if_neg (by omega), if_neg (by omega), if_neg (by omega), if_neg (by omega), if_neg (by omega), if_neg (by omega)]
theorem sK0_row {c : Nat} (h : c < 9) (i : Nat) : sK0 c i = 0 := match c, h with
  | 0, _ => rfl
  | 1, _ => rfl
  | 2, _ => rfl
  | 3, _ => rfl
  | 4, _ => rfl
  | 5, _ => rfl
  | 6, _ => rfl
  | 7, _ => rfl
  | 8, _ => rfl
  | n + 9, h => absurd h (by omega)
theorem sK0_far {c : Nat} (h : 12 ≤ c) (i : Nat) : sK0 c i = 0 := match c, h with
  | n + 12, _ => rfl
theorem sK0_11 (i : Nat) : sK0 11 i = if i = 2 then 1 else 0 := rfl
theorem sK0_dec : sK0 = dec now0 := by
  funext c i
  unfold dec
  by_cases h9 : c < 9
  · rw [if_pos h9, sK0_row h9]
    by_cases h8 : i < 8
    · rw [if_pos h8, now0_ge (by omega)]
    · rw [if_neg h8]
  · rw [if_neg h9]
    by_cases e9 : c = 9
    · subst e9
      rw [if_pos rfl]
      by_cases h6 : i < 6
      · rw [if_pos h6, now0_lt _ (by omega), if_neg (by omega), if_neg (by omega)]
        rfl
      · rw [if_neg h6]
        rfl
    · rw [if_neg e9]
      by_cases e10 : c = 10
      · subst e10
        rw [if_pos rfl]
        by_cases h10 : i < 10
        · rw [if_pos h10, now0_lt _ (by omega), if_neg (by omega), if_pos (by omega)]
          exact spots0_lt i h10
        · rw [if_neg h10]
          exact spots0_ge (by omega)
      · rw [if_neg e10]
        by_cases e11 : c = 11
        · subst e11
          rw [if_pos rfl, sK0_11]
          by_cases i0 : i = 0
          · subst i0
            decide +kernel
          · rw [if_neg i0]
            by_cases i1 : i = 1
            · subst i1
              decide +kernel
            · rw [if_neg i1]
              by_cases i2 : i = 2
              · subst i2
                decide +kernel
              · rw [if_neg i2, if_neg i2]
                by_cases i3 : i = 3
                · subst i3
                  decide +kernel
                · rw [if_neg i3]
        · rw [if_neg e11, sK0_far (by omega)]
theorem sK0_KI : KI sK0 := by
  have h0 : nb sK0 = 0 := by decide +kernel
  refine ⟨⟨by decide +kernel, by decide +kernel⟩, ⟨by decide +kernel, by decide +kernel⟩, ⟨0, by omega, by decide +kernel⟩, fun i _ => ⟨0, by omega, rfl⟩, fun i hi => Or.inl (spots0_lt i hi), fun i hi => ?_⟩
  rw [h0] at hi
  exact absurd hi (by omega)
theorem sK0_Cz : Cz sK0 := ⟨fun c i hc _ => sK0_row hc i, fun _ _ => rfl, fun i hi => spots0_ge hi, fun i hi => by rw [sK0_11, if_neg (by omega)], fun c i hc => sK0_far hc i⟩
theorem R_start : R sX0 sM0 := by
  refine ⟨⟨sK0_dec, sK0_KI⟩, ⟨sK0_Cz, sK0_Cz⟩, ⟨rfl, Or.inl rfl⟩, ⟨fun _ _ => rfl, by decide +kernel⟩, ⟨rfl, 0, by omega, rfl, fun i h => absurd h (by omega)⟩, fun j hj => ?_⟩
  match j, hj with
  | 0, _ => exact ⟨rfl, rfl, Or.inl rfl, ⟨0, by omega, rfl⟩, fun i _ => rfl⟩
  | 1, _ => exact ⟨rfl, rfl, Or.inl rfl, ⟨0, by omega, rfl⟩, fun i _ => rfl⟩
  | 2, _ => exact ⟨rfl, rfl, Or.inl rfl, ⟨0, by omega, rfl⟩, fun i _ => rfl⟩
  | 3, _ => exact ⟨rfl, rfl, Or.inl rfl, ⟨0, by omega, rfl⟩, fun i _ => rfl⟩
