/-! ===== pure: the items applied ===== -/
theorem It.congr {f g : Nat → Int32} {σ σ' : K2} (h : ∀ j, j < 6 → g j = f j) (hI : It f σ σ') : It g σ σ' := by
  have h0 := h 0 (by omega)
  have h1 := h 1 (by omega)
  have h2 := h 2 (by omega)
  have h3 := h 3 (by omega)
  have h4 := h 4 (by omega)
  have h5 := h 5 (by omega)
  unfold It birdS at *
  rw [h0, h1, h2, h3, h4, h5]
  exact hI
def Appl (f : Nat → Int32) (σ0 : K2) : Nat → K2 → Prop
  | 0, σ => σ = σ0
  | k + 1, σ' => ∃ σ, Appl f σ0 k σ ∧ KI σ ∧ It (fun j => f (6 * k + j)) σ σ'
theorem Appl.congr {f g : Nat → Int32} {σ0 : K2} : ∀ {k : Nat} {σ : K2}, (∀ j, j < 6 * k → g j = f j) → Appl f σ0 k σ → Appl g σ0 k σ
  | 0, _, _, h => h
  | k + 1, σ', hj, ⟨σ, h1, h2, h3⟩ => ⟨σ, Appl.congr (fun j hj' => hj j (by omega)) h1, h2, It.congr (fun j hj' => hj _ (by omega)) h3⟩
theorem told_step {m σ σ' : K2} {k : Nat} (hk : k < 120) (hI : It (fun j => m 6 (6 * k + j)) σ σ') (hd : dec (m 0) = σ) (hK : KI σ) : ∃ r, f_X4_isToldSo m (nI (6 * k)) = some (va_up m 0 r) ∧ dec r = σ' := by
  have hb8 := hK.1.2
  have e1 : nI (6 * k) + 1 = nI (6 * k + 1) := nI_add (6 * k) 1
  have e2 : nI (6 * k) + 2 = nI (6 * k + 2) := nI_add (6 * k) 2
  have e3 : nI (6 * k) + 3 = nI (6 * k + 3) := nI_add (6 * k) 3
  have e4 : nI (6 * k) + 4 = nI (6 * k + 4) := nI_add (6 * k) 4
  have e5 : nI (6 * k) + 5 = nI (6 * k + 5) := nI_add (6 * k) 5
  have c0 : (nI (6 * k)).toNatClampNeg = 6 * k := nI_clamp (by omega)
  have c1 : (nI (6 * k + 1)).toNatClampNeg = 6 * k + 1 := nI_clamp (by omega)
  have c2 : (nI (6 * k + 2)).toNatClampNeg = 6 * k + 2 := nI_clamp (by omega)
  have c3 : (nI (6 * k + 3)).toNatClampNeg = 6 * k + 3 := nI_clamp (by omega)
  have c4 : (nI (6 * k + 4)).toNatClampNeg = 6 * k + 4 := nI_clamp (by omega)
  have c5 : (nI (6 * k + 5)).toNatClampNeg = 6 * k + 5 := nI_clamp (by omega)
  have i0 : ix (nI (6 * k)) 720 := ix_nI (by omega) (by omega)
  have i1 : ix (nI (6 * k + 1)) 720 := ix_nI (by omega) (by omega)
  have i2 : ix (nI (6 * k + 2)) 720 := ix_nI (by omega) (by omega)
  have i3 : ix (nI (6 * k + 3)) 720 := ix_nI (by omega) (by omega)
  have i4 : ix (nI (6 * k + 4)) 720 := ix_nI (by omega) (by omega)
  have i5 : ix (nI (6 * k + 5)) 720 := ix_nI (by omega) (by omega)
  unfold f_X4_isToldSo
  rw [e1, e2, e3, e4, e5, if_pos i1, if_pos i0, c0, c1]
  rcases hI with ⟨h0, i, hi, h1, -, rfl⟩ | ⟨h0, -, rfl⟩ | ⟨h0, i, hi, h1, rfl⟩ | ⟨hb, ⟨kd, hkd, h0⟩, g1, g2, g3, g4, g5, rfl⟩
  · have h0' : m 6 (6 * k) = 10 := h0
    have h1' : m 6 (6 * k + 1) = nI i := h1
    have e : (4 : Int32) + nI i = nI (4 + i) := nI_add 4 i
    have ci : (nI (4 + i)).toNatClampNeg = 4 + i := nI_clamp (by omega)
    rw [if_pos h0', if_pos i2, c2, h1', e, if_pos (ix_nI (by omega) (by omega)), ci]
    exact ⟨_, rfl, by rw [dec_wl (by omega), hd]⟩
  · have h0' : m 6 (6 * k) = 11 := h0
    rw [h0', if_neg (show ¬ (11 : Int32) = 10 by decide), if_pos rfl]
    exact ⟨_, rfl, by rw [dec_w3, hd]⟩
  · have h0' : m 6 (6 * k) = 12 := h0
    have h1' : m 6 (6 * k + 1) = nI i := h1
    have a6 : f_X4_birdAt (nI i) 6 = some (nI (20 + 9 * i + 6)) := M_birdAt i 6
    have ci : (nI (20 + 9 * i + 6)).toNatClampNeg = 20 + 9 * i + 6 := nI_clamp (by omega)
    rw [h0', if_neg (show ¬ (12 : Int32) = 10 by decide), if_neg (show ¬ (12 : Int32) = 11 by decide), if_pos rfl, h1', a6, bd_some, if_pos (ix_nI (by omega) (by omega)), ci]
    exact ⟨_, rfl, by rw [dec_w (by omega) (by omega), hd]⟩
  · have h0' : m 6 (6 * k) = nI kd := h0
    have n10 : ¬ nI kd = 10 := fun q => by have := (nI_eq (b := 10) (by omega) (by omega)).mp q; omega
    have n11 : ¬ nI kd = 11 := fun q => by have := (nI_eq (b := 11) (by omega) (by omega)).mp q; omega
    have n12 : ¬ nI kd = 12 := fun q => by have := (nI_eq (b := 12) (by omega) (by omega)).mp q; omega
    obtain ⟨x, f1, n1, hx, f2⟩ := M_comes (μ := m) (by rw [hd]; exact hK) (by rw [hd]; exact hb) (m 6 (6 * k)) (m 6 (6 * k + 1)) (m 6 (6 * k + 2))
    rw [hd] at f1 f2
    have a3 : f_X4_birdAt (nI (nb σ)) 3 = some (nI (20 + 9 * nb σ + 3)) := M_birdAt _ 3
    have a4 : f_X4_birdAt (nI (nb σ)) 4 = some (nI (20 + 9 * nb σ + 4)) := M_birdAt _ 4
    have a5 : f_X4_birdAt (nI (nb σ)) 5 = some (nI (20 + 9 * nb σ + 5)) := M_birdAt _ 5
    have k3 : (nI (20 + 9 * nb σ + 3)).toNatClampNeg = 20 + 9 * nb σ + 3 := nI_clamp (by omega)
    have k4 : (nI (20 + 9 * nb σ + 4)).toNatClampNeg = 20 + 9 * nb σ + 4 := nI_clamp (by omega)
    have k5 : (nI (20 + 9 * nb σ + 5)).toNatClampNeg = 20 + 9 * nb σ + 5 := nI_clamp (by omega)
    have j3 : ix (nI (20 + 9 * nb σ + 3)) 92 := ix_nI (by omega) (by omega)
    have j4 : ix (nI (20 + 9 * nb σ + 4)) 92 := ix_nI (by omega) (by omega)
    have j5 : ix (nI (20 + 9 * nb σ + 5)) 92 := ix_nI (by omega) (by omega)
    rw [if_neg (by rw [h0']; exact n10), if_neg (by rw [h0']; exact n11), if_neg (by rw [h0']; exact n12), if_pos i2, c2, f1, bd_some]
    simp only [a3, a4, a5, bd_some]
    rw [if_pos i3, if_pos j3, if_pos i4, if_pos j4, if_pos i5, if_pos j5, c3, c4, c5, k3, k4, k5, hx, bx_uu, up_s, up_n (show (6 : Nat) ≠ 0 by decide)]
    refine ⟨_, rfl, ?_⟩
    rw [dec_w (by omega) (by omega), dec_w (by omega) (by omega), dec_w (by omega) (by omega), f2]
    rfl
