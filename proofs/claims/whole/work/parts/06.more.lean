theorem wX_sp {G : GT} {ad : Nat → Nat → Nat} {X : K3} {s : K2} {i : Nat} (h : i < 4) (e : X (4 + i) = s) : (wX G ad X)[44 + 2 * i]? = some (ad (4 + i) 0, .inr (1, [.int (s 1 0), .int (s 1 1), .ref (ad (4 + i) 1)])) := by subst e; exact wX_so h
theorem wX_sm {G : GT} {ad : Nat → Nat → Nat} {X : K3} {s : K2} {i : Nat} (h : i < 4) (e : X (4 + i) = s) : (wX G ad X)[45 + 2 * i]? = some (ad (4 + i) 1, .inl (gc G 0, 40, .inl (s 0))) := by subst e; exact wX_sn h
theorem up24 {X : K3} {q : K2} {j b : Nat} (hb : b < 4) : va_up X b q (4 + j) = X (4 + j) := if_neg (by omega)
