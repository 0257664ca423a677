theorem wM_u0 {G : GT} {ad : Nat → Nat} {μ : K2} {F f : Nat → Int32} : (wM G ad (va_up μ 0 F)).set 2 (ad 1, .inl (gc G 0, 92, .inl f)) = wM G ad (va_up μ 0 f) := rfl
theorem wM_u3 {G : GT} {ad : Nat → Nat} {μ : K2} {F f : Nat → Int32} : (wM G ad (va_up μ 3 F)).set 4 (ad 4, .inl (gc G 0, 8, .inl f)) = wM G ad (va_up μ 3 f) := rfl
theorem wM_u6 {G : GT} {ad : Nat → Nat} {μ : K2} {F f : Nat → Int32} : (wM G ad (va_up μ 6 F)).set 7 (ad 7, .inl (gc G 0, 720, .inl f)) = wM G ad (va_up μ 6 f) := rfl
