theorem cpy_lo {f g : Nat → Int32} {d n j : Nat} (h : j < d) : va_cpy f g 0 d n j = g j := by
  simp only [va_cpy]
  rw [if_neg (by omega)]
theorem gol_nI {q k n : Nat} (h : q + k ≤ n) (hn : n < 2147483648) : gol (nI q) (nI k) n := by
  rw [gol, tn (by omega), tn (by omega)]; omega
