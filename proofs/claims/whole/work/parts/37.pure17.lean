/-! The model's insertion. -/
theorem dl0 {g M : Nat → Int32} {n : Nat} (a : agr n M (dlF g 0 0)) : agr n M g := fun t h => (a t h).trans (by simp [dlF, rem9])
theorem ins_L {M1 M3 g l : Nat → Int32} {n i c : Nat} (a : agr n M1 g) (o : (∀ t, t < i → M3 t = M1 t) ∧ (∀ t, i ≤ t → t < n → M3 (t + c) = M1 t)) (hi : i ≤ n) : agr (n + c) (va_cpy l M3 0 i c) (inF g l i c 0) := fun t ht => by
  have e1 : va_cpy l M3 0 i c t = if i ≤ t ∧ t < i + c then l (0 + (t - i)) else M3 t := rfl
  rw [e1, inF]
  rcases Nat.lt_or_ge t i with q | q
  · rw [if_neg (by omega), if_pos q]; exact (o.1 t q).trans (a t (by omega))
  · rcases Nat.lt_or_ge t (i + c) with z | z
    · rw [if_pos ⟨q, z⟩, if_neg (by omega), if_pos z]
    · rw [if_neg (by omega), if_neg (by omega), if_neg (by omega)]
      have := o.2 (t - c) (by omega) (by omega)
      rw [show t - c + c = t by omega] at this
      exact this.trans (a _ (by omega))
theorem ins_K {M1 M3 g : Nat → Int32} {v : Int32} {n i c : Nat} (a : agr n M1 g) (o : (∀ t, t < i → M3 t = M1 t) ∧ (∀ t, i ≤ t → t < n → M3 (t + c) = M1 t)) (hi : i ≤ n) : agr (n + c) (mk M3 i c v) (kF g v i c) := fun t ht => by
  rw [mk, kF]
  rcases Nat.lt_or_ge t i with q | q
  · rw [if_neg (by omega), if_pos q]; exact (o.1 t q).trans (a t (by omega))
  · rcases Nat.lt_or_ge t (i + c) with z | z
    · rw [if_pos ⟨q, z⟩, if_neg (by omega), if_pos z]
    · rw [if_neg (by omega), if_neg (by omega), if_neg (by omega)]
      have := o.2 (t - c) (by omega) (by omega)
      rw [show t - c + c = t by omega] at this
      exact this.trans (a _ (by omega))
theorem nch_i {L C l mL mC : Nat → Int32} {i c n nc : Nat} (hL : agr (n + c) mL (inF L l i c 0)) (hC : agr (n + c) mC (kF C (ard C n i i) i c)) : chs (un L C n mL mC (n + c)) nc = nch (nI 105) L C l i c i 0 n nc :=
  nch_ag (by rw [pfn, if_pos rfl]) (by rw [nfL, if_pos rfl]; exact hL) (by rw [nfC, if_pos rfl]; exact hC)
abbrev kFF (g : Nat → Int32) (v : Int32) (p c : Nat) : Nat → Int32 := kF g v p c
