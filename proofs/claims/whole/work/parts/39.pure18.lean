/-! The model's move. -/
def lst (C : Nat → Int32) : Nat → Int32
  | 0 => nI 0
  | k + 1 => lst C k ||| (if C k < 0 then nI 0 else nI 1 <<< (C k &&& 31))
theorem lst_y {C : Nat → Int32} {k : Nat} (h : C k < 0) : lst C k ||| nI 0 = lst C (k + 1) := by rw [lst, if_pos h]
theorem lst_n {C : Nat → Int32} {k : Nat} (h : ¬ C k < 0) : lst C k ||| (nI 1 <<< (C k &&& 31)) = lst C (k + 1) := by rw [lst, if_neg h]
theorem lst_cong {C C2 : Nat → Int32} : ∀ {n : Nat}, agr n C C2 → lst C n = lst C2 n
  | 0, _ => rfl
  | k + 1, h => by rw [lst, lst, lst_cong (fun t ht => h t (Nat.lt_succ_of_lt ht)), h k (Nat.lt_succ_self k)]
def own (lf o9 w : Int32) : Int32 := if ¬ w < 0 ∧ (lf >>> (w &&& 31)) &&& nI 1 = 0 then w else o9
theorem own_y {lf o9 w : Int32} (h1 : ¬ w < 0) (h2 : (lf >>> (w &&& 31)) &&& nI 1 = 0) : own lf o9 w = w := if_pos ⟨h1, h2⟩
theorem own_a {lf o9 w : Int32} (h1 : w < 0) : own lf o9 w = o9 := if_neg (fun z => z.1 h1)
theorem own_b {lf o9 w : Int32} (h2 : ¬ (lf >>> (w &&& 31)) &&& nI 1 = 0) : own lf o9 w = o9 := if_neg (fun z => h2 z.2)
def mvo (C : Nat → Int32) (i j q n : Nat) : Nat → Int32 := fun t => if q ≤ t ∧ t < q + j then own (lst (dlF C i j) (n - j)) (ard (dlF C i j) (n - j) q q) (C (i + (t - q))) else C (rem9 i j (if t < q then t else t - j))
theorem mv_L {M1 M3 g : Nat → Int32} {n i j q : Nat} (a : agr (n - j) M1 (dlF g i j)) (o : (∀ t, t < q → M3 t = M1 t) ∧ (∀ t, q ≤ t → t < n - j → M3 (t + j) = M1 t)) (hq : q + j ≤ n) : agr n (va_cpy g M3 i q j) (mvF g i j q) := fun t ht => by
  have e1 : va_cpy g M3 i q j t = if q ≤ t ∧ t < q + j then g (i + (t - q)) else M3 t := rfl
  rw [e1, mvF]
  by_cases h : q ≤ t ∧ t < q + j
  · rw [if_pos h, if_pos h]
  · rw [if_neg h, if_neg h]
    by_cases h2 : t < q
    · rw [if_pos h2]; exact (o.1 t h2).trans (a t (by omega))
    · rw [if_neg h2]
      have := o.2 (t - j) (by omega) (by omega)
      rw [show t - j + j = t by omega] at this
      exact this.trans (a _ (by omega))
theorem mv_C {M1 M3 C : Nat → Int32} {n i j q : Nat} {lf o9 : Int32} (a : agr (n - j) M1 (dlF C i j)) (o : (∀ t, t < q → M3 t = M1 t) ∧ (∀ t, q ≤ t → t < n - j → M3 (t + j) = M1 t)) (hq : q + j ≤ n) (h1 : lf = lst (dlF C i j) (n - j)) (h2 : o9 = ard (dlF C i j) (n - j) q q) : agr n (va_cpy (fun t => own lf o9 (C t)) M3 i q j) (mvo C i j q n) := fun t ht => by
  have e1 : va_cpy (fun t => own lf o9 (C t)) M3 i q j t = if q ≤ t ∧ t < q + j then own lf o9 (C (i + (t - q))) else M3 t := rfl
  rw [e1, mvo, h1, h2]
  by_cases h : q ≤ t ∧ t < q + j
  · rw [if_pos h, if_pos h]
  · rw [if_neg h, if_neg h]
    by_cases h2 : t < q
    · rw [if_pos h2]; exact (o.1 t h2).trans (a t (by omega))
    · rw [if_neg h2]
      have := o.2 (t - j) (by omega) (by omega)
      rw [show t - j + j = t by omega] at this
      exact this.trans (a _ (by omega))
theorem nch_m {L C mL mC : Nat → Int32} {i j q n nc : Nat} (hL : agr n mL (mvF L i j q)) (hC : agr n mC (mvo C i j q n)) : chs (un L C n mL mC n) nc = chs (un L C n (mvF L i j q) (mvo C i j q n) n) nc :=
  chs_cong (fun k _ => by unfold un; rw [wd_cong (v := nI k) (fun j hj => ⟨hL j hj, hC j hj⟩)])
theorem gol_l {g : Int32} {k n : Nat} (hk : k ≤ n) (hn : n < 2147483648) (h : gol g (nI k) n) : ixl g (n - k) := by
  rw [gol, tn (by omega)] at h; rw [ixl]; omega
