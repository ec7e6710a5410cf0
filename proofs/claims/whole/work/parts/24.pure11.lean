/-! The model's words. -/
theorem sub1_toInt {n : Nat} (h : n < 2147483648) : (nI n - nI 1).toInt = (n : Int) - 1 := by
  cases n with
  | zero => decide
  | succ k =>
    rw [pk_sub (Nat.succ_le_succ (Nat.zero_le k)), Nat.succ_sub_one, tn (by omega)]; omega
theorem in_ix {v : Int32} {n : Nat} (h : n < 2147483648) : ((nI 0).toInt ≤ v.toInt ∧ v.toInt ≤ (nI n - nI 1).toInt) ↔ ix v n := by
  rw [sub1_toInt h, tn (by decide), ix]; omega
theorem in_ixl {v : Int32} {n : Nat} (h : n < 2147483648) : ((nI 0).toInt ≤ v.toInt ∧ v.toInt ≤ (nI n).toInt) ↔ ixl v n := by
  rw [tn h, tn (by decide), ixl]; omega
theorem in_lit {v : Int32} {a b : Nat} (h1 : a < 2147483648) (h2 : b < 2147483648) : ((nI a).toInt ≤ v.toInt ∧ v.toInt ≤ (nI b).toInt) ↔ ((a : Int) ≤ v.toInt ∧ v.toInt ≤ (b : Int)) := by
  rw [tn h1, tn h2]
theorem isin_y {v a b : Int32} (h1 : ¬ v < a) (h2 : ¬ v > b) : a.toInt ≤ v.toInt ∧ v.toInt ≤ b.toInt := by
  rw [i32_lt] at h1; rw [gt_iff_lt, i32_lt] at h2; omega
theorem isin_l {v a b : Int32} (h1 : v < a) : ¬ (a.toInt ≤ v.toInt ∧ v.toInt ≤ b.toInt) := by
  rw [i32_lt] at h1; omega
theorem isin_h {v a b : Int32} (h1 : v > b) : ¬ (a.toInt ≤ v.toInt ∧ v.toInt ≤ b.toInt) := by
  rw [gt_iff_lt, i32_lt] at h1; omega
def thv (b t : Nat) : Int32 := if b = 0 then nI 0 else nI t
theorem thv_t {b t : Nat} (h : ¬ b = 0) : thv b t = nI t := if_neg h
theorem thv_f {b t : Nat} (h : b = 0) : thv b t = nI 0 := if_pos h
theorem thv_y {t v : Nat} (h : v = t) : thv 1 t = nI v := by rw [h]; rfl
theorem thv_n {t v : Nat} (h : v = 0) : thv 0 t = nI v := by rw [h]; rfl
theorem nb1 {b : Nat} (h : b ≤ 1) : nI b = 0 ∨ nI b = 1 := by
  rcases Nat.lt_or_ge b 1 with q | q
  · left; rw [show b = 0 by omega]; rfl
  · right; rw [show b = 1 by omega]; rfl
noncomputable def tx (v : Int32) (n : Nat) : Int32 := if ix v n then nI 0 else nI 1
theorem tx_y {v : Int32} {n : Nat} (h : ix v n) : tx v n = thv 0 1 := if_pos h
theorem tx_n {v : Int32} {n : Nat} (h : ¬ ix v n) : tx v n = thv 1 1 := if_neg h
theorem rng_y {p k : Int32} {n : Nat} (hn : n < 1000000) (h1 : ¬ p < 0) (h2 : ¬ k < nI 1) (h3 : ¬ p > nI n) (h4 : k ≤ nI n - p) : rng p k n := by
  obtain ⟨i, hi, rfl⟩ := nI_of_ixl (ixl_ok (n := n) (by omega) h1 h3)
  rw [pk_sub hi] at h4
  exact rng_ok (by omega) hi h2 h4
theorem rng_z {p k : Int32} {n : Nat} (hn : n < 1000000) (h1 : ¬ p < 0) (h3 : ¬ p > nI n) (h4 : ¬ k ≤ nI n - p) : ¬ rng p k n := by
  obtain ⟨i, hi, rfl⟩ := nI_of_ixl (ixl_ok (n := n) (by omega) h1 h3)
  rw [pk_sub hi] at h4
  exact rng_no3 (by omega) hi h4
