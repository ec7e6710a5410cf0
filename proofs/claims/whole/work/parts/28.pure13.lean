/-! More of the model's words. -/
theorem iimz (n : Nat) : nI n + Int32.ofInt (-1) = nI n - nI 1 := by
  rw [Int32.sub_eq_add_neg]; rfl
theorem dq_lt {q : Nat} (h : q < 2147483648) : nI q - nI 1 < 0 ↔ q = 0 := by
  rw [i32_lt, sub1_toInt h, t0]; omega
theorem dq_ltp {q p : Nat} (h : q < 2147483648) (hp : p < 2147483648) : nI q - nI 1 < nI p ↔ q ≤ p := by
  rw [i32_lt, sub1_toInt h, tn hp]; omega
theorem in_st {i j k : Nat} (h1 : i + j < 2147483648) (h2 : k < 2147483648) : ((nI i).toInt ≤ (nI k).toInt ∧ (nI k).toInt ≤ (nI (i + j) - nI 1).toInt) ↔ (i ≤ k ∧ k < i + j) := by
  rw [sub1_toInt h1, tn h2, tn (by omega)]; omega
theorem i_neg {c : Int32} (h : c = (-1) ∨ 0 ≤ c) : c < 0 ↔ c = (-1) := by
  constructor
  · intro a; rcases h with q | q
    · exact q
    · exact absurd a (Int32.not_lt.mpr q)
  · rintro rfl; decide
theorem wsA {N : Nat} {F : Nat → Int32} {o c : Int32} (h : c = o) : wst N F o c = (N, F) := if_pos h
theorem wsB {N : Nat} {F : Nat → Int32} {o c : Int32} (ho : o = (-1)) (hc : ¬ c = o) : wst N F o c = (N + 1 + 1 + 1, upd (upd (upd F N (nI 91)) (N + 1) (dgt c)) (N + 1 + 1) (nI 58)) := by
  rw [wst, if_neg hc, wcl, if_pos ho, wop, if_neg (by rw [← ho]; exact hc)]
theorem wsD {N : Nat} {F : Nat → Int32} {o c : Int32} (ho : ¬ o = (-1)) (hc : c = (-1)) : wst N F o c = (N + 1, upd F N (nI 93)) := by
  rw [wst, if_neg (by rw [hc]; exact fun z => ho z.symm), wcl, if_neg ho, wop, if_pos hc]
theorem wsE {N : Nat} {F : Nat → Int32} {o c : Int32} (ho : ¬ o = (-1)) (hc : ¬ c = (-1)) (h : ¬ c = o) : wst N F o c = (N + 1 + 1 + 1 + 1, upd (upd (upd (upd F N (nI 93)) (N + 1) (nI 91)) (N + 1 + 1) (dgt c)) (N + 1 + 1 + 1) (nI 58)) := by
  rw [wst, if_neg h, wcl, if_neg ho, wop, if_neg hc]
theorem wcA {N : Nat} {F : Nat → Int32} {o : Int32} (h : o = (-1)) : wcl N F o = (N, F) := if_pos h
theorem wcB {N : Nat} {F : Nat → Int32} {o : Int32} (h : ¬ o = (-1)) : wcl N F o = (N + 1, upd F N (nI 93)) := if_neg h
theorem wtx_o {pL pC oF : Nat → Int32} {n : Nat} (h : ∀ j, j < n → pC j = (-1) ∨ 0 ≤ pC j) : ∀ {k}, k ≤ n → (wtx pL pC oF k).2.2 = (-1) ∨ 0 ≤ (wtx pL pC oF k).2.2
  | 0, _ => Or.inl rfl
  | k + 1, hk => h k (by omega)
def agr (n : Nat) (f g : Nat → Int32) : Prop := ∀ t, t < n → f t = g t
theorem agr_0 {f g : Nat → Int32} : agr 0 f g := fun t h => by omega
theorem agr_s {n : Nat} {f g : Nat → Int32} {v : Int32} (h : agr n f g) (e : v = g n) : agr (n + 1) (upd f n v) g := fun t ht => by
  rcases Nat.lt_or_ge t n with q | q
  · rw [pk_un (by omega)]; exact h t q
  · rw [show t = n by omega, pk_us]; exact e
theorem bit_i {x : Int32} {k : Nat} (hk : k < 6) : (x >>> (nI k &&& 31)) &&& nI 1 = nI 1 ↔ ¬ x &&& (nI 1 <<< (nI k &&& 31)) = 0 := by
  have e : x &&& (nI 1 <<< (nI k &&& 31)) = 0 ↔ x.toBitVec.getLsbD k = false := by
    rw [← Int32.toBitVec_inj]
    have e2 : (nI 1 <<< (nI k &&& 31)).toBitVec = BitVec.twoPow 32 k := by
      have : k = 0 ∨ k = 1 ∨ k = 2 ∨ k = 3 ∨ k = 4 ∨ k = 5 := by omega
      rcases this with rfl | rfl | rfl | rfl | rfl | rfl <;> decide
    rw [Int32.toBitVec_and, e2, BitVec.and_twoPow]
    cases hb : x.toBitVec.getLsbD k
    · simp
    · simp
      have : k = 0 ∨ k = 1 ∨ k = 2 ∨ k = 3 ∨ k = 4 ∨ k = 5 := by omega
      rcases this with rfl | rfl | rfl | rfl | rfl | rfl <;> decide
  have e3 : (x >>> (nI k &&& 31)) &&& nI 1 = nI 1 ↔ x.toBitVec.getLsbD k = true := by
    rw [← Int32.toBitVec_inj]
    have e4 : (x >>> (nI k &&& 31)).toBitVec = x.toBitVec.sshiftRight k := by
      rw [Int32.toBitVec_shiftRight]
      have : k = 0 ∨ k = 1 ∨ k = 2 ∨ k = 3 ∨ k = 4 ∨ k = 5 := by omega
      rcases this with rfl | rfl | rfl | rfl | rfl | rfl <;> rfl
    rw [Int32.toBitVec_and, e4, show (nI 1).toBitVec = BitVec.twoPow 32 0 from rfl, BitVec.and_twoPow, BitVec.getLsbD_sshiftRight]
    have : k < 32 := by omega
    cases hb : x.toBitVec.getLsbD k <;> simp [hb, this] <;> decide
  rw [e, e3]; simp
theorem or0 (x : Int32) : x ||| nI 0 = x := by
  rw [← Int32.toBitVec_inj, Int32.toBitVec_or]; exact BitVec.or_zero
/-- the lowest marked place from q on, looked for downwards -/
def ldn (p : Nat → Bool) (q n : Nat) (k : Int32) : Prop := (k = (-1) ∧ ∀ t, q ≤ t → t < n → ¬ p t = true) ∨ (∃ z, q ≤ z ∧ z < n ∧ p z = true ∧ k = nI z ∧ ∀ t, q ≤ t → t < z → ¬ p t = true)
theorem ldn_0 {p : Nat → Bool} {n : Nat} : ldn p n n (-1) := Or.inl ⟨rfl, fun t a b => by omega⟩
theorem ldn_y {p : Nat → Bool} {q n : Nat} (hq : q < n) (h : p q = true) : ldn p q n (nI q) := Or.inr ⟨q, by omega, hq, h, rfl, fun t a b => by omega⟩
theorem ldn_n {p : Nat → Bool} {q n : Nat} {k : Int32} (h : ¬ p q = true) (hk : ldn p (q + 1) n k) : ldn p q n k := by
  rcases hk with ⟨e, f⟩ | ⟨z, a, b, c, e, f⟩
  · exact Or.inl ⟨e, fun t a b => by
      rcases Nat.lt_or_ge q t with g | g
      · exact f t g b
      · rw [show t = q by omega]; exact h⟩
  · exact Or.inr ⟨z, by omega, b, c, e, fun t a b => by
      rcases Nat.lt_or_ge q t with g | g
      · exact f t g b
      · rw [show t = q by omega]; exact h⟩
theorem ldn_f {p : Nat → Bool} {n : Nat} {k : Int32} (h : ldn p 0 n k) : k = low p n := by
  rcases h with ⟨e, f⟩ | ⟨z, a, b, c, e, f⟩
  · rw [e, low_none (fun j hj => f j (Nat.zero_le _) hj)]
  · rw [e, low_at b c (fun j hj => f j (Nat.zero_le _) hj)]
