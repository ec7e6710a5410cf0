/-! What an edit does in the model. -/
theorem fee_s {a f : Int32} {n : Nat} : a + f * nI n + f = a + f * nI (n + 1) := by
  rw [← nI_1, Int32.mul_add, Int32.mul_one, Int32.add_assoc]
def wtp (gX : Nat → Int32) (ch : Int32) (wT : Nat → Int32) (i : Nat) : Nat → Int32 := fun j => if j < i then wT j ||| (if gX j &&& ch = 0 then nI 0 else nI 1) else wT j
theorem wtp_0 {gX wT : Nat → Int32} {ch : Int32} : wtp gX ch wT 0 = wT := by
  funext j; simp [wtp]
theorem wtp_s {gX wT : Nat → Int32} {ch b : Int32} {i : Nat} (hb : b = if gX i &&& ch = 0 then nI 0 else nI 1) : upd (wtp gX ch wT i) i (wtp gX ch wT i i ||| b) = wtp gX ch wT (i + 1) := by
  funext j
  by_cases e : j = i
  · rw [e, pk_us, hb]
    simp [wtp]
  · rw [pk_un e]
    simp only [wtp]
    by_cases q : j < i
    · simp only [if_pos q, if_pos (show j < i + 1 by omega)]
    · simp only [if_neg q, if_neg (show ¬ j < i + 1 by omega)]
theorem orZ0 {x : Int32} (h : x = 0 ∨ x = 1) : x ||| nI 0 = 0 ∨ x ||| nI 0 = 1 := by rw [or0]; exact h
theorem orZ1 {x : Int32} (h : x = 0 ∨ x = 1) : x ||| nI 1 = 0 ∨ x ||| nI 1 = 1 := by
  rcases h with rfl | rfl <;> decide
theorem zup {f : Nat → Int32} {i : Nat} {v : Int32} (h : ∀ j, f j = 0 ∨ f j = 1) (hv : v = 0 ∨ v = 1) : ∀ j, upd f i v j = 0 ∨ upd f i v j = 1 := fun j => by
  by_cases e : j = i
  · rw [e, pk_us]; exact hv
  · rw [pk_un e]; exact h j
theorem lt_of_not_ge9 {a b : Int32} (h : ¬ a ≥ b) : a < b := by
  rw [ge_iff_le, i32_le] at h; rw [i32_lt]; omega
theorem not_lt_of_ge9 {a b : Int32} (h : a ≥ b) : ¬ a < b := by
  rw [ge_iff_le, i32_le] at h; rw [i32_lt]; omega
