/-! Ends of the model's calls. -/
theorem vy {t v : Nat} {P Q : Prop} (h : v = t) (ht : ¬ t = 0) (q : Q) : thv 1 t = nI v ∧ ((v = 0 ∧ P) ∨ (¬ v = 0 ∧ Q)) := ⟨thv_y h, Or.inr ⟨by rw [h]; exact ht, q⟩⟩
theorem vn {t v : Nat} {P Q : Prop} (h : v = 0) (q : P) : thv 0 t = nI v ∧ ((v = 0 ∧ P) ∨ (¬ v = 0 ∧ Q)) := ⟨thv_n h, Or.inl ⟨h, q⟩⟩
theorem vx {x : Int32} {n v : Nat} {P Q : Prop} (hx : ¬ ix x n) (h : v = 1) (q : Q) : tx x n = nI v ∧ ((v = 0 ∧ P) ∨ (¬ v = 0 ∧ Q)) := ⟨(tx_n hx).trans (thv_y h), Or.inr ⟨by rw [h]; decide, q⟩⟩
theorem sc_in {sc ra : Int32} (h1 : (nI 0).toInt ≤ sc.toInt ∧ sc.toInt ≤ (nI 3).toInt) (h2 : (nI 0).toInt ≤ ra.toInt ∧ ra.toInt ≤ (nI 999).toInt) : scok sc ra := by
  rw [in_lit (by decide) (by decide)] at h1 h2
  exact ⟨by omega, by omega, by omega, by omega⟩
theorem sc_n1 {sc ra : Int32} (h1 : ¬ ((nI 0).toInt ≤ sc.toInt ∧ sc.toInt ≤ (nI 3).toInt)) : ¬ scok sc ra := by
  rw [in_lit (by decide) (by decide)] at h1
  rintro ⟨a, b, _, _⟩; exact h1 ⟨by omega, by omega⟩
theorem sc_n2 {sc ra : Int32} (h1 : ¬ ((nI 0).toInt ≤ ra.toInt ∧ ra.toInt ≤ (nI 999).toInt)) : ¬ scok sc ra := by
  rw [in_lit (by decide) (by decide)] at h1
  rintro ⟨_, _, a, b⟩; exact h1 ⟨by omega, by omega⟩
theorem ch_in {x : Int32} (h : (nI 97).toInt ≤ x.toInt ∧ x.toInt ≤ (nI 122).toInt) : chok x := by
  rw [in_lit (by decide) (by decide)] at h; exact Or.inr ⟨by omega, by omega⟩
theorem ch_ni {x : Int32} (h : ¬ ((nI 97).toInt ≤ x.toInt ∧ x.toInt ≤ (nI 122).toInt)) (h2 : ¬ x = nI 32) : ¬ chok x := by
  rw [in_lit (by decide) (by decide)] at h
  rintro (a | ⟨a, b⟩)
  · exact h2 a
  · exact h ⟨by omega, by omega⟩
theorem shl_toInt {nc : Nat} (h : nc ≤ 6) : (nI 1 <<< (nI nc &&& 31)).toInt = ((2 ^ nc : Nat) : Int) := by
  have : nc = 0 ∨ nc = 1 ∨ nc = 2 ∨ nc = 3 ∨ nc = 4 ∨ nc = 5 ∨ nc = 6 := by omega
  rcases this with rfl | rfl | rfl | rfl | rfl | rfl | rfl <;> decide
theorem cl_ok {cl : Int32} {nc : Nat} (h : nc ≤ 6) (h1 : ¬ cl < nI 1) (h2 : cl < nI 1 <<< (nI nc &&& 31)) : clok cl nc := by
  rw [i32_lt, tn (by decide)] at h1; rw [i32_lt, shl_toInt h] at h2
  exact ⟨by omega, h2⟩
theorem cl_n1 {cl : Int32} {nc : Nat} (h1 : cl < nI 1) : ¬ clok cl nc := by
  rw [i32_lt, tn (by decide)] at h1; rintro ⟨a, _⟩; omega
theorem cl_n2 {cl : Int32} {nc : Nat} (h : nc ≤ 6) (h2 : ¬ cl < nI 1 <<< (nI nc &&& 31)) : ¬ clok cl nc := by
  rw [i32_lt, shl_toInt h] at h2; rintro ⟨_, a⟩; exact h2 a
def hasv (C : Nat → Int32) (i j : Nat) : Int32 := if frb C i j = true then nI 0 else nI 1
theorem frb_s {C : Nat → Int32} {i j : Nat} : frb C i (j + 1) = true ↔ frb C i j = true ∧ C (i + j) = (-1) := by
  rw [frb_t, frb_t]
  constructor
  · intro h; exact ⟨fun k a b => h k a (by omega), h _ (by omega) (by omega)⟩
  · rintro ⟨h1, h2⟩ k a b
    rcases Nat.lt_or_ge k (i + j) with q | q
    · exact h1 k a q
    · rw [show k = i + j by omega]; exact h2
theorem has_0 {C : Nat → Int32} {i : Nat} : hasv C i 0 = nI 0 := if_pos (frb_t.mpr (fun k a b => by omega))
theorem has_p {C : Nat → Int32} {i j : Nat} (h : ¬ C (i + j) < 0) : hasv C i j ||| nI 1 = hasv C i (j + 1) := by
  rw [show hasv C i (j + 1) = nI 1 from if_neg (fun z => by rw [(frb_s.mp z).2] at h; exact h (by decide))]
  unfold hasv; split <;> decide
theorem has_n {C : Nat → Int32} {i j : Nat} (h : C (i + j) < 0) (h2 : C (i + j) = (-1) ∨ 0 ≤ C (i + j)) : hasv C i j ||| nI 0 = hasv C i (j + 1) := by
  have e : C (i + j) = (-1) := by
    rcases h2 with q | q
    · exact q
    · exact absurd h (Int32.not_lt.mpr q)
  by_cases f : frb C i j = true
  · rw [show hasv C i (j + 1) = nI 0 from if_pos (frb_s.mpr ⟨f, e⟩), show hasv C i j = nI 0 from if_pos f]; decide
  · rw [show hasv C i (j + 1) = nI 1 from if_neg (fun z => f (frb_s.mp z).1), show hasv C i j = nI 1 from if_neg f]; decide
theorem has_z {C : Nat → Int32} {i j : Nat} : hasv C i j = 0 ↔ frb C i j = true := by
  unfold hasv; split
  · exact ⟨fun _ => by assumption, fun _ => rfl⟩
  · exact ⟨fun z => absurd z (by decide), fun z => absurd z (by assumption)⟩
def smi (f : Nat → Int32) : Nat → Int32
  | 0 => 0
  | k + 1 => smi f k + f k
def wtn (pL pC oF : Nat → Int32) (n : Nat) : Nat := (wcl (wtx pL pC oF n).1 (wtx pL pC oF n).2.1 (wtx pL pC oF n).2.2).1
def wtf (pL pC oF : Nat → Int32) (n : Nat) : Nat → Int32 := (wcl (wtx pL pC oF n).1 (wtx pL pC oF n).2.1 (wtx pL pC oF n).2.2).2
