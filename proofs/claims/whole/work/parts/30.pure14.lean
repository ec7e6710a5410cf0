/-! The model's edits. -/
theorem rem_k {i j k X : Nat} (hX : X = min k i + (k - (i + j))) (h : ¬ (i ≤ k ∧ k < i + j)) : k = rem9 i j X := by
  unfold rem9; split <;> omega
theorem dl_at {g : Nat → Int32} {i j X k : Nat} (h : k = rem9 i j X) : g k = dlF g i j X := by rw [h]; rfl
theorem opn_s {n q w : Nat} {f g : Nat → Int32} (h0 : 0 < q) (hq : q ≤ n) (h : (∀ t, t < q → f t = g t) ∧ (∀ t, q ≤ t → t < n → f (t + w) = g t)) : (∀ t, t < q - 1 → upd f (q - 1 + w) (f (q - 1)) t = g t) ∧ (∀ t, q - 1 ≤ t → t < n → upd f (q - 1 + w) (f (q - 1)) (t + w) = g t) := by
  refine ⟨fun t ht => ?_, fun t h1 h2 => ?_⟩
  · rw [pk_un (by omega)]; exact h.1 t (by omega)
  · rcases Nat.lt_or_ge t q with z | z
    · rw [show t = q - 1 by omega, pk_us]; exact h.1 _ (by omega)
    · rw [pk_un (by omega)]; exact h.2 t z h2
theorem wd_go {L C : Nat → Int32} {v : Int32} {a b : Nat} (h : C a = v) (h1 : a + 1 ≤ b) (g : ∀ t, a + 1 ≤ t → t < b → ¬ C t = v) : wd L C v b = wd L C v a ++ [L a] := by
  rw [wd_gap h1 g, wd_t h]
theorem wd_at {L C : Nat → Int32} {v : Int32} {a n : Nat} (h : C a = v) (h1 : a < n) : ∃ t, wd L C v n = wd L C v a ++ L a :: t := by
  obtain ⟨t, e⟩ := wd_pre (L := L) (C := C) (v := v) (a := a + 1) (b := n) h1
  exact ⟨t, by rw [e, wd_t h, List.append_assoc]; rfl⟩
theorem chg {L C L2 C2 : Nat → Int32} {v : Int32} {a b n m : Nat} (ha : a = n ∨ C a = v) (hb : b = m ∨ C2 b = v) (e : wd L C v a = wd L2 C2 v b) (i1 : a ≤ n) (i2 : b ≤ m) (h : (a < n ∧ b < m ∧ ¬ L a = L2 b) ∨ (a < n ∧ m ≤ b) ∨ (n ≤ a ∧ b < m)) : ¬ wd L C v n = wd L2 C2 v m := by
  intro z
  rcases h with ⟨h1, h2, h3⟩ | ⟨h1, h2⟩ | ⟨h1, h2⟩
  · obtain ⟨t, e1⟩ := wd_at (L := L) (ha.resolve_left (by omega)) h1
    obtain ⟨u, e2⟩ := wd_at (L := L2) (hb.resolve_left (by omega)) h2
    rw [e1, e2, e] at z
    have := List.append_cancel_left z
    exact h3 (List.cons.inj this).1
  · obtain ⟨t, e1⟩ := wd_at (L := L) (ha.resolve_left (by omega)) h1
    rw [e1, e, show b = m by omega] at z
    have := congrArg List.length z
    simp at this
  · obtain ⟨u, e2⟩ := wd_at (L := L2) (hb.resolve_left (by omega)) h2
    rw [e2, ← e, show a = n by omega] at z
    have := congrArg List.length z
    simp at this
theorem ldn_v {p : Nat → Bool} {q n : Nat} {k : Int32} (hn : n < 2147483648) (h : ldn p q n k) : k = (-1) ∨ 0 ≤ k := by
  rcases h with ⟨e, _⟩ | ⟨z, _, b, _, e, _⟩
  · exact Or.inl e
  · right; rw [e, i32_le, t0, tn (by omega)]; omega
def vs (stc : Int32) (St Se : Nat → Int32) (st : Int32) : Nat → Bool := fun i => decide (¬ stc = 0 ∧ St i = nI 118 ∧ ¬ Se i &&& st = 0)
theorem vs_t {stc : Int32} {St Se : Nat → Int32} {st : Int32} {i : Nat} : vs stc St Se st i = true ↔ (¬ stc = 0 ∧ St i = nI 118 ∧ ¬ Se i &&& st = 0) := by simp [vs]
theorem vs_low {stc : Int32} {St Se : Nat → Int32} {st : Int32} {n : Nat} : low (vs stc St Se st) n = if stc = 0 then (-1) else low (vo St Se st) n := by
  split
  · exact low_none (fun j _ h => (vs_t.mp h).1 (by assumption))
  · exact low_cong (fun k _ => by
      have h : ¬ stc = 0 := by assumption
      simp [vs, vo, h])
theorem rf_no {cZ : Nat → Int32} {nc : Nat} {stc : Int32} {gT gX : Nat → Int32} {ns : Nat} {ch : Int32} (h1 : low (lkb cZ ch) nc = (-1)) (h2 : low (vs stc gT gX ch) ns = (-1)) : ¬ rfd cZ nc stc gT gX ns ch := by
  rw [vs_low] at h2
  rintro (a | ⟨a, b⟩)
  · exact a h1
  · rw [if_neg a] at h2; exact b h2
theorem rf_l {cZ : Nat → Int32} {nc : Nat} {stc : Int32} {gT gX : Nat → Int32} {ns : Nat} {ch : Int32} (h1 : ¬ low (lkb cZ ch) nc = (-1)) : rfd cZ nc stc gT gX ns ch ∧ nI 108 = rsn cZ nc ch ∧ low (lkb cZ ch) nc = sbj cZ nc gT gX ns ch := ⟨Or.inl h1, (if_neg h1).symm, (if_neg h1).symm⟩
theorem rf_s {cZ : Nat → Int32} {nc : Nat} {stc : Int32} {gT gX : Nat → Int32} {ns : Nat} {ch : Int32} (h1 : low (lkb cZ ch) nc = (-1)) (h2 : ¬ low (vs stc gT gX ch) ns = (-1)) : rfd cZ nc stc gT gX ns ch ∧ nI 115 = rsn cZ nc ch ∧ low (vs stc gT gX ch) ns = sbj cZ nc gT gX ns ch := by
  have h0 : ¬ stc = 0 := fun z => h2 (by rw [vs_low, if_pos z])
  rw [vs_low, if_neg h0] at h2 ⊢
  exact ⟨Or.inr ⟨h0, h2⟩, (if_pos h1).symm, (if_pos h1).symm⟩
noncomputable def amt (r s : Int32) (i d m : Nat) : Int32 := if s = 0 then nI (i + d + m) * r else if s = nI 1 then r else if s = nI 2 then nI i * r + nI d * r / nI 2 else nI (max (i + d + m) 2) * r
theorem amt_i {r s : Int32} {c : Nat} : amt r s c 0 0 = prc r s (nI 105) c := by
  unfold amt prc hdp
  rw [Nat.add_zero, show nI 0 * r / nI 2 = 0 by rw [show nI 0 = (0 : Int32) from rfl, Int32.zero_mul]; decide, Int32.add_zero]
  simp
theorem amt_d {r s : Int32} {c : Nat} : amt r s 0 c 0 = prc r s (nI 100) c := by
  unfold amt prc hdp
  rw [Nat.add_zero, Nat.zero_add, show nI 0 * r = 0 by rw [show nI 0 = (0 : Int32) from rfl, Int32.zero_mul], Int32.zero_add]
  simp [show ¬ nI 100 = nI 105 by decide]
theorem amt_m {r s : Int32} {c : Nat} : amt r s 0 0 c = prc r s (nI 109) c := by
  unfold amt prc hdp
  rw [Nat.add_zero, Nat.zero_add, show nI 0 * r = 0 by rw [show nI 0 = (0 : Int32) from rfl, Int32.zero_mul]]
  simp [show ¬ nI 109 = nI 105 by decide, show ¬ nI 109 = nI 100 by decide]
  rfl
theorem same {L C L2 C2 : Nat → Int32} {v : Int32} {a b n m : Nat} (h1 : a = n) (h2 : b = m) (e : wd L C v a = wd L2 C2 v b) : wd L C v n = wd L2 C2 v m := by
  rw [← h1, ← h2]; exact e
