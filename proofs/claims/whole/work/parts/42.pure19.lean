/-! The set of the clauses that are left, bit by bit. -/
theorem bit_0 {x : Int32} {k : Nat} (hk : k < 6) : (x >>> (nI k &&& 31)) &&& nI 1 = 0 ↔ x.toBitVec.getLsbD k = false := by
  rw [← Int32.toBitVec_inj]
  have e4 : (x >>> (nI k &&& 31)).toBitVec = x.toBitVec.sshiftRight k := by
    rw [Int32.toBitVec_shiftRight]
    have : k = 0 ∨ k = 1 ∨ k = 2 ∨ k = 3 ∨ k = 4 ∨ k = 5 := by omega
    rcases this with rfl | rfl | rfl | rfl | rfl | rfl <;> rfl
  rw [Int32.toBitVec_and, e4, show (nI 1).toBitVec = BitVec.twoPow 32 0 from rfl, BitVec.and_twoPow, BitVec.getLsbD_sshiftRight]
  have : k < 32 := by omega
  cases hb : x.toBitVec.getLsbD k <;> simp [hb, this] <;> decide
theorem one_bit {w v : Nat} (hw : w < 6) (hv : v < 6) : (nI 1 <<< (nI w &&& 31)).toBitVec.getLsbD v = decide (w = v) := by
  have a : w = 0 ∨ w = 1 ∨ w = 2 ∨ w = 3 ∨ w = 4 ∨ w = 5 := by omega
  have b : v = 0 ∨ v = 1 ∨ v = 2 ∨ v = 3 ∨ v = 4 ∨ v = 5 := by omega
  rcases a with rfl | rfl | rfl | rfl | rfl | rfl <;> rcases b with rfl | rfl | rfl | rfl | rfl | rfl <;> decide
theorem lst_bit {C : Nat → Int32} {v : Nat} (hv : v < 6) : ∀ {n : Nat}, (∀ j, j < n → C j = (-1) ∨ ∃ w, w < 6 ∧ C j = nI w) → ((lst C n).toBitVec.getLsbD v = false ↔ ∀ j, j < n → ¬ C j = nI v)
  | 0, _ => ⟨fun _ j h => by omega, fun _ => by
      rw [lst]
      have b : v = 0 ∨ v = 1 ∨ v = 2 ∨ v = 3 ∨ v = 4 ∨ v = 5 := by omega
      rcases b with rfl | rfl | rfl | rfl | rfl | rfl <;> decide⟩
  | n + 1, h => by
      have ih := lst_bit hv (n := n) (fun j hj => h j (by omega))
      have hs : (lst C (n + 1)).toBitVec.getLsbD v = false ↔ (lst C n).toBitVec.getLsbD v = false ∧ ¬ C n = nI v := by
        rcases h n (by omega) with e | ⟨w, hw, e⟩
        · rw [lst, e, if_pos (by decide), or0]
          exact ⟨fun z => ⟨z, by
            have b : v = 0 ∨ v = 1 ∨ v = 2 ∨ v = 3 ∨ v = 4 ∨ v = 5 := by omega
            rcases b with rfl | rfl | rfl | rfl | rfl | rfl <;> decide⟩, fun z => z.1⟩
        · have hn : ¬ nI w < 0 := by rw [i32_lt, tn (by omega), t0]; omega
          rw [lst, e, if_neg hn, Int32.toBitVec_or, BitVec.getLsbD_or, one_bit hw hv, Bool.or_eq_false_iff]
          refine and_congr Iff.rfl ?_
          rw [decide_eq_false_iff_not]
          refine not_congr ⟨fun z => by rw [z], fun z => ?_⟩
          have := congrArg Int32.toInt z
          rw [tn (by omega), tn (by omega)] at this
          omega
      rw [hs, ih]
      constructor
      · rintro ⟨a, b⟩ j hj
        rcases Nat.lt_or_ge j n with q | q
        · exact a j q
        · rw [show j = n by omega]; exact b
      · intro a; exact ⟨fun j hj => a j (by omega), a n (by omega)⟩
