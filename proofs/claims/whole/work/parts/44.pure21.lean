/-! The sum of the costs, in both widths. -/
theorem sml_smi {f : Nat → Int32} : ∀ {n : Nat}, n ≤ 40 → (∀ k, k < n → 0 ≤ (f k).toInt ∧ (f k).toInt ≤ 1000000) → (sml f n).toInt = (smi f n).toInt ∧ 0 ≤ (smi f n).toInt ∧ (smi f n).toInt ≤ (n : Int) * 1000000
  | 0, _, _ => by refine ⟨by rw [sml, smi]; decide, by rw [smi]; decide, by rw [smi]; decide⟩
  | n + 1, hn, h => by
      obtain ⟨a, b, c⟩ := sml_smi (f := f) (n := n) (by omega) (fun k hk => h k (by omega))
      obtain ⟨d, e⟩ := h n (by omega)
      have x : (smi f (n + 1)).toInt = (smi f n).toInt + (f n).toInt := by
        rw [smi, Int32.toInt_add, Int.bmod_def]; omega
      have y : (sml f (n + 1)).toInt = (sml f n).toInt + (f n).toInt := by
        rw [sml, Int64.toInt_add, Int32.toInt_toInt64, Int.bmod_def]; omega
      rw [x, y, a]
      exact ⟨rfl, by omega, by omega⟩
