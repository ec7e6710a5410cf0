/-! The model's move is the class's. -/
theorem mvF_in {C : Nat → Int32} {i j q t : Nat} (h : q ≤ t ∧ t < q + j) : mvF C i j q t = C (i + (t - q)) := by rw [mvF, if_pos h]
theorem mvF_lo {C : Nat → Int32} {i j q t : Nat} (h : t < q) : mvF C i j q t = dlF C i j t := by rw [mvF, if_neg (by omega), if_pos h]; rfl
theorem mvF_hi {C : Nat → Int32} {i j q t : Nat} (h : q + j ≤ t) : mvF C i j q t = dlF C i j (t - j) := by rw [mvF, if_neg (by omega), if_neg (by omega)]; rfl
theorem so_mv {C : Nat → Int32} {i j q n : Nat} {w : Int32} (hq : q + j ≤ n) : so (mvF C i j q) n q (q + j) w = true ↔ ∃ y, y < n - j ∧ dlF C i j y = w := by
  rw [so_t]
  constructor
  · rintro ⟨z, h1, h2, h3 | h3⟩
    · exact ⟨z, by omega, by rw [← mvF_lo h3]; exact h2⟩
    · exact ⟨z - j, by omega, by rw [← mvF_hi h3]; exact h2⟩
  · rintro ⟨y, h1, h2⟩
    rcases Nat.lt_or_ge y q with z | z
    · exact ⟨y, by omega, by rw [mvF_lo z]; exact h2, Or.inl z⟩
    · exact ⟨y + j, by omega, by rw [mvF_hi (by omega), Nat.add_sub_cancel]; exact h2, Or.inr (by omega)⟩
theorem ard_mv {C : Nat → Int32} {i j q n : Nat} (hq : q + j ≤ n) : ard (mvF C i j q) n q (q + j) = ard (dlF C i j) (n - j) q q := by
  rw [ard, ard]
  rcases Nat.lt_or_ge 0 q with z | z
  · rw [mvF_lo (show q - 1 < q by omega), mvF_hi (Nat.le_refl (q + j)), Nat.add_sub_cancel]
    by_cases h : n ≤ q + j
    · rw [if_pos (Or.inr (Or.inl h)), if_pos (Or.inr (Or.inl (by omega)))]
    · have h2 : ¬ n - j ≤ q := by omega
      simp only [h, h2, false_or]
  · rw [if_pos (Or.inl (by omega)), if_pos (Or.inl (by omega))]
theorem mvo_nf {C : Nat → Int32} {i j q n : Nat} (hi : i + j ≤ n) (hq : q + j ≤ n) (hC : ∀ t, t < n → C t = (-1) ∨ ∃ w, w < 6 ∧ C t = nI w) : agr n (mvo C i j q n) (nfC (nI 109) C i j q n) := fun t ht => by
  rw [nfC, if_neg (by decide), if_neg (by decide)]
  simp only [mvo, stp]
  by_cases h : q ≤ t ∧ t < q + j
  · rw [if_pos h, mvF_in h, ard_mv hq]
    have hd : ∀ y, y < n - j → dlF C i j y = (-1) ∨ ∃ w, w < 6 ∧ dlF C i j y = nI w := fun y hy => hC _ (by unfold rem9; split <;> omega)
    rcases hC (i + (t - q)) (by omega) with e | ⟨v, hv, e⟩
    · rw [if_pos ⟨h, Or.inl e⟩, e, own_a (by decide)]
    · have hn : ¬ nI v < 0 := by rw [i32_lt, tn (by omega), t0]; omega
      have hm : ¬ nI v = (-1) := fun z => hn (by rw [z]; decide)
      have hb := (bit_0 hv).trans (lst_bit hv hd)
      rw [e]
      by_cases hs : so (mvF C i j q) n q (q + j) (nI v) = true
      · obtain ⟨y, y1, y2⟩ := (so_mv hq).mp hs
        rw [if_pos ⟨h, Or.inr hs⟩, own_b (fun z => hb.mp z y y1 y2)]
      · rw [if_neg (fun z => z.2.elim hm hs), own_y hn (hb.mpr (fun y y1 y2 => hs ((so_mv hq).mpr ⟨y, y1, y2⟩)))]
  · have hx : ¬ ((q ≤ t ∧ t < q + j) ∧ (mvF C i j q t = (-1) ∨ so (mvF C i j q) n q (q + j) (mvF C i j q t) = true)) := fun z => h z.1
    rw [if_neg h, if_neg hx, mvF, if_neg h]
theorem nch_mv {L C : Nat → Int32} {l : Nat → Int32} {i j q s n nc : Nat} (hi : i + j ≤ n) (hq : q + j ≤ n) (hC : ∀ t, t < n → C t = (-1) ∨ ∃ w, w < 6 ∧ C t = nI w) : chs (un L C n (mvF L i j q) (mvo C i j q n) n) nc = nch (nI 109) L C l i j q s n nc :=
  nch_ag (by rw [pfn, if_neg (by decide), if_neg (by decide)]) (by rw [nfL, if_neg (by decide), if_neg (by decide)]; exact fun _ _ => rfl) (mvo_nf hi hq hC)
