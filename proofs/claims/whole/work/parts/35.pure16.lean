/-! Model's text edits against the forms of the class. -/
theorem agr_tr {n : Nat} {f g h : Nat → Int32} (a : agr n f g) (b : agr n g h) : agr n f h := fun t ht => (a t ht).trans (b t ht)
theorem nch_ag {kd : Int32} {L C l mL mC : Nat → Int32} {p c q s n nc m : Nat} (hm : m = pfn kd n c) (hL : agr m mL (nfL kd L l p c q s)) (hC : agr m mC (nfC kd C p c q n)) : chs (un L C n mL mC m) nc = nch kd L C l p c q s n nc := by
  subst hm
  exact chs_cong (fun k _ => by
    unfold un
    rw [wd_cong (v := nI k) (fun j hj => ⟨hL j hj, hC j hj⟩)]
    exact decide_eq_decide.mpr (not_congr eq_comm))
theorem nch_d {L C mL mC : Nat → Int32} {i j n nc : Nat} (hL : agr (n - j) mL (dlF L i j)) (hC : agr (n - j) mC (dlF C i j)) : chs (un L C n mL mC (n - j)) nc = nch (nI 100) L C L i j i 0 n nc :=
  nch_ag (by rw [pfn, if_neg (by decide), if_pos rfl]) (by rw [nfL, if_neg (by decide), if_pos rfl]; exact hL) (by rw [nfC, if_neg (by decide), if_pos rfl]; exact hC)
theorem nzv {v t : Nat} (h : v = t) (ht : ¬ t = 0) : ¬ v = 0 := by rw [h]; exact ht
