theorem wtx_1 {pL pC oF : Nat → Int32} {k : Nat} : (wtx pL pC oF (k + 1)).1 = (wst (wtx pL pC oF k).1 (wtx pL pC oF k).2.1 (wtx pL pC oF k).2.2 (pC k)).1 + 1 := rfl
theorem wtx_2 {pL pC oF : Nat → Int32} {k : Nat} : (wtx pL pC oF (k + 1)).2.1 = upd (wst (wtx pL pC oF k).1 (wtx pL pC oF k).2.1 (wtx pL pC oF k).2.2 (pC k)).2 (wst (wtx pL pC oF k).1 (wtx pL pC oF k).2.1 (wtx pL pC oF k).2.2 (pC k)).1 (pL k) := rfl
theorem ut_c {f g : Nat → Int32} {a ne : Nat} {x : Int32} (ha : a ≤ ne) (h : ∀ e, e < ne → f e = g e) (q : orr f a (ne - a) &&& x = 0) : orr g a (ne - a) &&& x = 0 := by
  rw [← orr_cong (f := f) (g := g) (fun e h1 h2 => h e (by omega))]; exact q
theorem ut_d {f g : Nat → Int32} {a ne : Nat} {x : Int32} (ha : a ≤ ne) (h : ∀ e, e < ne → f e = g e) (q : orr g a (ne - a) &&& x = 0) : orr f a (ne - a) &&& x = 0 := by
  rw [orr_cong (f := f) (g := g) (fun e h1 h2 => h e (by omega))]; exact q
