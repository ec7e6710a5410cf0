theorem vu_s {α : Type} {f : Nat → α} {k : Nat} {v : α} : va_up f k v k = v := by simp [va_up]
theorem vu_n {α : Type} {f : Nat → α} {k j : Nat} {v : α} (h : ¬ j = k) : va_up f k v j = f j := by simp [va_up, h]
theorem ch_pf {kd : Int32} {pL pC qL qC l : Nat → Int32} {p c q s n nc : Nat} (hf : fit9 kd p c q n) : chs (un (pfL kd pL qL l p c q n s) (pfC kd pC qC p c q n) (pfn kd n c) pL pC n) nc = nch kd pL pC l p c q s n nc :=
  chs_cong (fun _ _ => un_cong (fun _ hj => ⟨pfL_nf hf hj, pfC_nf hf hj⟩) (fun _ _ => ⟨rfl, rfl⟩))
def vIns (a p : Int32) (na n nb ne : Nat) : Nat := if ¬ (ix a na ∧ ixl p n) then 1 else if nb = 0 then 2 else if ne = 40 ∨ 60 < n + nb then 3 else 0
def vDel (a p k : Int32) (na n ne : Nat) : Nat := if ¬ (ix a na ∧ rng p k n) then 1 else if ne = 40 then 2 else 0
def vMov (a p k g : Int32) (na n ne : Nat) : Nat := if ¬ (ix a na ∧ rng p k n ∧ gol g k n) then 1 else if ne = 40 then 2 else 0
theorem rsn_c (kZ : Nat → Int32) (nc : Nat) (ch : Int32) : vp_nar .char (rsn kZ nc ch) = rsn kZ nc ch := by
  unfold rsn
  split <;> decide
