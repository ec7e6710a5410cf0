/-! The rows of a text after an edit, without what lies behind its end. -/
def rem9 (p c i : Nat) : Nat := if i < p then i else i + c
def inF (g l : Nat → Int32) (p c s : Nat) : Nat → Int32 := fun j => if j < p then g j else if j < p + c then l (s + (j - p)) else g (j - c)
def kF (g : Nat → Int32) (v : Int32) (p c : Nat) : Nat → Int32 := fun j => if j < p then g j else if j < p + c then v else g (j - c)
def dlF (g : Nat → Int32) (p c : Nat) : Nat → Int32 := fun j => g (rem9 p c j)
def mvF (g : Nat → Int32) (p c q : Nat) : Nat → Int32 := fun j => if q ≤ j ∧ j < q + c then g (p + (j - q)) else g (rem9 p c (if j < q then j else j - c))
theorem insR_eq {g f l : Nat → Int32} {p c m s j : Nat} (hp : p ≤ m) (hj : j < m + c) : insR g f l p c m s j = inF g l p c s j := by
  simp only [insR, inF, va_cpy]
  repeat' split
  all_goals first | (exfalso; omega) | (congr 1; omega) | rfl
theorem insK_eq {g f : Nat → Int32} {v : Int32} {p c m j : Nat} (hp : p ≤ m) (hj : j < m + c) : insK g f v p c m j = kF g v p c j := by
  simp only [insK, kF, va_cpy, mk]
  repeat' split
  all_goals first | (exfalso; omega) | (congr 1; omega) | rfl
theorem delR_eq {g f : Nat → Int32} {p c m j : Nat} (hp : p + c ≤ m) (hj : j < m - c) : delR g f p c m j = dlF g p c j := by
  simp only [delR, dlF, va_cpy, rem9]
  repeat' split
  all_goals first | (exfalso; omega) | (congr 1; omega) | rfl
theorem movR_eq {g f : Nat → Int32} {p c q m j : Nat} (hp : p + c ≤ m) (hq : q + c ≤ m) (hj : j < m) : movR g f p c q m j = mvF g p c q j := by
  simp only [movR, mvF, rem9]
  by_cases h : q ≤ p
  · rw [if_pos h]
    simp only [va_cpy]
    repeat' split
    all_goals first | (exfalso; omega) | (congr 1; omega) | rfl
  · rw [if_neg h]
    simp only [va_cpy]
    repeat' split
    all_goals first | (exfalso; omega) | (congr 1; omega) | rfl
/-- a row of the log fits a text of m characters -/
def rok (K : Nat → Int32) (Po Co Go St : Nat → Nat) (e m : Nat) : Prop := K e = nI 105 ∧ Po e ≤ m ∧ m + Co e ≤ 60 ∧ St e + Co e ≤ 800 ∨ ¬ K e = nI 105 ∧ Po e + Co e ≤ m ∧ (K e = nI 100 ∨ Go e + Co e ≤ m)
def fit9 (kd : Int32) (p c q m : Nat) : Prop := kd = nI 105 ∧ p ≤ m ∧ m + c ≤ 60 ∨ ¬ kd = nI 105 ∧ p + c ≤ m ∧ (kd = nI 100 ∨ q + c ≤ m)
def nfL (kd : Int32) (g l : Nat → Int32) (p c q s : Nat) : Nat → Int32 := if kd = nI 105 then inF g l p c s else if kd = nI 100 then dlF g p c else mvF g p c q
def nfA (kd : Int32) (g : Nat → Int32) (v : Int32) (p c q : Nat) : Nat → Int32 := if kd = nI 105 then kF g v p c else if kd = nI 100 then dlF g p c else mvF g p c q
def nfC (kd : Int32) (g : Nat → Int32) (p c q m : Nat) : Nat → Int32 := if kd = nI 105 then kF g (ard g m p p) p c else if kd = nI 100 then dlF g p c else stp (mvF g p c q) m q c (q + c)
theorem ard_cong {C C2 : Nat → Int32} {n st en : Nat} (hse : st ≤ en) (h : ∀ j, j < n → C j = C2 j) : ard C n st en = ard C2 n st en := by
  simp only [ard]
  by_cases h1 : st = 0
  · rw [if_pos (Or.inl h1), if_pos (Or.inl h1)]
  · by_cases h2 : n ≤ en
    · rw [if_pos (Or.inr (Or.inl h2)), if_pos (Or.inr (Or.inl h2))]
    · rw [h (st - 1) (by omega), h en (by omega)]
theorem stp_cong {C C2 : Nat → Int32} {m q c i j : Nat} (h : ∀ j, j < m → C j = C2 j) (hj : j < m) : stp C m q c i j = stp C2 m q c i j := by
  simp only [stp]
  rw [h j hj, so_cong (C2 := C2) (fun k hk _ => h k hk), ard_cong (C2 := C2) (by omega) h]
theorem pfL_nf {kd : Int32} {g f l : Nat → Int32} {p c q m s j : Nat} (hf : fit9 kd p c q m) (hj : j < pfn kd m c) : pfL kd g f l p c q m s j = nfL kd g l p c q s j := by
  simp only [pfL, nfL]
  simp only [pfn] at hj
  by_cases h1 : kd = nI 105
  · rw [if_pos h1] at hj
    rw [if_pos h1, if_pos h1]
    rcases hf with r | r
    · exact insR_eq r.2.1 hj
    · exact absurd h1 r.1
  · rw [if_neg h1] at hj
    rw [if_neg h1, if_neg h1]
    rcases hf with r | r
    · exact absurd r.1 h1
    · by_cases h2 : kd = nI 100
      · rw [if_pos h2] at hj
        rw [if_pos h2, if_pos h2]
        exact delR_eq r.2.1 hj
      · rw [if_neg h2] at hj
        rw [if_neg h2, if_neg h2]
        rcases r.2.2 with z | z
        · exact absurd z h2
        · exact movR_eq r.2.1 z hj
theorem pfA_nf {kd : Int32} {g f : Nat → Int32} {v : Int32} {p c q m j : Nat} (hf : fit9 kd p c q m) (hj : j < pfn kd m c) : pfA kd g f v p c q m j = nfA kd g v p c q j := by
  simp only [pfA, nfA]
  simp only [pfn] at hj
  by_cases h1 : kd = nI 105
  · rw [if_pos h1] at hj
    rw [if_pos h1, if_pos h1]
    rcases hf with r | r
    · exact insK_eq r.2.1 hj
    · exact absurd h1 r.1
  · rw [if_neg h1] at hj
    rw [if_neg h1, if_neg h1]
    rcases hf with r | r
    · exact absurd r.1 h1
    · by_cases h2 : kd = nI 100
      · rw [if_pos h2] at hj
        rw [if_pos h2, if_pos h2]
        exact delR_eq r.2.1 hj
      · rw [if_neg h2] at hj
        rw [if_neg h2, if_neg h2]
        rcases r.2.2 with z | z
        · exact absurd z h2
        · exact movR_eq r.2.1 z hj
theorem pfC_nf {kd : Int32} {g f : Nat → Int32} {p c q m j : Nat} (hf : fit9 kd p c q m) (hj : j < pfn kd m c) : pfC kd g f p c q m j = nfC kd g p c q m j := by
  simp only [pfC, nfC]
  simp only [pfn] at hj
  by_cases h1 : kd = nI 105
  · rw [if_pos h1] at hj
    rw [if_pos h1, if_pos h1]
    rcases hf with r | r
    · exact insK_eq r.2.1 hj
    · exact absurd h1 r.1
  · rw [if_neg h1] at hj
    rw [if_neg h1, if_neg h1]
    rcases hf with r | r
    · exact absurd r.1 h1
    · by_cases h2 : kd = nI 100
      · rw [if_pos h2] at hj
        rw [if_pos h2, if_pos h2]
        exact delR_eq r.2.1 hj
      · rw [if_neg h2] at hj
        rw [if_neg h2, if_neg h2]
        rcases r.2.2 with z | z
        · exact absurd z h2
        · exact stp_cong (fun k hk => movR_eq r.2.1 z hk) hj
theorem nfL_cong {kd : Int32} {g g2 l : Nat → Int32} {p c q m s j : Nat} (hf : fit9 kd p c q m) (h : ∀ j, j < m → g j = g2 j) (hj : j < pfn kd m c) : nfL kd g l p c q s j = nfL kd g2 l p c q s j := by
  simp only [nfL]
  simp only [pfn] at hj
  rcases hf with r | r
  · rw [if_pos r.1] at hj
    rw [if_pos r.1, if_pos r.1]
    simp only [inF]
    by_cases z : j < p
    · rw [if_pos z, if_pos z]; exact h _ (by omega)
    · rw [if_neg z, if_neg z]
      by_cases y : j < p + c
      · rw [if_pos y, if_pos y]
      · rw [if_neg y, if_neg y]; exact h _ (by omega)
  · rw [if_neg r.1] at hj
    rw [if_neg r.1, if_neg r.1]
    by_cases h2 : kd = nI 100
    · rw [if_pos h2] at hj
      rw [if_pos h2, if_pos h2]
      simp only [dlF, rem9]
      split <;> exact h _ (by omega)
    · rw [if_neg h2] at hj
      rw [if_neg h2, if_neg h2]
      rcases r.2.2 with z | z
      · exact absurd z h2
      · simp only [mvF, rem9]
        repeat' split
        all_goals exact h _ (by omega)
theorem nfA_cong {kd : Int32} {g g2 : Nat → Int32} {v : Int32} {p c q m j : Nat} (hf : fit9 kd p c q m) (h : ∀ j, j < m → g j = g2 j) (hj : j < pfn kd m c) : nfA kd g v p c q j = nfA kd g2 v p c q j := by
  simp only [nfA]
  simp only [pfn] at hj
  rcases hf with r | r
  · rw [if_pos r.1] at hj
    rw [if_pos r.1, if_pos r.1]
    simp only [kF]
    by_cases z : j < p
    · rw [if_pos z, if_pos z]; exact h _ (by omega)
    · rw [if_neg z, if_neg z]
      by_cases y : j < p + c
      · rw [if_pos y, if_pos y]
      · rw [if_neg y, if_neg y]; exact h _ (by omega)
  · rw [if_neg r.1] at hj
    rw [if_neg r.1, if_neg r.1]
    by_cases h2 : kd = nI 100
    · rw [if_pos h2] at hj
      rw [if_pos h2, if_pos h2]
      simp only [dlF, rem9]
      split <;> exact h _ (by omega)
    · rw [if_neg h2] at hj
      rw [if_neg h2, if_neg h2]
      rcases r.2.2 with z | z
      · exact absurd z h2
      · simp only [mvF, rem9]
        repeat' split
        all_goals exact h _ (by omega)
theorem mvF_cong {g g2 : Nat → Int32} {p c q m j : Nat} (hp : p + c ≤ m) (hq : q + c ≤ m) (h : ∀ j, j < m → g j = g2 j) (hj : j < m) : mvF g p c q j = mvF g2 p c q j := by
  simp only [mvF, rem9]
  repeat' split
  all_goals exact h _ (by omega)
theorem nfC_cong {kd : Int32} {g g2 : Nat → Int32} {p c q m j : Nat} (hf : fit9 kd p c q m) (h : ∀ j, j < m → g j = g2 j) (hj : j < pfn kd m c) : nfC kd g p c q m j = nfC kd g2 p c q m j := by
  simp only [nfC]
  simp only [pfn] at hj
  rcases hf with r | r
  · rw [if_pos r.1] at hj
    rw [if_pos r.1, if_pos r.1]
    simp only [kF]
    by_cases z : j < p
    · rw [if_pos z, if_pos z]; exact h _ (by omega)
    · rw [if_neg z, if_neg z]
      by_cases y : j < p + c
      · rw [if_pos y, if_pos y]; exact ard_cong (Nat.le_refl _) h
      · rw [if_neg y, if_neg y]; exact h _ (by omega)
  · rw [if_neg r.1] at hj
    rw [if_neg r.1, if_neg r.1]
    by_cases h2 : kd = nI 100
    · rw [if_pos h2] at hj
      rw [if_pos h2, if_pos h2]
      simp only [dlF, rem9]
      split <;> exact h _ (by omega)
    · rw [if_neg h2] at hj
      rw [if_neg h2, if_neg h2]
      rcases r.2.2 with z | z
      · exact absurd z h2
      · exact stp_cong (fun k hk => mvF_cong r.2.1 z h hk) hj
theorem mka_cong {P K E : Nat → Nat} {ed : Nat} {C C2 : Nat → Int32} {j : Nat} (h : C j = C2 j) : ∀ i, mka P K E ed C i j = mka P K E ed C2 i j
  | 0 => h
  | i + 1 => by
    have ih := mka_cong (P := P) (K := K) (E := E) (ed := ed) h i
    by_cases z : E i = ed
    · rw [mka_t z, mka_t z]
      simp only [mk]
      split
      · rfl
      · exact ih
    · rw [mka_f z, mka_f z]; exact ih
theorem un_cong {L C gL gC L2 C2 gL2 gC2 : Nat → Int32} {n m v : Nat} (h : ∀ j, j < n → L j = L2 j ∧ C j = C2 j) (g : ∀ j, j < m → gL j = gL2 j ∧ gC j = gC2 j) : un L C n gL gC m v = un L2 C2 n gL2 gC2 m v := by
  simp only [un]
  rw [wd_cong h, wd_cong g]
/-- the edits done again: the text ahead of edit e, ahead of the marks that stand there -/
def hst (K : Nat → Int32) (Au Po Co Go St : Nat → Nat) (l : Nat → Int32) (P Q E : Nat → Nat) (nc : Nat) : Nat → Nat × (Nat → Int32) × (Nat → Int32) × (Nat → Int32)
  | 0 => (0, fun _ => nI 0, fun _ => nI 0, fun _ => nI 0)
  | e + 1 =>
    (pfn (K e) (hst K Au Po Co Go St l P Q E nc e).1 (Co e),
     nfL (K e) (hst K Au Po Co Go St l P Q E nc e).2.1 l (Po e) (Co e) (Go e) (St e),
     nfA (K e) (hst K Au Po Co Go St l P Q E nc e).2.2.1 (nI (Au e)) (Po e) (Co e) (Go e),
     nfC (K e) (mka P Q E e (hst K Au Po Co Go St l P Q E nc e).2.2.2 nc) (Po e) (Co e) (Go e) (hst K Au Po Co Go St l P Q E nc e).1)
/-- the set of clauses that edit e changed -/
def chE (K : Nat → Int32) (Au Po Co Go St : Nat → Nat) (l : Nat → Int32) (P Q E : Nat → Nat) (nc e : Nat) : Int32 :=
  chs (un (hst K Au Po Co Go St l P Q E nc (e + 1)).2.1 (hst K Au Po Co Go St l P Q E nc (e + 1)).2.2.2 (hst K Au Po Co Go St l P Q E nc (e + 1)).1 (hst K Au Po Co Go St l P Q E nc e).2.1 (mka P Q E e (hst K Au Po Co Go St l P Q E nc e).2.2.2 nc) (hst K Au Po Co Go St l P Q E nc e).1) nc
theorem rok_fit {K : Nat → Int32} {Po Co Go St : Nat → Nat} {e m : Nat} (h : rok K Po Co Go St e m) : fit9 (K e) (Po e) (Co e) (Go e) m := by
  rcases h with r | r
  · exact Or.inl ⟨r.1, r.2.1, r.2.2.1⟩
  · exact Or.inr r
theorem pfn_le {kd : Int32} {p c q m : Nat} (hf : fit9 kd p c q m) (hm : m ≤ 60) : pfn kd m c ≤ 60 := by
  simp only [pfn]
  rcases hf with r | r
  · rw [if_pos r.1]; exact r.2.2
  · rw [if_neg r.1]; split <;> omega
theorem cpy_in0 {f g : Nat → Int32} {n j : Nat} (h : j < n) : va_cpy f g 0 0 n j = f j := by
  simp only [va_cpy]
  rw [if_pos (by omega)]
  congr 1
  omega
section RUN
variable {eK eL : Nat → Int32} {eA eP eC eG eS gP gK gE : Nat → Nat} {nc i n3 : Nat} {xL xA xC yL yA yC : Nat → Int32}
theorem run_x (hf : fit9 (eK i) (eP i) (eC i) (eG i) n3) (hn : n3 = (hst eK eA eP eC eG eS eL gP gK gE nc i).1) (hx : ∀ j, j < n3 → xL j = (hst eK eA eP eC eG eS eL gP gK gE nc i).2.1 j ∧ xA j = (hst eK eA eP eC eG eS eL gP gK gE nc i).2.2.1 j ∧ xC j = (hst eK eA eP eC eG eS eL gP gK gE nc i).2.2.2 j) :
    ∀ j, j < pfn (eK i) n3 (eC i) → pfL (eK i) (va_cpy xL yL 0 0 n3) xL eL (eP i) (eC i) (eG i) n3 (eS i) j = (hst eK eA eP eC eG eS eL gP gK gE nc (i + 1)).2.1 j ∧ pfA (eK i) (va_cpy xA yA 0 0 n3) xA (nI (eA i)) (eP i) (eC i) (eG i) n3 j = (hst eK eA eP eC eG eS eL gP gK gE nc (i + 1)).2.2.1 j ∧
      pfC (eK i) (va_cpy (mka gP gK gE i xC nc) yC 0 0 n3) (mka gP gK gE i xC nc) (eP i) (eC i) (eG i) n3 j = (hst eK eA eP eC eG eS eL gP gK gE nc (i + 1)).2.2.2 j := by
  subst hn
  intro j hj
  refine ⟨?_, ?_, ?_⟩
  · rw [pfL_nf hf hj, nfL_cong hf (g2 := (hst eK eA eP eC eG eS eL gP gK gE nc i).2.1) (fun k hk => by rw [cpy_in0 hk]; exact (hx k hk).1) hj]
    rfl
  · rw [pfA_nf hf hj, nfA_cong hf (g2 := (hst eK eA eP eC eG eS eL gP gK gE nc i).2.2.1) (fun k hk => by rw [cpy_in0 hk]; exact (hx k hk).2.1) hj]
    rfl
  · rw [pfC_nf hf hj, nfC_cong hf (g2 := mka gP gK gE i (hst eK eA eP eC eG eS eL gP gK gE nc i).2.2.2 nc) (fun k hk => by rw [cpy_in0 hk]; exact mka_cong (hx k hk).2.2 nc) hj]
    rfl
theorem run_z (hf : fit9 (eK i) (eP i) (eC i) (eG i) n3) (hn : n3 = (hst eK eA eP eC eG eS eL gP gK gE nc i).1) (hx : ∀ j, j < n3 → xL j = (hst eK eA eP eC eG eS eL gP gK gE nc i).2.1 j ∧ xA j = (hst eK eA eP eC eG eS eL gP gK gE nc i).2.2.1 j ∧ xC j = (hst eK eA eP eC eG eS eL gP gK gE nc i).2.2.2 j) :
    chs (un (pfL (eK i) (va_cpy xL yL 0 0 n3) xL eL (eP i) (eC i) (eG i) n3 (eS i)) (pfC (eK i) (va_cpy (mka gP gK gE i xC nc) yC 0 0 n3) (mka gP gK gE i xC nc) (eP i) (eC i) (eG i) n3) (pfn (eK i) n3 (eC i)) (va_cpy xL yL 0 0 n3) (va_cpy (mka gP gK gE i xC nc) yC 0 0 n3) n3) nc = chE eK eA eP eC eG eS eL gP gK gE nc i := by
  have h := run_x (yL := yL) (yA := yL) (yC := yC) hf hn hx
  unfold chE
  apply chs_cong
  intro v _
  subst hn
  exact un_cong (fun j hj => ⟨(h j hj).1, (h j hj).2.2⟩) (fun j hj => by rw [cpy_in0 hj, cpy_in0 hj]; exact ⟨(hx j hj).1, mka_cong (hx j hj).2.2 nc⟩)
end RUN
