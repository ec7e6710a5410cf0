/-! Words for what the rows of a text hold. -/
def ct (p : Nat → Bool) : Nat → Nat
  | 0 => 0
  | n + 1 => ct p n + (if p n = true then 1 else 0)
theorem ct_t {p : Nat → Bool} {n : Nat} (h : p n = true) : ct p (n + 1) = ct p n + 1 := by simp [ct, h]
theorem ct_f {p : Nat → Bool} {n : Nat} (h : ¬ p n = true) : ct p (n + 1) = ct p n := by simp [ct, h]
theorem ct_le (p : Nat → Bool) : ∀ n, ct p n ≤ n
  | 0 => Nat.le_refl _
  | n + 1 => by
    have := ct_le p n
    by_cases h : p n = true
    · rw [ct_t h]; omega
    · rw [ct_f h]; omega
theorem ct_cong {p q : Nat → Bool} : ∀ {n : Nat}, (∀ k, k < n → p k = q k) → ct p n = ct q n
  | 0, _ => rfl
  | n + 1, h => by
    have e := ct_cong (p := p) (q := q) (n := n) (fun k hk => h k (by omega))
    simp only [ct]
    rw [e, h n (by omega)]
/-- the words of a clause in the first n characters -/
def wd (L C : Nat → Int32) (v : Int32) : Nat → List Int32
  | 0 => []
  | n + 1 => if C n = v then wd L C v n ++ [L n] else wd L C v n
theorem wd_t {L C : Nat → Int32} {v : Int32} {n : Nat} (h : C n = v) : wd L C v (n + 1) = wd L C v n ++ [L n] := by simp [wd, h]
theorem wd_f {L C : Nat → Int32} {v : Int32} {n : Nat} (h : ¬ C n = v) : wd L C v (n + 1) = wd L C v n := by simp [wd, h]
theorem wd_gap {L C : Nat → Int32} {v : Int32} {a : Nat} : ∀ {b : Nat}, a ≤ b → (∀ j, a ≤ j → j < b → ¬ C j = v) → wd L C v b = wd L C v a
  | 0, h, _ => by rw [Nat.le_zero.mp h]
  | b + 1, h, g => by
    rcases Nat.lt_or_ge b a with q | q
    · rw [show a = b + 1 by omega]
    · rw [wd_f (g b q (by omega)), wd_gap q (fun j h1 h2 => g j h1 (by omega))]
theorem wd_pre {L C : Nat → Int32} {v : Int32} {a : Nat} : ∀ {b : Nat}, a ≤ b → ∃ t, wd L C v b = wd L C v a ++ t
  | 0, h => ⟨[], by rw [Nat.le_zero.mp h]; simp⟩
  | b + 1, h => by
    rcases Nat.lt_or_ge b a with q | q
    · exact ⟨[], by rw [show a = b + 1 by omega]; simp⟩
    · obtain ⟨t, e⟩ := wd_pre (L := L) (C := C) (v := v) q
      by_cases g : C b = v
      · exact ⟨t ++ [L b], by rw [wd_t g, e, List.append_assoc]⟩
      · exact ⟨t, by rw [wd_f g, e]⟩
theorem wd_cong {L C L2 C2 : Nat → Int32} {v : Int32} : ∀ {n : Nat}, (∀ j, j < n → L j = L2 j ∧ C j = C2 j) → wd L C v n = wd L2 C2 v n
  | 0, _ => rfl
  | n + 1, h => by
    have e := wd_cong (L := L) (C := C) (L2 := L2) (C2 := C2) (v := v) (n := n) (fun j hj => h j (by omega))
    obtain ⟨h1, h2⟩ := h n (by omega)
    simp only [wd]
    rw [e, h1, h2]
theorem wd_none {L C : Nat → Int32} {v : Int32} : ∀ {n : Nat}, (∀ j, j < n → ¬ C j = v) → wd L C v n = []
  | 0, _ => rfl
  | n + 1, h => by rw [wd_f (h n (by omega)), wd_none (fun j hj => h j (by omega))]
/-- a set out of a mark for each number below k -/
def chs (p : Nat → Bool) : Nat → Int32
  | 0 => nI 0
  | k + 1 => if p k = true then chs p k ||| (nI 1 <<< (nI k &&& 31)) else chs p k
theorem chs_t {p : Nat → Bool} {k : Nat} (h : p k = true) : chs p (k + 1) = chs p k ||| (nI 1 <<< (nI k &&& 31)) := by simp [chs, h]
theorem chs_f {p : Nat → Bool} {k : Nat} (h : ¬ p k = true) : chs p (k + 1) = chs p k := by simp [chs, h]
theorem chs_cong {p q : Nat → Bool} : ∀ {n : Nat}, (∀ k, k < n → p k = q k) → chs p n = chs q n
  | 0, _ => rfl
  | n + 1, h => by
    have e := chs_cong (p := p) (q := q) (n := n) (fun k hk => h k (by omega))
    simp only [chs]
    rw [e, h n (by omega)]
/-- the clauses of which the words differ -/
def un (L C : Nat → Int32) (n : Nat) (gL gC : Nat → Int32) (m : Nat) : Nat → Bool := fun v => decide (¬ wd L C (nI v) n = wd gL gC (nI v) m)
theorem un_t {L C : Nat → Int32} {n : Nat} {gL gC : Nat → Int32} {m v : Nat} : un L C n gL gC m v = true ↔ ¬ wd L C (nI v) n = wd gL gC (nI v) m := by simp [un]
/-- the clause around some characters -/
def ard (C : Nat → Int32) (n st en : Nat) : Int32 := if st = 0 ∨ n ≤ en ∨ ¬ C (st - 1) = C en then (-1) else C en
def mk (C : Nat → Int32) (p c : Nat) (v : Int32) : Nat → Int32 := fun j => if p ≤ j ∧ j < p + c then v else C j
theorem mk_0 (C : Nat → Int32) (p : Nat) (v : Int32) : mk C p 0 v = C := by
  funext j
  simp only [mk]
  rw [if_neg (by omega)]
theorem mk_s (C : Nat → Int32) (p c : Nat) (v : Int32) : upd (mk C p c v) (p + c) v = mk C p (c + 1) v := by
  funext j
  by_cases e : j = p + c
  · subst e; rw [pk_us]; simp only [mk]; rw [if_pos (by omega)]
  · rw [pk_un e]; simp only [mk]
    by_cases q : p ≤ j ∧ j < p + c
    · rw [if_pos q, if_pos (by omega)]
    · rw [if_neg q, if_neg (by omega)]
theorem cpy_0 {α : Type} (f g : Nat → α) (sp dp : Nat) : va_cpy f g sp dp 0 = g := by
  funext j
  simp only [va_cpy]
  rw [if_neg (by omega)]
theorem cpy_s (f g : Nat → Int32) (sp dp n : Nat) : upd (va_cpy f g sp dp n) (dp + n) (f (sp + n)) = va_cpy f g sp dp (n + 1) := by
  funext j
  by_cases e : j = dp + n
  · subst e; rw [pk_us]; simp only [va_cpy]; rw [if_pos (by omega), show dp + n - dp = n by omega]
  · rw [pk_un e]; simp only [va_cpy]
    by_cases q : dp ≤ j ∧ j < dp + n
    · rw [if_pos q, if_pos (by omega)]
    · rw [if_neg q, if_neg (by omega)]
theorem CA_cpy {f g : Nat → Int32} (hf : ∀ j, vp_nar .char (f j) = f j) (hg : ∀ j, vp_nar .char (g j) = g j) (sp dp n : Nat) : ∀ j, vp_nar .char (va_cpy f g sp dp n j) = va_cpy f g sp dp n j := fun j => by
  simp only [va_cpy]
  split
  · exact hf _
  · exact hg _
/-- some character of the clause v stands outside s..e -/
def so (C : Nat → Int32) (n s e : Nat) (v : Int32) : Bool := (List.range n).any (fun i => decide (C i = v) && (decide (i < s) || decide (e ≤ i)))
theorem so_t {C : Nat → Int32} {n s e : Nat} {v : Int32} : so C n s e v = true ↔ ∃ i, i < n ∧ C i = v ∧ (i < s ∨ e ≤ i) := by
  simp [so, List.any_eq_true, List.mem_range]
theorem so_cong {C C2 : Nat → Int32} {n s e : Nat} {v : Int32} (h : ∀ j, j < n → (j < s ∨ e ≤ j) → C j = C2 j) : so C n s e v = so C2 n s e v := by
  rw [Bool.eq_iff_iff, so_t, so_t]
  constructor
  · rintro ⟨i, h1, h2, h3⟩
    exact ⟨i, h1, by rw [← h i h1 h3]; exact h2, h3⟩
  · rintro ⟨i, h1, h2, h3⟩
    exact ⟨i, h1, by rw [h i h1 h3]; exact h2, h3⟩
/-- the clauses as moved characters get them, up to i -/
def stp (C : Nat → Int32) (n p c i : Nat) : Nat → Int32 := fun j => if (p ≤ j ∧ j < i) ∧ (C j = (-1) ∨ so C n p (p + c) (C j) = true) then ard C n p (p + c) else C j
theorem stp_0 (C : Nat → Int32) (n p c : Nat) : stp C n p c p = C := by
  funext j
  simp only [stp]
  rw [if_neg (by omega)]
theorem stp_at (C : Nat → Int32) (n p c i : Nat) : stp C n p c i i = C i := by
  simp only [stp]
  rw [if_neg (by omega)]
theorem stp_out {C : Nat → Int32} {n p c i j : Nat} (h : j < p ∨ i ≤ j) : stp C n p c i j = C j := by
  simp only [stp]
  rw [if_neg (by omega)]
theorem stp_t {C : Nat → Int32} {n p c i : Nat} (hi : p ≤ i) (h : C i = (-1) ∨ so C n p (p + c) (C i) = true) : upd (stp C n p c i) i (ard C n p (p + c)) = stp C n p c (i + 1) := by
  funext j
  by_cases e : j = i
  · subst e; rw [pk_us]; simp only [stp]; rw [if_pos ⟨by omega, h⟩]
  · rw [pk_un e]; simp only [stp]
    by_cases q : p ≤ j ∧ j < i
    · by_cases r : C j = (-1) ∨ so C n p (p + c) (C j) = true
      · rw [if_pos ⟨q, r⟩, if_pos ⟨by omega, r⟩]
      · rw [if_neg (fun z => r z.2), if_neg (fun z => r z.2)]
    · rw [if_neg (fun z => q z.1), if_neg (fun z => q (by omega))]
theorem stp_f {C : Nat → Int32} {n p c i : Nat} (h : ¬ (C i = (-1) ∨ so C n p (p + c) (C i) = true)) : stp C n p c i = stp C n p c (i + 1) := by
  funext j
  simp only [stp]
  by_cases e : j = i
  · subst e; rw [if_neg (by omega), if_neg (fun z => h z.2)]
  · by_cases q : p ≤ j ∧ j < i
    · by_cases r : C j = (-1) ∨ so C n p (p + c) (C j) = true
      · rw [if_pos ⟨q, r⟩, if_pos ⟨by omega, r⟩]
      · rw [if_neg (fun z => r z.2), if_neg (fun z => r z.2)]
    · rw [if_neg (fun z => q z.1), if_neg (fun z => q (by omega))]
theorem hw_gt {L C : Nat → Int32} {v : Int32} {n o : Nat} (h1 : o < n) (h2 : C o = v) (e : wd L C v o = wd L C v n) : False := by
  obtain ⟨t, ht⟩ := wd_pre (L := L) (C := C) (v := v) (show o + 1 ≤ n from h1)
  rw [ht, wd_t h2] at e
  have := congrArg List.length e
  simp at this
theorem hw_lt {fL fC gL gC : Nat → Int32} {v : Int32} {n m o i : Nat} (ho : o ≤ n) (_hi : i ≤ m) (hv : o < n → fC o = v) (hp : wd fL fC v o = wd gL gC v i) (him : i < m) (hc : gC i = v) (h : n ≤ o ∨ ¬ fL o = gL i) (q : wd fL fC v n = wd gL gC v m) : False := by
  obtain ⟨t, ht⟩ := wd_pre (L := gL) (C := gC) (v := v) (show i + 1 ≤ m from him)
  rw [ht, wd_t hc] at q
  rcases Nat.lt_or_ge o n with g | g
  · obtain ⟨t2, ht2⟩ := wd_pre (L := fL) (C := fC) (v := v) (show o + 1 ≤ n from g)
    rw [ht2, wd_t (hv g), hp, List.append_assoc, List.append_assoc] at q
    have e := List.append_cancel_left q
    simp only [List.cons_append, List.nil_append, List.cons.injEq] at e
    rcases h with h | h
    · omega
    · exact h e.1
  · rw [show n = o by omega, hp] at q
    have := congrArg List.length q
    simp at this
/-- the lowest number below n with the mark p, or n -/
def lo (p : Nat → Bool) : Nat → Nat
  | 0 => 0
  | n + 1 => if lo p n < n then lo p n else if p n = true then n else n + 1
theorem lo_le (p : Nat → Bool) : ∀ n, lo p n ≤ n
  | 0 => Nat.le_refl _
  | n + 1 => by
    have := lo_le p n
    simp only [lo]
    split
    · omega
    · split <;> omega
theorem lo_no {p : Nat → Bool} : ∀ {n k : Nat}, k < lo p n → ¬ p k = true
  | 0, k, h => absurd h (Nat.not_lt_zero k)
  | n + 1, k, h => by
    have ih := lo_no (p := p) (n := n) (k := k)
    have hle := lo_le p n
    simp only [lo] at h
    split at h
    · exact ih h
    · rename_i q
      split at h
      · exact ih (by omega)
      · rename_i r
        rcases Nat.lt_or_ge k n with z | z
        · exact ih (by omega)
        · rw [show k = n by omega]; exact r
theorem lo_yes {p : Nat → Bool} : ∀ {n : Nat}, lo p n < n → p (lo p n) = true
  | 0, h => absurd h (Nat.not_lt_zero _)
  | n + 1, h => by
    have ih := lo_yes (p := p) (n := n)
    simp only [lo] at h ⊢
    split at h
    · rename_i q; rw [if_pos q]; exact ih q
    · rename_i q
      rw [if_neg q]
      split at h
      · rename_i r; rw [if_pos r]; exact r
      · omega
theorem lo_at {p : Nat → Bool} {n k : Nat} (hk : k < n) (hp : p k = true) (hn : ∀ j, j < k → ¬ p j = true) : lo p n = k := by
  rcases Nat.lt_trichotomy (lo p n) k with h | h | h
  · exact absurd (lo_yes (by omega)) (hn _ h)
  · exact h
  · exact absurd hp (lo_no h)
theorem lo_none {p : Nat → Bool} {n : Nat} (hn : ∀ j, j < n → ¬ p j = true) : lo p n = n := by
  rcases Nat.lt_or_ge (lo p n) n with h | h
  · exact absurd (lo_yes h) (hn _ h)
  · have := lo_le p n; omega
def low (p : Nat → Bool) (n : Nat) : Int32 := if lo p n < n then nI (lo p n) else (-1)
theorem low_at {p : Nat → Bool} {n k : Nat} (hk : k < n) (hp : p k = true) (hn : ∀ j, j < k → ¬ p j = true) : low p n = nI k := by
  rw [low, lo_at hk hp hn, if_pos hk]
theorem low_none {p : Nat → Bool} {n : Nat} (hn : ∀ j, j < n → ¬ p j = true) : low p n = (-1) := by
  rw [low, lo_none hn, if_neg (Nat.lt_irrefl _)]
theorem low_cong {p q : Nat → Bool} {n : Nat} (h : ∀ k, k < n → p k = q k) : low p n = low q n := by
  rcases Nat.lt_or_ge (lo q n) n with g | g
  · rw [low_at g (by rw [h _ g]; exact lo_yes g) (fun j hj => by rw [h j (by omega)]; exact lo_no hj), low, if_pos g]
  · have e := lo_le q n
    rw [low_none (fun j hj => by rw [h j hj]; exact lo_no (n := n) (by omega)), low, if_neg (by omega)]
/-- what an edit costs by the scheme -/
def hdp (kd c r : Int32) : Int32 := if kd = nI 105 then c * r else if kd = nI 100 then c * r / nI 2 else nI 0
def prc (r s kd : Int32) (c : Nat) : Int32 := if s = 0 then nI c * r else if s = nI 1 then r else if s = nI 2 then hdp kd (nI c) r else nI (max c 2) * r
/-- clauses marked again -/
def mka (P K E : Nat → Nat) (ed : Nat) (C : Nat → Int32) : Nat → Nat → Int32
  | 0 => C
  | i + 1 => if E i = ed then mk (mka P K E ed C i) (P i) (K i) (nI i) else mka P K E ed C i
theorem mka_t {P K E : Nat → Nat} {ed : Nat} {C : Nat → Int32} {i : Nat} (h : E i = ed) : mka P K E ed C (i + 1) = mk (mka P K E ed C i) (P i) (K i) (nI i) := by simp [mka, h]
theorem mka_f {P K E : Nat → Nat} {ed : Nat} {C : Nat → Int32} {i : Nat} (h : ¬ E i = ed) : mka P K E ed C (i + 1) = mka P K E ed C i := by simp [mka, h]
def lkb (Lk : Nat → Int32) (st : Int32) : Nat → Bool := fun i => decide (¬ Lk i = 0 ∧ ¬ st &&& (nI 1 <<< (nI i &&& 31)) = 0)
/-- signature i is valid and over some clause of the set -/
def vo (St Se : Nat → Int32) (st : Int32) : Nat → Bool := fun i => decide (St i = nI 118 ∧ ¬ Se i &&& st = 0)
theorem vo_t {St Se : Nat → Int32} {st : Int32} {i : Nat} : vo St Se st i = true ↔ (St i = nI 118 ∧ ¬ Se i &&& st = 0) := by simp [vo]
theorem lkb_t {Lk : Nat → Int32} {st : Int32} {i : Nat} : lkb Lk st i = true ↔ (¬ Lk i = 0 ∧ ¬ st &&& (nI 1 <<< (nI i &&& 31)) = 0) := by simp [lkb]
/-- rows with x put at the marked places below i -/
def vdp (p : Nat → Bool) (x : Int32) (f : Nat → Int32) (i : Nat) : Nat → Int32 := fun j => if j < i ∧ p j = true then x else f j
theorem vdp_0 (p : Nat → Bool) (x : Int32) (f : Nat → Int32) : vdp p x f 0 = f := by
  funext j; simp [vdp]
theorem vdp_t {p : Nat → Bool} {x : Int32} {f : Nat → Int32} {i : Nat} (h : p i = true) : upd (vdp p x f i) i x = vdp p x f (i + 1) := by
  funext j
  by_cases e : j = i
  · subst e; rw [pk_us]; simp only [vdp]; rw [if_pos ⟨by omega, h⟩]
  · rw [pk_un e]; simp only [vdp]
    by_cases q : j < i ∧ p j = true
    · rw [if_pos q, if_pos ⟨by omega, q.2⟩]
    · rw [if_neg q, if_neg (fun z => q ⟨by omega, z.2⟩)]
theorem vdp_f {p : Nat → Bool} {x : Int32} {f : Nat → Int32} {i : Nat} (h : ¬ p i = true) : vdp p x f i = vdp p x f (i + 1) := by
  funext j
  simp only [vdp]
  by_cases e : j = i
  · subst e; rw [if_neg (by omega), if_neg (fun z => h z.2)]
  · by_cases q : j < i ∧ p j = true
    · rw [if_pos q, if_pos ⟨by omega, q.2⟩]
    · rw [if_neg q, if_neg (fun z => q ⟨by omega, z.2⟩)]
theorem vdp_at (p : Nat → Bool) (x : Int32) (f : Nat → Int32) (i : Nat) : vdp p x f i i = f i := by simp [vdp]
/-- a set of authors -/
def aov (p : Nat → Bool) (A : Nat → Int32) : Nat → Int32
  | 0 => nI 0
  | k + 1 => if p k = true then aov p A k ||| (nI 1 <<< (A k &&& 31)) else aov p A k
theorem aov_t {p : Nat → Bool} {A : Nat → Int32} {k : Nat} (h : p k = true) : aov p A (k + 1) = aov p A k ||| (nI 1 <<< (A k &&& 31)) := by simp [aov, h]
theorem aov_f {p : Nat → Bool} {A : Nat → Int32} {k : Nat} (h : ¬ p k = true) : aov p A (k + 1) = aov p A k := by simp [aov, h]
theorem CA_vdp {p : Nat → Bool} {f : Nat → Int32} {i : Nat} (h : ∀ j, vp_nar .char (f j) = f j) : ∀ j, vp_nar .char (vdp p (nI 120) f i j) = vdp p (nI 120) f i j := fun j => by
  simp only [vdp]
  split
  · decide
  · exact h j
theorem vo_at1 {fT fX T1 : Nat → Int32} {st : Int32} {i : Nat} (h : T1 = vdp (vo fT fX st) (nI 120) fT i) : vo T1 fX st i = vo fT fX st i := by
  rw [h]
  simp only [vo, vdp_at]
/-- the rows of a text after an edit; g: before, f: what stood in the row, p: place, c: how many, q: goal, m: length before -/
def insR (g f l : Nat → Int32) (p c m s : Nat) : Nat → Int32 := va_cpy g (va_cpy l (va_cpy g f 0 0 p) s p c) p (p + c) (m - p)
def insK (g f : Nat → Int32) (v : Int32) (p c m : Nat) : Nat → Int32 := va_cpy g (mk (va_cpy g f 0 0 p) p c v) p (p + c) (m - p)
def delR (g f : Nat → Int32) (p c m : Nat) : Nat → Int32 := va_cpy g (va_cpy g f 0 0 p) (p + c) p (m - (p + c))
def movR (g f : Nat → Int32) (p c q m : Nat) : Nat → Int32 := if q ≤ p then va_cpy g (va_cpy g (va_cpy g (va_cpy g f 0 0 q) p q c) q (q + c) (p - q)) (p + c) (p + c) (m - (p + c))
  else va_cpy g (va_cpy g (va_cpy g (va_cpy g f 0 0 p) (p + c) p (q - p)) p q c) (q + c) (q + c) (m - (q + c))
def pfn (kd : Int32) (m c : Nat) : Nat := if kd = nI 105 then m + c else if kd = nI 100 then m - c else m
def pfL (kd : Int32) (g f l : Nat → Int32) (p c q m s : Nat) : Nat → Int32 := if kd = nI 105 then insR g f l p c m s else if kd = nI 100 then delR g f p c m else movR g f p c q m
def pfA (kd : Int32) (g f : Nat → Int32) (v : Int32) (p c q m : Nat) : Nat → Int32 := if kd = nI 105 then insK g f v p c m else if kd = nI 100 then delR g f p c m else movR g f p c q m
def pfC (kd : Int32) (g f : Nat → Int32) (p c q m : Nat) : Nat → Int32 := if kd = nI 105 then insK g f (ard g m p p) p c m else if kd = nI 100 then delR g f p c m else stp (movR g f p c q m) m q c (q + c)
theorem CA_insR {g f l : Nat → Int32} (hg : ∀ j, vp_nar .char (g j) = g j) (hf : ∀ j, vp_nar .char (f j) = f j) (hl : ∀ j, vp_nar .char (l j) = l j) (p c m s : Nat) : ∀ j, vp_nar .char (insR g f l p c m s j) = insR g f l p c m s j := CA_cpy hg (CA_cpy hl (CA_cpy hg hf _ _ _) _ _ _) _ _ _
theorem CA_delR {g f : Nat → Int32} (hg : ∀ j, vp_nar .char (g j) = g j) (hf : ∀ j, vp_nar .char (f j) = f j) (p c m : Nat) : ∀ j, vp_nar .char (delR g f p c m j) = delR g f p c m j := CA_cpy hg (CA_cpy hg hf _ _ _) _ _ _
theorem CA_movR {g f : Nat → Int32} (hg : ∀ j, vp_nar .char (g j) = g j) (hf : ∀ j, vp_nar .char (f j) = f j) (p c q m : Nat) : ∀ j, vp_nar .char (movR g f p c q m j) = movR g f p c q m j := fun j => by
  unfold movR
  split
  · exact CA_cpy hg (CA_cpy hg (CA_cpy hg (CA_cpy hg hf _ _ _) _ _ _) _ _ _) _ _ _ j
  · exact CA_cpy hg (CA_cpy hg (CA_cpy hg (CA_cpy hg hf _ _ _) _ _ _) _ _ _) _ _ _ j
theorem CA_pfL {kd : Int32} {g f l : Nat → Int32} (hg : ∀ j, vp_nar .char (g j) = g j) (hf : ∀ j, vp_nar .char (f j) = f j) (hl : ∀ j, vp_nar .char (l j) = l j) (p c q m s : Nat) : ∀ j, vp_nar .char (pfL kd g f l p c q m s j) = pfL kd g f l p c q m s j := fun j => by
  unfold pfL
  split
  · exact CA_insR hg hf hl _ _ _ _ j
  · split
    · exact CA_delR hg hf _ _ _ j
    · exact CA_movR hg hf _ _ _ _ j
def klu (K : Nat → Int32) (C : Nat → Nat) (n lu : Nat) : Nat := if K n = nI 105 then lu + C n else lu
/-- a sum as the log has it -/
def sml (f : Nat → Int32) : Nat → Int64
  | 0 => 0
  | n + 1 => sml f n + (f n).toInt64
def orr (f : Nat → Int32) (a : Nat) : Nat → Int32
  | 0 => nI 0
  | k + 1 => orr f a k ||| f (a + k)
