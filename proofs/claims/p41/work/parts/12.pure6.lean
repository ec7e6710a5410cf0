/-! Places and ranges of arguments. -/
abbrev ix (v : Int32) (n : Nat) : Prop := 0 ≤ v.toInt ∧ v.toInt < (n : Int)
abbrev ixl (v : Int32) (n : Nat) : Prop := 0 ≤ v.toInt ∧ v.toInt ≤ (n : Int)
abbrev rng (p k : Int32) (n : Nat) : Prop := 0 ≤ p.toInt ∧ 1 ≤ k.toInt ∧ p.toInt + k.toInt ≤ (n : Int)
abbrev gol (g k : Int32) (n : Nat) : Prop := 0 ≤ g.toInt ∧ g.toInt + k.toInt ≤ (n : Int)
theorem i32_lt (a b : Int32) : a < b ↔ a.toInt < b.toInt := Int32.lt_iff_toInt_lt
theorem i32_le (a b : Int32) : a ≤ b ↔ a.toInt ≤ b.toInt := Int32.le_iff_toInt_le
theorem ix_nI {k n : Nat} (h : k < n) (hn : n < 2147483648) : ix (nI k) n := by
  rw [ix, nI_toInt (by omega)]; omega
theorem ixl_nI {k n : Nat} (h : k ≤ n) (hn : n < 2147483648) : ixl (nI k) n := by
  rw [ixl, nI_toInt (by omega)]; omega
theorem nI_of_ixl {v : Int32} {n : Nat} (h : ixl v n) : ∃ k, k ≤ n ∧ v = nI k := by
  obtain ⟨j, hj, rfl⟩ := nI_of (x := v) (by rw [i32_lt]; have := h.1; have e : (0 : Int32).toInt = 0 := by decide
                                            omega)
  have := h.2
  rw [nI_toInt hj] at this
  exact ⟨j, by omega, rfl⟩
theorem nI_of_ix {v : Int32} {n : Nat} (h : ix v n) : ∃ k, k < n ∧ v = nI k := by
  obtain ⟨j, hj, rfl⟩ := nI_of_ixl (v := v) (n := n) ⟨h.1, by have := h.2; omega⟩
  rcases Nat.lt_or_ge j n with q | q
  · exact ⟨j, q, rfl⟩
  · have h2 := h.2
    rcases Nat.lt_or_ge j 2147483648 with z | z
    · rw [nI_toInt z] at h2; omega
    · obtain ⟨i, hi, e⟩ := nI_of (x := nI j) (by rw [i32_lt]; have := h.1; have e : (0 : Int32).toInt = 0 := by decide
                                                 omega)
      rw [e] at h2 ⊢
      rw [nI_toInt hi] at h2
      exact ⟨i, by omega, rfl⟩
theorem t0 : (0 : Int32).toInt = 0 := by decide
theorem tn {n : Nat} (h : n < 2147483648) : (nI n).toInt = (n : Int) := nI_toInt h
theorem ix_ok {v : Int32} {n : Nat} (hn : n < 2147483648) (h1 : ¬ v < 0) (h2 : v < nI n) : ix v n := by
  rw [i32_lt, t0] at h1; rw [i32_lt, tn hn] at h2; exact ⟨by omega, h2⟩
theorem ix_neg {v : Int32} {n : Nat} (h : v < 0) : ¬ ix v n := by
  rw [i32_lt, t0] at h; rintro ⟨h1, _⟩; omega
theorem ix_big {v : Int32} {n : Nat} (hn : n < 2147483648) (h : ¬ v < nI n) : ¬ ix v n := by
  rw [i32_lt, tn hn] at h; rintro ⟨_, h1⟩; omega
theorem ixl_ok {v : Int32} {n : Nat} (hn : n < 2147483648) (h1 : ¬ v < 0) (h2 : ¬ nI n < v) : ixl v n := by
  rw [i32_lt, t0] at h1; rw [i32_lt, tn hn] at h2; exact ⟨by omega, by omega⟩
theorem ixl_okb {v : Int32} {n : Nat} (hn : n < 2147483648) (h1 : ¬ v < 0) (h2 : v ≤ nI n) : ixl v n := by
  rw [i32_lt, t0] at h1; rw [i32_le, tn hn] at h2; exact ⟨by omega, by omega⟩
theorem ixl_neg {v : Int32} {n : Nat} (h : v < 0) : ¬ ixl v n := by
  rw [i32_lt, t0] at h; rintro ⟨h1, _⟩; omega
theorem ixl_big {v : Int32} {n : Nat} (hn : n < 2147483648) (h : nI n < v) : ¬ ixl v n := by
  rw [i32_lt, tn hn] at h; rintro ⟨_, h1⟩; omega
theorem ixl_bigb {v : Int32} {n : Nat} (hn : n < 2147483648) (h : ¬ v ≤ nI n) : ¬ ixl v n := by
  rw [i32_le, tn hn] at h; rintro ⟨_, h1⟩; omega
theorem rng_nI {p k n : Nat} (h1 : 1 ≤ k) (h : p + k ≤ n) (hn : n < 2147483648) : rng (nI p) (nI k) n := by
  rw [rng, tn (by omega), tn (by omega)]; omega
theorem nI_of_rng {p k : Int32} {n : Nat} (h : rng p k n) : ∃ i j, 1 ≤ j ∧ i + j ≤ n ∧ p = nI i ∧ k = nI j := by
  obtain ⟨i, hi, rfl⟩ := nI_of (x := p) (by rw [i32_lt, t0]; have := h.1; omega)
  obtain ⟨j, hj, rfl⟩ := nI_of (x := k) (by rw [i32_lt, t0]; have := h.2.1; omega)
  rw [rng, tn hi, tn hj] at h
  exact ⟨i, j, by omega, by omega, rfl, rfl⟩
theorem rng_ok {k : Int32} {i n : Nat} (hn : n < 2147483648) (hi : i ≤ n) (h1 : ¬ k < nI 1) (h2 : k ≤ nI (n - i)) : rng (nI i) k n := by
  rw [i32_lt, tn (by decide)] at h1; rw [i32_le, tn (by omega)] at h2
  rw [rng, tn (by omega)]; omega
theorem rng_no1 {p k : Int32} {n : Nat} (h : ¬ ixl p n) : ¬ rng p k n := by
  rintro ⟨h1, h2, h3⟩; exact h ⟨h1, by omega⟩
theorem rng_no2 {p k : Int32} {n : Nat} (h : k < nI 1) : ¬ rng p k n := by
  rw [i32_lt, tn (by decide)] at h; rintro ⟨_, h2, _⟩; omega
theorem rng_no3 {k : Int32} {i n : Nat} (hn : n < 2147483648) (hi : i ≤ n) (h : ¬ k ≤ nI (n - i)) : ¬ rng (nI i) k n := by
  rw [i32_le, tn (by omega)] at h; rw [rng, tn (by omega)]; omega
theorem gol_ok {g : Int32} {k n : Nat} (hn : n < 2147483648) (hk : k ≤ n) (h1 : ¬ g < 0) (h2 : g ≤ nI (n - k)) : gol g (nI k) n := by
  rw [i32_lt, t0] at h1; rw [i32_le, tn (by omega)] at h2; rw [gol, tn (by omega)]; omega
theorem gol_neg {g k : Int32} {n : Nat} (h : g < 0) : ¬ gol g k n := by
  rw [i32_lt, t0] at h; rintro ⟨h1, _⟩; omega
theorem gol_big {g : Int32} {k n : Nat} (hn : n < 2147483648) (hk : k ≤ n) (h : ¬ g ≤ nI (n - k)) : ¬ gol g (nI k) n := by
  rw [i32_le, tn (by omega)] at h; rw [gol, tn (by omega)]; omega
theorem nI_of_gol {g : Int32} {k n : Nat} (hk : k < 2147483648) (h : gol g (nI k) n) : ∃ i, i + k ≤ n ∧ g = nI i := by
  obtain ⟨i, hi, rfl⟩ := nI_of (x := g) (by rw [i32_lt, t0]; have := h.1; omega)
  rw [gol, tn hi, tn hk] at h
  exact ⟨i, by omega, rfl⟩
/-! What each call answers with: 0, or which of its exceptions. -/
abbrev scok (sc ra : Int32) : Prop := 0 ≤ sc.toInt ∧ sc.toInt ≤ 3 ∧ 0 ≤ ra.toInt ∧ ra.toInt ≤ 999
abbrev chok (x : Int32) : Prop := x = nI 32 ∨ (97 ≤ x.toInt ∧ x.toInt ≤ 122)
def vAdd (sc ra : Int32) (na : Nat) : Nat := if ¬ scok sc ra then 1 else if na = 5 then 2 else 0
def vTyp (x : Int32) (nb : Nat) : Nat := if ¬ chok x then 1 else if nb = 20 then 2 else 0
/-- what an edit would change -/
def nch (kd : Int32) (pL pC l : Nat → Int32) (p c q s n nc : Nat) : Int32 := chs (un (nfL kd pL l p c q s) (nfC kd pC p c q n) (pfn kd n c) pL pC n) nc
/-- is it refused -/
def rfd (cZ : Nat → Int32) (nc : Nat) (stc : Int32) (gT gX : Nat → Int32) (ns : Nat) (ch : Int32) : Prop := ¬ low (lkb cZ ch) nc = (-1) ∨ (¬ stc = 0 ∧ ¬ low (vo gT gX ch) ns = (-1))
noncomputable def rsn (cZ : Nat → Int32) (nc : Nat) (ch : Int32) : Int32 := if low (lkb cZ ch) nc = (-1) then nI 115 else nI 108
noncomputable def sbj (cZ : Nat → Int32) (nc : Nat) (gT gX : Nat → Int32) (ns : Nat) (ch : Int32) : Int32 := if low (lkb cZ ch) nc = (-1) then low (vo gT gX ch) ns else low (lkb cZ ch) nc
theorem vpZ {x : Int32} (h : x = 0 ∨ x = 1) : vp_nar .boolean x = x := by
  rcases h with rfl | rfl <;> decide
def ySL : List (String × Nat × String) := [(RX7, 83, "scheme or rate out of range"), (RX7, 94, "too many authors"), (RX7, 101, "neither a letter nor a blank"), (RX7, 104, "the buffer is full"), (RX7, 120, "no such position"), (RX7, 123, "the buffer is empty"), (RX7, 128, "the text would be too long"), (RX7, 148, "no such goal"), (RX7, 195, "no such index"), (RX7, 201, "too many clauses"), (RX7, 207, "a character belongs to a clause"), (RX7, 228, "no clause, or one that does not exist"), (RX7, 231, "too many signatures"), (RX7, 240, "the signature is not valid"), (RX7, 259, "fee out of range"), (RX7, 294, "no such author"), (RX7, 298, "no such clause"), (RX7, 300, "no such signature"), (RX7, 302, "no such characters"), (RX7, 305, "too many edits"), (RX7, 307, "no edit was refused"), (RX7, 322, "the edit is refused")]
def yNW : List Cond := [.castable "java/lang/IllegalArgumentException" "java/lang/IllegalArgumentException", .castable "java/lang/IllegalStateException" "java/lang/IllegalStateException", .castable "java/lang/IndexOutOfBoundsException" "java/lang/IndexOutOfBoundsException", .castable "java/lang/UnsupportedOperationException" "java/lang/UnsupportedOperationException", .castable "java/util/NoSuchElementException" "java/util/NoSuchElementException", .declares (Bundle.initS "java/lang/RuntimeException"), .declares (Bundle.initS "java/lang/Exception"), .declares (Bundle.initS "java/lang/Throwable")]

/-- what a method that throws asks of the start: the texts of its class, two statics of Throwable, the words that the good ones leave out -/
def yst (SL : List (String × Nat × String)) (NW : List Cond) (A : Nat → Prop) (s : State) (H : Heap) : Prop :=
  (∀ q ∈ SL, ∃ sa : Nat, vk_R q.1 q.2.1 q.2.2 sa s) ∧ vx_Zq Bundle.tN "UNASSIGNED_STACK" Bundle.steD A s H ∧ vx_Zq Bundle.tN "SUPPRESSED_SENTINEL" Bundle.listD A s H ∧ ∀ w ∈ NW, ((∃ C T : String, w = .castable C T) ∨ ∃ y : MethodName, w = .declares y) ∧ va_Nw w s
theorem yst.warm {SL : List (String × Nat × String)} {NW : List Cond} {A B : Nat → Prop} {s U : State} {H H1 : Heap} (h : yst SL NW A s H) (hW : s.WarmedH U.vm) (hk : ∀ a : Nat, a < H.size → ¬ A a → H1[a]? = H[a]?) (hAB : ∀ q, B q → A q) : yst SL NW B U H1 := by
  obtain ⟨h1, h2, h3, h4⟩ := h
  refine ⟨fun q hq => ?_, ((h2.moved hW.alike).kept hk).narrow hAB, ((h3.moved hW.alike).kept hk).narrow hAB, fun w hw => ?_⟩
  · obtain ⟨sa, ha⟩ := h1 q hq
    exact ⟨sa, ha.warm hW⟩
  · obtain ⟨hc, hn⟩ := h4 w hw
    refine ⟨hc, ?_⟩
    rcases hc with ⟨C, T, rfl⟩ | ⟨y, rfl⟩
    · exact hn.warmC hW
    · exact hn.warmD hW
def ypre (SL : List (String × Nat × String)) (NW : List Cond) (D : va_G) (ty : List (ClassId × FieldType)) (ws : va_W) (sz : Nat) : State → Prop := fun U => wpre D ty ws sz U ∧ yst SL NW (va_A ws sz) U U.heap
theorem ypre_blind {SL : List (String × Nat × String)} {NW : List Cond} {D : va_G} {ty : List (ClassId × FieldType)} {ws : va_W} {sz : Nat} {av : List Value} : FrameBlind (va_Pc av (ypre SL NW D ty ws sz)) := fun a U g mk q => by
  obtain ⟨q0, q1, q2⟩ := q
  refine ⟨q0, (wpre_blind (av := av) a U g mk ⟨q0, q1⟩).2, ?_⟩
  obtain ⟨h1, h2, h3, h4⟩ := q2
  refine ⟨fun q hq => ?_, h2.moved (U := U.calling g mk a) (Vm.Alike.refl U.vm), h3.moved (U := U.calling g mk a) (Vm.Alike.refl U.vm), fun w hw => ?_⟩
  · obtain ⟨sa, ha⟩ := h1 q hq
    exact ⟨sa, ha.same (U := U.calling g mk a) rfl⟩
  · obtain ⟨hc, hn⟩ := h4 w hw
    refine ⟨hc, ?_⟩
    rcases hc with ⟨C, T, rfl⟩ | ⟨y, rfl⟩
    · exact hn.same (U := U.calling g mk a) rfl rfl
    · exact hn.same (U := U.calling g mk a) rfl rfl

theorem mk_Y {SL : List (String × Nat × String)} {NW : List Cond} {l : Launch} {y : MethodName} {wsl wsl' : List Cond} {rm : Room} {av : List Value} {D : va_G} {ty : List (ClassId × FieldType)} {ws : va_W} {sz : Nat} {cc : ByteArray} {maxL : Nat} {ret : Option FieldType} {mc ms : Nat} {QA : (Nat → Prop) → Array Value → State → Outcome → State → Prop} {XA : (Nat → Prop) → String → State → State → Prop}
    (hy : plainName y.cls = true) (hwl : wsl = Cond.code y cc maxL ret :: wsl') (hn : (lg_sl av).length ≤ maxL)
    (body : ∀ (p : Program) (e : Env) (s : State) (m : MethodId) (args : Array Value) (below : List Frame) (meth : Method) (c : Code) (A : Nat → Prop), CallFix p m c cc maxL s args wsl y.cls → meth.sig.returnType = ret → meth.locks = false → (∀ x ∈ c.exceptionTable.toList, False) → yst SL NW A s s.heap → ww D ty s A s.heap ws s.heap [] → ∀ ls : Array Slot, lv_has ls maxL (lv_args 0 av) →
      W p l e rm s m args below meth c s.heap [] 0 0 (vx_MQ below (QA A) (XA A) args s mc ms A) (F0 m 0 ls [])) : vx_Met l y wsl rm (va_Pc av (ypre SL NW D ty ws sz)) (QA (va_A ws sz)) (XA (va_A ws sz)) mc ms (va_A ws sz) := by
  refine vx_ofW (cc := cc) (maxL := maxL) (ret := ret) hy hwl ?_
  intro p e s m args below meth c s₁ B hml htab hv
  obtain ⟨rfl, ⟨hsz, hP, hK, hD0⟩, hst⟩ := hv
  subst hsz
  rw [lg_entry_eq]
  exact body p e s m _ below meth c _ ⟨B.exec, B.bytes, hml, findClass_of_methodNamed B.named, atoms_spec (ws := wsl) B.pre⟩ B.returns B.notSynchronized htab hst ⟨hP, hK, hD0.self, va_S.rf, fun q h => Or.inr h⟩ _ (lv_entry av hn)



def YI {S SX : Type} (l : Launch) (y : MethodName) (wsl : List Cond) (rm : Room) (av : List Value) (D : va_G) (ty : List (ClassId × FieldType)) (ws : va_W) (sz : Nat) (post : Int32 → S → Prop) (W' : S → va_W) (xp : String → SX → Prop) (WX : SX → va_W) (mc ms : Nat) : Prop :=
  vx_Met l y wsl rm (va_Pc av (ypre ySL yNW D ty ws sz)) (va_Qi post (fun u => wpost D ty (va_A ws sz) (W' u)) (va_A ws sz)) (vx_X (fun _ : SX => True) (fun E u t => xp E u ∧ wpost D ty (va_A ws sz) (WX u) t) (va_A ws sz)) mc ms (va_A ws sz)

theorem mk_YI {S SX : Type} {l : Launch} {y : MethodName} {wsl wsl' : List Cond} {rm : Room} {av : List Value} {D : va_G} {ty : List (ClassId × FieldType)} {ws : va_W} {sz : Nat} {cc : ByteArray} {maxL : Nat} {ret : Option FieldType} {mc ms : Nat} {post : Int32 → S → Prop} {W' : S → va_W} {xp : String → SX → Prop} {WX : SX → va_W}
    (hy : plainName y.cls = true) (hwl : wsl = Cond.code y cc maxL ret :: wsl') (hn : (lg_sl av).length ≤ maxL)
    (body : ∀ (p : Program) (e : Env) (s : State) (m : MethodId) (args : Array Value) (below : List Frame) (meth : Method) (c : Code) (A : Nat → Prop), CallFix p m c cc maxL s args wsl y.cls → meth.sig.returnType = ret → meth.locks = false → (∀ x ∈ c.exceptionTable.toList, False) → yst ySL yNW A s s.heap → ww D ty s A s.heap ws s.heap [] → ∀ ls : Array Slot, lv_has ls maxL (lv_args 0 av) →
      W p l e rm s m args below meth c s.heap [] 0 0 (vx_MQ below (va_Qi post (fun u => wpost D ty A (W' u)) A) (vx_X (fun _ : SX => True) (fun E u t => xp E u ∧ wpost D ty A (WX u) t) A) args s mc ms A) (F0 m 0 ls [])) : YI l y wsl rm av D ty ws sz post W' xp WX mc ms :=
  mk_Y (QA := fun A => va_Qi post (fun u => wpost D ty A (W' u)) A) (XA := fun A => vx_X (fun _ : SX => True) (fun E u t => xp E u ∧ wpost D ty A (WX u) t) A) hy hwl hn body

def YL {S SX : Type} (l : Launch) (y : MethodName) (wsl : List Cond) (rm : Room) (av : List Value) (D : va_G) (ty : List (ClassId × FieldType)) (ws : va_W) (sz : Nat) (post : Int64 → S → Prop) (W' : S → va_W) (xp : String → SX → Prop) (WX : SX → va_W) (mc ms : Nat) : Prop :=
  vx_Met l y wsl rm (va_Pc av (ypre ySL yNW D ty ws sz)) (va_Ql post (fun u => wpost D ty (va_A ws sz) (W' u)) (va_A ws sz)) (vx_X (fun _ : SX => True) (fun E u t => xp E u ∧ wpost D ty (va_A ws sz) (WX u) t) (va_A ws sz)) mc ms (va_A ws sz)

theorem mk_YL {S SX : Type} {l : Launch} {y : MethodName} {wsl wsl' : List Cond} {rm : Room} {av : List Value} {D : va_G} {ty : List (ClassId × FieldType)} {ws : va_W} {sz : Nat} {cc : ByteArray} {maxL : Nat} {ret : Option FieldType} {mc ms : Nat} {post : Int64 → S → Prop} {W' : S → va_W} {xp : String → SX → Prop} {WX : SX → va_W}
    (hy : plainName y.cls = true) (hwl : wsl = Cond.code y cc maxL ret :: wsl') (hn : (lg_sl av).length ≤ maxL)
    (body : ∀ (p : Program) (e : Env) (s : State) (m : MethodId) (args : Array Value) (below : List Frame) (meth : Method) (c : Code) (A : Nat → Prop), CallFix p m c cc maxL s args wsl y.cls → meth.sig.returnType = ret → meth.locks = false → (∀ x ∈ c.exceptionTable.toList, False) → yst ySL yNW A s s.heap → ww D ty s A s.heap ws s.heap [] → ∀ ls : Array Slot, lv_has ls maxL (lv_args 0 av) →
      W p l e rm s m args below meth c s.heap [] 0 0 (vx_MQ below (va_Ql post (fun u => wpost D ty A (W' u)) A) (vx_X (fun _ : SX => True) (fun E u t => xp E u ∧ wpost D ty A (WX u) t) A) args s mc ms A) (F0 m 0 ls [])) : YL l y wsl rm av D ty ws sz post W' xp WX mc ms :=
  mk_Y (QA := fun A => va_Ql post (fun u => wpost D ty A (W' u)) A) (XA := fun A => vx_X (fun _ : SX => True) (fun E u t => xp E u ∧ wpost D ty A (WX u) t) A) hy hwl hn body

def YF {S SX : Type} (l : Launch) (y : MethodName) (wsl : List Cond) (rm : Room) (av : List Value) (D : va_G) (ty : List (ClassId × FieldType)) (ws : va_W) (sz : Nat) (post : UInt32 → S → Prop) (W' : S → va_W) (xp : String → SX → Prop) (WX : SX → va_W) (mc ms : Nat) : Prop :=
  vx_Met l y wsl rm (va_Pc av (ypre ySL yNW D ty ws sz)) (va_Qf post (fun u => wpost D ty (va_A ws sz) (W' u)) (va_A ws sz)) (vx_X (fun _ : SX => True) (fun E u t => xp E u ∧ wpost D ty (va_A ws sz) (WX u) t) (va_A ws sz)) mc ms (va_A ws sz)

theorem mk_YF {S SX : Type} {l : Launch} {y : MethodName} {wsl wsl' : List Cond} {rm : Room} {av : List Value} {D : va_G} {ty : List (ClassId × FieldType)} {ws : va_W} {sz : Nat} {cc : ByteArray} {maxL : Nat} {ret : Option FieldType} {mc ms : Nat} {post : UInt32 → S → Prop} {W' : S → va_W} {xp : String → SX → Prop} {WX : SX → va_W}
    (hy : plainName y.cls = true) (hwl : wsl = Cond.code y cc maxL ret :: wsl') (hn : (lg_sl av).length ≤ maxL)
    (body : ∀ (p : Program) (e : Env) (s : State) (m : MethodId) (args : Array Value) (below : List Frame) (meth : Method) (c : Code) (A : Nat → Prop), CallFix p m c cc maxL s args wsl y.cls → meth.sig.returnType = ret → meth.locks = false → (∀ x ∈ c.exceptionTable.toList, False) → yst ySL yNW A s s.heap → ww D ty s A s.heap ws s.heap [] → ∀ ls : Array Slot, lv_has ls maxL (lv_args 0 av) →
      W p l e rm s m args below meth c s.heap [] 0 0 (vx_MQ below (va_Qf post (fun u => wpost D ty A (W' u)) A) (vx_X (fun _ : SX => True) (fun E u t => xp E u ∧ wpost D ty A (WX u) t) A) args s mc ms A) (F0 m 0 ls [])) : YF l y wsl rm av D ty ws sz post W' xp WX mc ms :=
  mk_Y (QA := fun A => va_Qf post (fun u => wpost D ty A (W' u)) A) (XA := fun A => vx_X (fun _ : SX => True) (fun E u t => xp E u ∧ wpost D ty A (WX u) t) A) hy hwl hn body

def YD {S SX : Type} (l : Launch) (y : MethodName) (wsl : List Cond) (rm : Room) (av : List Value) (D : va_G) (ty : List (ClassId × FieldType)) (ws : va_W) (sz : Nat) (post : UInt64 → S → Prop) (W' : S → va_W) (xp : String → SX → Prop) (WX : SX → va_W) (mc ms : Nat) : Prop :=
  vx_Met l y wsl rm (va_Pc av (ypre ySL yNW D ty ws sz)) (va_Qd post (fun u => wpost D ty (va_A ws sz) (W' u)) (va_A ws sz)) (vx_X (fun _ : SX => True) (fun E u t => xp E u ∧ wpost D ty (va_A ws sz) (WX u) t) (va_A ws sz)) mc ms (va_A ws sz)

theorem mk_YD {S SX : Type} {l : Launch} {y : MethodName} {wsl wsl' : List Cond} {rm : Room} {av : List Value} {D : va_G} {ty : List (ClassId × FieldType)} {ws : va_W} {sz : Nat} {cc : ByteArray} {maxL : Nat} {ret : Option FieldType} {mc ms : Nat} {post : UInt64 → S → Prop} {W' : S → va_W} {xp : String → SX → Prop} {WX : SX → va_W}
    (hy : plainName y.cls = true) (hwl : wsl = Cond.code y cc maxL ret :: wsl') (hn : (lg_sl av).length ≤ maxL)
    (body : ∀ (p : Program) (e : Env) (s : State) (m : MethodId) (args : Array Value) (below : List Frame) (meth : Method) (c : Code) (A : Nat → Prop), CallFix p m c cc maxL s args wsl y.cls → meth.sig.returnType = ret → meth.locks = false → (∀ x ∈ c.exceptionTable.toList, False) → yst ySL yNW A s s.heap → ww D ty s A s.heap ws s.heap [] → ∀ ls : Array Slot, lv_has ls maxL (lv_args 0 av) →
      W p l e rm s m args below meth c s.heap [] 0 0 (vx_MQ below (va_Qd post (fun u => wpost D ty A (W' u)) A) (vx_X (fun _ : SX => True) (fun E u t => xp E u ∧ wpost D ty A (WX u) t) A) args s mc ms A) (F0 m 0 ls [])) : YD l y wsl rm av D ty ws sz post W' xp WX mc ms :=
  mk_Y (QA := fun A => va_Qd post (fun u => wpost D ty A (W' u)) A) (XA := fun A => vx_X (fun _ : SX => True) (fun E u t => xp E u ∧ wpost D ty A (WX u) t) A) hy hwl hn body

def YV {S SX : Type} (l : Launch) (y : MethodName) (wsl : List Cond) (rm : Room) (av : List Value) (D : va_G) (ty : List (ClassId × FieldType)) (ws : va_W) (sz : Nat) (post : S → Prop) (W' : S → va_W) (xp : String → SX → Prop) (WX : SX → va_W) (mc ms : Nat) : Prop :=
  vx_Met l y wsl rm (va_Pc av (ypre ySL yNW D ty ws sz)) (va_Qv post (fun u => wpost D ty (va_A ws sz) (W' u)) (va_A ws sz)) (vx_X (fun _ : SX => True) (fun E u t => xp E u ∧ wpost D ty (va_A ws sz) (WX u) t) (va_A ws sz)) mc ms (va_A ws sz)

theorem mk_YV {S SX : Type} {l : Launch} {y : MethodName} {wsl wsl' : List Cond} {rm : Room} {av : List Value} {D : va_G} {ty : List (ClassId × FieldType)} {ws : va_W} {sz : Nat} {cc : ByteArray} {maxL : Nat} {ret : Option FieldType} {mc ms : Nat} {post : S → Prop} {W' : S → va_W} {xp : String → SX → Prop} {WX : SX → va_W}
    (hy : plainName y.cls = true) (hwl : wsl = Cond.code y cc maxL ret :: wsl') (hn : (lg_sl av).length ≤ maxL)
    (body : ∀ (p : Program) (e : Env) (s : State) (m : MethodId) (args : Array Value) (below : List Frame) (meth : Method) (c : Code) (A : Nat → Prop), CallFix p m c cc maxL s args wsl y.cls → meth.sig.returnType = ret → meth.locks = false → (∀ x ∈ c.exceptionTable.toList, False) → yst ySL yNW A s s.heap → ww D ty s A s.heap ws s.heap [] → ∀ ls : Array Slot, lv_has ls maxL (lv_args 0 av) →
      W p l e rm s m args below meth c s.heap [] 0 0 (vx_MQ below (va_Qv post (fun u => wpost D ty A (W' u)) A) (vx_X (fun _ : SX => True) (fun E u t => xp E u ∧ wpost D ty A (WX u) t) A) args s mc ms A) (F0 m 0 ls [])) : YV l y wsl rm av D ty ws sz post W' xp WX mc ms :=
  mk_Y (QA := fun A => va_Qv post (fun u => wpost D ty A (W' u)) A) (XA := fun A => vx_X (fun _ : SX => True) (fun E u t => xp E u ∧ wpost D ty A (WX u) t) A) hy hwl hn body


section INFY
variable {p : Program} {l : Launch} {e : Env} {R : Room} {s : State} {m : MethodId} {args : Array Value} {below : List Frame} {meth : Method} {c : Code} {H : Heap} {locs : List Loc} {cells slots : Nat} {Q : State → Prop}
variable {pc : Nat} {ls : Array Slot} {rest : List Value} {cc : ByteArray} {nL : Nat} {Ts : List Cond} {own : String} {D : va_G} {ty : List (ClassId × FieldType)} {A : Nat → Prop} {H0 : Heap} {ws : va_W} {a : Nat}


theorem r_ycallVi {S : Type} {SX : Type} {xp : String → SX → Prop} {WX : SX → va_W} {post : Int32 → S → Prop} {W' : S → va_W} {wc wr : va_W} {y : MethodName} {wsl wsl' : List Cond} {rm : Room} {bytes : ByteArray} {maxL index n mc ms : Nat} {ret : Option FieldType} {C : String} {ci q0 : Nat} {fs : List Value} {T : u_T} {N : Nat} {As st0 : List Value}
    (cx : CallFix p m c cc nL s args Ts own) (hx0 : yst ySL yNW A s H0) (hw : ww D ty s A H0 ws H locs)
    (hM : YI l y wsl rm (.ref a :: As) D ty wc H.size post W' xp WX mc ms)
    (isC isR : List Nat) (hT : GoodIn Ts (wsV own index C y wsl)) (hcd : wsl = Cond.code y bytes maxL ret :: wsl') (hrc : rm.cells = mc) (hrs : rm.slots = ms) (hd : y.cls = C ∧ y.cls ≠ "java/lang/invoke/MethodHandle" ∧ y.cls ≠ "java/lang/invoke/VarHandle" ∧ (parseMethodDescriptor y.desc).map (fun d => d.parameters.length) = some n) (hRm : rm.frames + 1 ≤ R.frames ∧ 8 + (maxL + 11) + rm.locals ≤ R.locals)
    (he : ws[q0]? = some (a, .inr (ci, fs))) (hcl : vwCl[ci]? = some (C, T, N)) (hC : isC.map (fun i => ws[i]?) = wc.map some) (hR : isR.map (fun i => ws[i]?) = wr.map some) (hnC : va_nd isC = true) (hnR : va_nd isR = true) (hdis : ∀ i ∈ isR, i ∉ isC)
    (hn : As.length = n) (hst : st0 = As.reverse ++ .ref a :: rest) (hsz : ls.size = nL) (hcat : (rest.map fun v => v.category).sum ≤ 8) (hdg : decode cc pc = .ok (.invokevirtual index, 3)) (hf : cells + mc ≤ R.cells ∧ slots + ms ≤ R.slots)
    (kx : ∀ (E : String) (ce : Cell) (q9 : Nat) (u : SX) (H1 : Heap) (locs1 : List Loc), xp E u → ww D ty s A H0 (wr ++ WX u) H1 locs1 → H1[q9]? = some ce → ce.vm = .none → s.vm.findClass E = some ce.cls → vx_W p l e R s m args below meth c H1 locs1 (cells + mc) (slots + ms) Q (F0 m pc ls rest) q9)
    (kk : ∀ (r : Int32) (u : S) (H1 : Heap) (locs1 : List Loc), post r u → ww D ty s A H0 (wr ++ W' u) H1 locs1 → W p l e R s m args below meth c H1 locs1 (cells + mc) (slots + ms) Q (F0 m (pc + 3) ls (.int r :: rest))) :
    W p l e R s m args below meth c H locs cells slots Q (F0 m pc ls st0) := by
  have hwc := hw.pick isC hnC hC
  have hFc := va_free (wc := wc) hw.2.2.1 hw.2.2.2.1 hw.2.2.2.2 isC hC
  refine vx_calli (vx_runV (As := As) (rest := rest) cx hM (cwV n cx.2.2.2.2 hT hcd hrc hrs hd hRm) ⟨ypre_blind, va_recv hw.2.1 hw.1 hcl he, fun U hU hW => ⟨rfl, ⟨by rw [hU], by rw [hU]; exact hwc.1, va_K.moved hW.alike hw.2.1, hwc.2.2.1.weaken (fun _ _ _ _ => trivial)⟩, by rw [hU]; exact hx0.warm hW hw.2.2.2.1.2.1 hFc⟩⟩ rfl hn hsz hst (lv_room hcat) hdg hf) hw.2.2.2.1 (fun q _ h => hFc q h) hFc (fun q _ h => hFc q h) (fun E ce q9 u t H1 locs1 ht hvm _ hB hz1 hk1 hS hce hcv hcl9 => by
    obtain ⟨hp, hP1, hK1, hD1⟩ := hB
    rw [ht] at hP1
    obtain ⟨hP, hD⟩ := va_join (wr := wr) (w1 := WX u) hw.1 hw.2.2.1 isC isR hC hR hnR hdis hk1 hFc hP1 hD1
    exact kx E ce q9 u H1 locs1 hp ⟨hP, hw.2.1, hD, hS, hw.2.2.2.2⟩ hce hcv hcl9) (fun r u t H1 locs1 ht hvm hp hB hz1 hk1 hS => ?_)
  obtain ⟨hP1, hK1, hD1⟩ := hB
  rw [ht] at hP1
  obtain ⟨hP, hD⟩ := va_join (wr := wr) (w1 := W' u) hw.1 hw.2.2.1 isC isR hC hR hnR hdis hk1 hFc hP1 hD1
  exact kk r u H1 locs1 hp ⟨hP, hw.2.1, hD, hS, hw.2.2.2.2⟩


theorem r_ycallVl {S : Type} {SX : Type} {xp : String → SX → Prop} {WX : SX → va_W} {post : Int64 → S → Prop} {W' : S → va_W} {wc wr : va_W} {y : MethodName} {wsl wsl' : List Cond} {rm : Room} {bytes : ByteArray} {maxL index n mc ms : Nat} {ret : Option FieldType} {C : String} {ci q0 : Nat} {fs : List Value} {T : u_T} {N : Nat} {As st0 : List Value}
    (cx : CallFix p m c cc nL s args Ts own) (hx0 : yst ySL yNW A s H0) (hw : ww D ty s A H0 ws H locs)
    (hM : YL l y wsl rm (.ref a :: As) D ty wc H.size post W' xp WX mc ms)
    (isC isR : List Nat) (hT : GoodIn Ts (wsV own index C y wsl)) (hcd : wsl = Cond.code y bytes maxL ret :: wsl') (hrc : rm.cells = mc) (hrs : rm.slots = ms) (hd : y.cls = C ∧ y.cls ≠ "java/lang/invoke/MethodHandle" ∧ y.cls ≠ "java/lang/invoke/VarHandle" ∧ (parseMethodDescriptor y.desc).map (fun d => d.parameters.length) = some n) (hRm : rm.frames + 1 ≤ R.frames ∧ 8 + (maxL + 11) + rm.locals ≤ R.locals)
    (he : ws[q0]? = some (a, .inr (ci, fs))) (hcl : vwCl[ci]? = some (C, T, N)) (hC : isC.map (fun i => ws[i]?) = wc.map some) (hR : isR.map (fun i => ws[i]?) = wr.map some) (hnC : va_nd isC = true) (hnR : va_nd isR = true) (hdis : ∀ i ∈ isR, i ∉ isC)
    (hn : As.length = n) (hst : st0 = As.reverse ++ .ref a :: rest) (hsz : ls.size = nL) (hcat : (rest.map fun v => v.category).sum ≤ 8) (hdg : decode cc pc = .ok (.invokevirtual index, 3)) (hf : cells + mc ≤ R.cells ∧ slots + ms ≤ R.slots)
    (kx : ∀ (E : String) (ce : Cell) (q9 : Nat) (u : SX) (H1 : Heap) (locs1 : List Loc), xp E u → ww D ty s A H0 (wr ++ WX u) H1 locs1 → H1[q9]? = some ce → ce.vm = .none → s.vm.findClass E = some ce.cls → vx_W p l e R s m args below meth c H1 locs1 (cells + mc) (slots + ms) Q (F0 m pc ls rest) q9)
    (kk : ∀ (r : Int64) (u : S) (H1 : Heap) (locs1 : List Loc), post r u → ww D ty s A H0 (wr ++ W' u) H1 locs1 → W p l e R s m args below meth c H1 locs1 (cells + mc) (slots + ms) Q (F0 m (pc + 3) ls (.long r :: rest))) :
    W p l e R s m args below meth c H locs cells slots Q (F0 m pc ls st0) := by
  have hwc := hw.pick isC hnC hC
  have hFc := va_free (wc := wc) hw.2.2.1 hw.2.2.2.1 hw.2.2.2.2 isC hC
  refine vx_calll (vx_runV (As := As) (rest := rest) cx hM (cwV n cx.2.2.2.2 hT hcd hrc hrs hd hRm) ⟨ypre_blind, va_recv hw.2.1 hw.1 hcl he, fun U hU hW => ⟨rfl, ⟨by rw [hU], by rw [hU]; exact hwc.1, va_K.moved hW.alike hw.2.1, hwc.2.2.1.weaken (fun _ _ _ _ => trivial)⟩, by rw [hU]; exact hx0.warm hW hw.2.2.2.1.2.1 hFc⟩⟩ rfl hn hsz hst (lv_room hcat) hdg hf) hw.2.2.2.1 (fun q _ h => hFc q h) hFc (fun q _ h => hFc q h) (fun E ce q9 u t H1 locs1 ht hvm _ hB hz1 hk1 hS hce hcv hcl9 => by
    obtain ⟨hp, hP1, hK1, hD1⟩ := hB
    rw [ht] at hP1
    obtain ⟨hP, hD⟩ := va_join (wr := wr) (w1 := WX u) hw.1 hw.2.2.1 isC isR hC hR hnR hdis hk1 hFc hP1 hD1
    exact kx E ce q9 u H1 locs1 hp ⟨hP, hw.2.1, hD, hS, hw.2.2.2.2⟩ hce hcv hcl9) (fun r u t H1 locs1 ht hvm hp hB hz1 hk1 hS => ?_)
  obtain ⟨hP1, hK1, hD1⟩ := hB
  rw [ht] at hP1
  obtain ⟨hP, hD⟩ := va_join (wr := wr) (w1 := W' u) hw.1 hw.2.2.1 isC isR hC hR hnR hdis hk1 hFc hP1 hD1
  exact kk r u H1 locs1 hp ⟨hP, hw.2.1, hD, hS, hw.2.2.2.2⟩


theorem r_ycallVf {S : Type} {SX : Type} {xp : String → SX → Prop} {WX : SX → va_W} {post : UInt32 → S → Prop} {W' : S → va_W} {wc wr : va_W} {y : MethodName} {wsl wsl' : List Cond} {rm : Room} {bytes : ByteArray} {maxL index n mc ms : Nat} {ret : Option FieldType} {C : String} {ci q0 : Nat} {fs : List Value} {T : u_T} {N : Nat} {As st0 : List Value}
    (cx : CallFix p m c cc nL s args Ts own) (hx0 : yst ySL yNW A s H0) (hw : ww D ty s A H0 ws H locs)
    (hM : YF l y wsl rm (.ref a :: As) D ty wc H.size post W' xp WX mc ms)
    (isC isR : List Nat) (hT : GoodIn Ts (wsV own index C y wsl)) (hcd : wsl = Cond.code y bytes maxL ret :: wsl') (hrc : rm.cells = mc) (hrs : rm.slots = ms) (hd : y.cls = C ∧ y.cls ≠ "java/lang/invoke/MethodHandle" ∧ y.cls ≠ "java/lang/invoke/VarHandle" ∧ (parseMethodDescriptor y.desc).map (fun d => d.parameters.length) = some n) (hRm : rm.frames + 1 ≤ R.frames ∧ 8 + (maxL + 11) + rm.locals ≤ R.locals)
    (he : ws[q0]? = some (a, .inr (ci, fs))) (hcl : vwCl[ci]? = some (C, T, N)) (hC : isC.map (fun i => ws[i]?) = wc.map some) (hR : isR.map (fun i => ws[i]?) = wr.map some) (hnC : va_nd isC = true) (hnR : va_nd isR = true) (hdis : ∀ i ∈ isR, i ∉ isC)
    (hn : As.length = n) (hst : st0 = As.reverse ++ .ref a :: rest) (hsz : ls.size = nL) (hcat : (rest.map fun v => v.category).sum ≤ 8) (hdg : decode cc pc = .ok (.invokevirtual index, 3)) (hf : cells + mc ≤ R.cells ∧ slots + ms ≤ R.slots)
    (kx : ∀ (E : String) (ce : Cell) (q9 : Nat) (u : SX) (H1 : Heap) (locs1 : List Loc), xp E u → ww D ty s A H0 (wr ++ WX u) H1 locs1 → H1[q9]? = some ce → ce.vm = .none → s.vm.findClass E = some ce.cls → vx_W p l e R s m args below meth c H1 locs1 (cells + mc) (slots + ms) Q (F0 m pc ls rest) q9)
    (kk : ∀ (r : UInt32) (u : S) (H1 : Heap) (locs1 : List Loc), post r u → ww D ty s A H0 (wr ++ W' u) H1 locs1 → W p l e R s m args below meth c H1 locs1 (cells + mc) (slots + ms) Q (F0 m (pc + 3) ls (.float r :: rest))) :
    W p l e R s m args below meth c H locs cells slots Q (F0 m pc ls st0) := by
  have hwc := hw.pick isC hnC hC
  have hFc := va_free (wc := wc) hw.2.2.1 hw.2.2.2.1 hw.2.2.2.2 isC hC
  refine vx_callf (vx_runV (As := As) (rest := rest) cx hM (cwV n cx.2.2.2.2 hT hcd hrc hrs hd hRm) ⟨ypre_blind, va_recv hw.2.1 hw.1 hcl he, fun U hU hW => ⟨rfl, ⟨by rw [hU], by rw [hU]; exact hwc.1, va_K.moved hW.alike hw.2.1, hwc.2.2.1.weaken (fun _ _ _ _ => trivial)⟩, by rw [hU]; exact hx0.warm hW hw.2.2.2.1.2.1 hFc⟩⟩ rfl hn hsz hst (lv_room hcat) hdg hf) hw.2.2.2.1 (fun q _ h => hFc q h) hFc (fun q _ h => hFc q h) (fun E ce q9 u t H1 locs1 ht hvm _ hB hz1 hk1 hS hce hcv hcl9 => by
    obtain ⟨hp, hP1, hK1, hD1⟩ := hB
    rw [ht] at hP1
    obtain ⟨hP, hD⟩ := va_join (wr := wr) (w1 := WX u) hw.1 hw.2.2.1 isC isR hC hR hnR hdis hk1 hFc hP1 hD1
    exact kx E ce q9 u H1 locs1 hp ⟨hP, hw.2.1, hD, hS, hw.2.2.2.2⟩ hce hcv hcl9) (fun r u t H1 locs1 ht hvm hp hB hz1 hk1 hS => ?_)
  obtain ⟨hP1, hK1, hD1⟩ := hB
  rw [ht] at hP1
  obtain ⟨hP, hD⟩ := va_join (wr := wr) (w1 := W' u) hw.1 hw.2.2.1 isC isR hC hR hnR hdis hk1 hFc hP1 hD1
  exact kk r u H1 locs1 hp ⟨hP, hw.2.1, hD, hS, hw.2.2.2.2⟩


theorem r_ycallVd {S : Type} {SX : Type} {xp : String → SX → Prop} {WX : SX → va_W} {post : UInt64 → S → Prop} {W' : S → va_W} {wc wr : va_W} {y : MethodName} {wsl wsl' : List Cond} {rm : Room} {bytes : ByteArray} {maxL index n mc ms : Nat} {ret : Option FieldType} {C : String} {ci q0 : Nat} {fs : List Value} {T : u_T} {N : Nat} {As st0 : List Value}
    (cx : CallFix p m c cc nL s args Ts own) (hx0 : yst ySL yNW A s H0) (hw : ww D ty s A H0 ws H locs)
    (hM : YD l y wsl rm (.ref a :: As) D ty wc H.size post W' xp WX mc ms)
    (isC isR : List Nat) (hT : GoodIn Ts (wsV own index C y wsl)) (hcd : wsl = Cond.code y bytes maxL ret :: wsl') (hrc : rm.cells = mc) (hrs : rm.slots = ms) (hd : y.cls = C ∧ y.cls ≠ "java/lang/invoke/MethodHandle" ∧ y.cls ≠ "java/lang/invoke/VarHandle" ∧ (parseMethodDescriptor y.desc).map (fun d => d.parameters.length) = some n) (hRm : rm.frames + 1 ≤ R.frames ∧ 8 + (maxL + 11) + rm.locals ≤ R.locals)
    (he : ws[q0]? = some (a, .inr (ci, fs))) (hcl : vwCl[ci]? = some (C, T, N)) (hC : isC.map (fun i => ws[i]?) = wc.map some) (hR : isR.map (fun i => ws[i]?) = wr.map some) (hnC : va_nd isC = true) (hnR : va_nd isR = true) (hdis : ∀ i ∈ isR, i ∉ isC)
    (hn : As.length = n) (hst : st0 = As.reverse ++ .ref a :: rest) (hsz : ls.size = nL) (hcat : (rest.map fun v => v.category).sum ≤ 8) (hdg : decode cc pc = .ok (.invokevirtual index, 3)) (hf : cells + mc ≤ R.cells ∧ slots + ms ≤ R.slots)
    (kx : ∀ (E : String) (ce : Cell) (q9 : Nat) (u : SX) (H1 : Heap) (locs1 : List Loc), xp E u → ww D ty s A H0 (wr ++ WX u) H1 locs1 → H1[q9]? = some ce → ce.vm = .none → s.vm.findClass E = some ce.cls → vx_W p l e R s m args below meth c H1 locs1 (cells + mc) (slots + ms) Q (F0 m pc ls rest) q9)
    (kk : ∀ (r : UInt64) (u : S) (H1 : Heap) (locs1 : List Loc), post r u → ww D ty s A H0 (wr ++ W' u) H1 locs1 → W p l e R s m args below meth c H1 locs1 (cells + mc) (slots + ms) Q (F0 m (pc + 3) ls (.double r :: rest))) :
    W p l e R s m args below meth c H locs cells slots Q (F0 m pc ls st0) := by
  have hwc := hw.pick isC hnC hC
  have hFc := va_free (wc := wc) hw.2.2.1 hw.2.2.2.1 hw.2.2.2.2 isC hC
  refine vx_calld (vx_runV (As := As) (rest := rest) cx hM (cwV n cx.2.2.2.2 hT hcd hrc hrs hd hRm) ⟨ypre_blind, va_recv hw.2.1 hw.1 hcl he, fun U hU hW => ⟨rfl, ⟨by rw [hU], by rw [hU]; exact hwc.1, va_K.moved hW.alike hw.2.1, hwc.2.2.1.weaken (fun _ _ _ _ => trivial)⟩, by rw [hU]; exact hx0.warm hW hw.2.2.2.1.2.1 hFc⟩⟩ rfl hn hsz hst (lv_room hcat) hdg hf) hw.2.2.2.1 (fun q _ h => hFc q h) hFc (fun q _ h => hFc q h) (fun E ce q9 u t H1 locs1 ht hvm _ hB hz1 hk1 hS hce hcv hcl9 => by
    obtain ⟨hp, hP1, hK1, hD1⟩ := hB
    rw [ht] at hP1
    obtain ⟨hP, hD⟩ := va_join (wr := wr) (w1 := WX u) hw.1 hw.2.2.1 isC isR hC hR hnR hdis hk1 hFc hP1 hD1
    exact kx E ce q9 u H1 locs1 hp ⟨hP, hw.2.1, hD, hS, hw.2.2.2.2⟩ hce hcv hcl9) (fun r u t H1 locs1 ht hvm hp hB hz1 hk1 hS => ?_)
  obtain ⟨hP1, hK1, hD1⟩ := hB
  rw [ht] at hP1
  obtain ⟨hP, hD⟩ := va_join (wr := wr) (w1 := W' u) hw.1 hw.2.2.1 isC isR hC hR hnR hdis hk1 hFc hP1 hD1
  exact kk r u H1 locs1 hp ⟨hP, hw.2.1, hD, hS, hw.2.2.2.2⟩


theorem r_ycallVv {S : Type} {SX : Type} {xp : String → SX → Prop} {WX : SX → va_W} {post : S → Prop} {W' : S → va_W} {wc wr : va_W} {y : MethodName} {wsl wsl' : List Cond} {rm : Room} {bytes : ByteArray} {maxL index n mc ms : Nat} {ret : Option FieldType} {C : String} {ci q0 : Nat} {fs : List Value} {T : u_T} {N : Nat} {As st0 : List Value}
    (cx : CallFix p m c cc nL s args Ts own) (hx0 : yst ySL yNW A s H0) (hw : ww D ty s A H0 ws H locs)
    (hM : YV l y wsl rm (.ref a :: As) D ty wc H.size post W' xp WX mc ms)
    (isC isR : List Nat) (hT : GoodIn Ts (wsV own index C y wsl)) (hcd : wsl = Cond.code y bytes maxL ret :: wsl') (hrc : rm.cells = mc) (hrs : rm.slots = ms) (hd : y.cls = C ∧ y.cls ≠ "java/lang/invoke/MethodHandle" ∧ y.cls ≠ "java/lang/invoke/VarHandle" ∧ (parseMethodDescriptor y.desc).map (fun d => d.parameters.length) = some n) (hRm : rm.frames + 1 ≤ R.frames ∧ 8 + (maxL + 11) + rm.locals ≤ R.locals)
    (he : ws[q0]? = some (a, .inr (ci, fs))) (hcl : vwCl[ci]? = some (C, T, N)) (hC : isC.map (fun i => ws[i]?) = wc.map some) (hR : isR.map (fun i => ws[i]?) = wr.map some) (hnC : va_nd isC = true) (hnR : va_nd isR = true) (hdis : ∀ i ∈ isR, i ∉ isC)
    (hn : As.length = n) (hst : st0 = As.reverse ++ .ref a :: rest) (hsz : ls.size = nL) (hcat : (rest.map fun v => v.category).sum ≤ 8) (hdg : decode cc pc = .ok (.invokevirtual index, 3)) (hf : cells + mc ≤ R.cells ∧ slots + ms ≤ R.slots)
    (kx : ∀ (E : String) (ce : Cell) (q9 : Nat) (u : SX) (H1 : Heap) (locs1 : List Loc), xp E u → ww D ty s A H0 (wr ++ WX u) H1 locs1 → H1[q9]? = some ce → ce.vm = .none → s.vm.findClass E = some ce.cls → vx_W p l e R s m args below meth c H1 locs1 (cells + mc) (slots + ms) Q (F0 m pc ls rest) q9)
    (kk : ∀ (u : S) (H1 : Heap) (locs1 : List Loc), post u → ww D ty s A H0 (wr ++ W' u) H1 locs1 → W p l e R s m args below meth c H1 locs1 (cells + mc) (slots + ms) Q (F0 m (pc + 3) ls rest)) :
    W p l e R s m args below meth c H locs cells slots Q (F0 m pc ls st0) := by
  have hwc := hw.pick isC hnC hC
  have hFc := va_free (wc := wc) hw.2.2.1 hw.2.2.2.1 hw.2.2.2.2 isC hC
  refine vx_callv (vx_runV (As := As) (rest := rest) cx hM (cwV n cx.2.2.2.2 hT hcd hrc hrs hd hRm) ⟨ypre_blind, va_recv hw.2.1 hw.1 hcl he, fun U hU hW => ⟨rfl, ⟨by rw [hU], by rw [hU]; exact hwc.1, va_K.moved hW.alike hw.2.1, hwc.2.2.1.weaken (fun _ _ _ _ => trivial)⟩, by rw [hU]; exact hx0.warm hW hw.2.2.2.1.2.1 hFc⟩⟩ rfl hn hsz hst (lv_room hcat) hdg hf) hw.2.2.2.1 (fun q _ h => hFc q h) hFc (fun q _ h => hFc q h) (fun E ce q9 u t H1 locs1 ht hvm _ hB hz1 hk1 hS hce hcv hcl9 => by
    obtain ⟨hp, hP1, hK1, hD1⟩ := hB
    rw [ht] at hP1
    obtain ⟨hP, hD⟩ := va_join (wr := wr) (w1 := WX u) hw.1 hw.2.2.1 isC isR hC hR hnR hdis hk1 hFc hP1 hD1
    exact kx E ce q9 u H1 locs1 hp ⟨hP, hw.2.1, hD, hS, hw.2.2.2.2⟩ hce hcv hcl9) (fun u t H1 locs1 ht hvm hp hB hz1 hk1 hS => ?_)
  obtain ⟨hP1, hK1, hD1⟩ := hB
  rw [ht] at hP1
  obtain ⟨hP, hD⟩ := va_join (wr := wr) (w1 := W' u) hw.1 hw.2.2.1 isC isR hC hR hnR hdis hk1 hFc hP1 hD1
  exact kk u H1 locs1 hp ⟨hP, hw.2.1, hD, hS, hw.2.2.2.2⟩


/-- an exception that is not caught here -/
theorem r_yout {SX : Type} {xp : String → SX → Prop} {WX : SX → va_W} {Qc : Array Value → State → Outcome → State → Prop} {mc ms : Nat} {E : String} {ce : Cell} {q9 : Nat} (cx : CallFix p m c cc nL s args Ts own) (htab : ∀ x ∈ c.exceptionTable.toList, False) (hlk : meth.locks = false) (hw : ww D ty s A s.heap ws H locs) (hce : H[q9]? = some ce) (hcv : ce.vm = .none) (hcl : s.vm.findClass E = some ce.cls)
    (hc : cells ≤ mc) (hs : slots ≤ ms) (u : SX) (hp : xp E u) (is : List Nat) (hn : va_nd is = true) (hm : is.map (fun i => ws[i]?) = (WX u).map some) :
    vx_W p l e R s m args below meth c H locs cells slots (vx_MQ below Qc (vx_X (fun _ : SX => True) (fun E u t => xp E u ∧ wpost D ty A (WX u) t) A) args s mc ms A) (F0 m pc ls rest) q9 := by
  have hw' := hw.pick is hn hm
  exact vx_out (fun x hx => (htab x hx).elim) hlk hce hcv hcl (fun t ht hW => ⟨u, trivial, ⟨hp, by rw [ht]; exact hw'.1, va_K.moved hW hw'.2.1, hw'.2.2.1⟩, hw.2.2.2.1.F ht⟩) hw.2.2.2.1.2.2 hc hs
theorem r_ythrow {SX : Type} {xp : String → SX → Prop} {WX : SX → va_W} {Qc : Array Value → State → Outcome → State → Prop} {mc ms ik is9 ic : Nat} {cls text : String} {names : List String} (cx : CallFix p m c cc nL s args Ts own) (hl : l.stackTraces = false) (hx0 : yst ySL yNW A s s.heap) (iS : Nat) (hiS : ySL[iS]? = some (own, is9, text))
    (hcls : Bundle.fit cls = true) (hnames : (names.all fun n => Bundle.fit n) = true) (h1 : Cond.classLink own ik cls ∈ Ts) (h2 : Cond.initialized cls ∈ Ts) (h3 : ∀ w ∈ (vx_atS own ic cls names).filter goodWord, w ∈ Ts) (h4 : ((vx_atS own ic cls names).filter (fun w => !goodWord w)).all (fun w => decide (w ∈ yNW)) = true)
    (h5 : (Cond.classLink own ik cls :: Cond.initialized cls :: vx_atS own ic cls names).all vx_ot = true) (hw : ww D ty s A s.heap ws H locs) (hsz : ls.size = nL)
    (d0 : decode cc pc = .ok (.new ik, 3)) (d3 : decode cc (pc + 3) = .ok (.dup, 1)) (d4 : decode cc (pc + 4) = .ok (.ldc is9, 2)) (d6 : decode cc (pc + 6) = .ok (.invokespecial ic, 3)) (d9 : decode cc (pc + 9) = .ok (.athrow, 1))
    (htab : ∀ x ∈ c.exceptionTable.toList, False) (hRf : names.length + 3 < R.frames) (hRl : (rest.map fun v => v.category).sum + (13 * (names.length + 1) + 43) ≤ R.locals) (hRc : cells + 1 ≤ R.cells) (hRs : slots + 6 ≤ R.slots) (hlk : meth.locks = false) (hc : cells + 1 ≤ mc) (hs : slots + 6 ≤ ms)
    (u : SX) (hp : xp cls u) (is : List Nat) (hn : va_nd is = true) (hm : is.map (fun i => ws[i]?) = (WX u).map some) :
    W p l e R s m args below meth c H locs cells slots (vx_MQ below Qc (vx_X (fun _ : SX => True) (fun E u t => xp E u ∧ wpost D ty A (WX u) t) A) args s mc ms A) (F0 m pc ls rest) := by
  have hw' := hw.pick is hn hm
  obtain ⟨sa, hstr⟩ := hx0.1 _ (List.mem_of_getElem? hiS)
  refine vx_throwS (A := A) cx.1 cx.2.1 hl cx.2.2.2.1 hcls (fun n h => List.all_eq_true.mp hnames n h) (cx.2.2.2.2 _ h1) (cx.2.2.2.2 _ h2) hstr
    (vx_hat (B := yNW) (fun w h => cx.2.2.2.2 w (h3 w h)) (fun w h => of_decide_eq_true (List.all_eq_true.mp h4 w h)) (fun w h => by
      obtain ⟨hc, hn⟩ := hx0.2.2.2 w h
      rcases hc with ⟨C, T, rfl⟩ | ⟨y, rfl⟩
      · exact va_Nw.use rfl hn
      · exact va_Nw.use rfl hn)) (fun w h => List.all_eq_true.mp h5 w h) hx0.2.1 hx0.2.2.1 hw.2.2.2.1 (hsz.trans cx.2.2.1.symm) d0 d3 d4 d6 d9 (fun x hx => (htab x hx).elim) hRf hRl hRc hRs hlk ?_ hw.2.2.2.1.2.2 hc hs
  intro t hW hz hk
  refine ⟨u, trivial, ⟨hp, hw'.1.kept (fun k q hq => hk _ (hw'.1 k q hq).lt), va_K.moved hW hw'.2.1, hw'.2.2.1⟩, Nat.le_trans hw.2.2.2.1.1 hz, fun q h6 h7 => ?_⟩
  rw [hk q (Nat.lt_of_lt_of_le h6 hw.2.2.2.1.1)]
  exact hw.2.2.2.1.2.1 q h6 h7
theorem r_ythrowW {SX : Type} {xp : String → SX → Prop} {WX : SX → va_W} {Qc : Array Value → State → Outcome → State → Prop} {mc ms ik is9 ic : Nat} {cls text : String} {names : List String} (cx : CallFix p m c cc nL s args Ts own) (hl : l.stackTraces = false) (hx0 : yst ySL yNW A s s.heap) (iS : Nat) (hiS : ySL[iS]? = some (own, is9, text))
    (hcls : Bundle.fit cls = true) (hnames : (names.all fun n => Bundle.fit n) = true) (h1 : Cond.classLink own ik cls ∈ Ts) (h2 : Cond.initialized cls ∈ Ts) (h3 : ∀ w ∈ (vx_atS own ic cls names).filter goodWord, w ∈ Ts) (h4 : ((vx_atS own ic cls names).filter (fun w => !goodWord w)).all (fun w => decide (w ∈ yNW)) = true)
    (h5 : (Cond.classLink own ik cls :: Cond.initialized cls :: vx_atS own ic cls names).all vx_ot = true) (hw : ww D ty s A s.heap ws H locs) (hsz : ls.size = nL)
    (d0 : decode cc pc = .ok (.new ik, 3)) (d3 : decode cc (pc + 3) = .ok (.dup, 1)) (d4 : decode cc (pc + 4) = .ok (.ldc_w is9, 3)) (d6 : decode cc (pc + 7) = .ok (.invokespecial ic, 3)) (d9 : decode cc (pc + 10) = .ok (.athrow, 1))
    (htab : ∀ x ∈ c.exceptionTable.toList, False) (hRf : names.length + 3 < R.frames) (hRl : (rest.map fun v => v.category).sum + (13 * (names.length + 1) + 43) ≤ R.locals) (hRc : cells + 1 ≤ R.cells) (hRs : slots + 6 ≤ R.slots) (hlk : meth.locks = false) (hc : cells + 1 ≤ mc) (hs : slots + 6 ≤ ms)
    (u : SX) (hp : xp cls u) (is : List Nat) (hn : va_nd is = true) (hm : is.map (fun i => ws[i]?) = (WX u).map some) :
    W p l e R s m args below meth c H locs cells slots (vx_MQ below Qc (vx_X (fun _ : SX => True) (fun E u t => xp E u ∧ wpost D ty A (WX u) t) A) args s mc ms A) (F0 m pc ls rest) := by
  have hw' := hw.pick is hn hm
  obtain ⟨sa, hstr⟩ := hx0.1 _ (List.mem_of_getElem? hiS)
  refine vx_throwSW (A := A) cx.1 cx.2.1 hl cx.2.2.2.1 hcls (fun n h => List.all_eq_true.mp hnames n h) (cx.2.2.2.2 _ h1) (cx.2.2.2.2 _ h2) hstr
    (vx_hat (B := yNW) (fun w h => cx.2.2.2.2 w (h3 w h)) (fun w h => of_decide_eq_true (List.all_eq_true.mp h4 w h)) (fun w h => by
      obtain ⟨hc, hn⟩ := hx0.2.2.2 w h
      rcases hc with ⟨C, T, rfl⟩ | ⟨y, rfl⟩
      · exact va_Nw.use rfl hn
      · exact va_Nw.use rfl hn)) (fun w h => List.all_eq_true.mp h5 w h) hx0.2.1 hx0.2.2.1 hw.2.2.2.1 (hsz.trans cx.2.2.1.symm) d0 d3 d4 d6 d9 (fun x hx => (htab x hx).elim) hRf hRl hRc hRs hlk ?_ hw.2.2.2.1.2.2 hc hs
  intro t hW hz hk
  refine ⟨u, trivial, ⟨hp, hw'.1.kept (fun k q hq => hk _ (hw'.1 k q hq).lt), va_K.moved hW hw'.2.1, hw'.2.2.1⟩, Nat.le_trans hw.2.2.2.1.1 hz, fun q h6 h7 => ?_⟩
  rw [hk q (Nat.lt_of_lt_of_le h6 hw.2.2.2.1.1)]
  exact hw.2.2.2.1.2.1 q h6 h7

end INFY
