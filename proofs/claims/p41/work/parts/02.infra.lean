/-! A thin coat over the kit's rows: one hypothesis 'hw' for the world, one 'cx' for the method's fixed facts. -/
def ww (D : va_G) (ty : List (ClassId × FieldType)) (s : State) (A : Nat → Prop) (H0 : Heap) (ws : va_W) (H : Heap) (locs : List Loc) : Prop :=
  va_P D vwCl ws H ∧ va_K D vwCl ty s ∧ va_D A ws ∧ va_S A H0 H locs ∧ ∀ q : Nat, H0.size ≤ q → A q
def wpre (D : va_G) (ty : List (ClassId × FieldType)) (ws : va_W) (sz : Nat) : State → Prop := fun U => U.heap.size = sz ∧ va_P D vwCl ws U.heap ∧ va_K D vwCl ty U ∧ va_D (fun _ => True) ws
def wpost (D : va_G) (ty : List (ClassId × FieldType)) (A : Nat → Prop) (ws : va_W) : State → Prop := fun t => va_P D vwCl ws t.heap ∧ va_K D vwCl ty t ∧ va_D A ws
theorem wpre_blind {D : va_G} {ty : List (ClassId × FieldType)} {ws : va_W} {sz : Nat} {av : List Value} : FrameBlind (va_Pc av (wpre D ty ws sz)) := fun a U g mk q => by
  obtain ⟨q0, q1, qP, qK, qD⟩ := q
  exact ⟨q0, q1, qP, va_K.moved (u := U) (U := U.calling g mk a) (Vm.Alike.refl U.vm) qK, qD⟩
theorem ww.pick {D : va_G} {ty : List (ClassId × FieldType)} {s : State} {A : Nat → Prop} {H0 : Heap} {ws ws' : va_W} {H : Heap} {locs : List Loc} (h : ww D ty s A H0 ws H locs) (is : List Nat) (hn : va_nd is = true) (hs : is.map (fun i => ws[i]?) = ws'.map some) : ww D ty s A H0 ws' H locs := by
  refine ⟨h.1.sub is ?_, h.2.1, h.2.2.1.sub is hn hs, h.2.2.2⟩
  have e : ∀ (l : List Nat) (w : va_W), l.map (fun i => ws[i]?) = w.map some → l.filterMap (fun i => ws[i]?) = w := by
    intro l
    induction l with
    | nil => intro w hw; cases w with
      | nil => rfl
      | cons a b => simp at hw
    | cons a b ih => intro w hw; cases w with
      | nil => simp at hw
      | cons c d =>
        simp only [List.map_cons, List.cons.injEq] at hw
        rw [List.filterMap_cons, hw.1, ih d hw.2]
  exact e is ws' hs
section INF
variable {p : Program} {l : Launch} {e : Env} {R : Room} {s : State} {m : MethodId} {args : Array Value} {below : List Frame} {meth : Method} {c : Code} {H : Heap} {locs : List Loc} {cells slots : Nat} {Q : State → Prop}
variable {pc : Nat} {ls : Array Slot} {rest : List Value} {cc : ByteArray} {nL : Nat} {Ts : List Cond} {own : String} {D : va_G} {ty : List (ClassId × FieldType)} {A : Nat → Prop} {H0 : Heap} {ws : va_W} {a : Nat}
theorem r_get (cx : CallFix p m c cc nL s args Ts own) (hw : ww D ty s A H0 ws H locs) {C : String} {T : u_T} {N ci index : Nat} (hin : ∀ w ∈ u_ws C T N, w ∈ Ts) (q0 k : Nat) {fs : List Value} {v : Value} (he : ws[q0]? = some (a, .inr (ci, fs))) (hc : vwCl[ci]? = some (C, T, N)) (hk : k < N)
    (hl : Cond.fieldLink own index (T k).1 (T k).2.1 (T k).2.2.1 ∈ Ts) (hv : fs[k]? = some v) (hdg : decode cc pc = .ok (.getfield index, 3))
    (kk : W p l e R s m args below meth c H locs cells slots Q (F0 m (pc + 3) ls (v :: rest))) : W p l e R s m args below meth c H locs cells slots Q (F0 m pc ls (.ref a :: rest)) :=
  va_get cx.1 cx.2.1 cx.2.2.2.2 hin cx.2.2.2.1 hw.2.1 hw.1 q0 he hc k hk (cx.2.2.2.2 _ hl) (fun _ h => h) hv hdg kk
theorem r_put (cx : CallFix p m c cc nL s args Ts own) (hw : ww D ty s A H0 ws H locs) {C : String} {T : u_T} {N ci index : Nat} (hin : ∀ w ∈ u_ws C T N, w ∈ Ts) (ty0 : Nat → FieldType) (hty : ∀ k, k < N → parseFieldDescriptor (T k).2.2.1 = some (ty0 k)) (hnm : ∀ a, a < N → ∀ b, b < N → a ≠ b → (T a).2.1 ≠ (T b).2.1) (q0 k : Nat) {fs : List Value} {v : Value} (he : ws[q0]? = some (a, .inr (ci, fs))) (hc : vwCl[ci]? = some (C, T, N)) (hk : k < N)
    (hl : Cond.fieldLink own index (T k).1 (T k).2.1 (T k).2.2.1 ∈ Ts) (hfin : (T k).2.2.2 = false) (hn : narrow (ty0 k) v = v) (hfit : fits (ty0 k) v = true) (hlen : k < fs.length) (hdg : decode cc pc = .ok (.putfield index, 3))
    (kk : ∀ (H1 : Heap) (locs1 : List Loc), ww D ty s A H0 (ws.set q0 (a, .inr (ci, fs.set k v))) H1 locs1 → W p l e R s m args below meth c H1 locs1 cells slots Q (F0 m (pc + 3) ls rest)) : W p l e R s m args below meth c H locs cells slots Q (F0 m pc ls (v :: .ref a :: rest)) :=
  va_put cx.1 cx.2.1 cx.2.2.2.2 hin ty0 hty hnm cx.2.2.2.1 hw.2.1 hw.1 hw.2.2.1 hw.2.2.2.1 q0 he hc k hk (cx.2.2.2.2 _ hl) (fun _ h => h) hfin (hty k hk) hn hfit hlen hdg (fun H1 locs1 hP hD hS => kk H1 locs1 ⟨hP, hw.2.1, hD, hS, hw.2.2.2.2⟩)
theorem r_putF (cx : CallFix p m c cc nL s args Ts own) (hw : ww D ty s A H0 ws H locs) {C : String} {T : u_T} {N ci index : Nat} (hin : ∀ w ∈ u_ws C T N, w ∈ Ts) (ty0 : Nat → FieldType) (hty : ∀ k, k < N → parseFieldDescriptor (T k).2.2.1 = some (ty0 k)) (hnm : ∀ a, a < N → ∀ b, b < N → a ≠ b → (T a).2.1 ≠ (T b).2.1) (q0 k : Nat) {fs : List Value} {v : Value} (he : ws[q0]? = some (a, .inr (ci, fs))) (hc : vwCl[ci]? = some (C, T, N)) (hk : k < N)
    (hl : Cond.fieldLink own index (T k).1 (T k).2.1 (T k).2.2.1 ∈ Ts) (hfin : (T k).2.2.2 = true) (hin2 : meth.name = "<init>") (hdecl : (T k).1 = own) (hn : narrow (ty0 k) v = v) (hfit : fits (ty0 k) v = true) (hlen : k < fs.length) (hdg : decode cc pc = .ok (.putfield index, 3))
    (kk : ∀ (H1 : Heap) (locs1 : List Loc), ww D ty s A H0 (ws.set q0 (a, .inr (ci, fs.set k v))) H1 locs1 → W p l e R s m args below meth c H1 locs1 cells slots Q (F0 m (pc + 3) ls rest)) : W p l e R s m args below meth c H locs cells slots Q (F0 m pc ls (v :: .ref a :: rest)) :=
  va_putF cx.1 cx.2.1 cx.2.2.2.2 hin ty0 hty hnm cx.2.2.2.1 hw.2.1 hw.1 hw.2.2.1 hw.2.2.2.1 q0 he hc k hk (cx.2.2.2.2 _ hl) (fun _ h => h) hfin hin2 hdecl (hty k hk) hn hfit hlen hdg (fun H1 locs1 hP hD hS => kk H1 locs1 ⟨hP, hw.2.1, hD, hS, hw.2.2.2.2⟩)
theorem r_iald (cx : CallFix p m c cc nL s args Ts own) (hw : ww D ty s A H0 ws H locs) (q0 t0 : Nat) {cA : ClassId} {n : Nat} {f : Nat → Int32} {i : Int32} (ha : ws[q0]? = some (a, .inl (cA, n, .inl f))) (ht : ty[t0]? = some (cA, .int)) (j : Nat) (hi : i = nI j) (hj : j < n) (hn : n < 2147483648) (hdg : decode cc pc = .ok (.iaload, 1))
    (kk : W p l e R s m args below meth c H locs cells slots Q (F0 m (pc + 1) ls (.int (f j) :: rest))) : W p l e R s m args below meth c H locs cells slots Q (F0 m pc ls (.int i :: .ref a :: rest)) := by
  subst hi
  exact va_iald cx.1 cx.2.1 hw.2.1 hw.1 q0 t0 ha ht (vp_in_nI hj hn) hdg (by rw [nI_clamp (Nat.lt_trans hj hn)]; exact kk)
theorem r_cald (cx : CallFix p m c cc nL s args Ts own) (hw : ww D ty s A H0 ws H locs) (q0 t0 : Nat) {cA : ClassId} {n : Nat} {f : Nat → Int32} {i : Int32} (ha : ws[q0]? = some (a, .inl (cA, n, .inl f))) (ht : ty[t0]? = some (cA, .char)) (j : Nat) (hi : i = nI j) (hj : j < n) (hn : n < 2147483648) (hdg : decode cc pc = .ok (.caload, 1))
    (kk : W p l e R s m args below meth c H locs cells slots Q (F0 m (pc + 1) ls (.int (f j) :: rest))) : W p l e R s m args below meth c H locs cells slots Q (F0 m pc ls (.int i :: .ref a :: rest)) := by
  subst hi
  exact va_cald cx.1 cx.2.1 hw.2.1 hw.1 q0 t0 ha ht (vp_in_nI hj hn) hdg (by rw [nI_clamp (Nat.lt_trans hj hn)]; exact kk)
theorem r_zald (cx : CallFix p m c cc nL s args Ts own) (hw : ww D ty s A H0 ws H locs) (q0 t0 : Nat) {cA : ClassId} {n : Nat} {f : Nat → Int32} {i : Int32} (ha : ws[q0]? = some (a, .inl (cA, n, .inl f))) (ht : ty[t0]? = some (cA, .boolean)) (j : Nat) (hi : i = nI j) (hj : j < n) (hn : n < 2147483648) (hdg : decode cc pc = .ok (.baload, 1))
    (kk : W p l e R s m args below meth c H locs cells slots Q (F0 m (pc + 1) ls (.int (f j) :: rest))) : W p l e R s m args below meth c H locs cells slots Q (F0 m pc ls (.int i :: .ref a :: rest)) := by
  subst hi
  exact va_zald cx.1 cx.2.1 hw.2.1 hw.1 q0 t0 ha ht (vp_in_nI hj hn) hdg (by rw [nI_clamp (Nat.lt_trans hj hn)]; exact kk)
theorem r_lald (cx : CallFix p m c cc nL s args Ts own) (hw : ww D ty s A H0 ws H locs) (q0 t0 : Nat) {cA : ClassId} {n : Nat} {f : Nat → Int64} {i : Int32} (ha : ws[q0]? = some (a, .inl (cA, n, .inr (.inl f)))) (ht : ty[t0]? = some (cA, .long)) (j : Nat) (hi : i = nI j) (hj : j < n) (hn : n < 2147483648) (hdg : decode cc pc = .ok (.laload, 1))
    (kk : W p l e R s m args below meth c H locs cells slots Q (F0 m (pc + 1) ls (.long (f j) :: rest))) : W p l e R s m args below meth c H locs cells slots Q (F0 m pc ls (.int i :: .ref a :: rest)) := by
  subst hi
  exact va_lald cx.1 cx.2.1 hw.2.1 hw.1 q0 t0 ha ht (vp_in_nI hj hn) hdg (by rw [nI_clamp (Nat.lt_trans hj hn)]; exact kk)
theorem r_dald (cx : CallFix p m c cc nL s args Ts own) (hw : ww D ty s A H0 ws H locs) (q0 t0 : Nat) {cA : ClassId} {n : Nat} {f : Nat → UInt64} {i : Int32} (ha : ws[q0]? = some (a, .inl (cA, n, .inr (.inr (.inr (.inl f)))))) (ht : ty[t0]? = some (cA, .double)) (j : Nat) (hi : i = nI j) (hj : j < n) (hn : n < 2147483648) (hdg : decode cc pc = .ok (.daload, 1))
    (kk : W p l e R s m args below meth c H locs cells slots Q (F0 m (pc + 1) ls (.double (f j) :: rest))) : W p l e R s m args below meth c H locs cells slots Q (F0 m pc ls (.int i :: .ref a :: rest)) := by
  subst hi
  exact va_dald cx.1 cx.2.1 hw.2.1 hw.1 q0 t0 ha ht (vp_in_nI hj hn) hdg (by rw [nI_clamp (Nat.lt_trans hj hn)]; exact kk)
theorem r_iast (cx : CallFix p m c cc nL s args Ts own) (hw : ww D ty s A H0 ws H locs) (q0 t0 : Nat) {cA : ClassId} {n : Nat} {f : Nat → Int32} {i x : Int32} (ha : ws[q0]? = some (a, .inl (cA, n, .inl f))) (ht : ty[t0]? = some (cA, .int)) (j : Nat) (hi : i = nI j) (hj : j < n) (hn : n < 2147483648) (hdg : decode cc pc = .ok (.iastore, 1))
    (kk : ∀ (H1 : Heap) (locs1 : List Loc), ww D ty s A H0 (ws.set q0 (a, .inl (cA, n, .inl (upd f j x)))) H1 locs1 → W p l e R s m args below meth c H1 locs1 cells slots Q (F0 m (pc + 1) ls rest)) : W p l e R s m args below meth c H locs cells slots Q (F0 m pc ls (.int x :: .int i :: .ref a :: rest)) := by
  subst hi
  refine va_iast cx.1 cx.2.1 hw.2.1 hw.1 hw.2.2.1 hw.2.2.2.1 q0 t0 ha ht (vp_in_nI hj hn) hdg (fun H1 locs1 hP hD hS => ?_)
  rw [nI_clamp (Nat.lt_trans hj hn)] at hP hD
  exact kk H1 locs1 ⟨hP, hw.2.1, hD, hS, hw.2.2.2.2⟩
theorem updn (g : Nat → Nat) (j y : Nat) : upd (fun k => nI (g k)) j (nI y) = fun k => nI (va_up g j y k) := by
  funext k
  by_cases h : k = j
  · subst h; rw [pk_us]; simp [va_up]
  · rw [pk_un h]; simp [va_up, h]
theorem r_iastN (cx : CallFix p m c cc nL s args Ts own) (hw : ww D ty s A H0 ws H locs) (q0 t0 : Nat) {cA : ClassId} {n : Nat} {g : Nat → Nat} {i x : Int32} (ha : ws[q0]? = some (a, .inl (cA, n, .inl (fun k => nI (g k))))) (ht : ty[t0]? = some (cA, .int)) (j y : Nat) (hi : i = nI j) (hx : x = nI y) (hj : j < n) (hn : n < 2147483648) (hdg : decode cc pc = .ok (.iastore, 1))
    (kk : ∀ (H1 : Heap) (locs1 : List Loc), ww D ty s A H0 (ws.set q0 (a, .inl (cA, n, .inl (fun k => nI (va_up g j y k))))) H1 locs1 → W p l e R s m args below meth c H1 locs1 cells slots Q (F0 m (pc + 1) ls rest)) : W p l e R s m args below meth c H locs cells slots Q (F0 m pc ls (.int x :: .int i :: .ref a :: rest)) := by
  subst hx
  refine r_iast cx hw q0 t0 ha ht j hi hj hn hdg (fun H1 locs1 h => ?_)
  rw [updn] at h
  exact kk H1 locs1 h
theorem r_cast (cx : CallFix p m c cc nL s args Ts own) (hw : ww D ty s A H0 ws H locs) (q0 t0 : Nat) {cA : ClassId} {n : Nat} {f : Nat → Int32} {i x : Int32} (ha : ws[q0]? = some (a, .inl (cA, n, .inl f))) (ht : ty[t0]? = some (cA, .char)) (j : Nat) (hi : i = nI j) (hx : vp_nar .char x = x) (hj : j < n) (hn : n < 2147483648) (hdg : decode cc pc = .ok (.castore, 1))
    (kk : ∀ (H1 : Heap) (locs1 : List Loc), ww D ty s A H0 (ws.set q0 (a, .inl (cA, n, .inl (upd f j x)))) H1 locs1 → W p l e R s m args below meth c H1 locs1 cells slots Q (F0 m (pc + 1) ls rest)) : W p l e R s m args below meth c H locs cells slots Q (F0 m pc ls (.int x :: .int i :: .ref a :: rest)) := by
  subst hi
  refine va_cast cx.1 cx.2.1 hw.2.1 hw.1 hw.2.2.1 hw.2.2.2.1 q0 t0 ha ht (vp_in_nI hj hn) hdg (fun H1 locs1 hP hD hS => ?_)
  rw [nI_clamp (Nat.lt_trans hj hn), hx] at hP hD
  exact kk H1 locs1 ⟨hP, hw.2.1, hD, hS, hw.2.2.2.2⟩
theorem r_zast (cx : CallFix p m c cc nL s args Ts own) (hw : ww D ty s A H0 ws H locs) (q0 t0 : Nat) {cA : ClassId} {n : Nat} {f : Nat → Int32} {i x : Int32} (ha : ws[q0]? = some (a, .inl (cA, n, .inl f))) (ht : ty[t0]? = some (cA, .boolean)) (j : Nat) (hi : i = nI j) (hx : vp_nar .boolean x = x) (hj : j < n) (hn : n < 2147483648) (hdg : decode cc pc = .ok (.bastore, 1))
    (kk : ∀ (H1 : Heap) (locs1 : List Loc), ww D ty s A H0 (ws.set q0 (a, .inl (cA, n, .inl (upd f j x)))) H1 locs1 → W p l e R s m args below meth c H1 locs1 cells slots Q (F0 m (pc + 1) ls rest)) : W p l e R s m args below meth c H locs cells slots Q (F0 m pc ls (.int x :: .int i :: .ref a :: rest)) := by
  subst hi
  refine va_zast cx.1 cx.2.1 hw.2.1 hw.1 hw.2.2.1 hw.2.2.2.1 q0 t0 ha ht (vp_in_nI hj hn) hdg (fun H1 locs1 hP hD hS => ?_)
  rw [nI_clamp (Nat.lt_trans hj hn), hx] at hP hD
  exact kk H1 locs1 ⟨hP, hw.2.1, hD, hS, hw.2.2.2.2⟩
theorem r_last (cx : CallFix p m c cc nL s args Ts own) (hw : ww D ty s A H0 ws H locs) (q0 t0 : Nat) {cA : ClassId} {n : Nat} {f : Nat → Int64} {i : Int32} {x : Int64} (ha : ws[q0]? = some (a, .inl (cA, n, .inr (.inl f)))) (ht : ty[t0]? = some (cA, .long)) (j : Nat) (hi : i = nI j) (hj : j < n) (hn : n < 2147483648) (hdg : decode cc pc = .ok (.lastore, 1))
    (kk : ∀ (H1 : Heap) (locs1 : List Loc), ww D ty s A H0 (ws.set q0 (a, .inl (cA, n, .inr (.inl (vp_updL f j x))))) H1 locs1 → W p l e R s m args below meth c H1 locs1 cells slots Q (F0 m (pc + 1) ls rest)) : W p l e R s m args below meth c H locs cells slots Q (F0 m pc ls (.long x :: .int i :: .ref a :: rest)) := by
  subst hi
  refine va_last cx.1 cx.2.1 hw.2.1 hw.1 hw.2.2.1 hw.2.2.2.1 q0 t0 ha ht (vp_in_nI hj hn) hdg (fun H1 locs1 hP hD hS => ?_)
  rw [nI_clamp (Nat.lt_trans hj hn)] at hP hD
  exact kk H1 locs1 ⟨hP, hw.2.1, hD, hS, hw.2.2.2.2⟩
theorem r_alen (cx : CallFix p m c cc nL s args Ts own) (hw : ww D ty s A H0 ws H locs) (q0 t0 : Nat) {cA : ClassId} {x : vp_A} {t : FieldType} (ha : ws[q0]? = some (a, .inl (cA, x))) (ht : ty[t0]? = some (cA, t)) (n : Nat) (hn : x.1 = n) (hdg : decode cc pc = .ok (.arraylength, 1))
    (kk : W p l e R s m args below meth c H locs cells slots Q (F0 m (pc + 1) ls (.int (nI n) :: rest))) : W p l e R s m args below meth c H locs cells slots Q (F0 m pc ls (.ref a :: rest)) := by
  subst hn
  exact va_alen cx.1 cx.2.1 hw.2.1 hw.1 q0 t0 ha ht rfl hdg kk
theorem r_iadd (cx : CallFix p m c cc nL s args Ts own) {x y : Int32} (i j : Nat) (hi : x = nI i) (hj : y = nI j) (hdg : decode cc pc = .ok (.iadd, 1)) (kk : W p l e R s m args below meth c H locs cells slots Q (F0 m (pc + 1) ls (.int (nI (i + j)) :: rest))) : W p l e R s m args below meth c H locs cells slots Q (F0 m pc ls (.int y :: .int x :: rest)) := by
  subst hi; subst hj
  exact lv_iadd cx.1 cx.2.1 hdg (by rw [nI_add]; exact kk)
theorem r_isub (cx : CallFix p m c cc nL s args Ts own) {x y : Int32} (i j : Nat) (hi : x = nI i) (hj : y = nI j) (h : j ≤ i) (hdg : decode cc pc = .ok (.isub, 1)) (kk : W p l e R s m args below meth c H locs cells slots Q (F0 m (pc + 1) ls (.int (nI (i - j)) :: rest))) : W p l e R s m args below meth c H locs cells slots Q (F0 m pc ls (.int y :: .int x :: rest)) := by
  subst hi; subst hj
  exact lv_isub cx.1 cx.2.1 hdg (by rw [pk_sub h]; exact kk)
theorem r_icmp_lt (cx : CallFix p m c cc nL s args Ts own) {x y : Int32} {off : Int} (tgt i j : Nat) (hi : x = nI i) (hj : y = nI j) (h1 : i < 2147483648) (h2 : j < 2147483648) (hdg : decode cc pc = .ok (.if_icmp .lt off, 3)) (ht : (pc : Int) + off = (tgt : Int))
    (k1 : i < j → W p l e R s m args below meth c H locs cells slots Q (F0 m tgt ls rest)) (k2 : j ≤ i → W p l e R s m args below meth c H locs cells slots Q (F0 m (pc + 3) ls rest)) : W p l e R s m args below meth c H locs cells slots Q (F0 m pc ls (.int y :: .int x :: rest)) := by
  subst hi; subst hj
  exact lv_icmp_lt cx.1 cx.2.1 hdg ht (fun h => k1 ((nI_ltI h1 h2).mp h)) (fun h => k2 (Nat.not_lt.mp fun q => h ((nI_ltI h1 h2).mpr q)))
theorem r_icmp_ge (cx : CallFix p m c cc nL s args Ts own) {x y : Int32} {off : Int} (tgt i j : Nat) (hi : x = nI i) (hj : y = nI j) (h1 : i < 2147483648) (h2 : j < 2147483648) (hdg : decode cc pc = .ok (.if_icmp .ge off, 3)) (ht : (pc : Int) + off = (tgt : Int))
    (k1 : j ≤ i → W p l e R s m args below meth c H locs cells slots Q (F0 m tgt ls rest)) (k2 : i < j → W p l e R s m args below meth c H locs cells slots Q (F0 m (pc + 3) ls rest)) : W p l e R s m args below meth c H locs cells slots Q (F0 m pc ls (.int y :: .int x :: rest)) := by
  subst hi; subst hj
  exact lv_icmp_ge cx.1 cx.2.1 hdg ht (fun h => k1 ((nI_leI h2 h1).mp h)) (fun h => k2 (Nat.not_le.mp fun q => h ((nI_leI h2 h1).mpr q)))
theorem r_icmp_gt (cx : CallFix p m c cc nL s args Ts own) {x y : Int32} {off : Int} (tgt i j : Nat) (hi : x = nI i) (hj : y = nI j) (h1 : i < 2147483648) (h2 : j < 2147483648) (hdg : decode cc pc = .ok (.if_icmp .gt off, 3)) (ht : (pc : Int) + off = (tgt : Int))
    (k1 : j < i → W p l e R s m args below meth c H locs cells slots Q (F0 m tgt ls rest)) (k2 : i ≤ j → W p l e R s m args below meth c H locs cells slots Q (F0 m (pc + 3) ls rest)) : W p l e R s m args below meth c H locs cells slots Q (F0 m pc ls (.int y :: .int x :: rest)) := by
  subst hi; subst hj
  exact lv_icmp_gt cx.1 cx.2.1 hdg ht (fun h => k1 ((nI_ltI h2 h1).mp h)) (fun h => k2 (Nat.not_lt.mp fun q => h ((nI_ltI h2 h1).mpr q)))
theorem r_icmp_le (cx : CallFix p m c cc nL s args Ts own) {x y : Int32} {off : Int} (tgt i j : Nat) (hi : x = nI i) (hj : y = nI j) (h1 : i < 2147483648) (h2 : j < 2147483648) (hdg : decode cc pc = .ok (.if_icmp .le off, 3)) (ht : (pc : Int) + off = (tgt : Int))
    (k1 : i ≤ j → W p l e R s m args below meth c H locs cells slots Q (F0 m tgt ls rest)) (k2 : j < i → W p l e R s m args below meth c H locs cells slots Q (F0 m (pc + 3) ls rest)) : W p l e R s m args below meth c H locs cells slots Q (F0 m pc ls (.int y :: .int x :: rest)) := by
  subst hi; subst hj
  exact lv_icmp_le cx.1 cx.2.1 hdg ht (fun h => k1 ((nI_leI h1 h2).mp h)) (fun h => k2 (Nat.not_le.mp fun q => h ((nI_leI h1 h2).mpr q)))
theorem r_icmp_eq (cx : CallFix p m c cc nL s args Ts own) {x y : Int32} {off : Int} (tgt i j : Nat) (hi : x = nI i) (hj : y = nI j) (h1 : i < 2147483648) (h2 : j < 2147483648) (hdg : decode cc pc = .ok (.if_icmp .eq off, 3)) (ht : (pc : Int) + off = (tgt : Int))
    (k1 : i = j → W p l e R s m args below meth c H locs cells slots Q (F0 m tgt ls rest)) (k2 : ¬ i = j → W p l e R s m args below meth c H locs cells slots Q (F0 m (pc + 3) ls rest)) : W p l e R s m args below meth c H locs cells slots Q (F0 m pc ls (.int y :: .int x :: rest)) := by
  subst hi; subst hj
  exact lv_icmp_eq cx.1 cx.2.1 hdg ht (fun h => k1 ((nI_eq h1 h2).mp h)) (fun h => k2 (fun q => h ((nI_eq h1 h2).mpr q)))
theorem r_icmp_ne (cx : CallFix p m c cc nL s args Ts own) {x y : Int32} {off : Int} (tgt i j : Nat) (hi : x = nI i) (hj : y = nI j) (h1 : i < 2147483648) (h2 : j < 2147483648) (hdg : decode cc pc = .ok (.if_icmp .ne off, 3)) (ht : (pc : Int) + off = (tgt : Int))
    (k1 : ¬ i = j → W p l e R s m args below meth c H locs cells slots Q (F0 m tgt ls rest)) (k2 : i = j → W p l e R s m args below meth c H locs cells slots Q (F0 m (pc + 3) ls rest)) : W p l e R s m args below meth c H locs cells slots Q (F0 m pc ls (.int y :: .int x :: rest)) := by
  subst hi; subst hj
  exact lv_icmp_ne cx.1 cx.2.1 hdg ht (fun h => k1 (fun q => h ((nI_eq h1 h2).mpr q))) (fun h => k2 ((nI_eq h1 h2).mp h))
end INF
/-- the array classes; cD is here the class of byte rows -/
abbrev TY (cC cI cJ cZ cD : ClassId) : List (ClassId × FieldType) := [(cC, .char), (cI, .int), (cJ, .long), (cZ, .boolean), (cD, .byte)]
theorem ii1 : Int32.ofInt 1 = (1 : Int32) := by decide
theorem iim1 {e : Nat} (h : 0 < e) : nI e + Int32.ofInt (-1) = nI (e - 1) := by
  obtain ⟨k, rfl⟩ : ∃ k, e = k + 1 := ⟨e - 1, by omega⟩
  exact pk_m1 k
theorem CA_0 : ∀ j : Nat, vp_nar .char ((fun _ => nI 0 : Nat → Int32) j) = (fun _ => nI 0 : Nat → Int32) j := fun _ => (by decide : vp_nar .char (nI 0) = nI 0)
theorem CA_upd {f : Nat → Int32} {k : Nat} {x : Int32} (h : ∀ j, vp_nar .char (f j) = f j) (hx : vp_nar .char x = x) : ∀ j, vp_nar .char (upd f k x j) = upd f k x j := fun j => by
  by_cases e : j = k
  · subst e; rw [pk_us]; exact hx
  · rw [pk_un e]; exact h j
theorem nrC {x : Int32} (h : vp_nar .char x = x) : narrow .char (.int x) = .int x := by
  rw [vp_nar_char] at h
  show Value.int _ = _
  exact congrArg Value.int h
theorem nrZ {x : Int32} (h : x = 0 ∨ x = 1) : narrow .boolean (.int x) = .int x := by
  rcases h with rfl | rfl <;> decide
theorem ftZ {x : Int32} (h : x = 0 ∨ x = 1) : fits .boolean (.int x) = true := by
  rcases h with rfl | rfl <;> decide
section INF3
variable {p : Program} {l : Launch} {e : Env} {R : Room} {s : State} {m : MethodId} {args : Array Value} {below : List Frame} {meth : Method} {c : Code} {H : Heap} {locs : List Loc} {cells slots : Nat} {Q : State → Prop}
variable {pc : Nat} {ls : Array Slot} {rest : List Value} {cc : ByteArray} {nL : Nat} {Ts : List Cond} {own : String} {D : va_G} {ty : List (ClassId × FieldType)} {A : Nat → Prop} {H0 : Heap} {ws : va_W} {a : Nat}
theorem hp_start {g : JFrame} (hw : ww D ty s A s.heap ws s.heap []) (k : ∀ (H : Heap) (locs : List Loc), ww D ty s A s.heap ws H locs → W p l e R s m args below meth c H locs 0 0 Q g) : W p l e R s m args below meth c s.heap [] 0 0 Q g := k _ _ hw
theorem r_if_eq (cx : CallFix p m c cc nL s args Ts own) {x : Int32} {off : Int} (tgt i : Nat) (hi : x = nI i) (h1 : i < 2147483648) (hdg : decode cc pc = .ok (.ifCond .eq off, 3)) (ht : (pc : Int) + off = (tgt : Int))
    (k1 : i = 0 → W p l e R s m args below meth c H locs cells slots Q (F0 m tgt ls rest)) (k2 : ¬ i = 0 → W p l e R s m args below meth c H locs cells slots Q (F0 m (pc + 3) ls rest)) : W p l e R s m args below meth c H locs cells slots Q (F0 m pc ls (.int x :: rest)) := by
  subst hi
  refine lv_if_eq cx.1 cx.2.1 hdg ht (fun h => k1 ?_) (fun h => k2 (fun q => h (by rw [q]; rfl)))
  rcases Nat.eq_zero_or_pos i with q | q
  · exact q
  · exact absurd h (nI_ne0 q h1)
theorem r_if_ne (cx : CallFix p m c cc nL s args Ts own) {x : Int32} {off : Int} (tgt i : Nat) (hi : x = nI i) (h1 : i < 2147483648) (hdg : decode cc pc = .ok (.ifCond .ne off, 3)) (ht : (pc : Int) + off = (tgt : Int))
    (k1 : ¬ i = 0 → W p l e R s m args below meth c H locs cells slots Q (F0 m tgt ls rest)) (k2 : i = 0 → W p l e R s m args below meth c H locs cells slots Q (F0 m (pc + 3) ls rest)) : W p l e R s m args below meth c H locs cells slots Q (F0 m pc ls (.int x :: rest)) := by
  subst hi
  refine lv_if_ne cx.1 cx.2.1 hdg ht (fun h => k1 (fun q => h (by rw [q]; rfl))) (fun h => k2 ?_)
  rcases Nat.eq_zero_or_pos i with q | q
  · exact q
  · exact absurd h (nI_ne0 q h1)
theorem r_if_gt (cx : CallFix p m c cc nL s args Ts own) {x : Int32} {off : Int} (tgt i : Nat) (hi : x = nI i) (h1 : i < 2147483648) (hdg : decode cc pc = .ok (.ifCond .gt off, 3)) (ht : (pc : Int) + off = (tgt : Int))
    (k1 : 0 < i → W p l e R s m args below meth c H locs cells slots Q (F0 m tgt ls rest)) (k2 : i = 0 → W p l e R s m args below meth c H locs cells slots Q (F0 m (pc + 3) ls rest)) : W p l e R s m args below meth c H locs cells slots Q (F0 m pc ls (.int x :: rest)) := by
  subst hi
  refine lv_if_gt cx.1 cx.2.1 hdg ht (fun h => k1 ?_) (fun h => k2 ?_)
  · exact (nI_ltI (a := 0) (by decide) h1).mp h
  · rcases Nat.eq_zero_or_pos i with q | q
    · exact q
    · exact absurd ((nI_ltI (a := 0) (by decide) h1).mpr q) h
theorem r_if_le (cx : CallFix p m c cc nL s args Ts own) {x : Int32} {off : Int} (tgt i : Nat) (hi : x = nI i) (h1 : i < 2147483648) (hdg : decode cc pc = .ok (.ifCond .le off, 3)) (ht : (pc : Int) + off = (tgt : Int))
    (k1 : i = 0 → W p l e R s m args below meth c H locs cells slots Q (F0 m tgt ls rest)) (k2 : 0 < i → W p l e R s m args below meth c H locs cells slots Q (F0 m (pc + 3) ls rest)) : W p l e R s m args below meth c H locs cells slots Q (F0 m pc ls (.int x :: rest)) := by
  subst hi
  refine lv_if_le cx.1 cx.2.1 hdg ht (fun h => k1 ?_) (fun h => k2 ?_)
  · rcases Nat.eq_zero_or_pos i with q | q
    · exact q
    · exact absurd h (nI_nle q h1)
  · rcases Nat.eq_zero_or_pos i with q | q
    · exact absurd (by rw [q]; exact Int32.le_refl _) h
    · exact q
theorem r_if_lt (cx : CallFix p m c cc nL s args Ts own) {x : Int32} {off : Int} (tgt i : Nat) (hi : x = nI i) (h1 : i < 2147483648) (hdg : decode cc pc = .ok (.ifCond .lt off, 3)) (ht : (pc : Int) + off = (tgt : Int))
    (_k1 : False → W p l e R s m args below meth c H locs cells slots Q (F0 m tgt ls rest)) (k2 : True → W p l e R s m args below meth c H locs cells slots Q (F0 m (pc + 3) ls rest)) : W p l e R s m args below meth c H locs cells slots Q (F0 m pc ls (.int x :: rest)) := by
  subst hi
  exact lv_if_lt cx.1 cx.2.1 hdg ht (fun h => absurd h (nI_pos h1)) (fun _ => k2 trivial)
theorem r_if_ge (cx : CallFix p m c cc nL s args Ts own) {x : Int32} {off : Int} (tgt i : Nat) (hi : x = nI i) (h1 : i < 2147483648) (hdg : decode cc pc = .ok (.ifCond .ge off, 3)) (ht : (pc : Int) + off = (tgt : Int))
    (k1 : True → W p l e R s m args below meth c H locs cells slots Q (F0 m tgt ls rest)) (_k2 : False → W p l e R s m args below meth c H locs cells slots Q (F0 m (pc + 3) ls rest)) : W p l e R s m args below meth c H locs cells slots Q (F0 m pc ls (.int x :: rest)) := by
  subst hi
  exact lv_if_ge cx.1 cx.2.1 hdg ht (fun _ => k1 trivial) (fun h => absurd (nI_pos' h1) h)
theorem r_dast (cx : CallFix p m c cc nL s args Ts own) (hw : ww D ty s A H0 ws H locs) (q0 t0 : Nat) {cA : ClassId} {n : Nat} {f : Nat → UInt64} {i : Int32} {x : UInt64} (ha : ws[q0]? = some (a, .inl (cA, n, .inr (.inr (.inr (.inl f)))))) (ht : ty[t0]? = some (cA, .double)) (j : Nat) (hi : i = nI j) (hj : j < n) (hn : n < 2147483648) (hdg : decode cc pc = .ok (.dastore, 1))
    (kk : ∀ (H1 : Heap) (locs1 : List Loc), ww D ty s A H0 (ws.set q0 (a, .inl (cA, n, .inr (.inr (.inr (.inl (va_up f j x))))))) H1 locs1 → W p l e R s m args below meth c H1 locs1 cells slots Q (F0 m (pc + 1) ls rest)) : W p l e R s m args below meth c H locs cells slots Q (F0 m pc ls (.double x :: .int i :: .ref a :: rest)) := by
  subst hi
  refine va_dast cx.1 cx.2.1 hw.2.1 hw.1 hw.2.2.1 hw.2.2.2.1 q0 t0 ha ht (vp_in_nI hj hn) hdg (fun H1 locs1 hP hD hS => ?_)
  rw [nI_clamp (Nat.lt_trans hj hn)] at hP hD
  exact kk H1 locs1 ⟨hP, hw.2.1, hD, hS, hw.2.2.2.2⟩
theorem r_new (cx : CallFix p m c cc nL s args Ts own) (hw : ww D ty s A H0 ws H locs) {C : String} {T : u_T} {N ci index : Nat} (hin : ∀ w ∈ u_ws C T N, w ∈ Ts) (ty0 : Nat → FieldType) (hty : ∀ k, k < N → parseFieldDescriptor (T k).2.2.1 = some (ty0 k)) (h1 : Cond.classLink own index C ∈ Ts) (h2 : Cond.instantiable C N ∈ Ts) (h3 : Cond.initialized C ∈ Ts)
    (hc : vwCl[ci]? = some (C, T, N)) {fs : List Value} (hfs : ∀ j, j < N → defaultValue (ty0 j) = vp_V fs j) (hcells : cells + 1 ≤ R.cells) (hslots : slots + N ≤ R.slots) (hdg : decode cc pc = .ok (.new index, 3))
    (kk : ∀ (q : Nat) (H1 : Heap), ww D ty s A H0 (ws ++ [(q, .inr (ci, fs))]) H1 locs → W p l e R s m args below meth c H1 locs (cells + 1) (slots + N) Q (F0 m (pc + 3) ls (.ref q :: rest))) : W p l e R s m args below meth c H locs cells slots Q (F0 m pc ls rest) :=
  va_new (ci := ci) (fs := fs) cx.1 cx.2.1 cx.2.2.2.2 hin ty0 hty cx.2.2.2.1 (cx.2.2.2.2 _ h1) (cx.2.2.2.2 _ h2) (cx.2.2.2.2 _ h3) hw.2.1 hw.1 hw.2.2.1 hw.2.2.2.1 hw.2.2.2.2 hc hfs hcells hslots hdg (fun q H1 hP hD hS => kk q H1 ⟨hP, hw.2.1, hD, hS, hw.2.2.2.2⟩)
theorem r_newa (cx : CallFix p m c cc nL s args Ts own) (hw : ww D ty s A H0 ws H locs) {atype : ArrayType} {t : FieldType} (harr : Cond.arrayClass (newarray.typeOf atype) ∈ Ts) (hty : newarray.typeOf atype = t) (t0 : Nat) {cT : ClassId} (ht : ty[t0]? = some (cT, t)) (hra : ∀ c1 c2 : ClassId, va_RA s c1 t → va_RA s c2 t → c1 = c2)
    {n : Int32} {N' : Nat} {a0 : vp_A} (ha : ∀ cA : ClassId, vp_cell cA a0 = arrV cA N' (fun _ => defaultValue t)) (hn : ¬ n < 0) (hN : n.toNatClampNeg = N') (hbytes : N' * componentBytes t ≤ 536870912) (hcells : cells + 1 ≤ R.cells) (hslots : slots + N' ≤ R.slots) (hdg : decode cc pc = .ok (.newarray atype, 2))
    (kk : ∀ (q : Nat) (H1 : Heap), ww D ty s A H0 (ws ++ [(q, .inl (cT, a0))]) H1 locs → W p l e R s m args below meth c H1 locs (cells + 1) (slots + N') Q (F0 m (pc + 2) ls (.ref q :: rest))) : W p l e R s m args below meth c H locs cells slots Q (F0 m pc ls (.int n :: rest)) := by
  refine va_newa cx.1 cx.2.1 (cx.2.2.2.2 _ harr) hty hw.2.1 hw.1 hw.2.2.1 hw.2.2.2.1 hw.2.2.2.2 ha hn hN hbytes hcells hslots hdg (fun q cA H1 hK hP hD hS => ?_)
  have e1 : cA = cT := hra cA cT (hK.2 ty.length (cA, t) (by simp)).2 (hw.2.1.2 t0 (cT, t) ht).2
  subst e1
  exact kk q H1 ⟨hP, hw.2.1, hD, hS, hw.2.2.2.2⟩
end INF3
/-- what a method that throws asks of the start: the texts of its class, two statics of Throwable, the words that the good ones leave out -/
def xst (SL : List (String × Nat × String)) (NW : List Cond) (A : Nat → Prop) (s : State) (H : Heap) : Prop :=
  (∀ q ∈ SL, ∃ sa : Nat, vk_R q.1 q.2.1 q.2.2 sa s) ∧ vx_Zq Bundle.tN "UNASSIGNED_STACK" Bundle.steD A s H ∧ vx_Zq Bundle.tN "SUPPRESSED_SENTINEL" Bundle.listD A s H ∧ ∀ w ∈ NW, ∃ C : String, w = .castable C C ∧ va_Nw w s
theorem xst.warm {SL : List (String × Nat × String)} {NW : List Cond} {A B : Nat → Prop} {s U : State} {H H1 : Heap} (h : xst SL NW A s H) (hW : s.WarmedH U.vm) (hk : ∀ a : Nat, a < H.size → ¬ A a → H1[a]? = H[a]?) (hAB : ∀ q, B q → A q) : xst SL NW B U H1 := by
  obtain ⟨h1, h2, h3, h4⟩ := h
  refine ⟨fun q hq => ?_, ((h2.moved hW.alike).kept hk).narrow hAB, ((h3.moved hW.alike).kept hk).narrow hAB, fun w hw => ?_⟩
  · obtain ⟨sa, ha⟩ := h1 q hq
    exact ⟨sa, ha.warm hW⟩
  · obtain ⟨C, rfl, hn⟩ := h4 w hw
    exact ⟨C, rfl, hn.warmC hW⟩
def xpre (SL : List (String × Nat × String)) (NW : List Cond) (D : va_G) (ty : List (ClassId × FieldType)) (ws : va_W) (sz : Nat) : State → Prop := fun U => wpre D ty ws sz U ∧ xst SL NW (va_A ws sz) U U.heap
theorem xpre_blind {SL : List (String × Nat × String)} {NW : List Cond} {D : va_G} {ty : List (ClassId × FieldType)} {ws : va_W} {sz : Nat} {av : List Value} : FrameBlind (va_Pc av (xpre SL NW D ty ws sz)) := fun a U g mk q => by
  obtain ⟨q0, q1, q2⟩ := q
  refine ⟨q0, (wpre_blind (av := av) a U g mk ⟨q0, q1⟩).2, ?_⟩
  obtain ⟨h1, h2, h3, h4⟩ := q2
  refine ⟨fun q hq => ?_, h2.moved (U := U.calling g mk a) (Vm.Alike.refl U.vm), h3.moved (U := U.calling g mk a) (Vm.Alike.refl U.vm), fun w hw => ?_⟩
  · obtain ⟨sa, ha⟩ := h1 q hq
    exact ⟨sa, ha.same (U := U.calling g mk a) rfl⟩
  · obtain ⟨C, rfl, hn⟩ := h4 w hw
    exact ⟨C, rfl, hn.same (U := U.calling g mk a) rfl rfl⟩
/-- goal first: a method that does not throw -/
theorem mk_M {l : Launch} {y : MethodName} {wsl wsl' : List Cond} {rm : Room} {av : List Value} {D : va_G} {ty : List (ClassId × FieldType)} {ws : va_W} {sz : Nat} {cc : ByteArray} {maxL : Nat} {ret : Option FieldType} {mc ms : Nat} {QA : (Nat → Prop) → Array Value → State → Outcome → State → Prop}
    (hy : plainName y.cls = true) (hwl : wsl = Cond.code y cc maxL ret :: wsl') (hn : (lg_sl av).length ≤ maxL)
    (body : ∀ (p : Program) (e : Env) (s : State) (m : MethodId) (args : Array Value) (below : List Frame) (meth : Method) (c : Code) (A : Nat → Prop), CallFix p m c cc maxL s args wsl y.cls → meth.sig.returnType = ret → meth.locks = false → meth.name = y.name → ww D ty s A s.heap ws s.heap [] → ∀ ls : Array Slot, lv_has ls maxL (lv_args 0 av) →
      W p l e rm s m args below meth c s.heap [] 0 0 (MQ below (QA A) args s mc ms A) (F0 m 0 ls [])) : Met l y wsl rm (va_Pc av (wpre D ty ws sz)) (QA (va_A ws sz)) mc ms (va_A ws sz) := by
  refine Met.ofW (cc := cc) (maxL := maxL) (ret := ret) hy hwl ?_
  intro p e s m args below meth c s₁ B hml hv
  obtain ⟨rfl, hsz, hP, hK, hD0⟩ := hv
  subst hsz
  rw [lg_entry_eq]
  exact body p e s m _ below meth c _ ⟨B.exec, B.bytes, hml, findClass_of_methodNamed B.named, atoms_spec (ws := wsl) B.pre⟩ B.returns B.notSynchronized (name_of_methodNamed B.named B.method).1 ⟨hP, hK, hD0.self, va_S.rf, fun q h => Or.inr h⟩ _ (lv_entry av hn)
/-- goal first: a method that may throw -/
theorem mk_X {SL : List (String × Nat × String)} {NW : List Cond} {l : Launch} {y : MethodName} {wsl wsl' : List Cond} {rm : Room} {av : List Value} {D : va_G} {ty : List (ClassId × FieldType)} {ws : va_W} {sz : Nat} {cc : ByteArray} {maxL : Nat} {ret : Option FieldType} {mc ms : Nat} {QA : (Nat → Prop) → Array Value → State → Outcome → State → Prop} {XA : (Nat → Prop) → String → State → State → Prop}
    (hy : plainName y.cls = true) (hwl : wsl = Cond.code y cc maxL ret :: wsl') (hn : (lg_sl av).length ≤ maxL)
    (body : ∀ (p : Program) (e : Env) (s : State) (m : MethodId) (args : Array Value) (below : List Frame) (meth : Method) (c : Code) (A : Nat → Prop), CallFix p m c cc maxL s args wsl y.cls → meth.sig.returnType = ret → meth.locks = false → (∀ x ∈ c.exceptionTable.toList, False) → xst SL NW A s s.heap → ww D ty s A s.heap ws s.heap [] → ∀ ls : Array Slot, lv_has ls maxL (lv_args 0 av) →
      W p l e rm s m args below meth c s.heap [] 0 0 (vx_MQ below (QA A) (XA A) args s mc ms A) (F0 m 0 ls [])) : vx_Met l y wsl rm (va_Pc av (xpre SL NW D ty ws sz)) (QA (va_A ws sz)) (XA (va_A ws sz)) mc ms (va_A ws sz) := by
  refine vx_ofW (cc := cc) (maxL := maxL) (ret := ret) hy hwl ?_
  intro p e s m args below meth c s₁ B hml htab hv
  obtain ⟨rfl, ⟨hsz, hP, hK, hD0⟩, hst⟩ := hv
  subst hsz
  rw [lg_entry_eq]
  exact body p e s m _ below meth c _ ⟨B.exec, B.bytes, hml, findClass_of_methodNamed B.named, atoms_spec (ws := wsl) B.pre⟩ B.returns B.notSynchronized htab hst ⟨hP, hK, hD0.self, va_S.rf, fun q h => Or.inr h⟩ _ (lv_entry av hn)


def xSL : List (String × Nat × String) := [(RX7, 83, "scheme or rate out of range"), (RX7, 94, "too many authors"), (RX7, 101, "neither a letter nor a blank"), (RX7, 104, "the buffer is full"), (RX7, 120, "no such position"), (RX7, 123, "the buffer is empty"), (RX7, 128, "the text would be too long"), (RX7, 148, "no such goal"), (RX7, 195, "no such index"), (RX7, 201, "too many clauses"), (RX7, 207, "a character belongs to a clause"), (RX7, 228, "no clause, or one that does not exist"), (RX7, 231, "too many signatures"), (RX7, 240, "the signature is not valid"), (RX7, 259, "fee out of range"), (RX7, 294, "no such author"), (RX7, 298, "no such clause"), (RX7, 300, "no such signature"), (RX7, 302, "no such characters"), (RX7, 305, "too many edits"), (RX7, 307, "no edit was refused"), (RX7, 322, "the edit is refused")]
def xNW : List Cond := [.castable "java/lang/IllegalArgumentException" "java/lang/IllegalArgumentException", .castable "java/lang/IllegalStateException" "java/lang/IllegalStateException", .castable "java/lang/IndexOutOfBoundsException" "java/lang/IndexOutOfBoundsException", .castable "java/lang/UnsupportedOperationException" "java/lang/UnsupportedOperationException", .castable "java/util/NoSuchElementException" "java/util/NoSuchElementException"]
def MI {S : Type} (l : Launch) (y : MethodName) (wsl : List Cond) (rm : Room) (av : List Value) (D : va_G) (ty : List (ClassId × FieldType)) (ws : va_W) (sz : Nat) (post : Int32 → S → Prop) (W' : S → va_W) (mc ms : Nat) : Prop :=
  Met l y wsl rm (va_Pc av (wpre D ty ws sz)) (va_Qi post (fun u => wpost D ty (va_A ws sz) (W' u)) (va_A ws sz)) mc ms (va_A ws sz)
def XI {S SX : Type} (l : Launch) (y : MethodName) (wsl : List Cond) (rm : Room) (av : List Value) (D : va_G) (ty : List (ClassId × FieldType)) (ws : va_W) (sz : Nat) (post : Int32 → S → Prop) (W' : S → va_W) (xp : String → SX → Prop) (WX : SX → va_W) (mc ms : Nat) : Prop :=
  vx_Met l y wsl rm (va_Pc av (xpre xSL xNW D ty ws sz)) (va_Qi post (fun u => wpost D ty (va_A ws sz) (W' u)) (va_A ws sz)) (vx_X (fun _ : SX => True) (fun E u t => xp E u ∧ wpost D ty (va_A ws sz) (WX u) t) (va_A ws sz)) mc ms (va_A ws sz)
theorem mk_MI {S : Type} {l : Launch} {y : MethodName} {wsl wsl' : List Cond} {rm : Room} {av : List Value} {D : va_G} {ty : List (ClassId × FieldType)} {ws : va_W} {sz : Nat} {cc : ByteArray} {maxL : Nat} {ret : Option FieldType} {mc ms : Nat} {post : Int32 → S → Prop} {W' : S → va_W}
    (hy : plainName y.cls = true) (hwl : wsl = Cond.code y cc maxL ret :: wsl') (hn : (lg_sl av).length ≤ maxL)
    (body : ∀ (p : Program) (e : Env) (s : State) (m : MethodId) (args : Array Value) (below : List Frame) (meth : Method) (c : Code) (A : Nat → Prop), CallFix p m c cc maxL s args wsl y.cls → meth.sig.returnType = ret → meth.locks = false → meth.name = y.name → ww D ty s A s.heap ws s.heap [] → ∀ ls : Array Slot, lv_has ls maxL (lv_args 0 av) →
      W p l e rm s m args below meth c s.heap [] 0 0 (MQ below (va_Qi post (fun u => wpost D ty A (W' u)) A) args s mc ms A) (F0 m 0 ls [])) : MI l y wsl rm av D ty ws sz post W' mc ms :=
  mk_M (QA := fun A => va_Qi post (fun u => wpost D ty A (W' u)) A) hy hwl hn body
theorem mk_XI {S SX : Type} {l : Launch} {y : MethodName} {wsl wsl' : List Cond} {rm : Room} {av : List Value} {D : va_G} {ty : List (ClassId × FieldType)} {ws : va_W} {sz : Nat} {cc : ByteArray} {maxL : Nat} {ret : Option FieldType} {mc ms : Nat} {post : Int32 → S → Prop} {W' : S → va_W} {xp : String → SX → Prop} {WX : SX → va_W}
    (hy : plainName y.cls = true) (hwl : wsl = Cond.code y cc maxL ret :: wsl') (hn : (lg_sl av).length ≤ maxL)
    (body : ∀ (p : Program) (e : Env) (s : State) (m : MethodId) (args : Array Value) (below : List Frame) (meth : Method) (c : Code) (A : Nat → Prop), CallFix p m c cc maxL s args wsl y.cls → meth.sig.returnType = ret → meth.locks = false → (∀ x ∈ c.exceptionTable.toList, False) → xst xSL xNW A s s.heap → ww D ty s A s.heap ws s.heap [] → ∀ ls : Array Slot, lv_has ls maxL (lv_args 0 av) →
      W p l e rm s m args below meth c s.heap [] 0 0 (vx_MQ below (va_Qi post (fun u => wpost D ty A (W' u)) A) (vx_X (fun _ : SX => True) (fun E u t => xp E u ∧ wpost D ty A (WX u) t) A) args s mc ms A) (F0 m 0 ls [])) : XI l y wsl rm av D ty ws sz post W' xp WX mc ms :=
  mk_X (QA := fun A => va_Qi post (fun u => wpost D ty A (W' u)) A) (XA := fun A => vx_X (fun _ : SX => True) (fun E u t => xp E u ∧ wpost D ty A (WX u) t) A) hy hwl hn body
def ML {S : Type} (l : Launch) (y : MethodName) (wsl : List Cond) (rm : Room) (av : List Value) (D : va_G) (ty : List (ClassId × FieldType)) (ws : va_W) (sz : Nat) (post : Int64 → S → Prop) (W' : S → va_W) (mc ms : Nat) : Prop :=
  Met l y wsl rm (va_Pc av (wpre D ty ws sz)) (va_Ql post (fun u => wpost D ty (va_A ws sz) (W' u)) (va_A ws sz)) mc ms (va_A ws sz)
def XL {S SX : Type} (l : Launch) (y : MethodName) (wsl : List Cond) (rm : Room) (av : List Value) (D : va_G) (ty : List (ClassId × FieldType)) (ws : va_W) (sz : Nat) (post : Int64 → S → Prop) (W' : S → va_W) (xp : String → SX → Prop) (WX : SX → va_W) (mc ms : Nat) : Prop :=
  vx_Met l y wsl rm (va_Pc av (xpre xSL xNW D ty ws sz)) (va_Ql post (fun u => wpost D ty (va_A ws sz) (W' u)) (va_A ws sz)) (vx_X (fun _ : SX => True) (fun E u t => xp E u ∧ wpost D ty (va_A ws sz) (WX u) t) (va_A ws sz)) mc ms (va_A ws sz)
theorem mk_ML {S : Type} {l : Launch} {y : MethodName} {wsl wsl' : List Cond} {rm : Room} {av : List Value} {D : va_G} {ty : List (ClassId × FieldType)} {ws : va_W} {sz : Nat} {cc : ByteArray} {maxL : Nat} {ret : Option FieldType} {mc ms : Nat} {post : Int64 → S → Prop} {W' : S → va_W}
    (hy : plainName y.cls = true) (hwl : wsl = Cond.code y cc maxL ret :: wsl') (hn : (lg_sl av).length ≤ maxL)
    (body : ∀ (p : Program) (e : Env) (s : State) (m : MethodId) (args : Array Value) (below : List Frame) (meth : Method) (c : Code) (A : Nat → Prop), CallFix p m c cc maxL s args wsl y.cls → meth.sig.returnType = ret → meth.locks = false → meth.name = y.name → ww D ty s A s.heap ws s.heap [] → ∀ ls : Array Slot, lv_has ls maxL (lv_args 0 av) →
      W p l e rm s m args below meth c s.heap [] 0 0 (MQ below (va_Ql post (fun u => wpost D ty A (W' u)) A) args s mc ms A) (F0 m 0 ls [])) : ML l y wsl rm av D ty ws sz post W' mc ms :=
  mk_M (QA := fun A => va_Ql post (fun u => wpost D ty A (W' u)) A) hy hwl hn body
theorem mk_XL {S SX : Type} {l : Launch} {y : MethodName} {wsl wsl' : List Cond} {rm : Room} {av : List Value} {D : va_G} {ty : List (ClassId × FieldType)} {ws : va_W} {sz : Nat} {cc : ByteArray} {maxL : Nat} {ret : Option FieldType} {mc ms : Nat} {post : Int64 → S → Prop} {W' : S → va_W} {xp : String → SX → Prop} {WX : SX → va_W}
    (hy : plainName y.cls = true) (hwl : wsl = Cond.code y cc maxL ret :: wsl') (hn : (lg_sl av).length ≤ maxL)
    (body : ∀ (p : Program) (e : Env) (s : State) (m : MethodId) (args : Array Value) (below : List Frame) (meth : Method) (c : Code) (A : Nat → Prop), CallFix p m c cc maxL s args wsl y.cls → meth.sig.returnType = ret → meth.locks = false → (∀ x ∈ c.exceptionTable.toList, False) → xst xSL xNW A s s.heap → ww D ty s A s.heap ws s.heap [] → ∀ ls : Array Slot, lv_has ls maxL (lv_args 0 av) →
      W p l e rm s m args below meth c s.heap [] 0 0 (vx_MQ below (va_Ql post (fun u => wpost D ty A (W' u)) A) (vx_X (fun _ : SX => True) (fun E u t => xp E u ∧ wpost D ty A (WX u) t) A) args s mc ms A) (F0 m 0 ls [])) : XL l y wsl rm av D ty ws sz post W' xp WX mc ms :=
  mk_X (QA := fun A => va_Ql post (fun u => wpost D ty A (W' u)) A) (XA := fun A => vx_X (fun _ : SX => True) (fun E u t => xp E u ∧ wpost D ty A (WX u) t) A) hy hwl hn body
def MF {S : Type} (l : Launch) (y : MethodName) (wsl : List Cond) (rm : Room) (av : List Value) (D : va_G) (ty : List (ClassId × FieldType)) (ws : va_W) (sz : Nat) (post : UInt32 → S → Prop) (W' : S → va_W) (mc ms : Nat) : Prop :=
  Met l y wsl rm (va_Pc av (wpre D ty ws sz)) (va_Qf post (fun u => wpost D ty (va_A ws sz) (W' u)) (va_A ws sz)) mc ms (va_A ws sz)
def XF {S SX : Type} (l : Launch) (y : MethodName) (wsl : List Cond) (rm : Room) (av : List Value) (D : va_G) (ty : List (ClassId × FieldType)) (ws : va_W) (sz : Nat) (post : UInt32 → S → Prop) (W' : S → va_W) (xp : String → SX → Prop) (WX : SX → va_W) (mc ms : Nat) : Prop :=
  vx_Met l y wsl rm (va_Pc av (xpre xSL xNW D ty ws sz)) (va_Qf post (fun u => wpost D ty (va_A ws sz) (W' u)) (va_A ws sz)) (vx_X (fun _ : SX => True) (fun E u t => xp E u ∧ wpost D ty (va_A ws sz) (WX u) t) (va_A ws sz)) mc ms (va_A ws sz)
theorem mk_MF {S : Type} {l : Launch} {y : MethodName} {wsl wsl' : List Cond} {rm : Room} {av : List Value} {D : va_G} {ty : List (ClassId × FieldType)} {ws : va_W} {sz : Nat} {cc : ByteArray} {maxL : Nat} {ret : Option FieldType} {mc ms : Nat} {post : UInt32 → S → Prop} {W' : S → va_W}
    (hy : plainName y.cls = true) (hwl : wsl = Cond.code y cc maxL ret :: wsl') (hn : (lg_sl av).length ≤ maxL)
    (body : ∀ (p : Program) (e : Env) (s : State) (m : MethodId) (args : Array Value) (below : List Frame) (meth : Method) (c : Code) (A : Nat → Prop), CallFix p m c cc maxL s args wsl y.cls → meth.sig.returnType = ret → meth.locks = false → meth.name = y.name → ww D ty s A s.heap ws s.heap [] → ∀ ls : Array Slot, lv_has ls maxL (lv_args 0 av) →
      W p l e rm s m args below meth c s.heap [] 0 0 (MQ below (va_Qf post (fun u => wpost D ty A (W' u)) A) args s mc ms A) (F0 m 0 ls [])) : MF l y wsl rm av D ty ws sz post W' mc ms :=
  mk_M (QA := fun A => va_Qf post (fun u => wpost D ty A (W' u)) A) hy hwl hn body
theorem mk_XF {S SX : Type} {l : Launch} {y : MethodName} {wsl wsl' : List Cond} {rm : Room} {av : List Value} {D : va_G} {ty : List (ClassId × FieldType)} {ws : va_W} {sz : Nat} {cc : ByteArray} {maxL : Nat} {ret : Option FieldType} {mc ms : Nat} {post : UInt32 → S → Prop} {W' : S → va_W} {xp : String → SX → Prop} {WX : SX → va_W}
    (hy : plainName y.cls = true) (hwl : wsl = Cond.code y cc maxL ret :: wsl') (hn : (lg_sl av).length ≤ maxL)
    (body : ∀ (p : Program) (e : Env) (s : State) (m : MethodId) (args : Array Value) (below : List Frame) (meth : Method) (c : Code) (A : Nat → Prop), CallFix p m c cc maxL s args wsl y.cls → meth.sig.returnType = ret → meth.locks = false → (∀ x ∈ c.exceptionTable.toList, False) → xst xSL xNW A s s.heap → ww D ty s A s.heap ws s.heap [] → ∀ ls : Array Slot, lv_has ls maxL (lv_args 0 av) →
      W p l e rm s m args below meth c s.heap [] 0 0 (vx_MQ below (va_Qf post (fun u => wpost D ty A (W' u)) A) (vx_X (fun _ : SX => True) (fun E u t => xp E u ∧ wpost D ty A (WX u) t) A) args s mc ms A) (F0 m 0 ls [])) : XF l y wsl rm av D ty ws sz post W' xp WX mc ms :=
  mk_X (QA := fun A => va_Qf post (fun u => wpost D ty A (W' u)) A) (XA := fun A => vx_X (fun _ : SX => True) (fun E u t => xp E u ∧ wpost D ty A (WX u) t) A) hy hwl hn body
def MD {S : Type} (l : Launch) (y : MethodName) (wsl : List Cond) (rm : Room) (av : List Value) (D : va_G) (ty : List (ClassId × FieldType)) (ws : va_W) (sz : Nat) (post : UInt64 → S → Prop) (W' : S → va_W) (mc ms : Nat) : Prop :=
  Met l y wsl rm (va_Pc av (wpre D ty ws sz)) (va_Qd post (fun u => wpost D ty (va_A ws sz) (W' u)) (va_A ws sz)) mc ms (va_A ws sz)
def XD {S SX : Type} (l : Launch) (y : MethodName) (wsl : List Cond) (rm : Room) (av : List Value) (D : va_G) (ty : List (ClassId × FieldType)) (ws : va_W) (sz : Nat) (post : UInt64 → S → Prop) (W' : S → va_W) (xp : String → SX → Prop) (WX : SX → va_W) (mc ms : Nat) : Prop :=
  vx_Met l y wsl rm (va_Pc av (xpre xSL xNW D ty ws sz)) (va_Qd post (fun u => wpost D ty (va_A ws sz) (W' u)) (va_A ws sz)) (vx_X (fun _ : SX => True) (fun E u t => xp E u ∧ wpost D ty (va_A ws sz) (WX u) t) (va_A ws sz)) mc ms (va_A ws sz)
theorem mk_MD {S : Type} {l : Launch} {y : MethodName} {wsl wsl' : List Cond} {rm : Room} {av : List Value} {D : va_G} {ty : List (ClassId × FieldType)} {ws : va_W} {sz : Nat} {cc : ByteArray} {maxL : Nat} {ret : Option FieldType} {mc ms : Nat} {post : UInt64 → S → Prop} {W' : S → va_W}
    (hy : plainName y.cls = true) (hwl : wsl = Cond.code y cc maxL ret :: wsl') (hn : (lg_sl av).length ≤ maxL)
    (body : ∀ (p : Program) (e : Env) (s : State) (m : MethodId) (args : Array Value) (below : List Frame) (meth : Method) (c : Code) (A : Nat → Prop), CallFix p m c cc maxL s args wsl y.cls → meth.sig.returnType = ret → meth.locks = false → meth.name = y.name → ww D ty s A s.heap ws s.heap [] → ∀ ls : Array Slot, lv_has ls maxL (lv_args 0 av) →
      W p l e rm s m args below meth c s.heap [] 0 0 (MQ below (va_Qd post (fun u => wpost D ty A (W' u)) A) args s mc ms A) (F0 m 0 ls [])) : MD l y wsl rm av D ty ws sz post W' mc ms :=
  mk_M (QA := fun A => va_Qd post (fun u => wpost D ty A (W' u)) A) hy hwl hn body
theorem mk_XD {S SX : Type} {l : Launch} {y : MethodName} {wsl wsl' : List Cond} {rm : Room} {av : List Value} {D : va_G} {ty : List (ClassId × FieldType)} {ws : va_W} {sz : Nat} {cc : ByteArray} {maxL : Nat} {ret : Option FieldType} {mc ms : Nat} {post : UInt64 → S → Prop} {W' : S → va_W} {xp : String → SX → Prop} {WX : SX → va_W}
    (hy : plainName y.cls = true) (hwl : wsl = Cond.code y cc maxL ret :: wsl') (hn : (lg_sl av).length ≤ maxL)
    (body : ∀ (p : Program) (e : Env) (s : State) (m : MethodId) (args : Array Value) (below : List Frame) (meth : Method) (c : Code) (A : Nat → Prop), CallFix p m c cc maxL s args wsl y.cls → meth.sig.returnType = ret → meth.locks = false → (∀ x ∈ c.exceptionTable.toList, False) → xst xSL xNW A s s.heap → ww D ty s A s.heap ws s.heap [] → ∀ ls : Array Slot, lv_has ls maxL (lv_args 0 av) →
      W p l e rm s m args below meth c s.heap [] 0 0 (vx_MQ below (va_Qd post (fun u => wpost D ty A (W' u)) A) (vx_X (fun _ : SX => True) (fun E u t => xp E u ∧ wpost D ty A (WX u) t) A) args s mc ms A) (F0 m 0 ls [])) : XD l y wsl rm av D ty ws sz post W' xp WX mc ms :=
  mk_X (QA := fun A => va_Qd post (fun u => wpost D ty A (W' u)) A) (XA := fun A => vx_X (fun _ : SX => True) (fun E u t => xp E u ∧ wpost D ty A (WX u) t) A) hy hwl hn body
def MV {S : Type} (l : Launch) (y : MethodName) (wsl : List Cond) (rm : Room) (av : List Value) (D : va_G) (ty : List (ClassId × FieldType)) (ws : va_W) (sz : Nat) (post : S → Prop) (W' : S → va_W) (mc ms : Nat) : Prop :=
  Met l y wsl rm (va_Pc av (wpre D ty ws sz)) (va_Qv post (fun u => wpost D ty (va_A ws sz) (W' u)) (va_A ws sz)) mc ms (va_A ws sz)
def XV {S SX : Type} (l : Launch) (y : MethodName) (wsl : List Cond) (rm : Room) (av : List Value) (D : va_G) (ty : List (ClassId × FieldType)) (ws : va_W) (sz : Nat) (post : S → Prop) (W' : S → va_W) (xp : String → SX → Prop) (WX : SX → va_W) (mc ms : Nat) : Prop :=
  vx_Met l y wsl rm (va_Pc av (xpre xSL xNW D ty ws sz)) (va_Qv post (fun u => wpost D ty (va_A ws sz) (W' u)) (va_A ws sz)) (vx_X (fun _ : SX => True) (fun E u t => xp E u ∧ wpost D ty (va_A ws sz) (WX u) t) (va_A ws sz)) mc ms (va_A ws sz)
theorem mk_MV {S : Type} {l : Launch} {y : MethodName} {wsl wsl' : List Cond} {rm : Room} {av : List Value} {D : va_G} {ty : List (ClassId × FieldType)} {ws : va_W} {sz : Nat} {cc : ByteArray} {maxL : Nat} {ret : Option FieldType} {mc ms : Nat} {post : S → Prop} {W' : S → va_W}
    (hy : plainName y.cls = true) (hwl : wsl = Cond.code y cc maxL ret :: wsl') (hn : (lg_sl av).length ≤ maxL)
    (body : ∀ (p : Program) (e : Env) (s : State) (m : MethodId) (args : Array Value) (below : List Frame) (meth : Method) (c : Code) (A : Nat → Prop), CallFix p m c cc maxL s args wsl y.cls → meth.sig.returnType = ret → meth.locks = false → meth.name = y.name → ww D ty s A s.heap ws s.heap [] → ∀ ls : Array Slot, lv_has ls maxL (lv_args 0 av) →
      W p l e rm s m args below meth c s.heap [] 0 0 (MQ below (va_Qv post (fun u => wpost D ty A (W' u)) A) args s mc ms A) (F0 m 0 ls [])) : MV l y wsl rm av D ty ws sz post W' mc ms :=
  mk_M (QA := fun A => va_Qv post (fun u => wpost D ty A (W' u)) A) hy hwl hn body
theorem mk_XV {S SX : Type} {l : Launch} {y : MethodName} {wsl wsl' : List Cond} {rm : Room} {av : List Value} {D : va_G} {ty : List (ClassId × FieldType)} {ws : va_W} {sz : Nat} {cc : ByteArray} {maxL : Nat} {ret : Option FieldType} {mc ms : Nat} {post : S → Prop} {W' : S → va_W} {xp : String → SX → Prop} {WX : SX → va_W}
    (hy : plainName y.cls = true) (hwl : wsl = Cond.code y cc maxL ret :: wsl') (hn : (lg_sl av).length ≤ maxL)
    (body : ∀ (p : Program) (e : Env) (s : State) (m : MethodId) (args : Array Value) (below : List Frame) (meth : Method) (c : Code) (A : Nat → Prop), CallFix p m c cc maxL s args wsl y.cls → meth.sig.returnType = ret → meth.locks = false → (∀ x ∈ c.exceptionTable.toList, False) → xst xSL xNW A s s.heap → ww D ty s A s.heap ws s.heap [] → ∀ ls : Array Slot, lv_has ls maxL (lv_args 0 av) →
      W p l e rm s m args below meth c s.heap [] 0 0 (vx_MQ below (va_Qv post (fun u => wpost D ty A (W' u)) A) (vx_X (fun _ : SX => True) (fun E u t => xp E u ∧ wpost D ty A (WX u) t) A) args s mc ms A) (F0 m 0 ls [])) : XV l y wsl rm av D ty ws sz post W' xp WX mc ms :=
  mk_X (QA := fun A => va_Qv post (fun u => wpost D ty A (W' u)) A) (XA := fun A => vx_X (fun _ : SX => True) (fun E u t => xp E u ∧ wpost D ty A (WX u) t) A) hy hwl hn body

section INFE
variable {p : Program} {l : Launch} {e : Env} {R : Room} {s : State} {m : MethodId} {args : Array Value} {below : List Frame} {meth : Method} {c : Code} {H : Heap} {locs : List Loc} {cells slots : Nat} {Q : State → Prop}
variable {pc : Nat} {ls : Array Slot} {rest : List Value} {cc : ByteArray} {nL : Nat} {Ts : List Cond} {own : String} {D : va_G} {ty : List (ClassId × FieldType)} {A : Nat → Prop} {H0 : Heap} {ws : va_W} {a : Nat}

theorem r_reti {S : Type} {post : Int32 → S → Prop} {W' : S → va_W} {v : Int32} {mc ms : Nat} (cx : CallFix p m c cc nL s args Ts own) {rt : FieldType} (hr : meth.sig.returnType = some rt) (hnar : narrow rt (.int v) = .int v) (hlk : meth.locks = false) (hw : ww D ty s A s.heap ws H locs) (hc : cells ≤ mc) (hs : slots ≤ ms) (u : S) (hp : post v u) (is : List Nat) (hn : va_nd is = true) (hm : is.map (fun i => ws[i]?) = (W' u).map some) (hdg : decode cc pc = .ok (.ireturn, 1)) :
    W p l e R s m args below meth c H locs cells slots (MQ below (va_Qi post (fun u => wpost D ty A (W' u)) A) args s mc ms A) (F0 m pc ls [.int v]) := by
  have hw' := hw.pick is hn hm
  refine W.widen (k := mc) (n := ms) hc hs ?_
  exact W.zret (v := v) cx.1 cx.2.1 hr hnar (fun t ht hW => ⟨⟨v, u, rfl, hp, by rw [ht]; exact hw'.1, va_K.moved hW.alike hw'.2.1, hw'.2.2.1⟩, hw.2.2.2.1.F ht⟩) hw.2.2.2.1.2.2 hdg hlk

theorem r_retl {S : Type} {post : Int64 → S → Prop} {W' : S → va_W} {v : Int64} {mc ms : Nat} (cx : CallFix p m c cc nL s args Ts own) (hr : meth.sig.returnType = (some .long)) (hlk : meth.locks = false) (hw : ww D ty s A s.heap ws H locs) (hc : cells ≤ mc) (hs : slots ≤ ms) (u : S) (hp : post v u) (is : List Nat) (hn : va_nd is = true) (hm : is.map (fun i => ws[i]?) = (W' u).map some) (hdg : decode cc pc = .ok (.lreturn, 1)) :
    W p l e R s m args below meth c H locs cells slots (MQ below (va_Ql post (fun u => wpost D ty A (W' u)) A) args s mc ms A) (F0 m pc ls [.long v]) := by
  have hw' := hw.pick is hn hm
  refine W.widen (k := mc) (n := ms) hc hs ?_
  exact W.lret (v := v) cx.1 cx.2.1 hr (fun t ht hW => ⟨⟨v, u, rfl, hp, by rw [ht]; exact hw'.1, va_K.moved hW.alike hw'.2.1, hw'.2.2.1⟩, hw.2.2.2.1.F ht⟩) hw.2.2.2.1.2.2 hdg hlk

theorem r_retf {S : Type} {post : UInt32 → S → Prop} {W' : S → va_W} {v : UInt32} {mc ms : Nat} (cx : CallFix p m c cc nL s args Ts own) (hr : meth.sig.returnType = (some .float)) (hlk : meth.locks = false) (hw : ww D ty s A s.heap ws H locs) (hc : cells ≤ mc) (hs : slots ≤ ms) (u : S) (hp : post v u) (is : List Nat) (hn : va_nd is = true) (hm : is.map (fun i => ws[i]?) = (W' u).map some) (hdg : decode cc pc = .ok (.freturn, 1)) :
    W p l e R s m args below meth c H locs cells slots (MQ below (va_Qf post (fun u => wpost D ty A (W' u)) A) args s mc ms A) (F0 m pc ls [.float v]) := by
  have hw' := hw.pick is hn hm
  refine W.widen (k := mc) (n := ms) hc hs ?_
  exact W.fret (v := v) cx.1 cx.2.1 hr (fun t ht hW => ⟨⟨v, u, rfl, hp, by rw [ht]; exact hw'.1, va_K.moved hW.alike hw'.2.1, hw'.2.2.1⟩, hw.2.2.2.1.F ht⟩) hw.2.2.2.1.2.2 hdg hlk

theorem r_retd {S : Type} {post : UInt64 → S → Prop} {W' : S → va_W} {v : UInt64} {mc ms : Nat} (cx : CallFix p m c cc nL s args Ts own) (hr : meth.sig.returnType = (some .double)) (hlk : meth.locks = false) (hw : ww D ty s A s.heap ws H locs) (hc : cells ≤ mc) (hs : slots ≤ ms) (u : S) (hp : post v u) (is : List Nat) (hn : va_nd is = true) (hm : is.map (fun i => ws[i]?) = (W' u).map some) (hdg : decode cc pc = .ok (.dreturn, 1)) :
    W p l e R s m args below meth c H locs cells slots (MQ below (va_Qd post (fun u => wpost D ty A (W' u)) A) args s mc ms A) (F0 m pc ls [.double v]) := by
  have hw' := hw.pick is hn hm
  refine W.widen (k := mc) (n := ms) hc hs ?_
  exact W.dret (v := v) cx.1 cx.2.1 hr (fun t ht hW => ⟨⟨v, u, rfl, hp, by rw [ht]; exact hw'.1, va_K.moved hW.alike hw'.2.1, hw'.2.2.1⟩, hw.2.2.2.1.F ht⟩) hw.2.2.2.1.2.2 hdg hlk

theorem r_retv {S : Type} {post : S → Prop} {W' : S → va_W} {mc ms : Nat} (cx : CallFix p m c cc nL s args Ts own) (hr : meth.sig.returnType = none) (hlk : meth.locks = false) (hw : ww D ty s A s.heap ws H locs) (hc : cells ≤ mc) (hs : slots ≤ ms) (u : S) (hp : post u) (is : List Nat) (hn : va_nd is = true) (hm : is.map (fun i => ws[i]?) = (W' u).map some) (hdg : decode cc pc = .ok (.return_, 1)) :
    W p l e R s m args below meth c H locs cells slots (MQ below (va_Qv post (fun u => wpost D ty A (W' u)) A) args s mc ms A) (F0 m pc ls []) := by
  have hw' := hw.pick is hn hm
  refine W.widen (k := mc) (n := ms) hc hs ?_
  exact W.vret cx.1 cx.2.1 hr (fun t ht hW => ⟨⟨u, rfl, hp, by rw [ht]; exact hw'.1, va_K.moved hW.alike hw'.2.1, hw'.2.2.1⟩, hw.2.2.2.1.F ht⟩) hw.2.2.2.1.2.2 hdg hlk

theorem r_callVi {S : Type} {post : Int32 → S → Prop} {W' : S → va_W} {wc wr : va_W} {y : MethodName} {wsl wsl' : List Cond} {rm : Room} {bytes : ByteArray} {maxL index n mc ms : Nat} {ret : Option FieldType} {C : String} {ci q0 : Nat} {fs : List Value} {T : u_T} {N : Nat} {As st0 : List Value}
    (cx : CallFix p m c cc nL s args Ts own) (hw : ww D ty s A H0 ws H locs)
    (hM : MI l y wsl rm (.ref a :: As) D ty wc H.size post W' mc ms)
    (isC isR : List Nat) (hT : GoodIn Ts (wsV own index C y wsl)) (hcd : wsl = Cond.code y bytes maxL ret :: wsl') (hrc : rm.cells = mc) (hrs : rm.slots = ms) (hd : y.cls = C ∧ y.cls ≠ "java/lang/invoke/MethodHandle" ∧ y.cls ≠ "java/lang/invoke/VarHandle" ∧ (parseMethodDescriptor y.desc).map (fun d => d.parameters.length) = some n) (hRm : rm.frames + 1 ≤ R.frames ∧ 8 + (maxL + 11) + rm.locals ≤ R.locals)
    (he : ws[q0]? = some (a, .inr (ci, fs))) (hcl : vwCl[ci]? = some (C, T, N)) (hC : isC.map (fun i => ws[i]?) = wc.map some) (hR : isR.map (fun i => ws[i]?) = wr.map some) (hnC : va_nd isC = true) (hnR : va_nd isR = true) (hdis : ∀ i ∈ isR, i ∉ isC)
    (hn : As.length = n) (hst : st0 = As.reverse ++ .ref a :: rest) (hsz : ls.size = nL) (hcat : (rest.map fun v => v.category).sum ≤ 8) (hdg : decode cc pc = .ok (.invokevirtual index, 3)) (hf : cells + mc ≤ R.cells ∧ slots + ms ≤ R.slots)
    (kk : ∀ (r : Int32) (u : S) (H1 : Heap) (locs1 : List Loc), post r u → ww D ty s A H0 (wr ++ W' u) H1 locs1 → W p l e R s m args below meth c H1 locs1 (cells + mc) (slots + ms) Q (F0 m (pc + 3) ls (.int r :: rest))) :
    W p l e R s m args below meth c H locs cells slots Q (F0 m pc ls st0) := by
  have hwc := hw.pick isC hnC hC
  have hFc := va_free (wc := wc) hw.2.2.1 hw.2.2.2.1 hw.2.2.2.2 isC hC
  refine va_calli (va_runV (As := As) (rest := rest) cx hM (cwV n cx.2.2.2.2 hT hcd hrc hrs hd hRm) ⟨wpre_blind, va_recv hw.2.1 hw.1 hcl he, fun U hU hW => ⟨rfl, by rw [hU], by rw [hU]; exact hwc.1, va_K.moved hW.alike hw.2.1, hwc.2.2.1.weaken (fun _ _ _ _ => trivial)⟩⟩ rfl hn hsz hst (lv_room hcat) hdg hf) hw.2.2.2.1 (fun q _ h => hFc q h) hFc (fun r u t H1 locs1 ht hvm hp hB hz1 hk1 hS => ?_)
  obtain ⟨hP1, hK1, hD1⟩ := hB
  rw [ht] at hP1
  obtain ⟨hP, hD⟩ := va_join (wr := wr) (w1 := W' u) hw.1 hw.2.2.1 isC isR hC hR hnR hdis hk1 hFc hP1 hD1
  exact kk r u H1 locs1 hp ⟨hP, hw.2.1, hD, hS, hw.2.2.2.2⟩

theorem r_callVl {S : Type} {post : Int64 → S → Prop} {W' : S → va_W} {wc wr : va_W} {y : MethodName} {wsl wsl' : List Cond} {rm : Room} {bytes : ByteArray} {maxL index n mc ms : Nat} {ret : Option FieldType} {C : String} {ci q0 : Nat} {fs : List Value} {T : u_T} {N : Nat} {As st0 : List Value}
    (cx : CallFix p m c cc nL s args Ts own) (hw : ww D ty s A H0 ws H locs)
    (hM : ML l y wsl rm (.ref a :: As) D ty wc H.size post W' mc ms)
    (isC isR : List Nat) (hT : GoodIn Ts (wsV own index C y wsl)) (hcd : wsl = Cond.code y bytes maxL ret :: wsl') (hrc : rm.cells = mc) (hrs : rm.slots = ms) (hd : y.cls = C ∧ y.cls ≠ "java/lang/invoke/MethodHandle" ∧ y.cls ≠ "java/lang/invoke/VarHandle" ∧ (parseMethodDescriptor y.desc).map (fun d => d.parameters.length) = some n) (hRm : rm.frames + 1 ≤ R.frames ∧ 8 + (maxL + 11) + rm.locals ≤ R.locals)
    (he : ws[q0]? = some (a, .inr (ci, fs))) (hcl : vwCl[ci]? = some (C, T, N)) (hC : isC.map (fun i => ws[i]?) = wc.map some) (hR : isR.map (fun i => ws[i]?) = wr.map some) (hnC : va_nd isC = true) (hnR : va_nd isR = true) (hdis : ∀ i ∈ isR, i ∉ isC)
    (hn : As.length = n) (hst : st0 = As.reverse ++ .ref a :: rest) (hsz : ls.size = nL) (hcat : (rest.map fun v => v.category).sum ≤ 8) (hdg : decode cc pc = .ok (.invokevirtual index, 3)) (hf : cells + mc ≤ R.cells ∧ slots + ms ≤ R.slots)
    (kk : ∀ (r : Int64) (u : S) (H1 : Heap) (locs1 : List Loc), post r u → ww D ty s A H0 (wr ++ W' u) H1 locs1 → W p l e R s m args below meth c H1 locs1 (cells + mc) (slots + ms) Q (F0 m (pc + 3) ls (.long r :: rest))) :
    W p l e R s m args below meth c H locs cells slots Q (F0 m pc ls st0) := by
  have hwc := hw.pick isC hnC hC
  have hFc := va_free (wc := wc) hw.2.2.1 hw.2.2.2.1 hw.2.2.2.2 isC hC
  refine va_calll (va_runV (As := As) (rest := rest) cx hM (cwV n cx.2.2.2.2 hT hcd hrc hrs hd hRm) ⟨wpre_blind, va_recv hw.2.1 hw.1 hcl he, fun U hU hW => ⟨rfl, by rw [hU], by rw [hU]; exact hwc.1, va_K.moved hW.alike hw.2.1, hwc.2.2.1.weaken (fun _ _ _ _ => trivial)⟩⟩ rfl hn hsz hst (lv_room hcat) hdg hf) hw.2.2.2.1 (fun q _ h => hFc q h) hFc (fun r u t H1 locs1 ht hvm hp hB hz1 hk1 hS => ?_)
  obtain ⟨hP1, hK1, hD1⟩ := hB
  rw [ht] at hP1
  obtain ⟨hP, hD⟩ := va_join (wr := wr) (w1 := W' u) hw.1 hw.2.2.1 isC isR hC hR hnR hdis hk1 hFc hP1 hD1
  exact kk r u H1 locs1 hp ⟨hP, hw.2.1, hD, hS, hw.2.2.2.2⟩

theorem r_callVf {S : Type} {post : UInt32 → S → Prop} {W' : S → va_W} {wc wr : va_W} {y : MethodName} {wsl wsl' : List Cond} {rm : Room} {bytes : ByteArray} {maxL index n mc ms : Nat} {ret : Option FieldType} {C : String} {ci q0 : Nat} {fs : List Value} {T : u_T} {N : Nat} {As st0 : List Value}
    (cx : CallFix p m c cc nL s args Ts own) (hw : ww D ty s A H0 ws H locs)
    (hM : MF l y wsl rm (.ref a :: As) D ty wc H.size post W' mc ms)
    (isC isR : List Nat) (hT : GoodIn Ts (wsV own index C y wsl)) (hcd : wsl = Cond.code y bytes maxL ret :: wsl') (hrc : rm.cells = mc) (hrs : rm.slots = ms) (hd : y.cls = C ∧ y.cls ≠ "java/lang/invoke/MethodHandle" ∧ y.cls ≠ "java/lang/invoke/VarHandle" ∧ (parseMethodDescriptor y.desc).map (fun d => d.parameters.length) = some n) (hRm : rm.frames + 1 ≤ R.frames ∧ 8 + (maxL + 11) + rm.locals ≤ R.locals)
    (he : ws[q0]? = some (a, .inr (ci, fs))) (hcl : vwCl[ci]? = some (C, T, N)) (hC : isC.map (fun i => ws[i]?) = wc.map some) (hR : isR.map (fun i => ws[i]?) = wr.map some) (hnC : va_nd isC = true) (hnR : va_nd isR = true) (hdis : ∀ i ∈ isR, i ∉ isC)
    (hn : As.length = n) (hst : st0 = As.reverse ++ .ref a :: rest) (hsz : ls.size = nL) (hcat : (rest.map fun v => v.category).sum ≤ 8) (hdg : decode cc pc = .ok (.invokevirtual index, 3)) (hf : cells + mc ≤ R.cells ∧ slots + ms ≤ R.slots)
    (kk : ∀ (r : UInt32) (u : S) (H1 : Heap) (locs1 : List Loc), post r u → ww D ty s A H0 (wr ++ W' u) H1 locs1 → W p l e R s m args below meth c H1 locs1 (cells + mc) (slots + ms) Q (F0 m (pc + 3) ls (.float r :: rest))) :
    W p l e R s m args below meth c H locs cells slots Q (F0 m pc ls st0) := by
  have hwc := hw.pick isC hnC hC
  have hFc := va_free (wc := wc) hw.2.2.1 hw.2.2.2.1 hw.2.2.2.2 isC hC
  refine va_callf (va_runV (As := As) (rest := rest) cx hM (cwV n cx.2.2.2.2 hT hcd hrc hrs hd hRm) ⟨wpre_blind, va_recv hw.2.1 hw.1 hcl he, fun U hU hW => ⟨rfl, by rw [hU], by rw [hU]; exact hwc.1, va_K.moved hW.alike hw.2.1, hwc.2.2.1.weaken (fun _ _ _ _ => trivial)⟩⟩ rfl hn hsz hst (lv_room hcat) hdg hf) hw.2.2.2.1 (fun q _ h => hFc q h) hFc (fun r u t H1 locs1 ht hvm hp hB hz1 hk1 hS => ?_)
  obtain ⟨hP1, hK1, hD1⟩ := hB
  rw [ht] at hP1
  obtain ⟨hP, hD⟩ := va_join (wr := wr) (w1 := W' u) hw.1 hw.2.2.1 isC isR hC hR hnR hdis hk1 hFc hP1 hD1
  exact kk r u H1 locs1 hp ⟨hP, hw.2.1, hD, hS, hw.2.2.2.2⟩

theorem r_callVd {S : Type} {post : UInt64 → S → Prop} {W' : S → va_W} {wc wr : va_W} {y : MethodName} {wsl wsl' : List Cond} {rm : Room} {bytes : ByteArray} {maxL index n mc ms : Nat} {ret : Option FieldType} {C : String} {ci q0 : Nat} {fs : List Value} {T : u_T} {N : Nat} {As st0 : List Value}
    (cx : CallFix p m c cc nL s args Ts own) (hw : ww D ty s A H0 ws H locs)
    (hM : MD l y wsl rm (.ref a :: As) D ty wc H.size post W' mc ms)
    (isC isR : List Nat) (hT : GoodIn Ts (wsV own index C y wsl)) (hcd : wsl = Cond.code y bytes maxL ret :: wsl') (hrc : rm.cells = mc) (hrs : rm.slots = ms) (hd : y.cls = C ∧ y.cls ≠ "java/lang/invoke/MethodHandle" ∧ y.cls ≠ "java/lang/invoke/VarHandle" ∧ (parseMethodDescriptor y.desc).map (fun d => d.parameters.length) = some n) (hRm : rm.frames + 1 ≤ R.frames ∧ 8 + (maxL + 11) + rm.locals ≤ R.locals)
    (he : ws[q0]? = some (a, .inr (ci, fs))) (hcl : vwCl[ci]? = some (C, T, N)) (hC : isC.map (fun i => ws[i]?) = wc.map some) (hR : isR.map (fun i => ws[i]?) = wr.map some) (hnC : va_nd isC = true) (hnR : va_nd isR = true) (hdis : ∀ i ∈ isR, i ∉ isC)
    (hn : As.length = n) (hst : st0 = As.reverse ++ .ref a :: rest) (hsz : ls.size = nL) (hcat : (rest.map fun v => v.category).sum ≤ 8) (hdg : decode cc pc = .ok (.invokevirtual index, 3)) (hf : cells + mc ≤ R.cells ∧ slots + ms ≤ R.slots)
    (kk : ∀ (r : UInt64) (u : S) (H1 : Heap) (locs1 : List Loc), post r u → ww D ty s A H0 (wr ++ W' u) H1 locs1 → W p l e R s m args below meth c H1 locs1 (cells + mc) (slots + ms) Q (F0 m (pc + 3) ls (.double r :: rest))) :
    W p l e R s m args below meth c H locs cells slots Q (F0 m pc ls st0) := by
  have hwc := hw.pick isC hnC hC
  have hFc := va_free (wc := wc) hw.2.2.1 hw.2.2.2.1 hw.2.2.2.2 isC hC
  refine va_calld (va_runV (As := As) (rest := rest) cx hM (cwV n cx.2.2.2.2 hT hcd hrc hrs hd hRm) ⟨wpre_blind, va_recv hw.2.1 hw.1 hcl he, fun U hU hW => ⟨rfl, by rw [hU], by rw [hU]; exact hwc.1, va_K.moved hW.alike hw.2.1, hwc.2.2.1.weaken (fun _ _ _ _ => trivial)⟩⟩ rfl hn hsz hst (lv_room hcat) hdg hf) hw.2.2.2.1 (fun q _ h => hFc q h) hFc (fun r u t H1 locs1 ht hvm hp hB hz1 hk1 hS => ?_)
  obtain ⟨hP1, hK1, hD1⟩ := hB
  rw [ht] at hP1
  obtain ⟨hP, hD⟩ := va_join (wr := wr) (w1 := W' u) hw.1 hw.2.2.1 isC isR hC hR hnR hdis hk1 hFc hP1 hD1
  exact kk r u H1 locs1 hp ⟨hP, hw.2.1, hD, hS, hw.2.2.2.2⟩

theorem r_callVv {S : Type} {post : S → Prop} {W' : S → va_W} {wc wr : va_W} {y : MethodName} {wsl wsl' : List Cond} {rm : Room} {bytes : ByteArray} {maxL index n mc ms : Nat} {ret : Option FieldType} {C : String} {ci q0 : Nat} {fs : List Value} {T : u_T} {N : Nat} {As st0 : List Value}
    (cx : CallFix p m c cc nL s args Ts own) (hw : ww D ty s A H0 ws H locs)
    (hM : MV l y wsl rm (.ref a :: As) D ty wc H.size post W' mc ms)
    (isC isR : List Nat) (hT : GoodIn Ts (wsV own index C y wsl)) (hcd : wsl = Cond.code y bytes maxL ret :: wsl') (hrc : rm.cells = mc) (hrs : rm.slots = ms) (hd : y.cls = C ∧ y.cls ≠ "java/lang/invoke/MethodHandle" ∧ y.cls ≠ "java/lang/invoke/VarHandle" ∧ (parseMethodDescriptor y.desc).map (fun d => d.parameters.length) = some n) (hRm : rm.frames + 1 ≤ R.frames ∧ 8 + (maxL + 11) + rm.locals ≤ R.locals)
    (he : ws[q0]? = some (a, .inr (ci, fs))) (hcl : vwCl[ci]? = some (C, T, N)) (hC : isC.map (fun i => ws[i]?) = wc.map some) (hR : isR.map (fun i => ws[i]?) = wr.map some) (hnC : va_nd isC = true) (hnR : va_nd isR = true) (hdis : ∀ i ∈ isR, i ∉ isC)
    (hn : As.length = n) (hst : st0 = As.reverse ++ .ref a :: rest) (hsz : ls.size = nL) (hcat : (rest.map fun v => v.category).sum ≤ 8) (hdg : decode cc pc = .ok (.invokevirtual index, 3)) (hf : cells + mc ≤ R.cells ∧ slots + ms ≤ R.slots)
    (kk : ∀ (u : S) (H1 : Heap) (locs1 : List Loc), post u → ww D ty s A H0 (wr ++ W' u) H1 locs1 → W p l e R s m args below meth c H1 locs1 (cells + mc) (slots + ms) Q (F0 m (pc + 3) ls rest)) :
    W p l e R s m args below meth c H locs cells slots Q (F0 m pc ls st0) := by
  have hwc := hw.pick isC hnC hC
  have hFc := va_free (wc := wc) hw.2.2.1 hw.2.2.2.1 hw.2.2.2.2 isC hC
  refine va_callv (va_runV (As := As) (rest := rest) cx hM (cwV n cx.2.2.2.2 hT hcd hrc hrs hd hRm) ⟨wpre_blind, va_recv hw.2.1 hw.1 hcl he, fun U hU hW => ⟨rfl, by rw [hU], by rw [hU]; exact hwc.1, va_K.moved hW.alike hw.2.1, hwc.2.2.1.weaken (fun _ _ _ _ => trivial)⟩⟩ rfl hn hsz hst (lv_room hcat) hdg hf) hw.2.2.2.1 (fun q _ h => hFc q h) hFc (fun u t H1 locs1 ht hvm hp hB hz1 hk1 hS => ?_)
  obtain ⟨hP1, hK1, hD1⟩ := hB
  rw [ht] at hP1
  obtain ⟨hP, hD⟩ := va_join (wr := wr) (w1 := W' u) hw.1 hw.2.2.1 isC isR hC hR hnR hdis hk1 hFc hP1 hD1
  exact kk u H1 locs1 hp ⟨hP, hw.2.1, hD, hS, hw.2.2.2.2⟩

theorem r_callSi {S : Type} {post : Int32 → S → Prop} {W' : S → va_W} {wc wr : va_W} {y : MethodName} {wsl wsl' : List Cond} {rm : Room} {bytes : ByteArray} {maxL index n mc ms : Nat} {ret : Option FieldType} {As st0 : List Value}
    (cx : CallFix p m c cc nL s args Ts own) (hw : ww D ty s A H0 ws H locs)
    (hM : MI l y wsl rm As D ty wc H.size post W' mc ms)
    (isC isR : List Nat) (hT : GoodIn Ts (va_wsS own index y wsl)) (hcd : wsl = Cond.code y bytes maxL ret :: wsl') (hrc : rm.cells = mc) (hrs : rm.slots = ms) (hd : y.cls ≠ "java/lang/invoke/MethodHandle" ∧ y.cls ≠ "java/lang/invoke/VarHandle" ∧ (parseMethodDescriptor y.desc).map (fun d => d.parameters.length) = some n) (hRm : rm.frames + 1 ≤ R.frames ∧ 8 + (maxL + 11) + rm.locals ≤ R.locals)
    (hC : isC.map (fun i => ws[i]?) = wc.map some) (hR : isR.map (fun i => ws[i]?) = wr.map some) (hnC : va_nd isC = true) (hnR : va_nd isR = true) (hdis : ∀ i ∈ isR, i ∉ isC)
    (hn : As.length = n) (hst : st0 = As.reverse ++ rest) (hsz : ls.size = nL) (hcat : (rest.map fun v => v.category).sum ≤ 8) (hdg : decode cc pc = .ok (.invokestatic index, 3)) (hf : cells + mc ≤ R.cells ∧ slots + ms ≤ R.slots)
    (kk : ∀ (r : Int32) (u : S) (H1 : Heap) (locs1 : List Loc), post r u → ww D ty s A H0 (wr ++ W' u) H1 locs1 → W p l e R s m args below meth c H1 locs1 (cells + mc) (slots + ms) Q (F0 m (pc + 3) ls (.int r :: rest))) :
    W p l e R s m args below meth c H locs cells slots Q (F0 m pc ls st0) := by
  have hwc := hw.pick isC hnC hC
  have hFc := va_free (wc := wc) hw.2.2.1 hw.2.2.2.1 hw.2.2.2.2 isC hC
  refine va_calli (va_runS (As := As) (rest := rest) cx hM (va_cwS n cx.2.2.2.2 hT hcd hrc hrs hd hRm) ⟨wpre_blind, fun U hU hW => ⟨rfl, by rw [hU], by rw [hU]; exact hwc.1, va_K.moved hW.alike hw.2.1, hwc.2.2.1.weaken (fun _ _ _ _ => trivial)⟩⟩ rfl hn hsz hst (lv_room hcat) hdg hf) hw.2.2.2.1 (fun q _ h => hFc q h) hFc (fun r u t H1 locs1 ht hvm hp hB hz1 hk1 hS => ?_)
  obtain ⟨hP1, hK1, hD1⟩ := hB
  rw [ht] at hP1
  obtain ⟨hP, hD⟩ := va_join (wr := wr) (w1 := W' u) hw.1 hw.2.2.1 isC isR hC hR hnR hdis hk1 hFc hP1 hD1
  exact kk r u H1 locs1 hp ⟨hP, hw.2.1, hD, hS, hw.2.2.2.2⟩

theorem r_callSv {S : Type} {post : S → Prop} {W' : S → va_W} {wc wr : va_W} {y : MethodName} {wsl wsl' : List Cond} {rm : Room} {bytes : ByteArray} {maxL index n mc ms : Nat} {ret : Option FieldType} {As st0 : List Value}
    (cx : CallFix p m c cc nL s args Ts own) (hw : ww D ty s A H0 ws H locs)
    (hM : MV l y wsl rm As D ty wc H.size post W' mc ms)
    (isC isR : List Nat) (hT : GoodIn Ts (va_wsS own index y wsl)) (hcd : wsl = Cond.code y bytes maxL ret :: wsl') (hrc : rm.cells = mc) (hrs : rm.slots = ms) (hd : y.cls ≠ "java/lang/invoke/MethodHandle" ∧ y.cls ≠ "java/lang/invoke/VarHandle" ∧ (parseMethodDescriptor y.desc).map (fun d => d.parameters.length) = some n) (hRm : rm.frames + 1 ≤ R.frames ∧ 8 + (maxL + 11) + rm.locals ≤ R.locals)
    (hC : isC.map (fun i => ws[i]?) = wc.map some) (hR : isR.map (fun i => ws[i]?) = wr.map some) (hnC : va_nd isC = true) (hnR : va_nd isR = true) (hdis : ∀ i ∈ isR, i ∉ isC)
    (hn : As.length = n) (hst : st0 = As.reverse ++ rest) (hsz : ls.size = nL) (hcat : (rest.map fun v => v.category).sum ≤ 8) (hdg : decode cc pc = .ok (.invokestatic index, 3)) (hf : cells + mc ≤ R.cells ∧ slots + ms ≤ R.slots)
    (kk : ∀ (u : S) (H1 : Heap) (locs1 : List Loc), post u → ww D ty s A H0 (wr ++ W' u) H1 locs1 → W p l e R s m args below meth c H1 locs1 (cells + mc) (slots + ms) Q (F0 m (pc + 3) ls rest)) :
    W p l e R s m args below meth c H locs cells slots Q (F0 m pc ls st0) := by
  have hwc := hw.pick isC hnC hC
  have hFc := va_free (wc := wc) hw.2.2.1 hw.2.2.2.1 hw.2.2.2.2 isC hC
  refine va_callv (va_runS (As := As) (rest := rest) cx hM (va_cwS n cx.2.2.2.2 hT hcd hrc hrs hd hRm) ⟨wpre_blind, fun U hU hW => ⟨rfl, by rw [hU], by rw [hU]; exact hwc.1, va_K.moved hW.alike hw.2.1, hwc.2.2.1.weaken (fun _ _ _ _ => trivial)⟩⟩ rfl hn hsz hst (lv_room hcat) hdg hf) hw.2.2.2.1 (fun q _ h => hFc q h) hFc (fun u t H1 locs1 ht hvm hp hB hz1 hk1 hS => ?_)
  obtain ⟨hP1, hK1, hD1⟩ := hB
  rw [ht] at hP1
  obtain ⟨hP, hD⟩ := va_join (wr := wr) (w1 := W' u) hw.1 hw.2.2.1 isC isR hC hR hnR hdis hk1 hFc hP1 hD1
  exact kk u H1 locs1 hp ⟨hP, hw.2.1, hD, hS, hw.2.2.2.2⟩

theorem r_callIv {S : Type} {post : S → Prop} {W' : S → va_W} {wc wr : va_W} {y : MethodName} {wsl wsl' : List Cond} {rm : Room} {bytes : ByteArray} {maxL index n mc ms : Nat} {As st0 : List Value}
    (cx : CallFix p m c cc nL s args Ts own) (hw : ww D ty s A H0 ws H locs)
    (hM : MV l y wsl rm (.ref a :: As) D ty wc H.size post W' mc ms)
    (isC isR : List Nat) (hT : GoodIn Ts wsl) (hini : Cond.initialized y.cls ∈ Ts) (hlk9 : Cond.methodLink own index y ∈ Ts) (hin9 : Cond.instanceMethod y ∈ Ts) (hy1 : y.name = "<init>") (hcd : wsl = Cond.code y bytes maxL none :: wsl') (hrc : rm.cells = mc) (hrs : rm.slots = ms) (hd : y.cls ≠ "java/lang/invoke/MethodHandle" ∧ y.cls ≠ "java/lang/invoke/VarHandle" ∧ (parseMethodDescriptor y.desc).map (fun d => d.parameters.length) = some n) (hRm : rm.frames + 1 ≤ R.frames ∧ 8 + (maxL + 11) + rm.locals ≤ R.locals)
    (hC : isC.map (fun i => ws[i]?) = wc.map some) (hR : isR.map (fun i => ws[i]?) = wr.map some) (hnC : va_nd isC = true) (hnR : va_nd isR = true) (hdis : ∀ i ∈ isR, i ∉ isC)
    (hn : As.length = n) (hst : st0 = As.reverse ++ .ref a :: rest) (hsz : ls.size = nL) (hcat : (rest.map fun v => v.category).sum ≤ 8) (hdg : decode cc pc = .ok (.invokespecial index, 3)) (hf : cells + mc ≤ R.cells ∧ slots + ms ≤ R.slots)
    (kk : ∀ (u : S) (H1 : Heap) (locs1 : List Loc), post u → ww D ty s A H0 (wr ++ W' u) H1 locs1 → W p l e R s m args below meth c H1 locs1 (cells + mc) (slots + ms) Q (F0 m (pc + 3) ls rest)) :
    W p l e R s m args below meth c H locs cells slots Q (F0 m pc ls st0) := by
  have hwc := hw.pick isC hnC hC
  have hFc := va_free (wc := wc) hw.2.2.1 hw.2.2.2.1 hw.2.2.2.2 isC hC
  refine va_callv (va_runI (As := As) (rest := rest) cx hM (cwI n cx.2.2.2.2 hT hcd hrc hrs (cx.2.2.2.2 _ hini) (cx.2.2.2.2 _ hlk9) (cx.2.2.2.2 _ hin9) hy1 hd hRm) ⟨wpre_blind, fun U hU hW => ⟨rfl, by rw [hU], by rw [hU]; exact hwc.1, va_K.moved hW.alike hw.2.1, hwc.2.2.1.weaken (fun _ _ _ _ => trivial)⟩⟩ rfl hn hsz hst (lv_room hcat) hdg hf) hw.2.2.2.1 (fun q _ h => hFc q h) hFc (fun u t H1 locs1 ht hvm hp hB hz1 hk1 hS => ?_)
  obtain ⟨hP1, hK1, hD1⟩ := hB
  rw [ht] at hP1
  obtain ⟨hP, hD⟩ := va_join (wr := wr) (w1 := W' u) hw.1 hw.2.2.1 isC isR hC hR hnR hdis hk1 hFc hP1 hD1
  exact kk u H1 locs1 hp ⟨hP, hw.2.1, hD, hS, hw.2.2.2.2⟩

theorem r_xcallVi {S : Type} {SX : Type} {xp : String → SX → Prop} {WX : SX → va_W} {post : Int32 → S → Prop} {W' : S → va_W} {wc wr : va_W} {y : MethodName} {wsl wsl' : List Cond} {rm : Room} {bytes : ByteArray} {maxL index n mc ms : Nat} {ret : Option FieldType} {C : String} {ci q0 : Nat} {fs : List Value} {T : u_T} {N : Nat} {As st0 : List Value}
    (cx : CallFix p m c cc nL s args Ts own) (hx0 : xst xSL xNW A s H0) (hw : ww D ty s A H0 ws H locs)
    (hM : XI l y wsl rm (.ref a :: As) D ty wc H.size post W' xp WX mc ms)
    (isC isR : List Nat) (hT : GoodIn Ts (wsV own index C y wsl)) (hcd : wsl = Cond.code y bytes maxL ret :: wsl') (hrc : rm.cells = mc) (hrs : rm.slots = ms) (hd : y.cls = C ∧ y.cls ≠ "java/lang/invoke/MethodHandle" ∧ y.cls ≠ "java/lang/invoke/VarHandle" ∧ (parseMethodDescriptor y.desc).map (fun d => d.parameters.length) = some n) (hRm : rm.frames + 1 ≤ R.frames ∧ 8 + (maxL + 11) + rm.locals ≤ R.locals)
    (he : ws[q0]? = some (a, .inr (ci, fs))) (hcl : vwCl[ci]? = some (C, T, N)) (hC : isC.map (fun i => ws[i]?) = wc.map some) (hR : isR.map (fun i => ws[i]?) = wr.map some) (hnC : va_nd isC = true) (hnR : va_nd isR = true) (hdis : ∀ i ∈ isR, i ∉ isC)
    (hn : As.length = n) (hst : st0 = As.reverse ++ .ref a :: rest) (hsz : ls.size = nL) (hcat : (rest.map fun v => v.category).sum ≤ 8) (hdg : decode cc pc = .ok (.invokevirtual index, 3)) (hf : cells + mc ≤ R.cells ∧ slots + ms ≤ R.slots)
    (kx : ∀ (E : String) (ce : Cell) (q9 : Nat) (u : SX) (H1 : Heap) (locs1 : List Loc), xp E u → ww D ty s A H0 (wr ++ WX u) H1 locs1 → H1[q9]? = some ce → ce.vm = .none → s.vm.findClass E = some ce.cls → vx_W p l e R s m args below meth c H1 locs1 (cells + mc) (slots + ms) Q (F0 m pc ls rest) q9)
    (kk : ∀ (r : Int32) (u : S) (H1 : Heap) (locs1 : List Loc), post r u → ww D ty s A H0 (wr ++ W' u) H1 locs1 → W p l e R s m args below meth c H1 locs1 (cells + mc) (slots + ms) Q (F0 m (pc + 3) ls (.int r :: rest))) :
    W p l e R s m args below meth c H locs cells slots Q (F0 m pc ls st0) := by
  have hwc := hw.pick isC hnC hC
  have hFc := va_free (wc := wc) hw.2.2.1 hw.2.2.2.1 hw.2.2.2.2 isC hC
  refine vx_calli (vx_runV (As := As) (rest := rest) cx hM (cwV n cx.2.2.2.2 hT hcd hrc hrs hd hRm) ⟨xpre_blind, va_recv hw.2.1 hw.1 hcl he, fun U hU hW => ⟨rfl, ⟨by rw [hU], by rw [hU]; exact hwc.1, va_K.moved hW.alike hw.2.1, hwc.2.2.1.weaken (fun _ _ _ _ => trivial)⟩, by rw [hU]; exact hx0.warm hW hw.2.2.2.1.2.1 hFc⟩⟩ rfl hn hsz hst (lv_room hcat) hdg hf) hw.2.2.2.1 (fun q _ h => hFc q h) hFc (fun q _ h => hFc q h) (fun E ce q9 u t H1 locs1 ht hvm _ hB hz1 hk1 hS hce hcv hcl9 => by
    obtain ⟨hp, hP1, hK1, hD1⟩ := hB
    rw [ht] at hP1
    obtain ⟨hP, hD⟩ := va_join (wr := wr) (w1 := WX u) hw.1 hw.2.2.1 isC isR hC hR hnR hdis hk1 hFc hP1 hD1
    exact kx E ce q9 u H1 locs1 hp ⟨hP, hw.2.1, hD, hS, hw.2.2.2.2⟩ hce hcv hcl9) (fun r u t H1 locs1 ht hvm hp hB hz1 hk1 hS => ?_)
  obtain ⟨hP1, hK1, hD1⟩ := hB
  rw [ht] at hP1
  obtain ⟨hP, hD⟩ := va_join (wr := wr) (w1 := W' u) hw.1 hw.2.2.1 isC isR hC hR hnR hdis hk1 hFc hP1 hD1
  exact kk r u H1 locs1 hp ⟨hP, hw.2.1, hD, hS, hw.2.2.2.2⟩

theorem r_xcallVl {S : Type} {SX : Type} {xp : String → SX → Prop} {WX : SX → va_W} {post : Int64 → S → Prop} {W' : S → va_W} {wc wr : va_W} {y : MethodName} {wsl wsl' : List Cond} {rm : Room} {bytes : ByteArray} {maxL index n mc ms : Nat} {ret : Option FieldType} {C : String} {ci q0 : Nat} {fs : List Value} {T : u_T} {N : Nat} {As st0 : List Value}
    (cx : CallFix p m c cc nL s args Ts own) (hx0 : xst xSL xNW A s H0) (hw : ww D ty s A H0 ws H locs)
    (hM : XL l y wsl rm (.ref a :: As) D ty wc H.size post W' xp WX mc ms)
    (isC isR : List Nat) (hT : GoodIn Ts (wsV own index C y wsl)) (hcd : wsl = Cond.code y bytes maxL ret :: wsl') (hrc : rm.cells = mc) (hrs : rm.slots = ms) (hd : y.cls = C ∧ y.cls ≠ "java/lang/invoke/MethodHandle" ∧ y.cls ≠ "java/lang/invoke/VarHandle" ∧ (parseMethodDescriptor y.desc).map (fun d => d.parameters.length) = some n) (hRm : rm.frames + 1 ≤ R.frames ∧ 8 + (maxL + 11) + rm.locals ≤ R.locals)
    (he : ws[q0]? = some (a, .inr (ci, fs))) (hcl : vwCl[ci]? = some (C, T, N)) (hC : isC.map (fun i => ws[i]?) = wc.map some) (hR : isR.map (fun i => ws[i]?) = wr.map some) (hnC : va_nd isC = true) (hnR : va_nd isR = true) (hdis : ∀ i ∈ isR, i ∉ isC)
    (hn : As.length = n) (hst : st0 = As.reverse ++ .ref a :: rest) (hsz : ls.size = nL) (hcat : (rest.map fun v => v.category).sum ≤ 8) (hdg : decode cc pc = .ok (.invokevirtual index, 3)) (hf : cells + mc ≤ R.cells ∧ slots + ms ≤ R.slots)
    (kx : ∀ (E : String) (ce : Cell) (q9 : Nat) (u : SX) (H1 : Heap) (locs1 : List Loc), xp E u → ww D ty s A H0 (wr ++ WX u) H1 locs1 → H1[q9]? = some ce → ce.vm = .none → s.vm.findClass E = some ce.cls → vx_W p l e R s m args below meth c H1 locs1 (cells + mc) (slots + ms) Q (F0 m pc ls rest) q9)
    (kk : ∀ (r : Int64) (u : S) (H1 : Heap) (locs1 : List Loc), post r u → ww D ty s A H0 (wr ++ W' u) H1 locs1 → W p l e R s m args below meth c H1 locs1 (cells + mc) (slots + ms) Q (F0 m (pc + 3) ls (.long r :: rest))) :
    W p l e R s m args below meth c H locs cells slots Q (F0 m pc ls st0) := by
  have hwc := hw.pick isC hnC hC
  have hFc := va_free (wc := wc) hw.2.2.1 hw.2.2.2.1 hw.2.2.2.2 isC hC
  refine vx_calll (vx_runV (As := As) (rest := rest) cx hM (cwV n cx.2.2.2.2 hT hcd hrc hrs hd hRm) ⟨xpre_blind, va_recv hw.2.1 hw.1 hcl he, fun U hU hW => ⟨rfl, ⟨by rw [hU], by rw [hU]; exact hwc.1, va_K.moved hW.alike hw.2.1, hwc.2.2.1.weaken (fun _ _ _ _ => trivial)⟩, by rw [hU]; exact hx0.warm hW hw.2.2.2.1.2.1 hFc⟩⟩ rfl hn hsz hst (lv_room hcat) hdg hf) hw.2.2.2.1 (fun q _ h => hFc q h) hFc (fun q _ h => hFc q h) (fun E ce q9 u t H1 locs1 ht hvm _ hB hz1 hk1 hS hce hcv hcl9 => by
    obtain ⟨hp, hP1, hK1, hD1⟩ := hB
    rw [ht] at hP1
    obtain ⟨hP, hD⟩ := va_join (wr := wr) (w1 := WX u) hw.1 hw.2.2.1 isC isR hC hR hnR hdis hk1 hFc hP1 hD1
    exact kx E ce q9 u H1 locs1 hp ⟨hP, hw.2.1, hD, hS, hw.2.2.2.2⟩ hce hcv hcl9) (fun r u t H1 locs1 ht hvm hp hB hz1 hk1 hS => ?_)
  obtain ⟨hP1, hK1, hD1⟩ := hB
  rw [ht] at hP1
  obtain ⟨hP, hD⟩ := va_join (wr := wr) (w1 := W' u) hw.1 hw.2.2.1 isC isR hC hR hnR hdis hk1 hFc hP1 hD1
  exact kk r u H1 locs1 hp ⟨hP, hw.2.1, hD, hS, hw.2.2.2.2⟩

theorem r_xcallVf {S : Type} {SX : Type} {xp : String → SX → Prop} {WX : SX → va_W} {post : UInt32 → S → Prop} {W' : S → va_W} {wc wr : va_W} {y : MethodName} {wsl wsl' : List Cond} {rm : Room} {bytes : ByteArray} {maxL index n mc ms : Nat} {ret : Option FieldType} {C : String} {ci q0 : Nat} {fs : List Value} {T : u_T} {N : Nat} {As st0 : List Value}
    (cx : CallFix p m c cc nL s args Ts own) (hx0 : xst xSL xNW A s H0) (hw : ww D ty s A H0 ws H locs)
    (hM : XF l y wsl rm (.ref a :: As) D ty wc H.size post W' xp WX mc ms)
    (isC isR : List Nat) (hT : GoodIn Ts (wsV own index C y wsl)) (hcd : wsl = Cond.code y bytes maxL ret :: wsl') (hrc : rm.cells = mc) (hrs : rm.slots = ms) (hd : y.cls = C ∧ y.cls ≠ "java/lang/invoke/MethodHandle" ∧ y.cls ≠ "java/lang/invoke/VarHandle" ∧ (parseMethodDescriptor y.desc).map (fun d => d.parameters.length) = some n) (hRm : rm.frames + 1 ≤ R.frames ∧ 8 + (maxL + 11) + rm.locals ≤ R.locals)
    (he : ws[q0]? = some (a, .inr (ci, fs))) (hcl : vwCl[ci]? = some (C, T, N)) (hC : isC.map (fun i => ws[i]?) = wc.map some) (hR : isR.map (fun i => ws[i]?) = wr.map some) (hnC : va_nd isC = true) (hnR : va_nd isR = true) (hdis : ∀ i ∈ isR, i ∉ isC)
    (hn : As.length = n) (hst : st0 = As.reverse ++ .ref a :: rest) (hsz : ls.size = nL) (hcat : (rest.map fun v => v.category).sum ≤ 8) (hdg : decode cc pc = .ok (.invokevirtual index, 3)) (hf : cells + mc ≤ R.cells ∧ slots + ms ≤ R.slots)
    (kx : ∀ (E : String) (ce : Cell) (q9 : Nat) (u : SX) (H1 : Heap) (locs1 : List Loc), xp E u → ww D ty s A H0 (wr ++ WX u) H1 locs1 → H1[q9]? = some ce → ce.vm = .none → s.vm.findClass E = some ce.cls → vx_W p l e R s m args below meth c H1 locs1 (cells + mc) (slots + ms) Q (F0 m pc ls rest) q9)
    (kk : ∀ (r : UInt32) (u : S) (H1 : Heap) (locs1 : List Loc), post r u → ww D ty s A H0 (wr ++ W' u) H1 locs1 → W p l e R s m args below meth c H1 locs1 (cells + mc) (slots + ms) Q (F0 m (pc + 3) ls (.float r :: rest))) :
    W p l e R s m args below meth c H locs cells slots Q (F0 m pc ls st0) := by
  have hwc := hw.pick isC hnC hC
  have hFc := va_free (wc := wc) hw.2.2.1 hw.2.2.2.1 hw.2.2.2.2 isC hC
  refine vx_callf (vx_runV (As := As) (rest := rest) cx hM (cwV n cx.2.2.2.2 hT hcd hrc hrs hd hRm) ⟨xpre_blind, va_recv hw.2.1 hw.1 hcl he, fun U hU hW => ⟨rfl, ⟨by rw [hU], by rw [hU]; exact hwc.1, va_K.moved hW.alike hw.2.1, hwc.2.2.1.weaken (fun _ _ _ _ => trivial)⟩, by rw [hU]; exact hx0.warm hW hw.2.2.2.1.2.1 hFc⟩⟩ rfl hn hsz hst (lv_room hcat) hdg hf) hw.2.2.2.1 (fun q _ h => hFc q h) hFc (fun q _ h => hFc q h) (fun E ce q9 u t H1 locs1 ht hvm _ hB hz1 hk1 hS hce hcv hcl9 => by
    obtain ⟨hp, hP1, hK1, hD1⟩ := hB
    rw [ht] at hP1
    obtain ⟨hP, hD⟩ := va_join (wr := wr) (w1 := WX u) hw.1 hw.2.2.1 isC isR hC hR hnR hdis hk1 hFc hP1 hD1
    exact kx E ce q9 u H1 locs1 hp ⟨hP, hw.2.1, hD, hS, hw.2.2.2.2⟩ hce hcv hcl9) (fun r u t H1 locs1 ht hvm hp hB hz1 hk1 hS => ?_)
  obtain ⟨hP1, hK1, hD1⟩ := hB
  rw [ht] at hP1
  obtain ⟨hP, hD⟩ := va_join (wr := wr) (w1 := W' u) hw.1 hw.2.2.1 isC isR hC hR hnR hdis hk1 hFc hP1 hD1
  exact kk r u H1 locs1 hp ⟨hP, hw.2.1, hD, hS, hw.2.2.2.2⟩

theorem r_xcallVd {S : Type} {SX : Type} {xp : String → SX → Prop} {WX : SX → va_W} {post : UInt64 → S → Prop} {W' : S → va_W} {wc wr : va_W} {y : MethodName} {wsl wsl' : List Cond} {rm : Room} {bytes : ByteArray} {maxL index n mc ms : Nat} {ret : Option FieldType} {C : String} {ci q0 : Nat} {fs : List Value} {T : u_T} {N : Nat} {As st0 : List Value}
    (cx : CallFix p m c cc nL s args Ts own) (hx0 : xst xSL xNW A s H0) (hw : ww D ty s A H0 ws H locs)
    (hM : XD l y wsl rm (.ref a :: As) D ty wc H.size post W' xp WX mc ms)
    (isC isR : List Nat) (hT : GoodIn Ts (wsV own index C y wsl)) (hcd : wsl = Cond.code y bytes maxL ret :: wsl') (hrc : rm.cells = mc) (hrs : rm.slots = ms) (hd : y.cls = C ∧ y.cls ≠ "java/lang/invoke/MethodHandle" ∧ y.cls ≠ "java/lang/invoke/VarHandle" ∧ (parseMethodDescriptor y.desc).map (fun d => d.parameters.length) = some n) (hRm : rm.frames + 1 ≤ R.frames ∧ 8 + (maxL + 11) + rm.locals ≤ R.locals)
    (he : ws[q0]? = some (a, .inr (ci, fs))) (hcl : vwCl[ci]? = some (C, T, N)) (hC : isC.map (fun i => ws[i]?) = wc.map some) (hR : isR.map (fun i => ws[i]?) = wr.map some) (hnC : va_nd isC = true) (hnR : va_nd isR = true) (hdis : ∀ i ∈ isR, i ∉ isC)
    (hn : As.length = n) (hst : st0 = As.reverse ++ .ref a :: rest) (hsz : ls.size = nL) (hcat : (rest.map fun v => v.category).sum ≤ 8) (hdg : decode cc pc = .ok (.invokevirtual index, 3)) (hf : cells + mc ≤ R.cells ∧ slots + ms ≤ R.slots)
    (kx : ∀ (E : String) (ce : Cell) (q9 : Nat) (u : SX) (H1 : Heap) (locs1 : List Loc), xp E u → ww D ty s A H0 (wr ++ WX u) H1 locs1 → H1[q9]? = some ce → ce.vm = .none → s.vm.findClass E = some ce.cls → vx_W p l e R s m args below meth c H1 locs1 (cells + mc) (slots + ms) Q (F0 m pc ls rest) q9)
    (kk : ∀ (r : UInt64) (u : S) (H1 : Heap) (locs1 : List Loc), post r u → ww D ty s A H0 (wr ++ W' u) H1 locs1 → W p l e R s m args below meth c H1 locs1 (cells + mc) (slots + ms) Q (F0 m (pc + 3) ls (.double r :: rest))) :
    W p l e R s m args below meth c H locs cells slots Q (F0 m pc ls st0) := by
  have hwc := hw.pick isC hnC hC
  have hFc := va_free (wc := wc) hw.2.2.1 hw.2.2.2.1 hw.2.2.2.2 isC hC
  refine vx_calld (vx_runV (As := As) (rest := rest) cx hM (cwV n cx.2.2.2.2 hT hcd hrc hrs hd hRm) ⟨xpre_blind, va_recv hw.2.1 hw.1 hcl he, fun U hU hW => ⟨rfl, ⟨by rw [hU], by rw [hU]; exact hwc.1, va_K.moved hW.alike hw.2.1, hwc.2.2.1.weaken (fun _ _ _ _ => trivial)⟩, by rw [hU]; exact hx0.warm hW hw.2.2.2.1.2.1 hFc⟩⟩ rfl hn hsz hst (lv_room hcat) hdg hf) hw.2.2.2.1 (fun q _ h => hFc q h) hFc (fun q _ h => hFc q h) (fun E ce q9 u t H1 locs1 ht hvm _ hB hz1 hk1 hS hce hcv hcl9 => by
    obtain ⟨hp, hP1, hK1, hD1⟩ := hB
    rw [ht] at hP1
    obtain ⟨hP, hD⟩ := va_join (wr := wr) (w1 := WX u) hw.1 hw.2.2.1 isC isR hC hR hnR hdis hk1 hFc hP1 hD1
    exact kx E ce q9 u H1 locs1 hp ⟨hP, hw.2.1, hD, hS, hw.2.2.2.2⟩ hce hcv hcl9) (fun r u t H1 locs1 ht hvm hp hB hz1 hk1 hS => ?_)
  obtain ⟨hP1, hK1, hD1⟩ := hB
  rw [ht] at hP1
  obtain ⟨hP, hD⟩ := va_join (wr := wr) (w1 := W' u) hw.1 hw.2.2.1 isC isR hC hR hnR hdis hk1 hFc hP1 hD1
  exact kk r u H1 locs1 hp ⟨hP, hw.2.1, hD, hS, hw.2.2.2.2⟩

theorem r_xcallVv {S : Type} {SX : Type} {xp : String → SX → Prop} {WX : SX → va_W} {post : S → Prop} {W' : S → va_W} {wc wr : va_W} {y : MethodName} {wsl wsl' : List Cond} {rm : Room} {bytes : ByteArray} {maxL index n mc ms : Nat} {ret : Option FieldType} {C : String} {ci q0 : Nat} {fs : List Value} {T : u_T} {N : Nat} {As st0 : List Value}
    (cx : CallFix p m c cc nL s args Ts own) (hx0 : xst xSL xNW A s H0) (hw : ww D ty s A H0 ws H locs)
    (hM : XV l y wsl rm (.ref a :: As) D ty wc H.size post W' xp WX mc ms)
    (isC isR : List Nat) (hT : GoodIn Ts (wsV own index C y wsl)) (hcd : wsl = Cond.code y bytes maxL ret :: wsl') (hrc : rm.cells = mc) (hrs : rm.slots = ms) (hd : y.cls = C ∧ y.cls ≠ "java/lang/invoke/MethodHandle" ∧ y.cls ≠ "java/lang/invoke/VarHandle" ∧ (parseMethodDescriptor y.desc).map (fun d => d.parameters.length) = some n) (hRm : rm.frames + 1 ≤ R.frames ∧ 8 + (maxL + 11) + rm.locals ≤ R.locals)
    (he : ws[q0]? = some (a, .inr (ci, fs))) (hcl : vwCl[ci]? = some (C, T, N)) (hC : isC.map (fun i => ws[i]?) = wc.map some) (hR : isR.map (fun i => ws[i]?) = wr.map some) (hnC : va_nd isC = true) (hnR : va_nd isR = true) (hdis : ∀ i ∈ isR, i ∉ isC)
    (hn : As.length = n) (hst : st0 = As.reverse ++ .ref a :: rest) (hsz : ls.size = nL) (hcat : (rest.map fun v => v.category).sum ≤ 8) (hdg : decode cc pc = .ok (.invokevirtual index, 3)) (hf : cells + mc ≤ R.cells ∧ slots + ms ≤ R.slots)
    (kx : ∀ (E : String) (ce : Cell) (q9 : Nat) (u : SX) (H1 : Heap) (locs1 : List Loc), xp E u → ww D ty s A H0 (wr ++ WX u) H1 locs1 → H1[q9]? = some ce → ce.vm = .none → s.vm.findClass E = some ce.cls → vx_W p l e R s m args below meth c H1 locs1 (cells + mc) (slots + ms) Q (F0 m pc ls rest) q9)
    (kk : ∀ (u : S) (H1 : Heap) (locs1 : List Loc), post u → ww D ty s A H0 (wr ++ W' u) H1 locs1 → W p l e R s m args below meth c H1 locs1 (cells + mc) (slots + ms) Q (F0 m (pc + 3) ls rest)) :
    W p l e R s m args below meth c H locs cells slots Q (F0 m pc ls st0) := by
  have hwc := hw.pick isC hnC hC
  have hFc := va_free (wc := wc) hw.2.2.1 hw.2.2.2.1 hw.2.2.2.2 isC hC
  refine vx_callv (vx_runV (As := As) (rest := rest) cx hM (cwV n cx.2.2.2.2 hT hcd hrc hrs hd hRm) ⟨xpre_blind, va_recv hw.2.1 hw.1 hcl he, fun U hU hW => ⟨rfl, ⟨by rw [hU], by rw [hU]; exact hwc.1, va_K.moved hW.alike hw.2.1, hwc.2.2.1.weaken (fun _ _ _ _ => trivial)⟩, by rw [hU]; exact hx0.warm hW hw.2.2.2.1.2.1 hFc⟩⟩ rfl hn hsz hst (lv_room hcat) hdg hf) hw.2.2.2.1 (fun q _ h => hFc q h) hFc (fun q _ h => hFc q h) (fun E ce q9 u t H1 locs1 ht hvm _ hB hz1 hk1 hS hce hcv hcl9 => by
    obtain ⟨hp, hP1, hK1, hD1⟩ := hB
    rw [ht] at hP1
    obtain ⟨hP, hD⟩ := va_join (wr := wr) (w1 := WX u) hw.1 hw.2.2.1 isC isR hC hR hnR hdis hk1 hFc hP1 hD1
    exact kx E ce q9 u H1 locs1 hp ⟨hP, hw.2.1, hD, hS, hw.2.2.2.2⟩ hce hcv hcl9) (fun u t H1 locs1 ht hvm hp hB hz1 hk1 hS => ?_)
  obtain ⟨hP1, hK1, hD1⟩ := hB
  rw [ht] at hP1
  obtain ⟨hP, hD⟩ := va_join (wr := wr) (w1 := W' u) hw.1 hw.2.2.1 isC isR hC hR hnR hdis hk1 hFc hP1 hD1
  exact kk u H1 locs1 hp ⟨hP, hw.2.1, hD, hS, hw.2.2.2.2⟩

end INFE
section INFX
variable {p : Program} {l : Launch} {e : Env} {R : Room} {s : State} {m : MethodId} {args : Array Value} {below : List Frame} {meth : Method} {c : Code} {H : Heap} {locs : List Loc} {cells slots : Nat} {Q : State → Prop}
variable {pc : Nat} {ls : Array Slot} {rest : List Value} {cc : ByteArray} {nL : Nat} {Ts : List Cond} {own : String} {D : va_G} {ty : List (ClassId × FieldType)} {A : Nat → Prop} {H0 : Heap} {ws : va_W} {a : Nat}
/-- an exception that is not caught here -/
theorem r_xout {SX : Type} {xp : String → SX → Prop} {WX : SX → va_W} {Qc : Array Value → State → Outcome → State → Prop} {mc ms : Nat} {E : String} {ce : Cell} {q9 : Nat} (cx : CallFix p m c cc nL s args Ts own) (htab : ∀ x ∈ c.exceptionTable.toList, False) (hlk : meth.locks = false) (hw : ww D ty s A s.heap ws H locs) (hce : H[q9]? = some ce) (hcv : ce.vm = .none) (hcl : s.vm.findClass E = some ce.cls)
    (hc : cells ≤ mc) (hs : slots ≤ ms) (u : SX) (hp : xp E u) (is : List Nat) (hn : va_nd is = true) (hm : is.map (fun i => ws[i]?) = (WX u).map some) :
    vx_W p l e R s m args below meth c H locs cells slots (vx_MQ below Qc (vx_X (fun _ : SX => True) (fun E u t => xp E u ∧ wpost D ty A (WX u) t) A) args s mc ms A) (F0 m pc ls rest) q9 := by
  have hw' := hw.pick is hn hm
  exact vx_out (fun x hx => (htab x hx).elim) hlk hce hcv hcl (fun t ht hW => ⟨u, trivial, ⟨hp, by rw [ht]; exact hw'.1, va_K.moved hW hw'.2.1, hw'.2.2.1⟩, hw.2.2.2.1.F ht⟩) hw.2.2.2.1.2.2 hc hs
theorem r_throw {SX : Type} {xp : String → SX → Prop} {WX : SX → va_W} {Qc : Array Value → State → Outcome → State → Prop} {mc ms ik is9 ic : Nat} {cls text : String} {names : List String} (cx : CallFix p m c cc nL s args Ts own) (hl : l.stackTraces = false) (hx0 : xst xSL xNW A s s.heap) (iS iN : Nat) (hiS : xSL[iS]? = some (own, is9, text)) (hiN : xNW[iN]? = some (.castable cls cls))
    (hcls : Bundle.fit cls = true) (hnames : (names.all fun n => Bundle.fit n) = true) (h1 : Cond.classLink own ik cls ∈ Ts) (h2 : Cond.initialized cls ∈ Ts) (h3 : ∀ w ∈ (vx_atS own ic cls names).filter goodWord, w ∈ Ts) (h4 : ((vx_atS own ic cls names).filter (fun w => !goodWord w)).all (fun w => decide (w = .castable cls cls)) = true)
    (h5 : (Cond.classLink own ik cls :: Cond.initialized cls :: vx_atS own ic cls names).all vx_ot = true) (hw : ww D ty s A s.heap ws H locs) (hsz : ls.size = nL)
    (d0 : decode cc pc = .ok (.new ik, 3)) (d3 : decode cc (pc + 3) = .ok (.dup, 1)) (d4 : decode cc (pc + 4) = .ok (.ldc is9, 2)) (d6 : decode cc (pc + 6) = .ok (.invokespecial ic, 3)) (d9 : decode cc (pc + 9) = .ok (.athrow, 1))
    (htab : ∀ x ∈ c.exceptionTable.toList, False) (hRf : names.length + 3 < R.frames) (hRl : (rest.map fun v => v.category).sum + (13 * (names.length + 1) + 43) ≤ R.locals) (hRc : cells + 1 ≤ R.cells) (hRs : slots + 6 ≤ R.slots) (hlk : meth.locks = false) (hc : cells + 1 ≤ mc) (hs : slots + 6 ≤ ms)
    (u : SX) (hp : xp cls u) (is : List Nat) (hn : va_nd is = true) (hm : is.map (fun i => ws[i]?) = (WX u).map some) :
    W p l e R s m args below meth c H locs cells slots (vx_MQ below Qc (vx_X (fun _ : SX => True) (fun E u t => xp E u ∧ wpost D ty A (WX u) t) A) args s mc ms A) (F0 m pc ls rest) := by
  have hw' := hw.pick is hn hm
  obtain ⟨sa, hstr⟩ := hx0.1 _ (List.mem_of_getElem? hiS)
  obtain ⟨C9, e9, hnw⟩ := hx0.2.2.2 _ (List.mem_of_getElem? hiN)
  have hcast : (Cond.castable cls cls).before args s = true := va_Nw.use rfl hnw
  refine vx_throwS (A := A) cx.1 cx.2.1 hl cx.2.2.2.1 hcls (fun n h => List.all_eq_true.mp hnames n h) (cx.2.2.2.2 _ h1) (cx.2.2.2.2 _ h2) hstr
    (vx_hat (B := [.castable cls cls]) (fun w h => cx.2.2.2.2 w (h3 w h)) (fun w h => by
      have := List.all_eq_true.mp h4 w h
      rw [of_decide_eq_true this]
      exact List.mem_singleton_self _) (vx_c hcast vx_n)) (fun w h => List.all_eq_true.mp h5 w h) hx0.2.1 hx0.2.2.1 hw.2.2.2.1 (hsz.trans cx.2.2.1.symm) d0 d3 d4 d6 d9 (fun x hx => (htab x hx).elim) hRf hRl hRc hRs hlk ?_ hw.2.2.2.1.2.2 hc hs
  intro t hW hz hk
  refine ⟨u, trivial, ⟨hp, hw'.1.kept (fun k q hq => hk _ (hw'.1 k q hq).lt), va_K.moved hW hw'.2.1, hw'.2.2.1⟩, Nat.le_trans hw.2.2.2.1.1 hz, fun q h6 h7 => ?_⟩
  rw [hk q (Nat.lt_of_lt_of_le h6 hw.2.2.2.1.1)]
  exact hw.2.2.2.1.2.1 q h6 h7
theorem r_throwW {SX : Type} {xp : String → SX → Prop} {WX : SX → va_W} {Qc : Array Value → State → Outcome → State → Prop} {mc ms ik is9 ic : Nat} {cls text : String} {names : List String} (cx : CallFix p m c cc nL s args Ts own) (hl : l.stackTraces = false) (hx0 : xst xSL xNW A s s.heap) (iS iN : Nat) (hiS : xSL[iS]? = some (own, is9, text)) (hiN : xNW[iN]? = some (.castable cls cls))
    (hcls : Bundle.fit cls = true) (hnames : (names.all fun n => Bundle.fit n) = true) (h1 : Cond.classLink own ik cls ∈ Ts) (h2 : Cond.initialized cls ∈ Ts) (h3 : ∀ w ∈ (vx_atS own ic cls names).filter goodWord, w ∈ Ts) (h4 : ((vx_atS own ic cls names).filter (fun w => !goodWord w)).all (fun w => decide (w = .castable cls cls)) = true)
    (h5 : (Cond.classLink own ik cls :: Cond.initialized cls :: vx_atS own ic cls names).all vx_ot = true) (hw : ww D ty s A s.heap ws H locs) (hsz : ls.size = nL)
    (d0 : decode cc pc = .ok (.new ik, 3)) (d3 : decode cc (pc + 3) = .ok (.dup, 1)) (d4 : decode cc (pc + 4) = .ok (.ldc_w is9, 3)) (d6 : decode cc (pc + 7) = .ok (.invokespecial ic, 3)) (d9 : decode cc (pc + 10) = .ok (.athrow, 1))
    (htab : ∀ x ∈ c.exceptionTable.toList, False) (hRf : names.length + 3 < R.frames) (hRl : (rest.map fun v => v.category).sum + (13 * (names.length + 1) + 43) ≤ R.locals) (hRc : cells + 1 ≤ R.cells) (hRs : slots + 6 ≤ R.slots) (hlk : meth.locks = false) (hc : cells + 1 ≤ mc) (hs : slots + 6 ≤ ms)
    (u : SX) (hp : xp cls u) (is : List Nat) (hn : va_nd is = true) (hm : is.map (fun i => ws[i]?) = (WX u).map some) :
    W p l e R s m args below meth c H locs cells slots (vx_MQ below Qc (vx_X (fun _ : SX => True) (fun E u t => xp E u ∧ wpost D ty A (WX u) t) A) args s mc ms A) (F0 m pc ls rest) := by
  have hw' := hw.pick is hn hm
  obtain ⟨sa, hstr⟩ := hx0.1 _ (List.mem_of_getElem? hiS)
  obtain ⟨C9, e9, hnw⟩ := hx0.2.2.2 _ (List.mem_of_getElem? hiN)
  have hcast : (Cond.castable cls cls).before args s = true := va_Nw.use rfl hnw
  refine vx_throwSW (A := A) cx.1 cx.2.1 hl cx.2.2.2.1 hcls (fun n h => List.all_eq_true.mp hnames n h) (cx.2.2.2.2 _ h1) (cx.2.2.2.2 _ h2) hstr
    (vx_hat (B := [.castable cls cls]) (fun w h => cx.2.2.2.2 w (h3 w h)) (fun w h => by
      have := List.all_eq_true.mp h4 w h
      rw [of_decide_eq_true this]
      exact List.mem_singleton_self _) (vx_c hcast vx_n)) (fun w h => List.all_eq_true.mp h5 w h) hx0.2.1 hx0.2.2.1 hw.2.2.2.1 (hsz.trans cx.2.2.1.symm) d0 d3 d4 d6 d9 (fun x hx => (htab x hx).elim) hRf hRl hRc hRs hlk ?_ hw.2.2.2.1.2.2 hc hs
  intro t hW hz hk
  refine ⟨u, trivial, ⟨hp, hw'.1.kept (fun k q hq => hk _ (hw'.1 k q hq).lt), va_K.moved hW hw'.2.1, hw'.2.2.1⟩, Nat.le_trans hw.2.2.2.1.1 hz, fun q h6 h7 => ?_⟩
  rw [hk q (Nat.lt_of_lt_of_le h6 hw.2.2.2.1.1)]
  exact hw.2.2.2.1.2.1 q h6 h7
theorem r_newa_C {cC cI cJ cZ cD : ClassId} (cx : CallFix p m c cc nL s args Ts own) (hw : ww D (TY cC cI cJ cZ cD) s A H0 ws H locs) (harr : Cond.arrayClass .char ∈ Ts) {n : Int32} {N' : Nat} (hn0 : n = nI N') (hN : N' ≤ 1000) (_h9 : N' = N') (hcells : cells + 1 ≤ R.cells) (hslots : slots + N' ≤ R.slots) (hdg : decode cc pc = .ok (.newarray .char, 2))
    (kk : ∀ (q : Nat) (H1 : Heap), ww D (TY cC cI cJ cZ cD) s A H0 (ws ++ [(q, .inl (cC, N', .inl (fun _ => nI 0)))]) H1 locs → W p l e R s m args below meth c H1 locs (cells + 1) (slots + N') Q (F0 m (pc + 2) ls (.ref q :: rest))) : W p l e R s m args below meth c H locs cells slots Q (F0 m pc ls (.int n :: rest)) := by
  subst hn0
  exact r_newa (atype := .char) cx hw harr rfl 0 rfl (fun c1 c2 h1 h2 => Option.some.inj (h1.symm.trans h2)) (fun cA => rfl) (nI_pos (by omega)) (nI_clamp (by omega)) (show N' * 2 ≤ 536870912 by omega) hcells hslots hdg kk
theorem r_newa_I {cC cI cJ cZ cD : ClassId} (cx : CallFix p m c cc nL s args Ts own) (hw : ww D (TY cC cI cJ cZ cD) s A H0 ws H locs) (harr : Cond.arrayClass .int ∈ Ts) {n : Int32} {N' : Nat} (hn0 : n = nI N') (hN : N' ≤ 1000) (_h9 : N' = N') (hcells : cells + 1 ≤ R.cells) (hslots : slots + N' ≤ R.slots) (hdg : decode cc pc = .ok (.newarray .int, 2))
    (kk : ∀ (q : Nat) (H1 : Heap), ww D (TY cC cI cJ cZ cD) s A H0 (ws ++ [(q, .inl (cI, N', .inl (fun _ => nI 0)))]) H1 locs → W p l e R s m args below meth c H1 locs (cells + 1) (slots + N') Q (F0 m (pc + 2) ls (.ref q :: rest))) : W p l e R s m args below meth c H locs cells slots Q (F0 m pc ls (.int n :: rest)) := by
  subst hn0
  exact r_newa (atype := .int) cx hw harr rfl 1 rfl (fun c1 c2 h1 h2 => Option.some.inj (h1.symm.trans h2)) (fun cA => rfl) (nI_pos (by omega)) (nI_clamp (by omega)) (show N' * 4 ≤ 536870912 by omega) hcells hslots hdg kk
theorem r_newa_Z {cC cI cJ cZ cD : ClassId} (cx : CallFix p m c cc nL s args Ts own) (hw : ww D (TY cC cI cJ cZ cD) s A H0 ws H locs) (harr : Cond.arrayClass .boolean ∈ Ts) {n : Int32} {N' : Nat} (hn0 : n = nI N') (hN : N' ≤ 1000) (_h9 : N' = N') (hcells : cells + 1 ≤ R.cells) (hslots : slots + N' ≤ R.slots) (hdg : decode cc pc = .ok (.newarray .boolean, 2))
    (kk : ∀ (q : Nat) (H1 : Heap), ww D (TY cC cI cJ cZ cD) s A H0 (ws ++ [(q, .inl (cZ, N', .inl (fun _ => nI 0)))]) H1 locs → W p l e R s m args below meth c H1 locs (cells + 1) (slots + N') Q (F0 m (pc + 2) ls (.ref q :: rest))) : W p l e R s m args below meth c H locs cells slots Q (F0 m pc ls (.int n :: rest)) := by
  subst hn0
  exact r_newa (atype := .boolean) cx hw harr rfl 3 rfl (fun c1 c2 h1 h2 => Option.some.inj (h1.symm.trans h2)) (fun cA => rfl) (nI_pos (by omega)) (nI_clamp (by omega)) (show N' * 1 ≤ 536870912 by omega) hcells hslots hdg kk
theorem r_newa_J {cC cI cJ cZ cD : ClassId} (cx : CallFix p m c cc nL s args Ts own) (hw : ww D (TY cC cI cJ cZ cD) s A H0 ws H locs) (harr : Cond.arrayClass .long ∈ Ts) {n : Int32} {N' : Nat} (hn0 : n = nI N') (hN : N' ≤ 1000) (_h9 : N' = N') (hcells : cells + 1 ≤ R.cells) (hslots : slots + N' ≤ R.slots) (hdg : decode cc pc = .ok (.newarray .long, 2))
    (kk : ∀ (q : Nat) (H1 : Heap), ww D (TY cC cI cJ cZ cD) s A H0 (ws ++ [(q, .inl (cJ, N', .inr (.inl (fun _ => 0))))]) H1 locs → W p l e R s m args below meth c H1 locs (cells + 1) (slots + N') Q (F0 m (pc + 2) ls (.ref q :: rest))) : W p l e R s m args below meth c H locs cells slots Q (F0 m pc ls (.int n :: rest)) := by
  subst hn0
  exact r_newa (atype := .long) cx hw harr rfl 2 rfl (fun c1 c2 h1 h2 => Option.some.inj (h1.symm.trans h2)) (fun cA => rfl) (nI_pos (by omega)) (nI_clamp (by omega)) (show N' * 8 ≤ 536870912 by omega) hcells hslots hdg kk
theorem r_newa_D {cC cI cJ cZ cD : ClassId} (cx : CallFix p m c cc nL s args Ts own) (hw : ww D (TY cC cI cJ cZ cD) s A H0 ws H locs) (harr : Cond.arrayClass .byte ∈ Ts) {n : Int32} {N' : Nat} (hn0 : n = nI N') (hN : N' ≤ 1000) (_h9 : N' = N') (hcells : cells + 1 ≤ R.cells) (hslots : slots + N' ≤ R.slots) (hdg : decode cc pc = .ok (.newarray .byte, 2))
    (kk : ∀ (q : Nat) (H1 : Heap), ww D (TY cC cI cJ cZ cD) s A H0 (ws ++ [(q, .inl (cD, N', .inl (fun _ => nI 0)))]) H1 locs → W p l e R s m args below meth c H1 locs (cells + 1) (slots + N') Q (F0 m (pc + 2) ls (.ref q :: rest))) : W p l e R s m args below meth c H locs cells slots Q (F0 m pc ls (.int n :: rest)) := by
  subst hn0
  exact r_newa (atype := .byte) cx hw harr rfl 4 rfl (fun c1 c2 h1 h2 => Option.some.inj (h1.symm.trans h2)) (fun cA => rfl) (nI_pos (by omega)) (nI_clamp (by omega)) (show N' * 1 ≤ 536870912 by omega) hcells hslots hdg kk
end INFX
section INF7
variable {p : Program} {l : Launch} {e : Env} {R : Room} {s : State} {m : MethodId} {args : Array Value} {below : List Frame} {meth : Method} {c : Code} {H : Heap} {locs : List Loc} {cells slots : Nat} {Q : State → Prop}
variable {pc : Nat} {ls : Array Slot} {rest : List Value} {cc : ByteArray} {nL : Nat} {Ts : List Cond} {own : String} {D : va_G} {ty : List (ClassId × FieldType)} {A : Nat → Prop} {H0 : Heap} {ws : va_W} {a : Nat}
theorem r_mmax (cx : CallFix p m c cc nL s args Ts own) {x y : Int32} {index : Nat} (i j : Nat) (hi : x = nI i) (hj : y = nI j) (h1 : i < 2147483648) (h2 : j < 2147483648) (l1 : Cond.methodLink own index Lib.Math.max.name ∈ Ts) (l2 : Cond.static Lib.Math.max.name ∈ Ts) (l3 : Cond.initialized "java/lang/Math" ∈ Ts) (l4 : Cond.code Lib.Math.max.name Lib.Math.max.code 2 (some .int) ∈ Ts)
    (hsz : ls.size = nL) (hf : 1 ≤ R.frames) (hlo : (rest.map fun v => v.category).sum + 13 ≤ R.locals) (hc : cells ≤ R.cells) (hs : slots ≤ R.slots) (hdg : decode cc pc = .ok (.invokestatic index, 3))
    (kk : W p l e R s m args below meth c H locs cells slots Q (F0 m (pc + 3) ls (.int (nI (max i j)) :: rest))) : W p l e R s m args below meth c H locs cells slots Q (F0 m pc ls (.int y :: .int x :: rest)) := by
  subst hi; subst hj
  refine va_mmax cx.1 cx.2.1 (cx.2.2.1.trans hsz.symm) cx.2.2.2.1 (cx.2.2.2.2 _ l1) (cx.2.2.2.2 _ l2) (cx.2.2.2.2 _ l3) (cx.2.2.2.2 _ l4) hf hlo hc hs hdg ?_
  have e9 : (if nI i < nI j then nI j else nI i) = nI (max i j) := by
    by_cases h : i < j
    · rw [if_pos ((nI_ltI h1 h2).mpr h), Nat.max_eq_right (by omega)]
    · rw [if_neg (fun z => h ((nI_ltI h1 h2).mp z)), Nat.max_eq_left (by omega)]
  rw [e9]
  exact kk
end INF7
