/-! The coat for the law's own methods: they catch what the class throws. -/
def yNC : List (String × String) := [("java/lang/ArithmeticException", "java/lang/IndexOutOfBoundsException"), ("java/lang/IllegalArgumentException", "java/lang/IndexOutOfBoundsException"), ("java/lang/IllegalStateException", "java/lang/IllegalArgumentException"), ("java/lang/IllegalStateException", "java/lang/IndexOutOfBoundsException"), ("java/lang/UnsupportedOperationException", "java/lang/IllegalArgumentException"), ("java/lang/UnsupportedOperationException", "java/lang/IllegalStateException"), ("java/lang/UnsupportedOperationException", "java/lang/IndexOutOfBoundsException"), ("java/util/NoSuchElementException", "java/lang/IndexOutOfBoundsException")]
def znc (s : State) : Prop := ∀ q ∈ yNC, va_Nc q.1 q.2 s
theorem znc.moved {u U : State} (hvm : u.vm.Alike U.vm) (h : znc u) : znc U := fun q hq => (h q hq).moved hvm
def zpre (D : va_G) (ty : List (ClassId × FieldType)) (ws : va_W) (sz : Nat) : State → Prop := fun U => ypre ySL yNW D ty ws sz U ∧ znc U
theorem zpre_blind {D : va_G} {ty : List (ClassId × FieldType)} {ws : va_W} {sz : Nat} {av : List Value} : FrameBlind (va_Pc av (zpre D ty ws sz)) := fun a U g mk q => by
  obtain ⟨q0, q1, q2⟩ := q
  exact ⟨q0, (ypre_blind (av := av) a U g mk ⟨q0, q1⟩).2, q2.moved (U := U.calling g mk a) (Vm.Alike.refl U.vm)⟩
def ZI {S : Type} (l : Launch) (y : MethodName) (wsl : List Cond) (rm : Room) (av : List Value) (D : va_G) (ty : List (ClassId × FieldType)) (ws : va_W) (sz : Nat) (post : Int32 → S → Prop) (W' : S → va_W) (mc ms : Nat) : Prop :=
  Met l y wsl rm (va_Pc av (zpre D ty ws sz)) (va_Qi post (fun u => wpost D ty (va_A ws sz) (W' u)) (va_A ws sz)) mc ms (va_A ws sz)
theorem mk_Z {l : Launch} {y : MethodName} {wsl wsl' : List Cond} {rm : Room} {av : List Value} {D : va_G} {ty : List (ClassId × FieldType)} {ws : va_W} {sz : Nat} {cc : ByteArray} {maxL : Nat} {ret : Option FieldType} {hh : List (Nat × Nat × Nat × Nat)} {mc ms : Nat} {QA : (Nat → Prop) → Array Value → State → Outcome → State → Prop}
    (hy : plainName y.cls = true) (hwl : wsl = Cond.codeWith y cc maxL ret hh :: wsl') (hn : (lg_sl av).length ≤ maxL)
    (body : ∀ (p : Program) (e : Env) (s : State) (m : MethodId) (args : Array Value) (below : List Frame) (meth : Method) (c : Code) (A : Nat → Prop), CallFix p m c cc maxL s args wsl y.cls → meth.sig.returnType = ret → meth.locks = false → c.exceptionTable.toList = tableOf hh → yst ySL yNW A s s.heap → znc s → ww D ty s A s.heap ws s.heap [] → ∀ ls : Array Slot, lv_has ls maxL (lv_args 0 av) →
      W p l e rm s m args below meth c s.heap [] 0 0 (MQ below (QA A) args s mc ms A) (F0 m 0 ls [])) : Met l y wsl rm (va_Pc av (zpre D ty ws sz)) (QA (va_A ws sz)) mc ms (va_A ws sz) := by
  refine va_MetW (cc := cc) (maxL := maxL) (ret := ret) (hh := hh) hy hwl ?_
  intro p e s m args below meth c s₁ B hml hv
  obtain ⟨rfl, ⟨⟨hsz, hP, hK, hD0⟩, hst⟩, hnc⟩ := hv
  subst hsz
  rw [lg_entry_eq]
  have hts := atoms_spec (ws := wsl) B.pre
  exact body p e s m _ below meth c _ ⟨B.exec, B.bytes, hml, findClass_of_methodNamed B.named, hts⟩ B.returns B.notSynchronized (vx_table (x := y) B (hts _ (by rw [hwl]; exact List.mem_cons_self))) hst hnc ⟨hP, hK, hD0.self, va_S.rf, fun q h => Or.inr h⟩ _ (lv_entry av hn)
theorem mk_ZI {S : Type} {l : Launch} {y : MethodName} {wsl wsl' : List Cond} {rm : Room} {av : List Value} {D : va_G} {ty : List (ClassId × FieldType)} {ws : va_W} {sz : Nat} {cc : ByteArray} {maxL : Nat} {ret : Option FieldType} {hh : List (Nat × Nat × Nat × Nat)} {mc ms : Nat} {post : Int32 → S → Prop} {W' : S → va_W}
    (hy : plainName y.cls = true) (hwl : wsl = Cond.codeWith y cc maxL ret hh :: wsl') (hn : (lg_sl av).length ≤ maxL)
    (body : ∀ (p : Program) (e : Env) (s : State) (m : MethodId) (args : Array Value) (below : List Frame) (meth : Method) (c : Code) (A : Nat → Prop), CallFix p m c cc maxL s args wsl y.cls → meth.sig.returnType = ret → meth.locks = false → c.exceptionTable.toList = tableOf hh → yst ySL yNW A s s.heap → znc s → ww D ty s A s.heap ws s.heap [] → ∀ ls : Array Slot, lv_has ls maxL (lv_args 0 av) →
      W p l e rm s m args below meth c s.heap [] 0 0 (MQ below (va_Qi post (fun u => wpost D ty A (W' u)) A) args s mc ms A) (F0 m 0 ls [])) : ZI l y wsl rm av D ty ws sz post W' mc ms :=
  mk_Z (QA := fun A => va_Qi post (fun u => wpost D ty A (W' u)) A) hy hwl hn body
section INFZ
variable {p : Program} {l : Launch} {e : Env} {R : Room} {s : State} {m : MethodId} {args : Array Value} {below : List Frame} {meth : Method} {c : Code} {H : Heap} {locs : List Loc} {cells slots : Nat} {Q : State → Prop}
variable {pc : Nat} {ls : Array Slot} {rest : List Value} {cc : ByteArray} {nL : Nat} {Ts : List Cond} {own : String} {D : va_G} {ty : List (ClassId × FieldType)} {A : Nat → Prop} {H0 : Heap} {ws : va_W} {a : Nat}
theorem r_catch {E : String} {ce : Cell} {q : Nat} {hh : List (Nat × Nat × Nat × Nat)} (cx : CallFix p m c cc nL s args Ts own) (htab : c.exceptionTable.toList = tableOf hh) (hxs : yst ySL yNW A s H0) (hnc : znc s) (pre : List ExceptionTableEntry) (x : ExceptionTableEntry) (suf : List ExceptionTableEntry) (hsplit : tableOf hh = pre ++ x :: suf)
    (hpass : ∀ z ∈ pre, covers z pc = false ∨ (z.catchType ≠ 0 ∧ ∃ nm : String, Cond.classLink own z.catchType nm ∈ Ts ∧ (E, nm) ∈ yNC)) (hcv9 : covers x pc = true) (h0 : x.catchType ≠ 0) (hlink : Cond.classLink own x.catchType E ∈ Ts) (hcast : Cond.castable E E ∈ yNW) (hcell : H[q]? = some ce) (hv : ce.vm = .none) (hcl : s.vm.findClass E = some ce.cls)
    (kk : W p l e R s m args below meth c H locs cells slots Q (F0 m x.handlerPc ls [.ref q])) : vx_W p l e R s m args below meth c H locs cells slots Q (F0 m pc ls rest) q := by
  refine vx_catch cx.2.2.2.1 pre x suf (htab.trans hsplit) (fun z hz => ?_) hcv9 h0 (cx.2.2.2.2 _ hlink) ?_ hcell hv hcl kk
  · rcases hpass z hz with h | ⟨hz0, nm, h1, h2⟩
    · exact Or.inl h
    · exact Or.inr ⟨hz0, nm, cx.2.2.2.2 _ h1, hnc _ h2⟩
  · obtain ⟨-, hn⟩ := hxs.2.2.2 _ hcast
    exact va_Nw.use rfl hn
theorem r_zcallS {S : Type} {post : Int32 → S → Prop} {W' : S → va_W} {wc wr : va_W} {y : MethodName} {wsl wsl' : List Cond} {rm : Room} {bytes : ByteArray} {maxL index n mc ms : Nat} {ret : Option FieldType} {hh : List (Nat × Nat × Nat × Nat)} {As st0 : List Value}
    (cx : CallFix p m c cc nL s args Ts own) (hx0 : yst ySL yNW A s H0) (hnc : znc s) (hw : ww D ty s A H0 ws H locs)
    (hM : ZI l y wsl rm As D ty wc H.size post W' mc ms)
    (isC isR : List Nat) (hT : GoodIn Ts (va_wsS own index y wsl)) (hcd : wsl = Cond.codeWith y bytes maxL ret hh :: wsl') (hrc : rm.cells = mc) (hrs : rm.slots = ms) (hd : y.cls ≠ "java/lang/invoke/MethodHandle" ∧ y.cls ≠ "java/lang/invoke/VarHandle" ∧ (parseMethodDescriptor y.desc).map (fun d => d.parameters.length) = some n) (hRm : rm.frames + 1 ≤ R.frames ∧ 8 + (maxL + 11) + rm.locals ≤ R.locals)
    (hC : isC.map (fun i => ws[i]?) = wc.map some) (hR : isR.map (fun i => ws[i]?) = wr.map some) (hnC : va_nd isC = true) (hnR : va_nd isR = true) (hdis : ∀ i ∈ isR, i ∉ isC)
    (hn : As.length = n) (hst : st0 = As.reverse ++ rest) (hsz : ls.size = nL) (hcat : (rest.map fun v => v.category).sum ≤ 8) (hdg : decode cc pc = .ok (.invokestatic index, 3)) (hf : cells + mc ≤ R.cells ∧ slots + ms ≤ R.slots)
    (kk : ∀ (r : Int32) (u : S) (H1 : Heap) (locs1 : List Loc), post r u → ww D ty s A H0 (wr ++ W' u) H1 locs1 → W p l e R s m args below meth c H1 locs1 (cells + mc) (slots + ms) Q (F0 m (pc + 3) ls (.int r :: rest))) :
    W p l e R s m args below meth c H locs cells slots Q (F0 m pc ls st0) := by
  have hwc := hw.pick isC hnC hC
  have hFc := va_free (wc := wc) hw.2.2.1 hw.2.2.2.1 hw.2.2.2.2 isC hC
  refine va_calli (vx_runSW (As := As) (rest := rest) cx hM (vx_cwSW n cx.2.2.2.2 hT hcd hrc hrs hd hRm) ⟨zpre_blind, fun U hU hW => ⟨rfl, ⟨⟨by rw [hU], by rw [hU]; exact hwc.1, va_K.moved hW.alike hw.2.1, hwc.2.2.1.weaken (fun _ _ _ _ => trivial)⟩, by rw [hU]; exact hx0.warm hW hw.2.2.2.1.2.1 hFc⟩, hnc.moved hW.alike⟩⟩ rfl hn hsz hst (lv_room hcat) hdg hf) hw.2.2.2.1 (fun q _ h => hFc q h) hFc (fun r u t H1 locs1 ht hvm hp hB hz1 hk1 hS => ?_)
  obtain ⟨hP1, hK1, hD1⟩ := hB
  rw [ht] at hP1
  obtain ⟨hP, hD⟩ := va_join (wr := wr) (w1 := W' u) hw.1 hw.2.2.1 isC isR hC hR hnR hdis hk1 hFc hP1 hD1
  exact kk r u H1 locs1 hp ⟨hP, hw.2.1, hD, hS, hw.2.2.2.2⟩
end INFZ
theorem sha_pos {v : Int32} {na n : Nat} (h : vSha v na n = 0) : 0 < n := by
  rcases Nat.eq_zero_or_pos n with e | e
  · exfalso
    subst e
    unfold vSha at h
    split at h <;> simp at h
  · exact e
