/-! The invariant of a run: what the class and its model have in common. -/
theorem i_ne {a b : Nat} (ha : a < 2147483648) (hb : b < 2147483648) (h : ¬ a = b) : ¬ nI a = nI b := fun z => h ((nI_eq ha hb).mp z)
def clv (C : Nat → Int32) (n nc : Nat) : Prop := ∀ j, j < n → C j = (-1) ∨ ∃ w, w < nc ∧ C j = nI w
theorem clv_agr {C C2 : Nat → Int32} {n nc : Nat} (h : clv C n nc) (a : agr n C2 C) : clv C2 n nc := fun j hj => by rw [a j hj]; exact h j hj
theorem clv_ard {C : Nat → Int32} {n nc st en : Nat} (h : clv C n nc) : ard C n st en = (-1) ∨ ∃ w, w < nc ∧ ard C n st en = nI w := by
  unfold ard
  split
  · exact Or.inl rfl
  · rename_i q
    exact h en (Nat.lt_of_not_le (fun z => q (Or.inr (Or.inl z))))
theorem clv_mka {P K E : Nat → Nat} {ed : Nat} {C : Nat → Int32} {n nc : Nat} (h : clv C n nc) : ∀ i, i ≤ nc → clv (mka P K E ed C i) n nc
  | 0, _ => h
  | i + 1, hi => by
    have ih := clv_mka (P := P) (K := K) (E := E) (ed := ed) h i (by omega)
    by_cases z : E i = ed
    · rw [mka_t z]
      intro j hj
      simp only [mk]
      split
      · exact Or.inr ⟨i, by omega, rfl⟩
      · exact ih j hj
    · rw [mka_f z]; exact ih
theorem clv_nfC {kd : Int32} {g : Nat → Int32} {p c q m nc : Nat} (hf : fit9 kd p c q m) (h : clv g m nc) : clv (nfC kd g p c q m) (pfn kd m c) nc := fun j hj => by
  simp only [nfC]
  simp only [pfn] at hj
  rcases hf with r | r
  · rw [if_pos r.1] at hj
    rw [if_pos r.1]
    simp only [kF]
    by_cases z : j < p
    · rw [if_pos z]; exact h _ (by omega)
    · rw [if_neg z]
      by_cases y : j < p + c
      · rw [if_pos y]; exact clv_ard h
      · rw [if_neg y]; exact h _ (by omega)
  · rw [if_neg r.1] at hj
    rw [if_neg r.1]
    by_cases h2 : kd = nI 100
    · rw [if_pos h2] at hj
      rw [if_pos h2]
      simp only [dlF, rem9]
      split <;> exact h _ (by omega)
    · rw [if_neg h2] at hj
      rw [if_neg h2]
      rcases r.2.2 with z | z
      · exact absurd z h2
      · have hm : clv (mvF g p c q) m nc := fun k hk => by
          simp only [mvF, rem9]
          repeat' split
          all_goals exact h _ (by omega)
        simp only [stp]
        split
        · exact clv_ard hm
        · exact hm j hj
theorem clv_ne {C : Nat → Int32} {n nc : Nat} (hc : nc ≤ 6) (h : clv C n nc) : ∀ j, j < n → ¬ C j = nI nc := fun j hj z => by
  rcases h j hj with e | ⟨w, hw, e⟩
  · rw [e] at z
    have hn : ¬ nI nc < 0 := nI_pos (by omega)
    exact hn (by rw [← z]; decide)
  · rw [e] at z
    exact absurd ((nI_eq (by omega) (by omega)).mp z) (by omega)
theorem clv_0 {C : Nat → Int32} {n nc : Nat} (hc : nc ≤ 6) (h : clv C n nc) : ∀ j, j < n → C j = (-1) ∨ 0 ≤ C j := fun j hj => by
  rcases h j hj with e | ⟨w, hw, e⟩
  · exact Or.inl e
  · right; rw [e]; exact nI_pos' (by omega)
theorem clv_6 {C : Nat → Int32} {n nc : Nat} (hc : nc ≤ 6) (h : clv C n nc) : ∀ j, j < n → C j = (-1) ∨ ∃ w, w < 6 ∧ C j = nI w := fun j hj => by
  rcases h j hj with e | ⟨w, hw, e⟩
  · exact Or.inl e
  · exact Or.inr ⟨w, by omega, e⟩
theorem nfL_let {kd : Int32} {g l l2 : Nat → Int32} {p c q s : Nat} (h : kd = nI 105 → ∀ t, t < c → l2 (s + t) = l (s + t)) : nfL kd g l2 p c q s = nfL kd g l p c q s := by
  unfold nfL
  by_cases hk : kd = nI 105
  · rw [if_pos hk, if_pos hk]
    funext j
    simp only [inF]
    by_cases z : j < p
    · rw [if_pos z, if_pos z]
    · rw [if_neg z, if_neg z]
      by_cases y : j < p + c
      · rw [if_pos y, if_pos y]; exact h hk _ (by omega)
      · rw [if_neg y, if_neg y]
  · rw [if_neg hk, if_neg hk]
theorem mka_none {P K E : Nat → Nat} {ed : Nat} {C : Nat → Int32} : ∀ {i : Nat}, (∀ t, t < i → ¬ E t = ed) → mka P K E ed C i = C
  | 0, _ => rfl
  | i + 1, h => by rw [mka_f (h i (by omega)), mka_none (fun t ht => h t (by omega))]
theorem mka_up {P K E : Nat → Nat} {ed a b c nc : Nat} {C : Nat → Int32} : ∀ {i : Nat}, i ≤ nc → mka (va_up P nc a) (va_up K nc b) (va_up E nc c) ed C i = mka P K E ed C i
  | 0, _ => rfl
  | i + 1, h => by
    have ih := mka_up (P := P) (K := K) (E := E) (ed := ed) (a := a) (b := b) (c := c) (nc := nc) (C := C) (i := i) (by omega)
    by_cases z : E i = ed
    · rw [mka_t (E := va_up E nc c) (by rw [vu_n (by omega)]; exact z), mka_t z, ih, vu_n (by omega), vu_n (by omega)]
    · rw [mka_f (E := va_up E nc c) (by rw [vu_n (by omega)]; exact z), mka_f z, ih]
theorem mka_last {P K E : Nat → Nat} {ed a b nc : Nat} {C : Nat → Int32} : mka (va_up P nc a) (va_up K nc b) (va_up E nc ed) ed C (nc + 1) = mk (mka P K E ed C nc) a b (nI nc) := by
  rw [mka_t (by rw [vu_s]), mka_up (Nat.le_refl _), vu_s, vu_s]
theorem mka_past {P K E : Nat → Nat} {ed a b c nc : Nat} {C : Nat → Int32} (h : ¬ c = ed) : mka (va_up P nc a) (va_up K nc b) (va_up E nc c) ed C (nc + 1) = mka P K E ed C nc := by
  rw [mka_f (by rw [vu_s]; exact h), mka_up (Nat.le_refl _)]
theorem orr_s {f : Nat → Int32} {a ne : Nat} (h : a ≤ ne) : orr f a (ne + 1 - a) = orr f a (ne - a) ||| f ne := by
  rw [show ne + 1 - a = (ne - a) + 1 by omega, orr, show a + (ne - a) = ne by omega]
theorem oaz (x y z : Int32) : (x ||| y) &&& z = 0 ↔ x &&& z = 0 ∧ y &&& z = 0 := by
  have e : (x ||| y) &&& z = (x &&& z) ||| (y &&& z) := by
    rw [← Int32.toBitVec_inj, Int32.toBitVec_and, Int32.toBitVec_or, Int32.toBitVec_or, Int32.toBitVec_and, Int32.toBitVec_and]
    apply BitVec.eq_of_getLsbD_eq
    intro i hi
    simp only [BitVec.getLsbD_and, BitVec.getLsbD_or]
    cases x.toBitVec.getLsbD i <;> cases y.toBitVec.getLsbD i <;> cases z.toBitVec.getLsbD i <;> rfl
  rw [e]
  generalize x &&& z = a
  generalize y &&& z = b
  constructor
  · intro h
    rw [← Int32.toBitVec_inj, Int32.toBitVec_or] at h
    refine ⟨?_, ?_⟩
    · rw [← Int32.toBitVec_inj]
      apply BitVec.eq_of_getLsbD_eq
      intro i hi
      have := congrArg (fun b => b.getLsbD i) h
      simp only [BitVec.getLsbD_or] at this
      have z0 : (0 : Int32).toBitVec.getLsbD i = false := by
        show (0#32).getLsbD i = false
        simp
      rw [z0] at this ⊢
      exact (Bool.or_eq_false_iff.mp this).1
    · rw [← Int32.toBitVec_inj]
      apply BitVec.eq_of_getLsbD_eq
      intro i hi
      have := congrArg (fun b => b.getLsbD i) h
      simp only [BitVec.getLsbD_or] at this
      have z0 : (0 : Int32).toBitVec.getLsbD i = false := by
        show (0#32).getLsbD i = false
        simp
      rw [z0] at this ⊢
      exact (Bool.or_eq_false_iff.mp this).2
  · rintro ⟨rfl, rfl⟩; decide
section HIS
variable {eK eK2 eL eL2 : Nat → Int32} {eA eP eC eG eS gP gK gE eA2 eP2 eC2 eG2 eS2 gP2 gK2 gE2 : Nat → Nat} {nc nc2 ne : Nat}
theorem clv_hst (hr : ∀ e, e < ne → rok eK eP eC eG eS e (hst eK eA eP eC eG eS eL gP gK gE nc e).1) : ∀ e, e ≤ ne → clv (hst eK eA eP eC eG eS eL gP gK gE nc e).2.2.2 (hst eK eA eP eC eG eS eL gP gK gE nc e).1 nc
  | 0, _ => fun j hj => absurd hj (Nat.not_lt_zero j)
  | e + 1, he => clv_nfC (rok_fit (hr e (by omega))) (clv_mka (clv_hst hr e (by omega)) nc (Nat.le_refl _))
theorem hst_cong (hrow : ∀ e, e < ne → eK2 e = eK e ∧ eA2 e = eA e ∧ eP2 e = eP e ∧ eC2 e = eC e ∧ eG2 e = eG e ∧ eS2 e = eS e) (hlet : ∀ e, e < ne → eK e = nI 105 → ∀ t, t < eC e → eL2 (eS e + t) = eL (eS e + t)) (hmk : ∀ e, e < ne → ∀ C, mka gP2 gK2 gE2 e C nc2 = mka gP gK gE e C nc) : ∀ e, e ≤ ne → hst eK2 eA2 eP2 eC2 eG2 eS2 eL2 gP2 gK2 gE2 nc2 e = hst eK eA eP eC eG eS eL gP gK gE nc e
  | 0, _ => rfl
  | e + 1, he => by
    have ih := hst_cong hrow hlet hmk e (by omega)
    obtain ⟨a1, a2, a3, a4, a5, a6⟩ := hrow e (by omega)
    simp only [hst]
    rw [ih, a1, a2, a3, a4, a5, a6, hmk e (by omega), nfL_let (fun hk t ht => hlet e (by omega) hk t ht)]
theorem che_cong (hrow : ∀ e, e < ne → eK2 e = eK e ∧ eA2 e = eA e ∧ eP2 e = eP e ∧ eC2 e = eC e ∧ eG2 e = eG e ∧ eS2 e = eS e) (hlet : ∀ e, e < ne → eK e = nI 105 → ∀ t, t < eC e → eL2 (eS e + t) = eL (eS e + t)) (hmk : ∀ e, e < ne → ∀ C, mka gP2 gK2 gE2 e C nc2 = mka gP gK gE e C nc) {e : Nat} (he : e < ne) :
    chE eK2 eA2 eP2 eC2 eG2 eS2 eL2 gP2 gK2 gE2 nc2 e = chs (un (hst eK eA eP eC eG eS eL gP gK gE nc (e + 1)).2.1 (hst eK eA eP eC eG eS eL gP gK gE nc (e + 1)).2.2.2 (hst eK eA eP eC eG eS eL gP gK gE nc (e + 1)).1 (hst eK eA eP eC eG eS eL gP gK gE nc e).2.1 (mka gP gK gE e (hst eK eA eP eC eG eS eL gP gK gE nc e).2.2.2 nc) (hst eK eA eP eC eG eS eL gP gK gE nc e).1) nc2 := by
  unfold chE
  rw [hst_cong hrow hlet hmk (e + 1) he, hst_cong hrow hlet hmk e (by omega), hmk e he]
/-- a clause more: the edits changed the same clauses -/
theorem che_more (hc : nc ≤ 6) (hr : ∀ e, e < ne → rok eK eP eC eG eS e (hst eK eA eP eC eG eS eL gP gK gE nc e).1) {e : Nat} (he : e < ne) :
    chs (un (hst eK eA eP eC eG eS eL gP gK gE nc (e + 1)).2.1 (hst eK eA eP eC eG eS eL gP gK gE nc (e + 1)).2.2.2 (hst eK eA eP eC eG eS eL gP gK gE nc (e + 1)).1 (hst eK eA eP eC eG eS eL gP gK gE nc e).2.1 (mka gP gK gE e (hst eK eA eP eC eG eS eL gP gK gE nc e).2.2.2 nc) (hst eK eA eP eC eG eS eL gP gK gE nc e).1) (nc + 1) = chE eK eA eP eC eG eS eL gP gK gE nc e := by
  unfold chE
  refine chs_f (fun z => un_t.mp z ?_)
  rw [wd_none (clv_ne hc (clv_hst hr (e + 1) he)), wd_none (clv_ne hc (clv_mka (clv_hst hr e (by omega)) nc (Nat.le_refl _)))]
end HIS
abbrev nrW (f : Nat → Int32) : Prop := ∀ j, vp_nar .char (f j) = f j
def gDoc (stc lr lz mj : Int32) (fee : Nat) : Prop := (stc = 0 ∨ stc = 1) ∧ vp_nar .char lr = lr ∧ (¬ lr = nI 45 → lz = mj) ∧ fee ≤ 999
def gAut (na : Nat) (sS sR : Nat → Int32) : Prop := na ≤ 5 ∧ ∀ k, k < na → scok (sS k) (sR k)
def gLog (na ne lu : Nat) (eK eL mK mA : Nat → Int32) (eA eC eS : Nat → Nat) : Prop := ne ≤ 40 ∧ lu ≤ 20 * ne ∧ nrW eK ∧ nrW eL ∧ nrW mK ∧ agr ne eK mK ∧ ∀ e, e < ne → eA e < na ∧ eC e ≤ 60 ∧ mA e = nI (eA e) ∧ (eK e = nI 105 → eS e + eC e ≤ lu)
def gCst (ne : Nat) (eO : Nat → Int32) : Prop := ∀ e, e < ne → 0 ≤ (eO e).toInt ∧ (eO e).toInt ≤ 1000000
def gBil (na ne : Nat) (sS sR : Nat → Int32) (sB : Nat → Int64) (eK eF : Nat → Int32) (eC eA : Nat → Nat) : Prop := (∀ k, k < na → sB k = cbl (sR k) (sS k) eK eC eF eA k ne) ∧ ∀ k, na ≤ k → sB k = 0
def gHis (ne n nc : Nat) (eK eL : Nat → Int32) (eA eP eC eG eS gP gK gE : Nat → Nat) (pL pA pC : Nat → Int32) : Prop := nc ≤ 6 ∧ n ≤ 60 ∧ (∀ e, e < ne → (hst eK eA eP eC eG eS eL gP gK gE nc e).1 ≤ 60 ∧ rok eK eP eC eG eS e (hst eK eA eP eC eG eS eL gP gK gE nc e).1) ∧ (hst eK eA eP eC eG eS eL gP gK gE nc ne).1 = n ∧ (∀ j, j < n → (hst eK eA eP eC eG eS eL gP gK gE nc ne).2.1 j = pL j ∧ (hst eK eA eP eC eG eS eL gP gK gE nc ne).2.2.1 j = pA j ∧ mka gP gK gE ne (hst eK eA eP eC eG eS eL gP gK gE nc ne).2.2.2 nc j = pC j) ∧ ∀ i, i < nc → gE i ≤ ne ∧ gP i + gK i ≤ (hst eK eA eP eC eG eS eL gP gK gE nc (gE i)).1
def gSig (ns ne : Nat) (gX gT gV mV mW : Nat → Int32) (gF : Nat → Nat) (ch : Nat → Int32) : Prop := ns ≤ 12 ∧ nrW gT ∧ (∀ j, mW j = 0 ∨ mW j = 1) ∧ (∀ k, ns ≤ k → mW k = 0) ∧ ∀ k, k < ns → gF k ≤ ne ∧ (gT k = nI 118 → orr ch (gF k) (ne - gF k) &&& gX k = 0) ∧ (gT k = nI 120 → ¬ orr ch (gF k) (ne - gF k) &&& gX k = 0) ∧ (mW k = 0 ↔ orr ch (gF k) (ne - gF k) &&& gX k = 0) ∧ (gT k = nI 120 → gV k = mV k)
def gTxt (n : Nat) (pL pA pC tL tA tC : Nat → Int32) : Prop := nrW pL ∧ nrW tL ∧ agr n pL tL ∧ agr n pA tA ∧ agr n pC tC
def gBuf (nb : Nat) (bF : Nat → Int32) : Prop := nb ≤ 20 ∧ nrW bF
def gOut (no : Nat) (oF lF : Nat → Int32) : Prop := no ≤ 300 ∧ nrW oF ∧ nrW lF ∧ agr no oF lF
def gTmp (nq n1 n2 nx : Nat) (qL uL wL mL : Nat → Int32) : Prop := nq ≤ 60 ∧ n1 ≤ 60 ∧ n2 ≤ 60 ∧ nx ≤ 60 ∧ nrW qL ∧ nrW uL ∧ nrW wL ∧ nrW mL
def gLck (kZ : Nat → Int32) : Prop := ∀ j, kZ j = 0 ∨ kZ j = 1
/-! An author more. -/
theorem aut_add {na : Nat} {sS sR : Nat → Int32} {sc ra : Int32} (h : gAut na sS sR) (hv : vAdd sc ra na = 0) : gAut (na + 1) (upd sS na sc) (upd sR na ra) := by
  obtain ⟨h1, h2⟩ := h
  unfold vAdd at hv
  split at hv
  · cases hv
  · rename_i hs
    split at hv
    · cases hv
    · rename_i hn
      refine ⟨by omega, fun k hk => ?_⟩
      by_cases e : k = na
      · subst e; rw [pk_us, pk_us]; exact Decidable.not_not.mp hs
      · rw [pk_un e, pk_un e]; exact h2 k (by omega)
theorem log_add {na ne lu : Nat} {eK eL mK mA : Nat → Int32} {eA eC eS : Nat → Nat} (h : gLog na ne lu eK eL mK mA eA eC eS) : gLog (na + 1) ne lu eK eL mK mA eA eC eS := by
  obtain ⟨a, b, c, d, e, f, g⟩ := h
  exact ⟨a, b, c, d, e, f, fun k hk => ⟨by have := (g k hk).1; omega, (g k hk).2⟩⟩
theorem cbl_none {r s : Int32} {eK eF : Nat → Int32} {eC eA : Nat → Nat} {a : Nat} : ∀ {n : Nat}, (∀ e, e < n → ¬ eA e = a) → cbl r s eK eC eF eA a n = 0
  | 0, _ => rfl
  | n + 1, h => by rw [cbl_f (h n (by omega)), cbl_none (fun e he => h e (by omega))]
theorem cbl_cong {r s : Int32} {eK eF eK2 eF2 : Nat → Int32} {eC eA eC2 eA2 : Nat → Nat} {a : Nat} : ∀ {n : Nat}, (∀ e, e < n → eK2 e = eK e ∧ eC2 e = eC e ∧ eF2 e = eF e ∧ eA2 e = eA e) → cbl r s eK2 eC2 eF2 eA2 a n = cbl r s eK eC eF eA a n
  | 0, _ => rfl
  | n + 1, h => by
    have ih := cbl_cong (r := r) (s := s) (a := a) (n := n) (fun e he => h e (by omega))
    obtain ⟨h1, h2, h3, h4⟩ := h n (by omega)
    by_cases z : eA n = a
    · rw [cbl_t z, cbl_t (by rw [h4]; exact z), ih, h1, h2, h3]
    · rw [cbl_f z, cbl_f (by rw [h4]; exact z), ih]
theorem bil_add {na ne : Nat} {sS sR : Nat → Int32} {sB : Nat → Int64} {eK eF : Nat → Int32} {eC eA : Nat → Nat} {sc ra : Int32} (h : gBil na ne sS sR sB eK eF eC eA) (hA : ∀ e, e < ne → eA e < na) : gBil (na + 1) ne (upd sS na sc) (upd sR na ra) sB eK eF eC eA := by
  obtain ⟨h1, h2⟩ := h
  refine ⟨fun k hk => ?_, fun k hk => h2 k (by omega)⟩
  by_cases e : k = na
  · subst e
    rw [h2 k (Nat.le_refl _), cbl_none (fun e he z => by have := hA e he; omega)]
  · rw [pk_un e, pk_un e]; exact h1 k (by omega)
/-! An edit. -/
theorem sig_cong {ns ne : Nat} {gX gT gV mV mW : Nat → Int32} {gF : Nat → Nat} {ch ch2 : Nat → Int32} (h : gSig ns ne gX gT gV mV mW gF ch) (hc : ∀ e, e < ne → ch2 e = ch e) : gSig ns ne gX gT gV mV mW gF ch2 := by
  obtain ⟨a, b, c, d, e⟩ := h
  refine ⟨a, b, c, d, fun k hk => ?_⟩
  have h0 := (e k hk).1
  rw [orr_cong (f := ch2) (g := ch) (fun x h1 h2 => hc x (by omega))]
  exact e k hk
theorem sig_edit {ns ne : Nat} {gX gT gV mV mW : Nat → Int32} {gF : Nat → Nat} {ch ch2 : Nat → Int32} {z : Int32} (h : gSig ns ne gX gT gV mV mW gF ch) (hc : ∀ e, e < ne → ch2 e = ch e) (hz : ch2 ne = z) :
    gSig ns (ne + 1) gX (vdp (vo gT gX z) (nI 120) gT ns) (vdp (vo gT gX z) (nI ne) gV ns) (vdp (vo gT gX z) (nI ne) mV ns) (wtp gX z mW ns) gF ch2 := by
  obtain ⟨a, b, c, d, e⟩ := h
  refine ⟨a, CA_vdp b, fun j => ?_, fun k hk => ?_, fun k hk => ?_⟩
  · simp only [wtp]
    split
    · split
      · exact orZ0 (c j)
      · exact orZ1 (c j)
    · exact c j
  · simp only [wtp]; rw [if_neg (by omega)]; exact d k hk
  · obtain ⟨e0, e1, e2, e3, e4⟩ := e k hk
    have hw : wtp gX z mW ns k = mW k ||| (if gX k &&& z = 0 then nI 0 else nI 1) := by simp only [wtp]; rw [if_pos hk]
    rw [orr_s e0, orr_cong (f := ch2) (g := ch) (fun x h1 h2 => hc x (by omega)), hz, oaz, hw]
    have hcm : z &&& gX k = gX k &&& z := Int32.and_comm _ _
    rw [hcm]
    have hm : (mW k ||| (if gX k &&& z = 0 then nI 0 else nI 1) = 0) ↔ (mW k = 0 ∧ gX k &&& z = 0) := by
      by_cases q : gX k &&& z = 0
      · rw [if_pos q, or0]; exact ⟨fun w => ⟨w, q⟩, fun w => w.1⟩
      · rw [if_neg q]
        refine ⟨fun w => ?_, fun w => absurd w.2 q⟩
        rcases c k with r | r <;> rw [r] at w <;> exact absurd w (by decide)
    rw [hm, e3]
    by_cases v : vo gT gX z k = true
    · have v2 := vo_t.mp v
      have s1 : vdp (vo gT gX z) (nI 120) gT ns k = nI 120 := if_pos ⟨hk, v⟩
      have s2 : vdp (vo gT gX z) (nI ne) gV ns k = nI ne := if_pos ⟨hk, v⟩
      have s3 : vdp (vo gT gX z) (nI ne) mV ns k = nI ne := if_pos ⟨hk, v⟩
      rw [s1, s2, s3]
      exact ⟨by omega, fun w => absurd w (by decide), fun _ w => v2.2 w.2, Iff.rfl, fun _ => rfl⟩
    · have s1 : vdp (vo gT gX z) (nI 120) gT ns k = gT k := if_neg (fun w => v w.2)
      have s2 : vdp (vo gT gX z) (nI ne) gV ns k = gV k := if_neg (fun w => v w.2)
      have s3 : vdp (vo gT gX z) (nI ne) mV ns k = mV k := if_neg (fun w => v w.2)
      rw [s1, s2, s3]
      refine ⟨by omega, fun w => ⟨e1 w, ?_⟩, fun w q => e2 w q.1, Iff.rfl, e4⟩
      exact Decidable.not_not.mp (fun q => v (vo_t.mpr ⟨w, q⟩))
theorem sig_sign {ns ne : Nat} {gX gT gV mV mW : Nat → Int32} {gF : Nat → Nat} {ch : Nat → Int32} {cl : Int32} (h : gSig ns ne gX gT gV mV mW gF ch) (hn : ns < 12) : gSig (ns + 1) ne (upd gX ns cl) (upd gT ns (nI 118)) (upd gV ns (-1)) mV mW (va_up gF ns ne) ch := by
  obtain ⟨a, b, c, d, e⟩ := h
  refine ⟨by omega, CA_upd b (by decide), c, fun k hk => d k (by omega), fun k hk => ?_⟩
  by_cases q : k = ns
  · subst q
    rw [vu_s, pk_us, pk_us, pk_us, Nat.sub_self]
    have z : orr ch ne 0 &&& cl = 0 := by show nI 0 &&& cl = 0; rw [nI_0]; exact Int32.zero_and
    exact ⟨Nat.le_refl _, fun _ => z, fun w => absurd w (by decide), ⟨fun _ => z, fun _ => d k (Nat.le_refl _)⟩, fun w => absurd w (by decide)⟩
  · rw [vu_n q, pk_un q, pk_un q, pk_un q]; exact e k (by omega)
theorem sig_wit {ns ne i : Nat} {gX gT gV mV mW : Nat → Int32} {gF : Nat → Nat} {ch : Nat → Int32} (h : gSig ns ne gX gT gV mV mW gF ch) : gSig ns ne gX (upd gT i (nI 119)) gV mV mW gF ch := by
  obtain ⟨a, b, c, d, e⟩ := h
  refine ⟨a, CA_upd b (by decide), c, d, fun k hk => ?_⟩
  obtain ⟨e0, e1, e2, e3, e4⟩ := e k hk
  by_cases q : k = i
  · subst q
    rw [pk_us]
    exact ⟨e0, fun w => absurd w (by decide), fun w => absurd w (by decide), e3, fun w => absurd w (by decide)⟩
  · rw [pk_un q]; exact ⟨e0, e1, e2, e3, e4⟩
section EDT
variable {eK eL eL2 mK mA eO eF pL pA pC xL xA xC : Nat → Int32} {eA eP eC eG eS gP gK gE : Nat → Nat} {nc ne n n3 na lu k i c q : Nat} {kd : Int32}
theorem klu_n {f : Nat → Int32} {g : Nat → Nat} : klu (upd f ne kd) (va_up g ne c) ne lu = if kd = nI 105 then lu + c else lu := by
  unfold klu; rw [pk_us, vu_s]
/-- the rows of the log ahead of the new one -/
theorem row_edit : ∀ e, e < ne → upd eK ne kd e = eK e ∧ va_up eA ne k e = eA e ∧ va_up eP ne i e = eP e ∧ va_up eC ne c e = eC e ∧ va_up eG ne q e = eG e ∧ va_up eS ne lu e = eS e := fun e he => by
  have h : ¬ e = ne := by omega
  exact ⟨pk_un h, vu_n h, vu_n h, vu_n h, vu_n h, vu_n h⟩
theorem let_edit (hl : gLog na ne lu eK eL mK mA eA eC eS) (he : ∀ j, j < lu → eL2 j = eL j) : ∀ e, e < ne → eK e = nI 105 → ∀ t, t < eC e → eL2 (eS e + t) = eL (eS e + t) := fun e h1 h2 t ht => by
  have := (hl.2.2.2.2.2.2 e h1).2.2.2 h2
  exact he _ (by omega)
theorem log_edit (hl : gLog na ne lu eK eL mK mA eA eC eS) (hn : ne < 40) (hk : k < na) (hc : c ≤ 60) (hc2 : kd = nI 105 → c ≤ 20) (hkd : vp_nar .char kd = kd) (hL : nrW eL2) :
    gLog na (ne + 1) (klu (upd eK ne kd) (va_up eC ne c) ne lu) (upd eK ne kd) eL2 (upd mK ne kd) (upd mA ne (nI k)) (va_up eA ne k) (va_up eC ne c) (va_up eS ne lu) := by
  obtain ⟨h1, h2, h3, h4, h5, h6, h7⟩ := hl
  rw [klu_n]
  have hlu : lu ≤ (if kd = nI 105 then lu + c else lu) ∧ (if kd = nI 105 then lu + c else lu) ≤ 20 * (ne + 1) := by
    split
    · rename_i z; have := hc2 z; omega
    · omega
  refine ⟨by omega, hlu.2, CA_upd h3 hkd, hL, CA_upd h5 hkd, fun e he => ?_, fun e he => ?_⟩
  · by_cases z : e = ne
    · subst z; rw [pk_us, pk_us]
    · rw [pk_un z, pk_un z]; exact h6 e (by omega)
  · by_cases z : e = ne
    · subst z
      rw [vu_s, vu_s, vu_s, pk_us, pk_us]
      exact ⟨hk, hc, rfl, fun y => by rw [if_pos y]; omega⟩
    · rw [vu_n z, vu_n z, vu_n z, pk_un z, pk_un z]
      obtain ⟨g1, g2, g3, g4⟩ := h7 e (by omega)
      exact ⟨g1, g2, g3, fun y => by have := g4 y; omega⟩
theorem his_edit (hl : gLog na ne lu eK eL mK mA eA eC eS) (hh : gHis ne n nc eK eL eA eP eC eG eS gP gK gE pL pA pC) (he : ∀ j, j < lu → eL2 j = eL j) (hf : fit9 kd i c q n) (hs : kd = nI 105 → lu + c ≤ 800) (h3 : n3 = pfn kd n c)
    (hx : ∀ j, j < n3 → xL j = nfL kd pL eL2 i c q lu j ∧ xA j = nfA kd pA (nI k) i c q j ∧ xC j = nfC kd pC i c q n j) :
    gHis (ne + 1) n3 nc (upd eK ne kd) eL2 (va_up eA ne k) (va_up eP ne i) (va_up eC ne c) (va_up eG ne q) (va_up eS ne lu) gP gK gE xL xA xC ∧
      (∀ e, e < ne → chE (upd eK ne kd) (va_up eA ne k) (va_up eP ne i) (va_up eC ne c) (va_up eG ne q) (va_up eS ne lu) eL2 gP gK gE nc e = chE eK eA eP eC eG eS eL gP gK gE nc e) ∧
      chE (upd eK ne kd) (va_up eA ne k) (va_up eP ne i) (va_up eC ne c) (va_up eG ne q) (va_up eS ne lu) eL2 gP gK gE nc ne = nch kd pL pC eL2 i c q lu n nc := by
  obtain ⟨g1, g2, g3, g4, g5, g6⟩ := hh
  have hg : ∀ e, e ≤ ne → hst (upd eK ne kd) (va_up eA ne k) (va_up eP ne i) (va_up eC ne c) (va_up eG ne q) (va_up eS ne lu) eL2 gP gK gE nc e = hst eK eA eP eC eG eS eL gP gK gE nc e := hst_cong row_edit (let_edit hl he) (fun _ _ _ => rfl)
  have hstep : hst (upd eK ne kd) (va_up eA ne k) (va_up eP ne i) (va_up eC ne c) (va_up eG ne q) (va_up eS ne lu) eL2 gP gK gE nc (ne + 1) = (pfn kd n c, nfL kd (hst eK eA eP eC eG eS eL gP gK gE nc ne).2.1 eL2 i c q lu, nfA kd (hst eK eA eP eC eG eS eL gP gK gE nc ne).2.2.1 (nI k) i c q, nfC kd (mka gP gK gE ne (hst eK eA eP eC eG eS eL gP gK gE nc ne).2.2.2 nc) i c q n) := by
    rw [hst, hg ne (Nat.le_refl _), pk_us, vu_s, vu_s, vu_s, vu_s, vu_s, g4]
  have hL9 : ∀ j, j < pfn kd n c → nfL kd (hst eK eA eP eC eG eS eL gP gK gE nc ne).2.1 eL2 i c q lu j = nfL kd pL eL2 i c q lu j := fun j hj => nfL_cong hf (fun t ht => (g5 t ht).1) hj
  have hA9 : ∀ j, j < pfn kd n c → nfA kd (hst eK eA eP eC eG eS eL gP gK gE nc ne).2.2.1 (nI k) i c q j = nfA kd pA (nI k) i c q j := fun j hj => nfA_cong hf (fun t ht => (g5 t ht).2.1) hj
  have hC9 : ∀ j, j < pfn kd n c → nfC kd (mka gP gK gE ne (hst eK eA eP eC eG eS eL gP gK gE nc ne).2.2.2 nc) i c q n j = nfC kd pC i c q n j := fun j hj => nfC_cong hf (fun t ht => (g5 t ht).2.2) hj
  subst h3
  refine ⟨⟨g1, pfn_le hf g2, fun e h => ?_, by rw [hstep], fun j hj => ?_, fun t ht => ?_⟩, fun e h => ?_, ?_⟩
  · rcases Nat.lt_or_ge e ne with z | z
    · rw [hg e (by omega)]
      obtain ⟨y1, y2⟩ := g3 e z
      refine ⟨y1, ?_⟩
      have w : ¬ e = ne := by omega
      unfold rok
      rw [pk_un w, vu_n w, vu_n w, vu_n w, vu_n w]
      exact y2
    · have w : e = ne := by omega
      subst w
      rw [hg e (Nat.le_refl _), g4]
      refine ⟨g2, ?_⟩
      unfold rok
      rw [pk_us, vu_s, vu_s, vu_s, vu_s]
      rcases hf with r | r
      · exact Or.inl ⟨r.1, r.2.1, r.2.2, hs r.1⟩
      · exact Or.inr r
  · rw [hstep]
    obtain ⟨y1, y2, y3⟩ := hx j hj
    rw [y1, y2, y3]
    refine ⟨hL9 j hj, hA9 j hj, ?_⟩
    rw [mka_none (fun t ht z => by have := (g6 t ht).1; omega)]
    exact hC9 j hj
  · obtain ⟨y1, y2⟩ := g6 t ht
    exact ⟨by omega, by rw [hg _ y1]; exact y2⟩
  · rw [che_cong row_edit (let_edit hl he) (fun _ _ _ => rfl) h]; rfl
  · unfold chE
    rw [hstep, hg ne (Nat.le_refl _), g4]
    exact chs_cong (fun v _ => un_cong (fun j hj => ⟨hL9 j hj, hC9 j hj⟩) (fun j hj => ⟨(g5 j hj).1, (g5 j hj).2.2⟩))
theorem bil_edit {sS sR : Nat → Int32} {sB : Nat → Int64} {f9 : Int32} (hb : gBil na ne sS sR sB eK eF eC eA) (hk : k < na) :
    gBil na (ne + 1) sS sR (vp_updL sB k (sB k + (prc (sR k) (sS k) kd c + f9).toInt64)) (upd eK ne kd) (upd eF ne f9) (va_up eC ne c) (va_up eA ne k) := by
  obtain ⟨h1, h2⟩ := hb
  refine ⟨fun a ha => ?_, fun a ha => ?_⟩
  · have hcg : cbl (sR a) (sS a) (upd eK ne kd) (va_up eC ne c) (upd eF ne f9) (va_up eA ne k) a ne = cbl (sR a) (sS a) eK eC eF eA a ne := cbl_cong (fun e he => by
      have h : ¬ e = ne := by omega
      exact ⟨pk_un h, vu_n h, pk_un h, vu_n h⟩)
    by_cases z : k = a
    · subst z
      rw [cbl_t (by rw [vu_s]), hcg, pk_us, vu_s, pk_us, ← h1 k ha]
      exact if_pos rfl
    · rw [cbl_f (by rw [vu_s]; exact z), hcg, ← h1 a ha]
      exact if_neg (fun y => z y.symm)
  · have z : ¬ a = k := by omega
    show (if a = k then _ else sB a) = 0
    rw [if_neg z]; exact h2 a ha
/-! A refused or impossible edit: the row of the draft alone is another. -/
theorem log_fail {zK zL : Nat → Int32} {zA zP zC zG zS : Nat → Nat} (hl : gLog na ne lu eK eL mK mA eA eC eS) (hr : ∀ e, e < ne → zK e = eK e ∧ zA e = eA e ∧ zP e = eP e ∧ zC e = eC e ∧ zG e = eG e ∧ zS e = eS e) (h1 : nrW zK) (h2 : nrW zL) : gLog na ne lu zK zL mK mA zA zC zS := by
  obtain ⟨a1, a2, a3, a4, a5, a6, a7⟩ := hl
  refine ⟨a1, a2, h1, h2, a5, fun e he => by rw [(hr e he).1]; exact a6 e he, fun e he => ?_⟩
  obtain ⟨r1, r2, r3, r4, r5, r6⟩ := hr e he
  rw [r1, r2, r4, r6]
  exact a7 e he
theorem his_fail {zK zL : Nat → Int32} {zA zP zC zG zS : Nat → Nat} (hl : gLog na ne lu eK eL mK mA eA eC eS) (hh : gHis ne n nc eK eL eA eP eC eG eS gP gK gE pL pA pC) (hr : ∀ e, e < ne → zK e = eK e ∧ zA e = eA e ∧ zP e = eP e ∧ zC e = eC e ∧ zG e = eG e ∧ zS e = eS e) (he : ∀ j, j < lu → zL j = eL j) :
    gHis ne n nc zK zL zA zP zC zG zS gP gK gE pL pA pC ∧ ∀ e, e < ne → chE zK zA zP zC zG zS zL gP gK gE nc e = chE eK eA eP eC eG eS eL gP gK gE nc e := by
  obtain ⟨g1, g2, g3, g4, g5, g6⟩ := hh
  have hg : ∀ e, e ≤ ne → hst zK zA zP zC zG zS zL gP gK gE nc e = hst eK eA eP eC eG eS eL gP gK gE nc e := hst_cong hr (let_edit hl he) (fun _ _ _ => rfl)
  refine ⟨⟨g1, g2, fun e h => ?_, by rw [hg ne (Nat.le_refl _)]; exact g4, fun j hj => by rw [hg ne (Nat.le_refl _)]; exact g5 j hj, fun t ht => ?_⟩, fun e h => ?_⟩
  · rw [hg e (by omega)]
    obtain ⟨y1, y2⟩ := g3 e h
    obtain ⟨r1, r2, r3, r4, r5, r6⟩ := hr e h
    refine ⟨y1, ?_⟩
    unfold rok
    rw [r1, r3, r4, r5, r6]
    exact y2
  · obtain ⟨y1, y2⟩ := g6 t ht
    exact ⟨y1, by rw [hg _ y1]; exact y2⟩
  · rw [che_cong hr (let_edit hl he) (fun _ _ _ => rfl) h]; rfl
theorem bil_fail {sS sR : Nat → Int32} {sB : Nat → Int64} {zK : Nat → Int32} {zA zP zC zG zS : Nat → Nat} (hb : gBil na ne sS sR sB eK eF eC eA) (hr : ∀ e, e < ne → zK e = eK e ∧ zA e = eA e ∧ zP e = eP e ∧ zC e = eC e ∧ zG e = eG e ∧ zS e = eS e) : gBil na ne sS sR sB zK eF zC zA := by
  obtain ⟨h1, h2⟩ := hb
  refine ⟨fun a ha => ?_, h2⟩
  rw [h1 a ha]
  exact (cbl_cong (fun e he => ⟨(hr e he).1, (hr e he).2.2.2.1, rfl, (hr e he).2.1⟩)).symm
/-! A clause more. -/
theorem his_clause (hh : gHis ne n nc eK eL eA eP eC eG eS gP gK gE pL pA pC) (hn : nc < 6) (hi : i + c ≤ n) :
    gHis ne n (nc + 1) eK eL eA eP eC eG eS (va_up gP nc i) (va_up gK nc c) (va_up gE nc ne) pL pA (mk pC i c (nI nc)) ∧
      ∀ e, e < ne → chE eK eA eP eC eG eS eL (va_up gP nc i) (va_up gK nc c) (va_up gE nc ne) (nc + 1) e = chE eK eA eP eC eG eS eL gP gK gE nc e := by
  obtain ⟨g1, g2, g3, g4, g5, g6⟩ := hh
  have hrow : ∀ e, e < ne → eK e = eK e ∧ eA e = eA e ∧ eP e = eP e ∧ eC e = eC e ∧ eG e = eG e ∧ eS e = eS e := fun _ _ => ⟨rfl, rfl, rfl, rfl, rfl, rfl⟩
  have hmk : ∀ e, e < ne → ∀ C, mka (va_up gP nc i) (va_up gK nc c) (va_up gE nc ne) e C (nc + 1) = mka gP gK gE e C nc := fun e he C => mka_past (by omega)
  have hlet : ∀ e, e < ne → eK e = nI 105 → ∀ t, t < eC e → eL (eS e + t) = eL (eS e + t) := fun _ _ _ _ _ => rfl
  have hg : ∀ e, e ≤ ne → hst eK eA eP eC eG eS eL (va_up gP nc i) (va_up gK nc c) (va_up gE nc ne) (nc + 1) e = hst eK eA eP eC eG eS eL gP gK gE nc e := hst_cong hrow hlet hmk
  refine ⟨⟨by omega, g2, fun e h => by rw [hg e (by omega)]; exact g3 e h, by rw [hg ne (Nat.le_refl _)]; exact g4, fun j hj => ?_, fun t ht => ?_⟩, fun e h => ?_⟩
  · rw [hg ne (Nat.le_refl _), mka_last]
    obtain ⟨y1, y2, y3⟩ := g5 j hj
    refine ⟨y1, y2, ?_⟩
    simp only [mk]
    rw [y3]
  · by_cases z : t = nc
    · subst z
      rw [vu_s, vu_s, vu_s, hg ne (Nat.le_refl _), g4]
      exact ⟨Nat.le_refl _, hi⟩
    · rw [vu_n z, vu_n z, vu_n z]
      obtain ⟨y1, y2⟩ := g6 t (by omega)
      exact ⟨y1, by rw [hg _ y1]; exact y2⟩
  · rw [che_cong hrow hlet hmk h]
    exact che_more g1 (fun e he => (g3 e he).2) h
theorem his_clv (hh : gHis ne n nc eK eL eA eP eC eG eS gP gK gE pL pA pC) : clv pC n nc := by
  obtain ⟨g1, g2, g3, g4, g5, g6⟩ := hh
  have h := clv_mka (P := gP) (K := gK) (E := gE) (ed := ne) (clv_hst (fun e he => (g3 e he).2) ne (Nat.le_refl _)) nc (Nat.le_refl _)
  rw [g4] at h
  exact clv_agr h (fun j hj => (g5 j hj).2.2.symm)
end EDT
