/-! What both sides answer, side by side. -/
theorem nI_mul (a b : Nat) : nI a * nI b = nI (a * b) := (Int32.ofNat_mul a b).symm
theorem nI_half {m : Nat} (h : m < 2147483648) : nI m / nI 2 = nI (m / 2) := by
  apply Int32.toInt_inj.mp
  rw [Int32.toInt_div, tn h, tn (by decide), tn (by omega), show ((2 : Nat) : Int) = 2 from rfl, show Int.tdiv (m : Int) 2 = ((m / 2 : Nat) : Int) from (Int.ofNat_tdiv m 2).symm, Int.bmod_def]
  omega
theorem prc_bnd {r s kd : Int32} {c : Nat} (h : scok s r) (hc : c ≤ 60) : ∃ j, j ≤ 60000 ∧ prc r s kd c = nI j := by
  obtain ⟨t, ht, rfl⟩ := nI_of_ixl (v := r) (n := 999) ⟨h.2.2.1, h.2.2.2⟩
  have hm : c * t ≤ 60 * 999 := Nat.mul_le_mul hc ht
  have hm2 : max c 2 * t ≤ 60 * 999 := Nat.mul_le_mul (by omega) ht
  unfold prc
  split
  · exact ⟨c * t, by omega, nI_mul _ _⟩
  · split
    · exact ⟨t, by omega, rfl⟩
    · split
      · unfold hdp
        split
        · exact ⟨c * t, by omega, nI_mul _ _⟩
        · split
          · exact ⟨c * t / 2, by omega, by rw [nI_mul, nI_half (by omega)]⟩
          · exact ⟨0, by omega, rfl⟩
      · exact ⟨max c 2 * t, by omega, nI_mul _ _⟩
theorem cst_edit {ne na k c fee ns : Nat} {eO sS sR : Nat → Int32} {kd : Int32} {p : Nat → Bool} (h : gCst ne eO) (ha : gAut na sS sR) (hk : k < na) (hc : c ≤ 60) (hf : fee ≤ 999) (hs : ns ≤ 12) : gCst (ne + 1) (upd eO ne (prc (sR k) (sS k) kd c + nI fee * nI (ct p ns))) := fun e he => by
  by_cases z : e = ne
  · subst z
    rw [pk_us]
    obtain ⟨j, hj, e1⟩ := prc_bnd (kd := kd) (ha.2 k hk) hc
    have hm : fee * ct p ns ≤ 999 * 12 := Nat.mul_le_mul hf (Nat.le_trans (ct_le p ns) hs)
    rw [e1, nI_mul, nI_add, tn (by omega)]
    omega
  · rw [pk_un z]; exact h e (by omega)
theorem agr_nfL {kd : Int32} {g g2 l l2 : Nat → Int32} {p c q s s2 m : Nat} (hf : fit9 kd p c q m) (h : agr m g g2) (hl : kd = nI 105 → ∀ t, t < c → l (s + t) = l2 (s2 + t)) : agr (pfn kd m c) (nfL kd g l p c q s) (nfL kd g2 l2 p c q s2) := fun j hj => by
  rw [nfL_cong hf h hj]
  unfold nfL
  by_cases hk : kd = nI 105
  · rw [if_pos hk, if_pos hk]
    simp only [inF]
    by_cases z : j < p
    · rw [if_pos z, if_pos z]
    · rw [if_neg z, if_neg z]
      by_cases y : j < p + c
      · rw [if_pos y, if_pos y]; exact hl hk _ (by omega)
      · rw [if_neg y, if_neg y]
  · rw [if_neg hk, if_neg hk]
theorem nch_eq {kd : Int32} {pL pC tL tC l l2 : Nat → Int32} {p c q s s2 n nc : Nat} (hf : fit9 kd p c q n) (hL : agr n pL tL) (hC : agr n pC tC) (hl : kd = nI 105 → ∀ t, t < c → l (s + t) = l2 (s2 + t)) : nch kd pL pC l p c q s n nc = nch kd tL tC l2 p c q s2 n nc :=
  chs_cong (fun _ _ => un_cong (fun j hj => ⟨agr_nfL hf hL hl j hj, nfC_cong hf hC hj⟩) (fun j hj => ⟨hL j hj, hC j hj⟩))
theorem let_ins {bF eL : Nat → Int32} {lu nb : Nat} : ∀ t, t < nb → va_cpy bF eL 0 lu nb (lu + t) = bF (0 + t) := fun t ht => by
  show (if lu ≤ lu + t ∧ lu + t < lu + nb then bF (0 + (lu + t - lu)) else eL (lu + t)) = bF (0 + t)
  rw [if_pos (by omega), show lu + t - lu = t by omega]
theorem nch_ins {pL pC tL tC bF eL : Nat → Int32} {i nb lu n nc : Nat} (hi : i ≤ n) (hn : n + nb ≤ 60) (hL : agr n pL tL) (hC : agr n pC tC) : nch (nI 105) tL tC bF i nb i 0 n nc = nch (nI 105) pL pC (va_cpy bF eL 0 lu nb) i nb i lu n nc :=
  (nch_eq (Or.inl ⟨rfl, hi, hn⟩) hL hC (fun _ => let_ins)).symm
theorem nch_del {pL pC tL tC eL : Nat → Int32} {i j lu n nc : Nat} (hi : i + j ≤ n) (hL : agr n pL tL) (hC : agr n pC tC) : nch (nI 100) tL tC tL i j i 0 n nc = nch (nI 100) pL pC eL i j i lu n nc :=
  (nch_eq (Or.inr ⟨by decide, hi, Or.inl rfl⟩) hL hC (fun z => absurd z (by decide))).symm
theorem nch_mov {pL pC tL tC eL : Nat → Int32} {i j q lu n nc : Nat} (hi : i + j ≤ n) (hq : q + j ≤ n) (hL : agr n pL tL) (hC : agr n pC tC) (hc : clv pC n nc) (h6 : nc ≤ 6) : chs (un tL tC n (mvF tL i j q) (mvo tC i j q n) n) nc = nch (nI 109) pL pC eL i j q lu n nc := by
  rw [nch_mv (l := eL) (s := lu) hi hq (clv_6 h6 (clv_agr hc (fun t ht => (hC t ht).symm)))]
  exact (nch_eq (Or.inr ⟨by decide, hi, Or.inr hq⟩) hL hC (fun z => absurd z (by decide))).symm
theorem txt_of {kd : Int32} {pL pA pC tL tA tC xL xA xC zL zA zC l l2 : Nat → Int32} {p c q s s2 n n3 n2 : Nat} {v : Int32} (hf : fit9 kd p c q n) (h : gTxt n pL pA pC tL tA tC) (hl : kd = nI 105 → ∀ t, t < c → l (s + t) = l2 (s2 + t)) (h3 : n3 = pfn kd n c) (h2 : n2 = n3) (cx9 : nrW xL) (cz : nrW zL)
    (hx : ∀ j, j < n3 → xL j = nfL kd pL l p c q s j ∧ xA j = nfA kd pA v p c q j ∧ xC j = nfC kd pC p c q n j)
    (hz : agr n2 zL (nfL kd tL l2 p c q s2)) (hzA : agr n2 zA (nfA kd tA v p c q)) (hzC : agr n2 zC (nfC kd tC p c q n)) : gTxt n3 xL xA xC zL zA zC := by
  obtain ⟨h4, h5, hL, hA, hC⟩ := h
  subst h2
  subst h3
  refine ⟨cx9, cz, fun j hj => ?_, fun j hj => ?_, fun j hj => ?_⟩
  · rw [(hx j hj).1, hz j hj]; exact agr_nfL hf hL hl j hj
  · rw [(hx j hj).2.1, hzA j hj]; exact nfA_cong hf hA hj
  · rw [(hx j hj).2.2, hzC j hj]; exact nfC_cong hf hC hj
/-! The output line. -/
theorem agr_up {N : Nat} {F G : Nat → Int32} {v : Int32} (h : agr N F G) : agr (N + 1) (upd F N v) (upd G N v) := fun t ht => by
  by_cases z : t = N
  · subst z; rw [pk_us, pk_us]
  · rw [pk_un z, pk_un z]; exact h t (by omega)
theorem wcl_ag {N : Nat} {F G : Nat → Int32} {c : Int32} (h : agr N F G) : (wcl N F c).1 = (wcl N G c).1 ∧ agr (wcl N F c).1 (wcl N F c).2 (wcl N G c).2 := by
  unfold wcl
  split
  · exact ⟨rfl, h⟩
  · exact ⟨rfl, agr_up h⟩
theorem wop_ag {N : Nat} {F G : Nat → Int32} {c : Int32} (h : agr N F G) : (wop N F c).1 = (wop N G c).1 ∧ agr (wop N F c).1 (wop N F c).2 (wop N G c).2 := by
  unfold wop
  split
  · exact ⟨rfl, h⟩
  · exact ⟨rfl, agr_up (agr_up (agr_up h))⟩
theorem wst_ag {N : Nat} {F G : Nat → Int32} {o c : Int32} (h : agr N F G) : (wst N F o c).1 = (wst N G o c).1 ∧ agr (wst N F o c).1 (wst N F o c).2 (wst N G o c).2 := by
  unfold wst
  split
  · exact ⟨rfl, h⟩
  · obtain ⟨a, b⟩ := wcl_ag (c := o) h
    rw [← a]
    exact wop_ag b
theorem wtx_ag {pL pC oF tL tC lF : Nat → Int32} {n : Nat} (hL : agr n pL tL) (hC : agr n pC tC) : ∀ {k}, k ≤ n → (wtx pL pC oF k).1 = (wtx tL tC lF k).1 ∧ (wtx pL pC oF k).2.2 = (wtx tL tC lF k).2.2 ∧ agr (wtx pL pC oF k).1 (wtx pL pC oF k).2.1 (wtx tL tC lF k).2.1
  | 0, _ => ⟨rfl, rfl, agr_0⟩
  | k + 1, hk => by
    obtain ⟨a, b, c⟩ := wtx_ag (oF := oF) (lF := lF) hL hC (k := k) (by omega)
    have e : (wtx tL tC lF (k + 1)) = ((wst (wtx tL tC lF k).1 (wtx tL tC lF k).2.1 (wtx tL tC lF k).2.2 (tC k)).1 + 1, upd (wst (wtx tL tC lF k).1 (wtx tL tC lF k).2.1 (wtx tL tC lF k).2.2 (tC k)).2 (wst (wtx tL tC lF k).1 (wtx tL tC lF k).2.1 (wtx tL tC lF k).2.2 (tC k)).1 (tL k), tC k) := rfl
    rw [e, wtx_1, wtx_2, show (wtx pL pC oF (k + 1)).2.2 = pC k from rfl, ← a, ← b, ← hL k (by omega), ← hC k (by omega)]
    obtain ⟨x, y⟩ := wst_ag (o := (wtx pL pC oF k).2.2) (c := pC k) c
    dsimp only
    rw [← x]
    exact ⟨rfl, rfl, agr_up y⟩
theorem wt_ag {pL pC oF tL tC lF : Nat → Int32} {n : Nat} (hL : agr n pL tL) (hC : agr n pC tC) : (wcl (wtx pL pC oF n).1 (wtx pL pC oF n).2.1 (wtx pL pC oF n).2.2).1 = wtn tL tC lF n ∧ agr (wcl (wtx pL pC oF n).1 (wtx pL pC oF n).2.1 (wtx pL pC oF n).2.2).1 (wcl (wtx pL pC oF n).1 (wtx pL pC oF n).2.1 (wtx pL pC oF n).2.2).2 (wtf tL tC lF n) := by
  obtain ⟨a, b, c⟩ := wtx_ag (oF := oF) (lF := lF) hL hC (Nat.le_refl n)
  unfold wtn wtf
  rw [← a, ← b]
  exact wcl_ag c
theorem wt_le {pL pC oF : Nat → Int32} {n : Nat} (hn : n ≤ 60) : (wcl (wtx pL pC oF n).1 (wtx pL pC oF n).2.1 (wtx pL pC oF n).2.2).1 ≤ 300 := by
  rw [wcl_1]
  have := wtx_le (pL := pL) (pC := pC) (oF := oF) n
  omega
theorem out_txt {pL pC oF tL tC lF : Nat → Int32} {n no : Nat} (hn : n ≤ 60) (h1 : nrW pL) (h2 : nrW tL) (hL : agr n pL tL) (hC : agr n pC tC) (ho : gOut no oF lF) : gOut (wcl (wtx pL pC oF n).1 (wtx pL pC oF n).2.1 (wtx pL pC oF n).2.2).1 (wcl (wtx pL pC oF n).1 (wtx pL pC oF n).2.1 (wtx pL pC oF n).2.2).2 (wtf tL tC lF n) :=
  ⟨wt_le hn, CA_wcl (CA_wtx h1 ho.2.1 n), CA_wcl (CA_wtx h2 ho.2.2.1 n), (wt_ag hL hC).2⟩
theorem wcs_ag {pL pC oF tL tC lF : Nat → Int32} {v : Int32} {n : Nat} (hL : agr n pL tL) (hC : agr n pC tC) : ∀ {k}, k ≤ n → (wcs pL pC oF v k).1 = (wcs tL tC lF v k).1 ∧ agr (wcs pL pC oF v k).1 (wcs pL pC oF v k).2 (wcs tL tC lF v k).2
  | 0, _ => ⟨rfl, agr_0⟩
  | k + 1, hk => by
    obtain ⟨a, c⟩ := wcs_ag (oF := oF) (lF := lF) (v := v) hL hC (k := k) (by omega)
    by_cases z : pC k = v
    · rw [wcs_t z, wcs_t (by rw [← hC k (by omega)]; exact z), ← a, ← hL k (by omega)]
      exact ⟨rfl, agr_up c⟩
    · rw [wcs_f z, wcs_f (by rw [← hC k (by omega)]; exact z)]
      exact ⟨a, c⟩
theorem out_cls {pL pC oF tL tC lF : Nat → Int32} {v : Int32} {n no : Nat} (hn : n ≤ 60) (h1 : nrW pL) (h2 : nrW tL) (hL : agr n pL tL) (hC : agr n pC tC) (ho : gOut no oF lF) : gOut (wcs pL pC oF v n).1 (wcs pL pC oF v n).2 (wcs tL tC lF v n).2 :=
  ⟨by have := wcs_le (pL := pL) (pC := pC) (oF := oF) (v := v) n; omega, CA_wcs h1 ho.2.1 n, CA_wcs h2 ho.2.2.1 n, (wcs_ag hL hC (Nat.le_refl n)).2⟩
theorem vCla_ag {v k : Int32} {n nc : Nat} {pC tC : Nat → Int32} (hn : n ≤ 60) (h : agr n pC tC) : vCla v k n nc pC = vCla v k n nc tC := by
  unfold vCla
  by_cases r : rng v k n
  · obtain ⟨i, j, h1, h2, rfl, rfl⟩ := nI_of_rng r
    rw [nI_clamp (by omega), nI_clamp (by omega)]
    have : frb pC i j = frb tC i j := by
      rw [Bool.eq_iff_iff, frb_t, frb_t]
      constructor
      · intro q t a b; rw [← h t (by omega)]; exact q t a b
      · intro q t a b; rw [h t (by omega)]; exact q t a b
    rw [this]
  · rw [if_pos r, if_pos r]
theorem vCla_0 {v k : Int32} {n nc : Nat} {pC : Nat → Int32} (h : vCla v k n nc pC = 0) : ¬ nc = 6 := fun z => by
  unfold vCla at h
  split at h
  · cases h
  · rw [if_pos (Or.inl z)] at h; cases h
theorem vSig_0 {a cl : Int32} {na nc ns : Nat} (h : vSig a cl na nc ns = 0) : ¬ ns = 12 := fun z => by
  unfold vSig at h
  split at h
  · cases h
  · split at h
    · cases h
    · first | (cases h; done) | (rw [if_pos z] at h; cases h)
theorem vIns_0 {a p : Int32} {na n nb ne : Nat} (h : vIns a p na n nb ne = 0) : ¬ ne = 40 ∧ n + nb ≤ 60 ∧ ¬ nb = 0 := by
  unfold vIns at h
  split at h
  · cases h
  · split at h
    · cases h
    · split at h
      · cases h
      · rename_i x y z
        exact ⟨fun w => z (Or.inl w), Nat.le_of_not_lt (fun w => z (Or.inr w)), y⟩
theorem vDel_0 {a p k : Int32} {na n ne : Nat} (h : vDel a p k na n ne = 0) : ¬ ne = 40 := fun z => by
  unfold vDel at h
  split at h
  · cases h
  · first | (cases h; done) | (rw [if_pos z] at h; cases h)
theorem vMov_0 {a p k g : Int32} {na n ne : Nat} (h : vMov a p k g na n ne = 0) : ¬ ne = 40 := fun z => by
  unfold vMov at h
  split at h
  · cases h
  · first | (cases h; done) | (rw [if_pos z] at h; cases h)
theorem vTyp_n {x : Int32} {nb : Nat} (h : vTyp x nb = 0) : ¬ nb = 20 := fun z => by
  unfold vTyp at h
  split at h
  · cases h
  · first | (cases h; done) | (rw [if_pos z] at h; cases h)
theorem buf_put {nb : Nat} {bF : Nat → Int32} {v : Int32} (h : gBuf nb bF) (hv : vp_nar .char v = v) (h0 : vTyp v nb = 0) : gBuf (nb + 1) (upd bF nb v) :=
  ⟨by have := h.1; have := vTyp_n h0; omega, CA_upd h.2 hv⟩
theorem lck_up {kZ : Nat → Int32} {k : Nat} {z : Int32} (h : gLck kZ) (hz : z = 0 ∨ z = 1) : gLck (upd kZ k z) := zup h hz
