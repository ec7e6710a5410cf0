theorem lkX8_lays_1 : Cond.fieldLink RX8 13 "SignedDocumentModel" "nextCh" "[C" ∈ wsX8_lays := List.mem_of_getElem? (i := 1) rfl
theorem inX8_lays_8 : ∀ w ∈ u_ws RX8 TX8 33, w ∈ wsX8_lays := fun _ h => List.mem_cons_of_mem _ (List.mem_append_left _ (List.mem_append_right _ h))
theorem lkX8_lays_2 : Cond.fieldLink RX8 95 "SignedDocumentModel" "nextLength" "I" ∈ wsX8_lays := List.mem_of_getElem? (i := 2) rfl
theorem lkX8_lays_3 : Cond.fieldLink RX8 23 "SignedDocumentModel" "nextWho" "[I" ∈ wsX8_lays := List.mem_of_getElem? (i := 3) rfl
theorem lkX8_lays_4 : Cond.fieldLink RX8 26 "SignedDocumentModel" "nextClause" "[I" ∈ wsX8_lays := List.mem_of_getElem? (i := 4) rfl
set_option maxRecDepth 100000 in
set_option maxHeartbeats 4000000 in
theorem mX8_lays (l : Launch) (D : va_G) (cC cI cJ cZ cD : ClassId) (x xa xb xc xd xe xf xg xh xi xj xk xl xm xn xo xp xq xr xs xt : Nat) (n nx nb no na nc ne ns fee : Nat) (sj th rs stc : Int32) (mL : Nat → Int32) (mA : Nat → Int32) (mC : Nat → Int32) (v1 v2 v3 : Int32) (sz : Nat) (hx9 : nx < 60) (hv1 : vp_nar .char v1 = v1) (hmL : ∀ j, vp_nar .char (mL j) = mL j) : MV l yX8_lays wsX8_lays ({ frames := 0, cells := 0, slots := 0, locals := 0 }) [.ref x, .int v1, .int v2, .int v3] D (TY cC cI cJ cZ cD) [(x, .inr (10, [.ref xa, .ref xb, .ref xc, .ref xd, .ref xe, .ref xf, .ref xg, .ref xh, .ref xi, .ref xj, .ref xk, .ref xl, .ref xm, .ref xn, .ref xo, .ref xp, .ref xq, .ref xr, .ref xs, .ref xt, .int (nI n), .int (nI nx), .int (nI nb), .int (nI no), .int (nI na), .int (nI nc), .int (nI ne), .int (nI ns), .int (nI fee), .int sj, .int th, .int rs, .int stc])), (xb, .inl (cC, 60, .inl mL)), (xe, .inl (cI, 60, .inl mA)), (xf, .inl (cI, 60, .inl mC))] sz (fun (_ : Unit) => True) (fun (_ : Unit) => [(x, .inr (10, [.ref xa, .ref xb, .ref xc, .ref xd, .ref xe, .ref xf, .ref xg, .ref xh, .ref xi, .ref xj, .ref xk, .ref xl, .ref xm, .ref xn, .ref xo, .ref xp, .ref xq, .ref xr, .ref xs, .ref xt, .int (nI n), .int (nI (nx + 1)), .int (nI nb), .int (nI no), .int (nI na), .int (nI nc), .int (nI ne), .int (nI ns), .int (nI fee), .int sj, .int th, .int rs, .int stc])), (xb, .inl (cC, 60, .inl (upd mL nx v1))), (xe, .inl (cI, 60, .inl (upd mA nx v2))), (xf, .inl (cI, 60, .inl (upd mC nx v3)))]) 0 0 := by
  refine mk_MV (cc := cX8_lays) (maxL := 4) (ret := none) (by decide) rfl (Nat.le_of_ble_eq_true rfl) ?_
  intro p e s mI args below meth cO A cx hr hlk hnm hw ls hl
  have hx := cx.1
  have hb := cx.2.1
  have hw : ww D (TY cC cI cJ cZ cD) s A s.heap [(x, .inr (10, [.ref xa, .ref xb, .ref xc, .ref xd, .ref xe, .ref xf, .ref xg, .ref xh, .ref xi, .ref xj, .ref xk, .ref xl, .ref xm, .ref xn, .ref xo, .ref xp, .ref xq, .ref xr, .ref xs, .ref xt, .int (nI n), .int (nI nx), .int (nI nb), .int (nI no), .int (nI na), .int (nI nc), .int (nI ne), .int (nI ns), .int (nI fee), .int sj, .int th, .int rs, .int stc])), (xb, .inl (cC, 60, .inl mL)), (xe, .inl (cI, 60, .inl mA)), (xf, .inl (cI, 60, .inl mC))] s.heap [] := hw
  have hl : lv_has ls 4 [(0, .ref x), (1, .int v1), (2, .int v2), (3, .int v3)] := hl
  generalize hQ : MQ _ _ _ _ _ _ _ = Q
  refine hp_start hw (fun H locs hw => ?_)
  refine lv_aload_n hx hb dX8_lays_0 rfl (lv_at hl 0 rfl) ?_
  refine r_get cx hw inX8_lays_8 0 1 rfl rfl (by decide) lkX8_lays_1 rfl dX8_lays_1 ?_
  refine lv_aload_n hx hb dX8_lays_4 rfl (lv_at hl 0 rfl) ?_
  refine r_get cx hw inX8_lays_8 0 21 rfl rfl (by decide) lkX8_lays_2 rfl dX8_lays_5 ?_
  refine lv_iload_n hx hb dX8_lays_8 rfl (lv_at hl 1 rfl) ?_
  refine r_cast cx hw 1 0 rfl rfl nx rfl hv1 (by omega) (by omega) dX8_lays_9 (fun H locs hw => ?_)
  have hw : ww D (TY cC cI cJ cZ cD) s A s.heap [(x, .inr (10, [.ref xa, .ref xb, .ref xc, .ref xd, .ref xe, .ref xf, .ref xg, .ref xh, .ref xi, .ref xj, .ref xk, .ref xl, .ref xm, .ref xn, .ref xo, .ref xp, .ref xq, .ref xr, .ref xs, .ref xt, .int (nI n), .int (nI nx), .int (nI nb), .int (nI no), .int (nI na), .int (nI nc), .int (nI ne), .int (nI ns), .int (nI fee), .int sj, .int th, .int rs, .int stc])), (xb, .inl (cC, 60, .inl (upd mL nx v1))), (xe, .inl (cI, 60, .inl mA)), (xf, .inl (cI, 60, .inl mC))] H locs := hw
  refine lv_aload_n hx hb dX8_lays_10 rfl (lv_at hl 0 rfl) ?_
  refine r_get cx hw inX8_lays_8 0 4 rfl rfl (by decide) lkX8_lays_3 rfl dX8_lays_11 ?_
  refine lv_aload_n hx hb dX8_lays_14 rfl (lv_at hl 0 rfl) ?_
  refine r_get cx hw inX8_lays_8 0 21 rfl rfl (by decide) lkX8_lays_2 rfl dX8_lays_15 ?_
  refine lv_iload_n hx hb dX8_lays_18 rfl (lv_at hl 2 rfl) ?_
  refine r_iast cx hw 2 1 rfl rfl nx rfl (by omega) (by omega) dX8_lays_19 (fun H locs hw => ?_)
  have hw : ww D (TY cC cI cJ cZ cD) s A s.heap [(x, .inr (10, [.ref xa, .ref xb, .ref xc, .ref xd, .ref xe, .ref xf, .ref xg, .ref xh, .ref xi, .ref xj, .ref xk, .ref xl, .ref xm, .ref xn, .ref xo, .ref xp, .ref xq, .ref xr, .ref xs, .ref xt, .int (nI n), .int (nI nx), .int (nI nb), .int (nI no), .int (nI na), .int (nI nc), .int (nI ne), .int (nI ns), .int (nI fee), .int sj, .int th, .int rs, .int stc])), (xb, .inl (cC, 60, .inl (upd mL nx v1))), (xe, .inl (cI, 60, .inl (upd mA nx v2))), (xf, .inl (cI, 60, .inl mC))] H locs := hw
  refine lv_aload_n hx hb dX8_lays_20 rfl (lv_at hl 0 rfl) ?_
  refine r_get cx hw inX8_lays_8 0 5 rfl rfl (by decide) lkX8_lays_4 rfl dX8_lays_21 ?_
  refine lv_aload_n hx hb dX8_lays_24 rfl (lv_at hl 0 rfl) ?_
  refine r_get cx hw inX8_lays_8 0 21 rfl rfl (by decide) lkX8_lays_2 rfl dX8_lays_25 ?_
  refine lv_iload_n hx hb dX8_lays_28 rfl (lv_at hl 3 rfl) ?_
  refine r_iast cx hw 3 1 rfl rfl nx rfl (by omega) (by omega) dX8_lays_29 (fun H locs hw => ?_)
  have hw : ww D (TY cC cI cJ cZ cD) s A s.heap [(x, .inr (10, [.ref xa, .ref xb, .ref xc, .ref xd, .ref xe, .ref xf, .ref xg, .ref xh, .ref xi, .ref xj, .ref xk, .ref xl, .ref xm, .ref xn, .ref xo, .ref xp, .ref xq, .ref xr, .ref xs, .ref xt, .int (nI n), .int (nI nx), .int (nI nb), .int (nI no), .int (nI na), .int (nI nc), .int (nI ne), .int (nI ns), .int (nI fee), .int sj, .int th, .int rs, .int stc])), (xb, .inl (cC, 60, .inl (upd mL nx v1))), (xe, .inl (cI, 60, .inl (upd mA nx v2))), (xf, .inl (cI, 60, .inl (upd mC nx v3)))] H locs := hw
  refine lv_aload_n hx hb dX8_lays_30 rfl (lv_at hl 0 rfl) ?_
  refine lv_dup hx hb dX8_lays_31 rfl ?_
  refine r_get cx hw inX8_lays_8 0 21 rfl rfl (by decide) lkX8_lays_2 rfl dX8_lays_32 ?_
  refine lv_iconst (v := nI 1) hx hb dX8_lays_35 (by decide) ?_
  refine r_iadd cx nx 1 rfl rfl dX8_lays_36 ?_
  refine r_put cx hw inX8_lays_8 tyX8 tyX8_ok nmX8 0 21 rfl rfl (by decide) lkX8_lays_2 rfl rfl rfl (Nat.le_of_ble_eq_true rfl) dX8_lays_37 (fun H locs hw => ?_)
  have hw : ww D (TY cC cI cJ cZ cD) s A s.heap [(x, .inr (10, [.ref xa, .ref xb, .ref xc, .ref xd, .ref xe, .ref xf, .ref xg, .ref xh, .ref xi, .ref xj, .ref xk, .ref xl, .ref xm, .ref xn, .ref xo, .ref xp, .ref xq, .ref xr, .ref xs, .ref xt, .int (nI n), .int (nI (nx + 1)), .int (nI nb), .int (nI no), .int (nI na), .int (nI nc), .int (nI ne), .int (nI ns), .int (nI fee), .int sj, .int th, .int rs, .int stc])), (xb, .inl (cC, 60, .inl (upd mL nx v1))), (xe, .inl (cI, 60, .inl (upd mA nx v2))), (xf, .inl (cI, 60, .inl (upd mC nx v3)))] H locs := hw
  subst hQ
  exact r_retv cx hr hlk hw (Nat.le_of_ble_eq_true rfl) (Nat.le_of_ble_eq_true rfl) () trivial [0, 1, 2, 3] (by decide) rfl dX8_lays_40

theorem lkX8_laysWithout_1 : Cond.fieldLink RX8 95 "SignedDocumentModel" "nextLength" "I" ∈ wsX8_laysWithout := List.mem_of_getElem? (i := 1) rfl
theorem inX8_laysWithout_8 : ∀ w ∈ u_ws RX8 TX8 33, w ∈ wsX8_laysWithout := fun _ h => List.mem_cons_of_mem _ (List.mem_append_left _ (List.mem_append_right _ h))
theorem lkX8_laysWithout_2 : Cond.fieldLink RX8 98 "SignedDocumentModel" "length" "I" ∈ wsX8_laysWithout := List.mem_of_getElem? (i := 2) rfl
theorem lkX8_laysWithout_3 : Cond.fieldLink RX8 7 "SignedDocumentModel" "ch" "[C" ∈ wsX8_laysWithout := List.mem_of_getElem? (i := 3) rfl
theorem lkX8_laysWithout_4 : Cond.fieldLink RX8 16 "SignedDocumentModel" "who" "[I" ∈ wsX8_laysWithout := List.mem_of_getElem? (i := 4) rfl
theorem lkX8_laysWithout_5 : Cond.fieldLink RX8 20 "SignedDocumentModel" "clause" "[I" ∈ wsX8_laysWithout := List.mem_of_getElem? (i := 5) rfl
set_option maxRecDepth 100000 in
set_option maxHeartbeats 4000000 in
theorem mX8_laysWithout (l : Launch) (D : va_G) (cC cI cJ cZ cD : ClassId) (x xa xb xc xd xe xf xg xh xi xj xk xl xm xn xo xp xq xr xs xt : Nat) (n nx nb no na nc ne ns fee : Nat) (sj th rs stc : Int32) (tL : Nat → Int32) (tA : Nat → Int32) (tC : Nat → Int32) (mL : Nat → Int32) (mA : Nat → Int32) (mC : Nat → Int32) (i9 j9 : Nat) (sz : Nat) (hn : n ≤ 60) (hij : i9 + j9 ≤ n) (htL : ∀ j, vp_nar .char (tL j) = tL j) (hmL : ∀ j, vp_nar .char (mL j) = mL j) : MV l yX8_laysWithout wsX8_laysWithout ({ frames := 1, cells := 0, slots := 0, locals := 23 }) [.ref x, .int (nI i9), .int (nI j9)] D (TY cC cI cJ cZ cD) [(x, .inr (10, [.ref xa, .ref xb, .ref xc, .ref xd, .ref xe, .ref xf, .ref xg, .ref xh, .ref xi, .ref xj, .ref xk, .ref xl, .ref xm, .ref xn, .ref xo, .ref xp, .ref xq, .ref xr, .ref xs, .ref xt, .int (nI n), .int (nI nx), .int (nI nb), .int (nI no), .int (nI na), .int (nI nc), .int (nI ne), .int (nI ns), .int (nI fee), .int sj, .int th, .int rs, .int stc])), (xa, .inl (cC, 60, .inl tL)), (xc, .inl (cI, 60, .inl tA)), (xd, .inl (cI, 60, .inl tC)), (xb, .inl (cC, 60, .inl mL)), (xe, .inl (cI, 60, .inl mA)), (xf, .inl (cI, 60, .inl mC))] sz (fun (uu : (Nat → Int32) × (Nat → Int32) × (Nat → Int32)) => match uu with | (mL2, mA2, mC2) => agr (n - j9) mL2 (dlF tL i9 j9) ∧ agr (n - j9) mA2 (dlF tA i9 j9) ∧ agr (n - j9) mC2 (dlF tC i9 j9) ∧ ∀ j, vp_nar .char (mL2 j) = mL2 j) (fun (uu : (Nat → Int32) × (Nat → Int32) × (Nat → Int32)) => match uu with | (mL2, mA2, mC2) => [(x, .inr (10, [.ref xa, .ref xb, .ref xc, .ref xd, .ref xe, .ref xf, .ref xg, .ref xh, .ref xi, .ref xj, .ref xk, .ref xl, .ref xm, .ref xn, .ref xo, .ref xp, .ref xq, .ref xr, .ref xs, .ref xt, .int (nI n), .int (nI (n - j9)), .int (nI nb), .int (nI no), .int (nI na), .int (nI nc), .int (nI ne), .int (nI ns), .int (nI fee), .int sj, .int th, .int rs, .int stc])), (xa, .inl (cC, 60, .inl tL)), (xc, .inl (cI, 60, .inl tA)), (xd, .inl (cI, 60, .inl tC)), (xb, .inl (cC, 60, .inl mL2)), (xe, .inl (cI, 60, .inl mA2)), (xf, .inl (cI, 60, .inl mC2))]) 0 0 := by
  refine mk_MV (cc := cX8_laysWithout) (maxL := 4) (ret := none) (by decide) rfl (Nat.le_of_ble_eq_true rfl) ?_
  intro p e s mI args below meth cO A cx hr hlk hnm hw ls hl
  have hx := cx.1
  have hb := cx.2.1
  have hw : ww D (TY cC cI cJ cZ cD) s A s.heap [(x, .inr (10, [.ref xa, .ref xb, .ref xc, .ref xd, .ref xe, .ref xf, .ref xg, .ref xh, .ref xi, .ref xj, .ref xk, .ref xl, .ref xm, .ref xn, .ref xo, .ref xp, .ref xq, .ref xr, .ref xs, .ref xt, .int (nI n), .int (nI nx), .int (nI nb), .int (nI no), .int (nI na), .int (nI nc), .int (nI ne), .int (nI ns), .int (nI fee), .int sj, .int th, .int rs, .int stc])), (xa, .inl (cC, 60, .inl tL)), (xc, .inl (cI, 60, .inl tA)), (xd, .inl (cI, 60, .inl tC)), (xb, .inl (cC, 60, .inl mL)), (xe, .inl (cI, 60, .inl mA)), (xf, .inl (cI, 60, .inl mC))] s.heap [] := hw
  have hl : lv_has ls 4 [(0, .ref x), (1, .int (nI i9)), (2, .int (nI j9))] := hl
  generalize hQ : MQ _ _ _ _ _ _ _ = Q
  refine hp_start hw (fun H locs hw => ?_)
  refine lv_aload_n hx hb dX8_laysWithout_0 rfl (lv_at hl 0 rfl) ?_
  refine lv_iconst (v := nI 0) hx hb dX8_laysWithout_1 (by decide) ?_
  refine r_put cx hw inX8_laysWithout_8 tyX8 tyX8_ok nmX8 0 21 rfl rfl (by decide) lkX8_laysWithout_1 rfl rfl rfl (Nat.le_of_ble_eq_true rfl) dX8_laysWithout_2 (fun H locs hw => ?_)
  have hw : ww D (TY cC cI cJ cZ cD) s A s.heap [(x, .inr (10, [.ref xa, .ref xb, .ref xc, .ref xd, .ref xe, .ref xf, .ref xg, .ref xh, .ref xi, .ref xj, .ref xk, .ref xl, .ref xm, .ref xn, .ref xo, .ref xp, .ref xq, .ref xr, .ref xs, .ref xt, .int (nI n), .int (nI 0), .int (nI nb), .int (nI no), .int (nI na), .int (nI nc), .int (nI ne), .int (nI ns), .int (nI fee), .int sj, .int th, .int rs, .int stc])), (xa, .inl (cC, 60, .inl tL)), (xc, .inl (cI, 60, .inl tA)), (xd, .inl (cI, 60, .inl tC)), (xb, .inl (cC, 60, .inl mL)), (xe, .inl (cI, 60, .inl mA)), (xf, .inl (cI, 60, .inl mC))] H locs := hw
  refine lv_iconst (v := nI 0) hx hb dX8_laysWithout_5 (by decide) ?_
  refine lv_istore_n (lv' := [(3, .int (nI 0)), (0, .ref x), (1, .int (nI i9)), (2, .int (nI j9))]) hx hb dX8_laysWithout_6 rfl hl (by decide) rfl (fun ls hl => ?_)
  have K7_0 : ∀ (f : Nat) (k : Nat) (X1 : Nat) (L1 : Nat → Int32) (A1 : Nat → Int32) (C1 : Nat → Int32), (61 - k) < f → (k ≤ n) → (X1 = min k i9 + (k - (i9 + j9))) → (agr X1 L1 (dlF tL i9 j9)) → (agr X1 A1 (dlF tA i9 j9)) → (agr X1 C1 (dlF tC i9 j9)) → (∀ j, vp_nar .char (L1 j) = L1 j) → ∀ (H : Heap) (locs : List Loc), ww D (TY cC cI cJ cZ cD) s A s.heap [(x, .inr (10, [.ref xa, .ref xb, .ref xc, .ref xd, .ref xe, .ref xf, .ref xg, .ref xh, .ref xi, .ref xj, .ref xk, .ref xl, .ref xm, .ref xn, .ref xo, .ref xp, .ref xq, .ref xr, .ref xs, .ref xt, .int (nI n), .int (nI X1), .int (nI nb), .int (nI no), .int (nI na), .int (nI nc), .int (nI ne), .int (nI ns), .int (nI fee), .int sj, .int th, .int rs, .int stc])), (xa, .inl (cC, 60, .inl tL)), (xc, .inl (cI, 60, .inl tA)), (xd, .inl (cI, 60, .inl tC)), (xb, .inl (cC, 60, .inl L1)), (xe, .inl (cI, 60, .inl A1)), (xf, .inl (cI, 60, .inl C1))] H locs → ∀ ls : Array Slot, lv_has ls 4 [(0, .ref x), (1, .int (nI i9)), (2, .int (nI j9)), (3, .int (nI k))] → W p l e ({ frames := 1, cells := 0, slots := 0, locals := 23 } : Room) s mI args below meth cO H locs 0 0 Q (F0 mI 7 ls []) := by
    intro f
    induction f with
    | zero => intro k X1 L1 A1 C1 hms9; exact absurd hms9 (Nat.not_lt_zero _)
    | succ f ih7 =>
      intro k X1 L1 A1 C1 hms9 hk hX hL hA hC hLc H locs hw ls hl
      refine lv_iload_n hx hb dX8_laysWithout_7 rfl (lv_at hl 3 rfl) ?_
      refine lv_aload_n hx hb dX8_laysWithout_8 rfl (lv_at hl 0 rfl) ?_
      refine r_get cx hw inX8_laysWithout_8 0 20 rfl rfl (by decide) lkX8_laysWithout_2 rfl dX8_laysWithout_9 ?_
      refine r_icmp_ge cx 56 k n rfl rfl (by omega) (by omega) dX8_laysWithout_12 (by decide) (fun c12 => ?_) (fun c12 => ?_)
      · have e8 : X1 = n - j9 := by omega
        rw [e8] at hw hL hA hC
        subst hQ
        exact r_retv cx hr hlk hw (Nat.le_of_ble_eq_true rfl) (Nat.le_of_ble_eq_true rfl) (L1, A1, C1) ⟨hL, hA, hC, hLc⟩ [0, 1, 2, 3, 4, 5, 6] (by decide) rfl dX8_laysWithout_56
      · refine lv_iload_n hx hb dX8_laysWithout_15 rfl (lv_at hl 3 rfl) ?_
        refine lv_iload_n hx hb dX8_laysWithout_16 rfl (lv_at hl 1 rfl) ?_
        refine lv_iload_n hx hb dX8_laysWithout_17 rfl (lv_at hl 1 rfl) ?_
        refine lv_iload_n hx hb dX8_laysWithout_18 rfl (lv_at hl 2 rfl) ?_
        refine r_iadd cx i9 j9 rfl rfl dX8_laysWithout_19 ?_
        refine lv_iconst (v := nI 1) hx hb dX8_laysWithout_20 (by decide) ?_
        refine lv_isub hx hb dX8_laysWithout_21 ?_
        refine r_callSi (n := 3) (wr := [(x, .inr (10, [.ref xa, .ref xb, .ref xc, .ref xd, .ref xe, .ref xf, .ref xg, .ref xh, .ref xi, .ref xj, .ref xk, .ref xl, .ref xm, .ref xn, .ref xo, .ref xp, .ref xq, .ref xr, .ref xs, .ref xt, .int (nI n), .int (nI X1), .int (nI nb), .int (nI no), .int (nI na), .int (nI nc), .int (nI ne), .int (nI ns), .int (nI fee), .int sj, .int th, .int rs, .int stc])), (xa, .inl (cC, 60, .inl tL)), (xc, .inl (cI, 60, .inl tA)), (xd, .inl (cI, 60, .inl tC)), (xb, .inl (cC, 60, .inl L1)), (xe, .inl (cI, 60, .inl A1)), (xf, .inl (cI, 60, .inl C1))]) cx hw (mX8_isIn l D cC cI cJ cZ cD (nI k) (nI i9) ((nI (i9 + j9)) - (nI 1)) H.size) [] [0, 1, 2, 3, 4, 5, 6] gX8_laysWithout_X8_isIn rfl rfl rfl (by decide +kernel) ⟨Nat.le_of_ble_eq_true rfl, Nat.le_of_ble_eq_true rfl⟩ rfl rfl (by decide) (by decide) (by decide) rfl rfl hl.1 (Nat.le_of_ble_eq_true rfl) dX8_laysWithout_22 ⟨Nat.le_of_ble_eq_true rfl, Nat.le_of_ble_eq_true rfl⟩ (fun r_2 u H locs hp hw => ?_)
        have hw : ww D (TY cC cI cJ cZ cD) s A s.heap [(x, .inr (10, [.ref xa, .ref xb, .ref xc, .ref xd, .ref xe, .ref xf, .ref xg, .ref xh, .ref xi, .ref xj, .ref xk, .ref xl, .ref xm, .ref xn, .ref xo, .ref xp, .ref xq, .ref xr, .ref xs, .ref xt, .int (nI n), .int (nI X1), .int (nI nb), .int (nI no), .int (nI na), .int (nI nc), .int (nI ne), .int (nI ns), .int (nI fee), .int sj, .int th, .int rs, .int stc])), (xa, .inl (cC, 60, .inl tL)), (xc, .inl (cI, 60, .inl tA)), (xd, .inl (cI, 60, .inl tC)), (xb, .inl (cC, 60, .inl L1)), (xe, .inl (cI, 60, .inl A1)), (xf, .inl (cI, 60, .inl C1))] H locs := hw
        try dsimp only at hp
        have hb9 := hp
        rcases hb9 with ⟨rfl, b22⟩ | ⟨rfl, b22⟩
        · refine r_if_ne cx 50 1 rfl (by omega) dX8_laysWithout_25 (by decide) (fun c25 => ?_) (fun c25 => by exact absurd c25 (by decide))
          refine lv_iinc (v := nI (k + 1)) (lv' := [(3, .int (nI (k + 1))), (0, .ref x), (1, .int (nI i9)), (2, .int (nI j9))]) hx hb dX8_laysWithout_50 hl (k := 3) rfl (by rw [ii1, nI_1]) (by decide) rfl (fun ls hl => ?_)
          refine lv_goto (tgt := 7) hx hb dX8_laysWithout_53 (by decide) ?_
          exact ih7 (k + 1) X1 L1 A1 C1 (by omega) (by omega) (by first | (have z := (in_st (by omega) (by omega)).mp b22; omega) | (have z : ¬ (i9 ≤ k ∧ k < i9 + j9) := fun y => b22 ((in_st (by omega) (by omega)).mpr y); omega)) (by exact hL) (by exact hA) (by exact hC) (by exact hLc) _ _ hw _ (lv_sub hl [1, 2, 3, 0] rfl)
        · refine r_if_ne cx 50 0 rfl (by omega) dX8_laysWithout_25 (by decide) (fun c25 => by exact absurd c25 (by decide)) (fun c25 => ?_)
          refine lv_aload_n hx hb dX8_laysWithout_28 rfl (lv_at hl 0 rfl) ?_
          refine lv_aload_n hx hb dX8_laysWithout_29 rfl (lv_at hl 0 rfl) ?_
          refine r_get cx hw inX8_laysWithout_8 0 0 rfl rfl (by decide) lkX8_laysWithout_3 rfl dX8_laysWithout_30 ?_
          refine lv_iload_n hx hb dX8_laysWithout_33 rfl (lv_at hl 3 rfl) ?_
          refine r_cald cx hw 1 0 rfl rfl k rfl (by omega) (by omega) dX8_laysWithout_34 ?_
          refine lv_aload_n hx hb dX8_laysWithout_35 rfl (lv_at hl 0 rfl) ?_
          refine r_get cx hw inX8_laysWithout_8 0 2 rfl rfl (by decide) lkX8_laysWithout_4 rfl dX8_laysWithout_36 ?_
          refine lv_iload_n hx hb dX8_laysWithout_39 rfl (lv_at hl 3 rfl) ?_
          refine r_iald cx hw 2 1 rfl rfl k rfl (by omega) (by omega) dX8_laysWithout_40 ?_
          refine lv_aload_n hx hb dX8_laysWithout_41 rfl (lv_at hl 0 rfl) ?_
          refine r_get cx hw inX8_laysWithout_8 0 3 rfl rfl (by decide) lkX8_laysWithout_5 rfl dX8_laysWithout_42 ?_
          refine lv_iload_n hx hb dX8_laysWithout_45 rfl (lv_at hl 3 rfl) ?_
          refine r_iald cx hw 3 1 rfl rfl k rfl (by omega) (by omega) dX8_laysWithout_46 ?_
          refine r_callVv (n := 3) (wr := [(xa, .inl (cC, 60, .inl tL)), (xc, .inl (cI, 60, .inl tA)), (xd, .inl (cI, 60, .inl tC))]) cx hw (mX8_lays l D cC cI cJ cZ cD x xa xb xc xd xe xf xg xh xi xj xk xl xm xn xo xp xq xr xs xt n X1 nb no na nc ne ns fee sj th rs stc L1 A1 C1 (tL k) (tA k) (tC k) H.size (by have z : ¬ (i9 ≤ k ∧ k < i9 + j9) := fun y => b22 ((in_st (by omega) (by omega)).mpr y); omega) (htL k) hLc) [0, 4, 5, 6] [1, 2, 3] gX8_laysWithout_X8_lays rfl rfl rfl (by decide +kernel) ⟨Nat.le_of_ble_eq_true rfl, Nat.le_of_ble_eq_true rfl⟩ (q0 := 0) rfl rfl rfl rfl (by decide) (by decide) (by decide) rfl rfl hl.1 (Nat.le_of_ble_eq_true rfl) dX8_laysWithout_47 ⟨Nat.le_of_ble_eq_true rfl, Nat.le_of_ble_eq_true rfl⟩ (fun u H locs hp hw => ?_)
          have hw : ww D (TY cC cI cJ cZ cD) s A s.heap [(xa, .inl (cC, 60, .inl tL)), (xc, .inl (cI, 60, .inl tA)), (xd, .inl (cI, 60, .inl tC)), (x, .inr (10, [.ref xa, .ref xb, .ref xc, .ref xd, .ref xe, .ref xf, .ref xg, .ref xh, .ref xi, .ref xj, .ref xk, .ref xl, .ref xm, .ref xn, .ref xo, .ref xp, .ref xq, .ref xr, .ref xs, .ref xt, .int (nI n), .int (nI (X1 + 1)), .int (nI nb), .int (nI no), .int (nI na), .int (nI nc), .int (nI ne), .int (nI ns), .int (nI fee), .int sj, .int th, .int rs, .int stc])), (xb, .inl (cC, 60, .inl (upd L1 X1 (tL k)))), (xe, .inl (cI, 60, .inl (upd A1 X1 (tA k)))), (xf, .inl (cI, 60, .inl (upd C1 X1 (tC k))))] H locs := hw
          refine lv_iinc (v := nI (k + 1)) (lv' := [(3, .int (nI (k + 1))), (0, .ref x), (1, .int (nI i9)), (2, .int (nI j9))]) hx hb dX8_laysWithout_50 hl (k := 3) rfl (by rw [ii1, nI_1]) (by decide) rfl (fun ls hl => ?_)
          refine lv_goto (tgt := 7) hx hb dX8_laysWithout_53 (by decide) ?_
          exact ih7 (k + 1) (X1 + 1) (upd L1 X1 (tL k)) (upd A1 X1 (tA k)) (upd C1 X1 (tC k)) (by omega) (by omega) (by first | (have z := (in_st (by omega) (by omega)).mp b22; omega) | (have z : ¬ (i9 ≤ k ∧ k < i9 + j9) := fun y => b22 ((in_st (by omega) (by omega)).mpr y); omega)) (by exact agr_s hL (dl_at (rem_k hX (fun y => b22 ((in_st (by omega) (by omega)).mpr y))))) (by exact agr_s hA (dl_at (rem_k hX (fun y => b22 ((in_st (by omega) (by omega)).mpr y))))) (by exact agr_s hC (dl_at (rem_k hX (fun y => b22 ((in_st (by omega) (by omega)).mpr y))))) (by exact (CA_upd hLc (htL k))) _ _ (hw.pick [3, 0, 1, 2, 4, 5, 6] (by decide) rfl) _ (lv_sub hl [1, 2, 3, 0] rfl)
  exact K7_0 _ 0 0 mL mA mC (Nat.lt_succ_self _) (by omega) (by omega) (by exact agr_0) (by exact agr_0) (by exact agr_0) (by exact hmL) _ _ hw _ (lv_sub hl [1, 2, 3, 0] rfl)

theorem lkX8_around_1 : Cond.fieldLink RX8 95 "SignedDocumentModel" "nextLength" "I" ∈ wsX8_around := List.mem_of_getElem? (i := 1) rfl
theorem inX8_around_8 : ∀ w ∈ u_ws RX8 TX8 33, w ∈ wsX8_around := fun _ h => List.mem_cons_of_mem _ (List.mem_append_left _ (List.mem_append_right _ h))
theorem lkX8_around_2 : Cond.fieldLink RX8 26 "SignedDocumentModel" "nextClause" "[I" ∈ wsX8_around := List.mem_of_getElem? (i := 2) rfl
set_option maxRecDepth 100000 in
set_option maxHeartbeats 4000000 in
theorem mX8_around (l : Launch) (D : va_G) (cC cI cJ cZ cD : ClassId) (x xa xb xc xd xe xf xg xh xi xj xk xl xm xn xo xp xq xr xs xt : Nat) (n nx nb no na nc ne ns fee : Nat) (sj th rs stc : Int32) (mC : Nat → Int32) (p9 : Nat) (sz : Nat) (hx9 : nx ≤ 60) (hp9 : p9 ≤ 60) : MI l yX8_around wsX8_around ({ frames := 0, cells := 0, slots := 0, locals := 0 }) [.ref x, .int (nI p9)] D (TY cC cI cJ cZ cD) [(x, .inr (10, [.ref xa, .ref xb, .ref xc, .ref xd, .ref xe, .ref xf, .ref xg, .ref xh, .ref xi, .ref xj, .ref xk, .ref xl, .ref xm, .ref xn, .ref xo, .ref xp, .ref xq, .ref xr, .ref xs, .ref xt, .int (nI n), .int (nI nx), .int (nI nb), .int (nI no), .int (nI na), .int (nI nc), .int (nI ne), .int (nI ns), .int (nI fee), .int sj, .int th, .int rs, .int stc])), (xf, .inl (cI, 60, .inl mC))] sz (fun (r : Int32) => fun (_ : Unit) => r = ard mC nx p9 p9) (fun (_ : Unit) => [(x, .inr (10, [.ref xa, .ref xb, .ref xc, .ref xd, .ref xe, .ref xf, .ref xg, .ref xh, .ref xi, .ref xj, .ref xk, .ref xl, .ref xm, .ref xn, .ref xo, .ref xp, .ref xq, .ref xr, .ref xs, .ref xt, .int (nI n), .int (nI nx), .int (nI nb), .int (nI no), .int (nI na), .int (nI nc), .int (nI ne), .int (nI ns), .int (nI fee), .int sj, .int th, .int rs, .int stc])), (xf, .inl (cI, 60, .inl mC))]) 0 0 := by
  refine mk_MI (cc := cX8_around) (maxL := 2) (ret := (some .int)) (by decide) rfl (Nat.le_of_ble_eq_true rfl) ?_
  intro p e s mI args below meth cO A cx hr hlk hnm hw ls hl
  have hx := cx.1
  have hb := cx.2.1
  have hw : ww D (TY cC cI cJ cZ cD) s A s.heap [(x, .inr (10, [.ref xa, .ref xb, .ref xc, .ref xd, .ref xe, .ref xf, .ref xg, .ref xh, .ref xi, .ref xj, .ref xk, .ref xl, .ref xm, .ref xn, .ref xo, .ref xp, .ref xq, .ref xr, .ref xs, .ref xt, .int (nI n), .int (nI nx), .int (nI nb), .int (nI no), .int (nI na), .int (nI nc), .int (nI ne), .int (nI ns), .int (nI fee), .int sj, .int th, .int rs, .int stc])), (xf, .inl (cI, 60, .inl mC))] s.heap [] := hw
  have hl : lv_has ls 2 [(0, .ref x), (1, .int (nI p9))] := hl
  generalize hQ : MQ _ _ _ _ _ _ _ = Q
  refine hp_start hw (fun H locs hw => ?_)
  refine lv_iload_n hx hb dX8_around_0 rfl (lv_at hl 1 rfl) ?_
  refine r_if_le cx 38 p9 rfl (by omega) dX8_around_1 (by decide) (fun c1 => ?_) (fun c1 => ?_)
  · refine lv_iconst (v := (-1)) hx hb dX8_around_38 (by decide) ?_
    subst hQ
    exact r_reti (v := (-1)) cx hr rfl hlk hw (Nat.le_of_ble_eq_true rfl) (Nat.le_of_ble_eq_true rfl) () (by first | exact (if_pos (Or.inl (by omega))).symm | exact (if_pos (Or.inr (Or.inl (by omega)))).symm | exact (if_pos (Or.inr (Or.inr c26))).symm | exact (if_neg (by rintro (z | z | z); omega; omega; exact z c26)).symm) [0, 1] (by decide) rfl dX8_around_39
  · refine lv_iload_n hx hb dX8_around_4 rfl (lv_at hl 1 rfl) ?_
    refine lv_aload_n hx hb dX8_around_5 rfl (lv_at hl 0 rfl) ?_
    refine r_get cx hw inX8_around_8 0 21 rfl rfl (by decide) lkX8_around_1 rfl dX8_around_6 ?_
    refine r_icmp_ge cx 38 p9 nx rfl rfl (by omega) (by omega) dX8_around_9 (by decide) (fun c9 => ?_) (fun c9 => ?_)
    · refine lv_iconst (v := (-1)) hx hb dX8_around_38 (by decide) ?_
      subst hQ
      exact r_reti (v := (-1)) cx hr rfl hlk hw (Nat.le_of_ble_eq_true rfl) (Nat.le_of_ble_eq_true rfl) () (by first | exact (if_pos (Or.inl (by omega))).symm | exact (if_pos (Or.inr (Or.inl (by omega)))).symm | exact (if_pos (Or.inr (Or.inr c26))).symm | exact (if_neg (by rintro (z | z | z); omega; omega; exact z c26)).symm) [0, 1] (by decide) rfl dX8_around_39
    · refine lv_aload_n hx hb dX8_around_12 rfl (lv_at hl 0 rfl) ?_
      refine r_get cx hw inX8_around_8 0 5 rfl rfl (by decide) lkX8_around_2 rfl dX8_around_13 ?_
      refine lv_iload_n hx hb dX8_around_16 rfl (lv_at hl 1 rfl) ?_
      refine lv_iconst (v := nI 1) hx hb dX8_around_17 (by decide) ?_
      refine r_isub cx p9 1 rfl rfl (by omega) dX8_around_18 ?_
      refine r_iald cx hw 1 1 rfl rfl (p9 - 1) rfl (by omega) (by omega) dX8_around_19 ?_
      refine lv_aload_n hx hb dX8_around_20 rfl (lv_at hl 0 rfl) ?_
      refine r_get cx hw inX8_around_8 0 5 rfl rfl (by decide) lkX8_around_2 rfl dX8_around_21 ?_
      refine lv_iload_n hx hb dX8_around_24 rfl (lv_at hl 1 rfl) ?_
      refine r_iald cx hw 1 1 rfl rfl p9 rfl (by omega) (by omega) dX8_around_25 ?_
      refine lv_icmp_ne (tgt := 38) hx hb dX8_around_26 (by decide) (fun c26 => ?_) (fun c26 => ?_)
      · refine lv_iconst (v := (-1)) hx hb dX8_around_38 (by decide) ?_
        subst hQ
        exact r_reti (v := (-1)) cx hr rfl hlk hw (Nat.le_of_ble_eq_true rfl) (Nat.le_of_ble_eq_true rfl) () (by first | exact (if_pos (Or.inl (by omega))).symm | exact (if_pos (Or.inr (Or.inl (by omega)))).symm | exact (if_pos (Or.inr (Or.inr c26))).symm | exact (if_neg (by rintro (z | z | z); omega; omega; exact z c26)).symm) [0, 1] (by decide) rfl dX8_around_39
      · refine lv_aload_n hx hb dX8_around_29 rfl (lv_at hl 0 rfl) ?_
        refine r_get cx hw inX8_around_8 0 5 rfl rfl (by decide) lkX8_around_2 rfl dX8_around_30 ?_
        refine lv_iload_n hx hb dX8_around_33 rfl (lv_at hl 1 rfl) ?_
        refine r_iald cx hw 1 1 rfl rfl p9 rfl (by omega) (by omega) dX8_around_34 ?_
        refine lv_goto (tgt := 39) hx hb dX8_around_35 (by decide) ?_
        subst hQ
        exact r_reti (v := mC p9) cx hr rfl hlk hw (Nat.le_of_ble_eq_true rfl) (Nat.le_of_ble_eq_true rfl) () (by first | exact (if_pos (Or.inl (by omega))).symm | exact (if_pos (Or.inr (Or.inl (by omega)))).symm | exact (if_pos (Or.inr (Or.inr c26))).symm | exact (if_neg (by rintro (z | z | z); omega; omega; exact z c26)).symm) [0, 1] (by decide) rfl dX8_around_39

theorem lkX8_opens_1 : Cond.fieldLink RX8 95 "SignedDocumentModel" "nextLength" "I" ∈ wsX8_opens := List.mem_of_getElem? (i := 1) rfl
theorem inX8_opens_8 : ∀ w ∈ u_ws RX8 TX8 33, w ∈ wsX8_opens := fun _ h => List.mem_cons_of_mem _ (List.mem_append_left _ (List.mem_append_right _ h))
theorem lkX8_opens_2 : Cond.fieldLink RX8 13 "SignedDocumentModel" "nextCh" "[C" ∈ wsX8_opens := List.mem_of_getElem? (i := 2) rfl
theorem lkX8_opens_3 : Cond.fieldLink RX8 23 "SignedDocumentModel" "nextWho" "[I" ∈ wsX8_opens := List.mem_of_getElem? (i := 3) rfl
theorem lkX8_opens_4 : Cond.fieldLink RX8 26 "SignedDocumentModel" "nextClause" "[I" ∈ wsX8_opens := List.mem_of_getElem? (i := 4) rfl
set_option maxRecDepth 100000 in
set_option maxHeartbeats 4000000 in
theorem mX8_opens (l : Launch) (D : va_G) (cC cI cJ cZ cD : ClassId) (x xa xb xc xd xe xf xg xh xi xj xk xl xm xn xo xp xq xr xs xt : Nat) (n nx nb no na nc ne ns fee : Nat) (sj th rs stc : Int32) (mL : Nat → Int32) (mA : Nat → Int32) (mC : Nat → Int32) (p9 w9 : Nat) (sz : Nat) (hp9 : p9 ≤ nx) (hw9 : nx + w9 ≤ 60) (hmL : ∀ j, vp_nar .char (mL j) = mL j) : MV l yX8_opens wsX8_opens ({ frames := 0, cells := 0, slots := 0, locals := 0 }) [.ref x, .int (nI p9), .int (nI w9)] D (TY cC cI cJ cZ cD) [(x, .inr (10, [.ref xa, .ref xb, .ref xc, .ref xd, .ref xe, .ref xf, .ref xg, .ref xh, .ref xi, .ref xj, .ref xk, .ref xl, .ref xm, .ref xn, .ref xo, .ref xp, .ref xq, .ref xr, .ref xs, .ref xt, .int (nI n), .int (nI nx), .int (nI nb), .int (nI no), .int (nI na), .int (nI nc), .int (nI ne), .int (nI ns), .int (nI fee), .int sj, .int th, .int rs, .int stc])), (xb, .inl (cC, 60, .inl mL)), (xe, .inl (cI, 60, .inl mA)), (xf, .inl (cI, 60, .inl mC))] sz (fun (uu : (Nat → Int32) × (Nat → Int32) × (Nat → Int32)) => match uu with | (mL2, mA2, mC2) => ((∀ t, t < p9 → mL2 t = mL t) ∧ (∀ t, p9 ≤ t → t < nx → mL2 (t + w9) = mL t)) ∧ ((∀ t, t < p9 → mA2 t = mA t) ∧ (∀ t, p9 ≤ t → t < nx → mA2 (t + w9) = mA t)) ∧ ((∀ t, t < p9 → mC2 t = mC t) ∧ (∀ t, p9 ≤ t → t < nx → mC2 (t + w9) = mC t)) ∧ ∀ j, vp_nar .char (mL2 j) = mL2 j) (fun (uu : (Nat → Int32) × (Nat → Int32) × (Nat → Int32)) => match uu with | (mL2, mA2, mC2) => [(x, .inr (10, [.ref xa, .ref xb, .ref xc, .ref xd, .ref xe, .ref xf, .ref xg, .ref xh, .ref xi, .ref xj, .ref xk, .ref xl, .ref xm, .ref xn, .ref xo, .ref xp, .ref xq, .ref xr, .ref xs, .ref xt, .int (nI n), .int (nI (nx + w9)), .int (nI nb), .int (nI no), .int (nI na), .int (nI nc), .int (nI ne), .int (nI ns), .int (nI fee), .int sj, .int th, .int rs, .int stc])), (xb, .inl (cC, 60, .inl mL2)), (xe, .inl (cI, 60, .inl mA2)), (xf, .inl (cI, 60, .inl mC2))]) 0 0 := by
  refine mk_MV (cc := cX8_opens) (maxL := 4) (ret := none) (by decide) rfl (Nat.le_of_ble_eq_true rfl) ?_
  intro p e s mI args below meth cO A cx hr hlk hnm hw ls hl
  have hx := cx.1
  have hb := cx.2.1
  have hw : ww D (TY cC cI cJ cZ cD) s A s.heap [(x, .inr (10, [.ref xa, .ref xb, .ref xc, .ref xd, .ref xe, .ref xf, .ref xg, .ref xh, .ref xi, .ref xj, .ref xk, .ref xl, .ref xm, .ref xn, .ref xo, .ref xp, .ref xq, .ref xr, .ref xs, .ref xt, .int (nI n), .int (nI nx), .int (nI nb), .int (nI no), .int (nI na), .int (nI nc), .int (nI ne), .int (nI ns), .int (nI fee), .int sj, .int th, .int rs, .int stc])), (xb, .inl (cC, 60, .inl mL)), (xe, .inl (cI, 60, .inl mA)), (xf, .inl (cI, 60, .inl mC))] s.heap [] := hw
  have hl : lv_has ls 4 [(0, .ref x), (1, .int (nI p9)), (2, .int (nI w9))] := hl
  generalize hQ : MQ _ _ _ _ _ _ _ = Q
  refine hp_start hw (fun H locs hw => ?_)
  refine lv_aload_n hx hb dX8_opens_0 rfl (lv_at hl 0 rfl) ?_
  refine r_get cx hw inX8_opens_8 0 21 rfl rfl (by decide) lkX8_opens_1 rfl dX8_opens_1 ?_
  refine lv_iconst (v := nI 1) hx hb dX8_opens_4 (by decide) ?_
  refine lv_isub hx hb dX8_opens_5 ?_
  refine lv_istore_n (lv' := [(3, .int ((nI nx) - (nI 1))), (0, .ref x), (1, .int (nI p9)), (2, .int (nI w9))]) hx hb dX8_opens_6 rfl hl (by decide) rfl (fun ls hl => ?_)
  have K7_0 : ∀ (f : Nat) (q : Nat) (L1 : Nat → Int32) (A1 : Nat → Int32) (C1 : Nat → Int32), (q + 1) < f → (p9 ≤ q) → (q ≤ nx) → ((∀ t, t < q → L1 t = mL t) ∧ (∀ t, q ≤ t → t < nx → L1 (t + w9) = mL t)) → ((∀ t, t < q → A1 t = mA t) ∧ (∀ t, q ≤ t → t < nx → A1 (t + w9) = mA t)) → ((∀ t, t < q → C1 t = mC t) ∧ (∀ t, q ≤ t → t < nx → C1 (t + w9) = mC t)) → (∀ j, vp_nar .char (L1 j) = L1 j) → ∀ (H : Heap) (locs : List Loc), ww D (TY cC cI cJ cZ cD) s A s.heap [(x, .inr (10, [.ref xa, .ref xb, .ref xc, .ref xd, .ref xe, .ref xf, .ref xg, .ref xh, .ref xi, .ref xj, .ref xk, .ref xl, .ref xm, .ref xn, .ref xo, .ref xp, .ref xq, .ref xr, .ref xs, .ref xt, .int (nI n), .int (nI nx), .int (nI nb), .int (nI no), .int (nI na), .int (nI nc), .int (nI ne), .int (nI ns), .int (nI fee), .int sj, .int th, .int rs, .int stc])), (xb, .inl (cC, 60, .inl L1)), (xe, .inl (cI, 60, .inl A1)), (xf, .inl (cI, 60, .inl C1))] H locs → ∀ ls : Array Slot, lv_has ls 4 [(0, .ref x), (1, .int (nI p9)), (2, .int (nI w9)), (3, .int (nI q - nI 1))] → W p l e ({ frames := 0, cells := 0, slots := 0, locals := 0 } : Room) s mI args below meth cO H locs 0 0 Q (F0 mI 7 ls []) := by
    intro f
    induction f with
    | zero => intro q L1 A1 C1 hms9; exact absurd hms9 (Nat.not_lt_zero _)
    | succ f ih7 =>
      intro q L1 A1 C1 hms9 hq1 hq2 hL hA hC hLc H locs hw ls hl
      refine lv_iload_n hx hb dX8_opens_7 rfl (lv_at hl 3 rfl) ?_
      refine lv_iload_n hx hb dX8_opens_8 rfl (lv_at hl 1 rfl) ?_
      refine lv_icmp_lt (tgt := 60) hx hb dX8_opens_9 (by decide) (fun c9 => ?_) (fun c9 => ?_)
      · have e8 : q = p9 := by have := (dq_ltp (by omega) (by omega)).mp c9; omega
        rw [e8] at hL hA hC
        refine lv_aload_n hx hb dX8_opens_60 rfl (lv_at hl 0 rfl) ?_
        refine lv_dup hx hb dX8_opens_61 rfl ?_
        refine r_get cx hw inX8_opens_8 0 21 rfl rfl (by decide) lkX8_opens_1 rfl dX8_opens_62 ?_
        refine lv_iload_n hx hb dX8_opens_65 rfl (lv_at hl 2 rfl) ?_
        refine r_iadd cx nx w9 rfl rfl dX8_opens_66 ?_
        refine r_put cx hw inX8_opens_8 tyX8 tyX8_ok nmX8 0 21 rfl rfl (by decide) lkX8_opens_1 rfl rfl rfl (Nat.le_of_ble_eq_true rfl) dX8_opens_67 (fun H locs hw => ?_)
        have hw : ww D (TY cC cI cJ cZ cD) s A s.heap [(x, .inr (10, [.ref xa, .ref xb, .ref xc, .ref xd, .ref xe, .ref xf, .ref xg, .ref xh, .ref xi, .ref xj, .ref xk, .ref xl, .ref xm, .ref xn, .ref xo, .ref xp, .ref xq, .ref xr, .ref xs, .ref xt, .int (nI n), .int (nI (nx + w9)), .int (nI nb), .int (nI no), .int (nI na), .int (nI nc), .int (nI ne), .int (nI ns), .int (nI fee), .int sj, .int th, .int rs, .int stc])), (xb, .inl (cC, 60, .inl L1)), (xe, .inl (cI, 60, .inl A1)), (xf, .inl (cI, 60, .inl C1))] H locs := hw
        subst hQ
        exact r_retv cx hr hlk hw (Nat.le_of_ble_eq_true rfl) (Nat.le_of_ble_eq_true rfl) (L1, A1, C1) ⟨hL, hA, hC, hLc⟩ [0, 1, 2, 3] (by decide) rfl dX8_opens_70
      · have hq0 : p9 < q := by have z : ¬ q ≤ p9 := fun y => c9 ((dq_ltp (by omega) (by omega)).mpr y); omega
        have hl : lv_has ls 4 [(0, .ref x), (1, .int (nI p9)), (2, .int (nI w9)), (3, .int (nI (q - 1)))] := by rw [← pk_sub (show 1 ≤ q by omega)]; exact hl
        refine lv_aload_n hx hb dX8_opens_12 rfl (lv_at hl 0 rfl) ?_
        refine r_get cx hw inX8_opens_8 0 1 rfl rfl (by decide) lkX8_opens_2 rfl dX8_opens_13 ?_
        refine lv_iload_n hx hb dX8_opens_16 rfl (lv_at hl 3 rfl) ?_
        refine lv_iload_n hx hb dX8_opens_17 rfl (lv_at hl 2 rfl) ?_
        refine r_iadd cx (q - 1) w9 rfl rfl dX8_opens_18 ?_
        refine lv_aload_n hx hb dX8_opens_19 rfl (lv_at hl 0 rfl) ?_
        refine r_get cx hw inX8_opens_8 0 1 rfl rfl (by decide) lkX8_opens_2 rfl dX8_opens_20 ?_
        refine lv_iload_n hx hb dX8_opens_23 rfl (lv_at hl 3 rfl) ?_
        refine r_cald cx hw 1 0 rfl rfl (q - 1) rfl (by omega) (by omega) dX8_opens_24 ?_
        refine r_cast cx hw 1 0 rfl rfl (q - 1 + w9) rfl (hLc (q - 1)) (by omega) (by omega) dX8_opens_25 (fun H locs hw => ?_)
        have hw : ww D (TY cC cI cJ cZ cD) s A s.heap [(x, .inr (10, [.ref xa, .ref xb, .ref xc, .ref xd, .ref xe, .ref xf, .ref xg, .ref xh, .ref xi, .ref xj, .ref xk, .ref xl, .ref xm, .ref xn, .ref xo, .ref xp, .ref xq, .ref xr, .ref xs, .ref xt, .int (nI n), .int (nI nx), .int (nI nb), .int (nI no), .int (nI na), .int (nI nc), .int (nI ne), .int (nI ns), .int (nI fee), .int sj, .int th, .int rs, .int stc])), (xb, .inl (cC, 60, .inl (upd L1 (q - 1 + w9) (L1 (q - 1))))), (xe, .inl (cI, 60, .inl A1)), (xf, .inl (cI, 60, .inl C1))] H locs := hw
        refine lv_aload_n hx hb dX8_opens_26 rfl (lv_at hl 0 rfl) ?_
        refine r_get cx hw inX8_opens_8 0 4 rfl rfl (by decide) lkX8_opens_3 rfl dX8_opens_27 ?_
        refine lv_iload_n hx hb dX8_opens_30 rfl (lv_at hl 3 rfl) ?_
        refine lv_iload_n hx hb dX8_opens_31 rfl (lv_at hl 2 rfl) ?_
        refine r_iadd cx (q - 1) w9 rfl rfl dX8_opens_32 ?_
        refine lv_aload_n hx hb dX8_opens_33 rfl (lv_at hl 0 rfl) ?_
        refine r_get cx hw inX8_opens_8 0 4 rfl rfl (by decide) lkX8_opens_3 rfl dX8_opens_34 ?_
        refine lv_iload_n hx hb dX8_opens_37 rfl (lv_at hl 3 rfl) ?_
        refine r_iald cx hw 2 1 rfl rfl (q - 1) rfl (by omega) (by omega) dX8_opens_38 ?_
        refine r_iast cx hw 2 1 rfl rfl (q - 1 + w9) rfl (by omega) (by omega) dX8_opens_39 (fun H locs hw => ?_)
        have hw : ww D (TY cC cI cJ cZ cD) s A s.heap [(x, .inr (10, [.ref xa, .ref xb, .ref xc, .ref xd, .ref xe, .ref xf, .ref xg, .ref xh, .ref xi, .ref xj, .ref xk, .ref xl, .ref xm, .ref xn, .ref xo, .ref xp, .ref xq, .ref xr, .ref xs, .ref xt, .int (nI n), .int (nI nx), .int (nI nb), .int (nI no), .int (nI na), .int (nI nc), .int (nI ne), .int (nI ns), .int (nI fee), .int sj, .int th, .int rs, .int stc])), (xb, .inl (cC, 60, .inl (upd L1 (q - 1 + w9) (L1 (q - 1))))), (xe, .inl (cI, 60, .inl (upd A1 (q - 1 + w9) (A1 (q - 1))))), (xf, .inl (cI, 60, .inl C1))] H locs := hw
        refine lv_aload_n hx hb dX8_opens_40 rfl (lv_at hl 0 rfl) ?_
        refine r_get cx hw inX8_opens_8 0 5 rfl rfl (by decide) lkX8_opens_4 rfl dX8_opens_41 ?_
        refine lv_iload_n hx hb dX8_opens_44 rfl (lv_at hl 3 rfl) ?_
        refine lv_iload_n hx hb dX8_opens_45 rfl (lv_at hl 2 rfl) ?_
        refine r_iadd cx (q - 1) w9 rfl rfl dX8_opens_46 ?_
        refine lv_aload_n hx hb dX8_opens_47 rfl (lv_at hl 0 rfl) ?_
        refine r_get cx hw inX8_opens_8 0 5 rfl rfl (by decide) lkX8_opens_4 rfl dX8_opens_48 ?_
        refine lv_iload_n hx hb dX8_opens_51 rfl (lv_at hl 3 rfl) ?_
        refine r_iald cx hw 3 1 rfl rfl (q - 1) rfl (by omega) (by omega) dX8_opens_52 ?_
        refine r_iast cx hw 3 1 rfl rfl (q - 1 + w9) rfl (by omega) (by omega) dX8_opens_53 (fun H locs hw => ?_)
        have hw : ww D (TY cC cI cJ cZ cD) s A s.heap [(x, .inr (10, [.ref xa, .ref xb, .ref xc, .ref xd, .ref xe, .ref xf, .ref xg, .ref xh, .ref xi, .ref xj, .ref xk, .ref xl, .ref xm, .ref xn, .ref xo, .ref xp, .ref xq, .ref xr, .ref xs, .ref xt, .int (nI n), .int (nI nx), .int (nI nb), .int (nI no), .int (nI na), .int (nI nc), .int (nI ne), .int (nI ns), .int (nI fee), .int sj, .int th, .int rs, .int stc])), (xb, .inl (cC, 60, .inl (upd L1 (q - 1 + w9) (L1 (q - 1))))), (xe, .inl (cI, 60, .inl (upd A1 (q - 1 + w9) (A1 (q - 1))))), (xf, .inl (cI, 60, .inl (upd C1 (q - 1 + w9) (C1 (q - 1)))))] H locs := hw
        refine lv_iinc (v := nI (q - 1) - nI 1) (lv' := [(3, .int (nI (q - 1) - nI 1)), (0, .ref x), (1, .int (nI p9)), (2, .int (nI w9))]) hx hb dX8_opens_54 hl (k := 3) rfl (iimz _) (by decide) rfl (fun ls hl => ?_)
        refine lv_goto (tgt := 7) hx hb dX8_opens_57 (by decide) ?_
        exact ih7 (q - 1) (upd L1 (q - 1 + w9) (L1 (q - 1))) (upd A1 (q - 1 + w9) (A1 (q - 1))) (upd C1 (q - 1 + w9) (C1 (q - 1))) (by omega) (by omega) (by omega) (by exact opn_s (by omega) hq2 hL) (by exact opn_s (by omega) hq2 hA) (by exact opn_s (by omega) hq2 hC) (by exact (CA_upd hLc (hLc (q - 1)))) _ _ hw _ (lv_sub hl [1, 2, 3, 0] rfl)
  exact K7_0 _ nx mL mA mC (Nat.lt_succ_self _) (by omega) (by omega) (by exact ⟨fun t _ => rfl, fun t _ _ => by omega⟩) (by exact ⟨fun t _ => rfl, fun t _ _ => by omega⟩) (by exact ⟨fun t _ => rfl, fun t _ _ => by omega⟩) (by exact hmL) _ _ hw _ (lv_sub hl [1, 2, 3, 0] rfl)


set_option maxRecDepth 100000 in
set_option maxHeartbeats 4000000 in
theorem mX8_seeks (l : Launch) (D : va_G) (cC cI cJ cZ cD : ClassId) (h0 : Nat) (n f9 : Nat) (v : Int32) (C : Nat → Int32) (sz : Nat) (hn : n ≤ 60) (hf9 : f9 ≤ n) : MI l yX8_seeks wsX8_seeks ({ frames := 0, cells := 0, slots := 0, locals := 0 }) [.ref h0, .int (nI n), .int v, .int (nI f9)] D (TY cC cI cJ cZ cD) [(h0, .inl (cI, 60, .inl C))] sz (fun (r : Int32) => fun (k : Nat) => r = nI k ∧ f9 ≤ k ∧ k ≤ n ∧ (∀ t, f9 ≤ t → t < k → ¬ C t = v) ∧ (k = n ∨ C k = v)) (fun (k : Nat) => [(h0, .inl (cI, 60, .inl C))]) 0 0 := by
  refine mk_MI (cc := cX8_seeks) (maxL := 5) (ret := (some .int)) (by decide) rfl (Nat.le_of_ble_eq_true rfl) ?_
  intro p e s mI args below meth cO A cx hr hlk hnm hw ls hl
  have hx := cx.1
  have hb := cx.2.1
  have hw : ww D (TY cC cI cJ cZ cD) s A s.heap [(h0, .inl (cI, 60, .inl C))] s.heap [] := hw
  have hl : lv_has ls 5 [(0, .ref h0), (1, .int (nI n)), (2, .int v), (3, .int (nI f9))] := hl
  generalize hQ : MQ _ _ _ _ _ _ _ = Q
  refine hp_start hw (fun H locs hw => ?_)
  refine lv_iload_n hx hb dX8_seeks_0 rfl (lv_at hl 3 rfl) ?_
  refine lv_istore (lv' := [(4, .int (nI f9)), (0, .ref h0), (1, .int (nI n)), (2, .int v), (3, .int (nI f9))]) hx hb dX8_seeks_1 hl (by decide) rfl (fun ls hl => ?_)
  have K3_0 : ∀ (f : Nat) (k : Nat), (61 - k) < f → (f9 ≤ k) → (k ≤ n) → (∀ t, f9 ≤ t → t < k → ¬ C t = v) → ∀ (H : Heap) (locs : List Loc), ww D (TY cC cI cJ cZ cD) s A s.heap [(h0, .inl (cI, 60, .inl C))] H locs → ∀ ls : Array Slot, lv_has ls 5 [(0, .ref h0), (1, .int (nI n)), (2, .int v), (3, .int (nI f9)), (4, .int (nI k))] → W p l e ({ frames := 0, cells := 0, slots := 0, locals := 0 } : Room) s mI args below meth cO H locs 0 0 Q (F0 mI 3 ls []) := by
    intro f
    induction f with
    | zero => intro k hms9; exact absurd hms9 (Nat.not_lt_zero _)
    | succ f ih3 =>
      intro k hms9 hk1 hk2 hg H locs hw ls hl
      refine lv_iload hx hb dX8_seeks_3 (lv_at hl 4 rfl) ?_
      refine lv_iload_n hx hb dX8_seeks_5 rfl (lv_at hl 1 rfl) ?_
      refine r_icmp_ge cx 23 k n rfl rfl (by omega) (by omega) dX8_seeks_6 (by decide) (fun c6 => ?_) (fun c6 => ?_)
      · refine lv_iload hx hb dX8_seeks_23 (lv_at hl 4 rfl) ?_
        subst hQ
        exact r_reti (v := nI k) cx hr rfl hlk hw (Nat.le_of_ble_eq_true rfl) (Nat.le_of_ble_eq_true rfl) k ⟨rfl, ⟨hk1, hk2, hg, by first | exact Or.inl (by omega) | exact Or.inr c14⟩⟩ [0] (by decide) rfl dX8_seeks_25
      · refine lv_aload_n hx hb dX8_seeks_9 rfl (lv_at hl 0 rfl) ?_
        refine lv_iload hx hb dX8_seeks_10 (lv_at hl 4 rfl) ?_
        refine r_iald cx hw 0 1 rfl rfl k rfl (by omega) (by omega) dX8_seeks_12 ?_
        refine lv_iload_n hx hb dX8_seeks_13 rfl (lv_at hl 2 rfl) ?_
        refine lv_icmp_eq (tgt := 23) hx hb dX8_seeks_14 (by decide) (fun c14 => ?_) (fun c14 => ?_)
        · refine lv_iload hx hb dX8_seeks_23 (lv_at hl 4 rfl) ?_
          subst hQ
          exact r_reti (v := nI k) cx hr rfl hlk hw (Nat.le_of_ble_eq_true rfl) (Nat.le_of_ble_eq_true rfl) k ⟨rfl, ⟨hk1, hk2, hg, by first | exact Or.inl (by omega) | exact Or.inr c14⟩⟩ [0] (by decide) rfl dX8_seeks_25
        · refine lv_iinc (v := nI (k + 1)) (lv' := [(4, .int (nI (k + 1))), (0, .ref h0), (1, .int (nI n)), (2, .int v), (3, .int (nI f9))]) hx hb dX8_seeks_17 hl (k := 4) rfl (by rw [ii1, nI_1]) (by decide) rfl (fun ls hl => ?_)
          refine lv_goto (tgt := 3) hx hb dX8_seeks_20 (by decide) ?_
          exact ih3 (k + 1) (by omega) (by omega) (by omega) (by intro t a b; rcases Nat.lt_or_ge t k with z | z; exact hg t a z; rw [show t = k by omega]; exact c14) _ _ hw _ (lv_sub hl [1, 2, 3, 4, 0] rfl)
  exact K3_0 _ f9 (Nat.lt_succ_self _) (by omega) (by omega) (by intro t a b; omega) _ _ hw _ (lv_sub hl [1, 2, 3, 4, 0] rfl)

theorem lkX8_isChanged_1 : Cond.fieldLink RX8 20 "SignedDocumentModel" "clause" "[I" ∈ wsX8_isChanged := List.mem_of_getElem? (i := 1) rfl
theorem inX8_isChanged_8 : ∀ w ∈ u_ws RX8 TX8 33, w ∈ wsX8_isChanged := fun _ h => List.mem_cons_of_mem _ (List.mem_append_left _ (List.mem_append_right _ h))
theorem lkX8_isChanged_2 : Cond.fieldLink RX8 98 "SignedDocumentModel" "length" "I" ∈ wsX8_isChanged := List.mem_of_getElem? (i := 2) rfl
theorem lkX8_isChanged_3 : Cond.fieldLink RX8 26 "SignedDocumentModel" "nextClause" "[I" ∈ wsX8_isChanged := List.mem_of_getElem? (i := 3) rfl
theorem lkX8_isChanged_4 : Cond.fieldLink RX8 95 "SignedDocumentModel" "nextLength" "I" ∈ wsX8_isChanged := List.mem_of_getElem? (i := 4) rfl
theorem lkX8_isChanged_5 : Cond.fieldLink RX8 7 "SignedDocumentModel" "ch" "[C" ∈ wsX8_isChanged := List.mem_of_getElem? (i := 5) rfl
theorem lkX8_isChanged_6 : Cond.fieldLink RX8 13 "SignedDocumentModel" "nextCh" "[C" ∈ wsX8_isChanged := List.mem_of_getElem? (i := 6) rfl
set_option maxRecDepth 100000 in
set_option maxHeartbeats 4000000 in
theorem mX8_isChanged (l : Launch) (D : va_G) (cC cI cJ cZ cD : ClassId) (x xa xb xc xd xe xf xg xh xi xj xk xl xm xn xo xp xq xr xs xt : Nat) (n nx nb no na nc ne ns fee : Nat) (sj th rs stc : Int32) (tL : Nat → Int32) (mL : Nat → Int32) (tC : Nat → Int32) (mC : Nat → Int32) (v : Int32) (sz : Nat) (hn : n ≤ 60) (hx9 : nx ≤ 60) : MI l yX8_isChanged wsX8_isChanged ({ frames := 1, cells := 0, slots := 0, locals := 24 }) [.ref x, .int v] D (TY cC cI cJ cZ cD) [(x, .inr (10, [.ref xa, .ref xb, .ref xc, .ref xd, .ref xe, .ref xf, .ref xg, .ref xh, .ref xi, .ref xj, .ref xk, .ref xl, .ref xm, .ref xn, .ref xo, .ref xp, .ref xq, .ref xr, .ref xs, .ref xt, .int (nI n), .int (nI nx), .int (nI nb), .int (nI no), .int (nI na), .int (nI nc), .int (nI ne), .int (nI ns), .int (nI fee), .int sj, .int th, .int rs, .int stc])), (xa, .inl (cC, 60, .inl tL)), (xb, .inl (cC, 60, .inl mL)), (xd, .inl (cI, 60, .inl tC)), (xf, .inl (cI, 60, .inl mC))] sz (fun (r : Int32) => fun (_ : Unit) => ((r = nI 1 ∧ (¬ wd tL tC v n = wd mL mC v nx)) ∨ (r = nI 0 ∧ ¬ (¬ wd tL tC v n = wd mL mC v nx)))) (fun (_ : Unit) => [(x, .inr (10, [.ref xa, .ref xb, .ref xc, .ref xd, .ref xe, .ref xf, .ref xg, .ref xh, .ref xi, .ref xj, .ref xk, .ref xl, .ref xm, .ref xn, .ref xo, .ref xp, .ref xq, .ref xr, .ref xs, .ref xt, .int (nI n), .int (nI nx), .int (nI nb), .int (nI no), .int (nI na), .int (nI nc), .int (nI ne), .int (nI ns), .int (nI fee), .int sj, .int th, .int rs, .int stc])), (xa, .inl (cC, 60, .inl tL)), (xb, .inl (cC, 60, .inl mL)), (xd, .inl (cI, 60, .inl tC)), (xf, .inl (cI, 60, .inl mC))]) 0 0 := by
  refine mk_MI (cc := cX8_isChanged) (maxL := 4) (ret := (some .boolean)) (by decide) rfl (Nat.le_of_ble_eq_true rfl) ?_
  intro p e s mI args below meth cO A cx hr hlk hnm hw ls hl
  have hx := cx.1
  have hb := cx.2.1
  have hw : ww D (TY cC cI cJ cZ cD) s A s.heap [(x, .inr (10, [.ref xa, .ref xb, .ref xc, .ref xd, .ref xe, .ref xf, .ref xg, .ref xh, .ref xi, .ref xj, .ref xk, .ref xl, .ref xm, .ref xn, .ref xo, .ref xp, .ref xq, .ref xr, .ref xs, .ref xt, .int (nI n), .int (nI nx), .int (nI nb), .int (nI no), .int (nI na), .int (nI nc), .int (nI ne), .int (nI ns), .int (nI fee), .int sj, .int th, .int rs, .int stc])), (xa, .inl (cC, 60, .inl tL)), (xb, .inl (cC, 60, .inl mL)), (xd, .inl (cI, 60, .inl tC)), (xf, .inl (cI, 60, .inl mC))] s.heap [] := hw
  have hl : lv_has ls 4 [(0, .ref x), (1, .int v)] := hl
  generalize hQ : MQ _ _ _ _ _ _ _ = Q
  refine hp_start hw (fun H locs hw => ?_)
  refine lv_aload_n hx hb dX8_isChanged_0 rfl (lv_at hl 0 rfl) ?_
  refine r_get cx hw inX8_isChanged_8 0 3 rfl rfl (by decide) lkX8_isChanged_1 rfl dX8_isChanged_1 ?_
  refine lv_aload_n hx hb dX8_isChanged_4 rfl (lv_at hl 0 rfl) ?_
  refine r_get cx hw inX8_isChanged_8 0 20 rfl rfl (by decide) lkX8_isChanged_2 rfl dX8_isChanged_5 ?_
  refine lv_iload_n hx hb dX8_isChanged_8 rfl (lv_at hl 1 rfl) ?_
  refine lv_iconst (v := nI 0) hx hb dX8_isChanged_9 (by decide) ?_
  refine r_callSi (n := 4) (wr := [(x, .inr (10, [.ref xa, .ref xb, .ref xc, .ref xd, .ref xe, .ref xf, .ref xg, .ref xh, .ref xi, .ref xj, .ref xk, .ref xl, .ref xm, .ref xn, .ref xo, .ref xp, .ref xq, .ref xr, .ref xs, .ref xt, .int (nI n), .int (nI nx), .int (nI nb), .int (nI no), .int (nI na), .int (nI nc), .int (nI ne), .int (nI ns), .int (nI fee), .int sj, .int th, .int rs, .int stc])), (xa, .inl (cC, 60, .inl tL)), (xb, .inl (cC, 60, .inl mL)), (xf, .inl (cI, 60, .inl mC))]) cx hw (mX8_seeks l D cC cI cJ cZ cD xd n 0 v tC H.size hn (by omega)) [3] [0, 1, 2, 4] gX8_isChanged_X8_seeks rfl rfl rfl (by decide +kernel) ⟨Nat.le_of_ble_eq_true rfl, Nat.le_of_ble_eq_true rfl⟩ rfl rfl (by decide) (by decide) (by decide) rfl rfl hl.1 (Nat.le_of_ble_eq_true rfl) dX8_isChanged_10 ⟨Nat.le_of_ble_eq_true rfl, Nat.le_of_ble_eq_true rfl⟩ (fun r_2 u H locs hp hw => ?_)
  obtain ⟨k_1, rfl⟩ : ∃ z, z = u := ⟨_, rfl⟩
  have hw : ww D (TY cC cI cJ cZ cD) s A s.heap [(x, .inr (10, [.ref xa, .ref xb, .ref xc, .ref xd, .ref xe, .ref xf, .ref xg, .ref xh, .ref xi, .ref xj, .ref xk, .ref xl, .ref xm, .ref xn, .ref xo, .ref xp, .ref xq, .ref xr, .ref xs, .ref xt, .int (nI n), .int (nI nx), .int (nI nb), .int (nI no), .int (nI na), .int (nI nc), .int (nI ne), .int (nI ns), .int (nI fee), .int sj, .int th, .int rs, .int stc])), (xa, .inl (cC, 60, .inl tL)), (xb, .inl (cC, 60, .inl mL)), (xf, .inl (cI, 60, .inl mC)), (xd, .inl (cI, 60, .inl tC))] H locs := hw
  try dsimp only at hp
  obtain ⟨rfl, hp10⟩ := hp
  refine lv_istore_n (lv' := [(2, .int (nI k_1)), (0, .ref x), (1, .int v)]) hx hb dX8_isChanged_13 rfl hl (by decide) rfl (fun ls hl => ?_)
  refine lv_aload_n hx hb dX8_isChanged_14 rfl (lv_at hl 1 rfl) ?_
  refine r_get cx hw inX8_isChanged_8 0 5 rfl rfl (by decide) lkX8_isChanged_3 rfl dX8_isChanged_15 ?_
  refine lv_aload_n hx hb dX8_isChanged_18 rfl (lv_at hl 1 rfl) ?_
  refine r_get cx hw inX8_isChanged_8 0 21 rfl rfl (by decide) lkX8_isChanged_4 rfl dX8_isChanged_19 ?_
  refine lv_iload_n hx hb dX8_isChanged_22 rfl (lv_at hl 2 rfl) ?_
  refine lv_iconst (v := nI 0) hx hb dX8_isChanged_23 (by decide) ?_
  refine r_callSi (n := 4) (wr := [(x, .inr (10, [.ref xa, .ref xb, .ref xc, .ref xd, .ref xe, .ref xf, .ref xg, .ref xh, .ref xi, .ref xj, .ref xk, .ref xl, .ref xm, .ref xn, .ref xo, .ref xp, .ref xq, .ref xr, .ref xs, .ref xt, .int (nI n), .int (nI nx), .int (nI nb), .int (nI no), .int (nI na), .int (nI nc), .int (nI ne), .int (nI ns), .int (nI fee), .int sj, .int th, .int rs, .int stc])), (xa, .inl (cC, 60, .inl tL)), (xb, .inl (cC, 60, .inl mL)), (xd, .inl (cI, 60, .inl tC))]) cx hw (mX8_seeks l D cC cI cJ cZ cD xf nx 0 v mC H.size hx9 (by omega)) [3] [0, 1, 2, 4] gX8_isChanged_X8_seeks rfl rfl rfl (by decide +kernel) ⟨Nat.le_of_ble_eq_true rfl, Nat.le_of_ble_eq_true rfl⟩ rfl rfl (by decide) (by decide) (by decide) rfl rfl hl.1 (Nat.le_of_ble_eq_true rfl) dX8_isChanged_24 ⟨Nat.le_of_ble_eq_true rfl, Nat.le_of_ble_eq_true rfl⟩ (fun r_4 u H locs hp hw => ?_)
  obtain ⟨k_3, rfl⟩ : ∃ z, z = u := ⟨_, rfl⟩
  have hw : ww D (TY cC cI cJ cZ cD) s A s.heap [(x, .inr (10, [.ref xa, .ref xb, .ref xc, .ref xd, .ref xe, .ref xf, .ref xg, .ref xh, .ref xi, .ref xj, .ref xk, .ref xl, .ref xm, .ref xn, .ref xo, .ref xp, .ref xq, .ref xr, .ref xs, .ref xt, .int (nI n), .int (nI nx), .int (nI nb), .int (nI no), .int (nI na), .int (nI nc), .int (nI ne), .int (nI ns), .int (nI fee), .int sj, .int th, .int rs, .int stc])), (xa, .inl (cC, 60, .inl tL)), (xb, .inl (cC, 60, .inl mL)), (xd, .inl (cI, 60, .inl tC)), (xf, .inl (cI, 60, .inl mC))] H locs := hw
  try dsimp only at hp
  obtain ⟨rfl, hp24⟩ := hp
  refine lv_istore_n (lv' := [(3, .int (nI k_3)), (2, .int (nI k_1)), (0, .ref x), (1, .int v)]) hx hb dX8_isChanged_27 rfl hl (by decide) rfl (fun ls hl => ?_)
  have K28_4 : ∀ (f : Nat) (a : Nat) (b : Nat), (61 - a) < f → (a ≤ n) → (b ≤ nx) → (wd tL tC v a = wd mL mC v b) → (a = n ∨ tC a = v) → (b = nx ∨ mC b = v) → ∀ (H : Heap) (locs : List Loc), ww D (TY cC cI cJ cZ cD) s A s.heap [(x, .inr (10, [.ref xa, .ref xb, .ref xc, .ref xd, .ref xe, .ref xf, .ref xg, .ref xh, .ref xi, .ref xj, .ref xk, .ref xl, .ref xm, .ref xn, .ref xo, .ref xp, .ref xq, .ref xr, .ref xs, .ref xt, .int (nI n), .int (nI nx), .int (nI nb), .int (nI no), .int (nI na), .int (nI nc), .int (nI ne), .int (nI ns), .int (nI fee), .int sj, .int th, .int rs, .int stc])), (xa, .inl (cC, 60, .inl tL)), (xb, .inl (cC, 60, .inl mL)), (xd, .inl (cI, 60, .inl tC)), (xf, .inl (cI, 60, .inl mC))] H locs → ∀ ls : Array Slot, lv_has ls 4 [(0, .ref x), (1, .int v), (2, .int (nI a)), (3, .int (nI b))] → W p l e ({ frames := 1, cells := 0, slots := 0, locals := 24 } : Room) s mI args below meth cO H locs 0 0 Q (F0 mI 28 ls []) := by
    intro f
    induction f with
    | zero => intro a b hms9; exact absurd hms9 (Nat.not_lt_zero _)
    | succ f ih28 =>
      intro a b hms9 hia hib hwd haa hbb H locs hw ls hl
      refine lv_iload_n hx hb dX8_isChanged_28 rfl (lv_at hl 2 rfl) ?_
      refine lv_aload_n hx hb dX8_isChanged_29 rfl (lv_at hl 0 rfl) ?_
      refine r_get cx hw inX8_isChanged_8 0 20 rfl rfl (by decide) lkX8_isChanged_2 rfl dX8_isChanged_30 ?_
      refine r_icmp_ge cx 94 a n rfl rfl (by omega) (by omega) dX8_isChanged_33 (by decide) (fun c33 => ?_) (fun c33 => ?_)
      · refine lv_iload_n hx hb dX8_isChanged_94 rfl (lv_at hl 2 rfl) ?_
        refine lv_aload_n hx hb dX8_isChanged_95 rfl (lv_at hl 0 rfl) ?_
        refine r_get cx hw inX8_isChanged_8 0 20 rfl rfl (by decide) lkX8_isChanged_2 rfl dX8_isChanged_96 ?_
        refine r_icmp_lt cx 110 a n rfl rfl (by omega) (by omega) dX8_isChanged_99 (by decide) (fun c99 => ?_) (fun c99 => ?_)
        · refine lv_iconst (v := nI 1) hx hb dX8_isChanged_110 (by decide) ?_
          refine lv_goto (tgt := 115) hx hb dX8_isChanged_111 (by decide) ?_
          subst hQ
          exact r_reti (v := nI 1) cx hr (by decide) hlk hw (Nat.le_of_ble_eq_true rfl) (Nat.le_of_ble_eq_true rfl) () (Or.inl ⟨rfl, chg haa hbb hwd hia hib (by first | exact Or.inl ⟨by omega, by omega, c56⟩ | exact Or.inr (Or.inl ⟨by omega, by omega⟩) | exact Or.inr (Or.inr ⟨by omega, by omega⟩))⟩) [0, 1, 2, 3, 4] (by decide) rfl dX8_isChanged_115
        · refine lv_iload_n hx hb dX8_isChanged_102 rfl (lv_at hl 3 rfl) ?_
          refine lv_aload_n hx hb dX8_isChanged_103 rfl (lv_at hl 0 rfl) ?_
          refine r_get cx hw inX8_isChanged_8 0 21 rfl rfl (by decide) lkX8_isChanged_4 rfl dX8_isChanged_104 ?_
          refine r_icmp_ge cx 114 b nx rfl rfl (by omega) (by omega) dX8_isChanged_107 (by decide) (fun c107 => ?_) (fun c107 => ?_)
          · refine lv_iconst (v := nI 0) hx hb dX8_isChanged_114 (by decide) ?_
            subst hQ
            exact r_reti (v := nI 0) cx hr (by decide) hlk hw (Nat.le_of_ble_eq_true rfl) (Nat.le_of_ble_eq_true rfl) () (Or.inr ⟨rfl, not_not_intro (same (show a = n by omega) (show b = nx by omega) hwd)⟩) [0, 1, 2, 3, 4] (by decide) rfl dX8_isChanged_115
          · refine lv_iconst (v := nI 1) hx hb dX8_isChanged_110 (by decide) ?_
            refine lv_goto (tgt := 115) hx hb dX8_isChanged_111 (by decide) ?_
            subst hQ
            exact r_reti (v := nI 1) cx hr (by decide) hlk hw (Nat.le_of_ble_eq_true rfl) (Nat.le_of_ble_eq_true rfl) () (Or.inl ⟨rfl, chg haa hbb hwd hia hib (by first | exact Or.inl ⟨by omega, by omega, c56⟩ | exact Or.inr (Or.inl ⟨by omega, by omega⟩) | exact Or.inr (Or.inr ⟨by omega, by omega⟩))⟩) [0, 1, 2, 3, 4] (by decide) rfl dX8_isChanged_115
      · refine lv_iload_n hx hb dX8_isChanged_36 rfl (lv_at hl 3 rfl) ?_
        refine lv_aload_n hx hb dX8_isChanged_37 rfl (lv_at hl 0 rfl) ?_
        refine r_get cx hw inX8_isChanged_8 0 21 rfl rfl (by decide) lkX8_isChanged_4 rfl dX8_isChanged_38 ?_
        refine r_icmp_ge cx 94 b nx rfl rfl (by omega) (by omega) dX8_isChanged_41 (by decide) (fun c41 => ?_) (fun c41 => ?_)
        · refine lv_iload_n hx hb dX8_isChanged_94 rfl (lv_at hl 2 rfl) ?_
          refine lv_aload_n hx hb dX8_isChanged_95 rfl (lv_at hl 0 rfl) ?_
          refine r_get cx hw inX8_isChanged_8 0 20 rfl rfl (by decide) lkX8_isChanged_2 rfl dX8_isChanged_96 ?_
          refine r_icmp_lt cx 110 a n rfl rfl (by omega) (by omega) dX8_isChanged_99 (by decide) (fun c99 => ?_) (fun c99 => ?_)
          · refine lv_iconst (v := nI 1) hx hb dX8_isChanged_110 (by decide) ?_
            refine lv_goto (tgt := 115) hx hb dX8_isChanged_111 (by decide) ?_
            subst hQ
            exact r_reti (v := nI 1) cx hr (by decide) hlk hw (Nat.le_of_ble_eq_true rfl) (Nat.le_of_ble_eq_true rfl) () (Or.inl ⟨rfl, chg haa hbb hwd hia hib (by first | exact Or.inl ⟨by omega, by omega, c56⟩ | exact Or.inr (Or.inl ⟨by omega, by omega⟩) | exact Or.inr (Or.inr ⟨by omega, by omega⟩))⟩) [0, 1, 2, 3, 4] (by decide) rfl dX8_isChanged_115
          · refine lv_iload_n hx hb dX8_isChanged_102 rfl (lv_at hl 3 rfl) ?_
            refine lv_aload_n hx hb dX8_isChanged_103 rfl (lv_at hl 0 rfl) ?_
            refine r_get cx hw inX8_isChanged_8 0 21 rfl rfl (by decide) lkX8_isChanged_4 rfl dX8_isChanged_104 ?_
            refine r_icmp_ge cx 114 b nx rfl rfl (by omega) (by omega) dX8_isChanged_107 (by decide) (fun c107 => ?_) (fun c107 => ?_)
            · refine lv_iconst (v := nI 0) hx hb dX8_isChanged_114 (by decide) ?_
              subst hQ
              exact r_reti (v := nI 0) cx hr (by decide) hlk hw (Nat.le_of_ble_eq_true rfl) (Nat.le_of_ble_eq_true rfl) () (Or.inr ⟨rfl, not_not_intro (same (show a = n by omega) (show b = nx by omega) hwd)⟩) [0, 1, 2, 3, 4] (by decide) rfl dX8_isChanged_115
            · refine lv_iconst (v := nI 1) hx hb dX8_isChanged_110 (by decide) ?_
              refine lv_goto (tgt := 115) hx hb dX8_isChanged_111 (by decide) ?_
              subst hQ
              exact r_reti (v := nI 1) cx hr (by decide) hlk hw (Nat.le_of_ble_eq_true rfl) (Nat.le_of_ble_eq_true rfl) () (Or.inl ⟨rfl, chg haa hbb hwd hia hib (by first | exact Or.inl ⟨by omega, by omega, c56⟩ | exact Or.inr (Or.inl ⟨by omega, by omega⟩) | exact Or.inr (Or.inr ⟨by omega, by omega⟩))⟩) [0, 1, 2, 3, 4] (by decide) rfl dX8_isChanged_115
        · refine lv_aload_n hx hb dX8_isChanged_44 rfl (lv_at hl 0 rfl) ?_
          refine r_get cx hw inX8_isChanged_8 0 0 rfl rfl (by decide) lkX8_isChanged_5 rfl dX8_isChanged_45 ?_
          refine lv_iload_n hx hb dX8_isChanged_48 rfl (lv_at hl 2 rfl) ?_
          refine r_cald cx hw 1 0 rfl rfl a rfl (by omega) (by omega) dX8_isChanged_49 ?_
          refine lv_aload_n hx hb dX8_isChanged_50 rfl (lv_at hl 0 rfl) ?_
          refine r_get cx hw inX8_isChanged_8 0 1 rfl rfl (by decide) lkX8_isChanged_6 rfl dX8_isChanged_51 ?_
          refine lv_iload_n hx hb dX8_isChanged_54 rfl (lv_at hl 3 rfl) ?_
          refine r_cald cx hw 2 0 rfl rfl b rfl (by omega) (by omega) dX8_isChanged_55 ?_
          refine lv_icmp_ne (tgt := 94) hx hb dX8_isChanged_56 (by decide) (fun c56 => ?_) (fun c56 => ?_)
          · refine lv_iload_n hx hb dX8_isChanged_94 rfl (lv_at hl 2 rfl) ?_
            refine lv_aload_n hx hb dX8_isChanged_95 rfl (lv_at hl 0 rfl) ?_
            refine r_get cx hw inX8_isChanged_8 0 20 rfl rfl (by decide) lkX8_isChanged_2 rfl dX8_isChanged_96 ?_
            refine r_icmp_lt cx 110 a n rfl rfl (by omega) (by omega) dX8_isChanged_99 (by decide) (fun c99 => ?_) (fun c99 => ?_)
            · refine lv_iconst (v := nI 1) hx hb dX8_isChanged_110 (by decide) ?_
              refine lv_goto (tgt := 115) hx hb dX8_isChanged_111 (by decide) ?_
              subst hQ
              exact r_reti (v := nI 1) cx hr (by decide) hlk hw (Nat.le_of_ble_eq_true rfl) (Nat.le_of_ble_eq_true rfl) () (Or.inl ⟨rfl, chg haa hbb hwd hia hib (by first | exact Or.inl ⟨by omega, by omega, c56⟩ | exact Or.inr (Or.inl ⟨by omega, by omega⟩) | exact Or.inr (Or.inr ⟨by omega, by omega⟩))⟩) [0, 1, 2, 3, 4] (by decide) rfl dX8_isChanged_115
            · refine lv_iload_n hx hb dX8_isChanged_102 rfl (lv_at hl 3 rfl) ?_
              refine lv_aload_n hx hb dX8_isChanged_103 rfl (lv_at hl 0 rfl) ?_
              refine r_get cx hw inX8_isChanged_8 0 21 rfl rfl (by decide) lkX8_isChanged_4 rfl dX8_isChanged_104 ?_
              refine r_icmp_ge cx 114 b nx rfl rfl (by omega) (by omega) dX8_isChanged_107 (by decide) (fun c107 => ?_) (fun c107 => ?_)
              · refine lv_iconst (v := nI 0) hx hb dX8_isChanged_114 (by decide) ?_
                subst hQ
                exact r_reti (v := nI 0) cx hr (by decide) hlk hw (Nat.le_of_ble_eq_true rfl) (Nat.le_of_ble_eq_true rfl) () (Or.inr ⟨rfl, not_not_intro (same (show a = n by omega) (show b = nx by omega) hwd)⟩) [0, 1, 2, 3, 4] (by decide) rfl dX8_isChanged_115
              · refine lv_iconst (v := nI 1) hx hb dX8_isChanged_110 (by decide) ?_
                refine lv_goto (tgt := 115) hx hb dX8_isChanged_111 (by decide) ?_
                subst hQ
                exact r_reti (v := nI 1) cx hr (by decide) hlk hw (Nat.le_of_ble_eq_true rfl) (Nat.le_of_ble_eq_true rfl) () (Or.inl ⟨rfl, chg haa hbb hwd hia hib (by first | exact Or.inl ⟨by omega, by omega, c56⟩ | exact Or.inr (Or.inl ⟨by omega, by omega⟩) | exact Or.inr (Or.inr ⟨by omega, by omega⟩))⟩) [0, 1, 2, 3, 4] (by decide) rfl dX8_isChanged_115
          · refine lv_aload_n hx hb dX8_isChanged_59 rfl (lv_at hl 0 rfl) ?_
            refine r_get cx hw inX8_isChanged_8 0 3 rfl rfl (by decide) lkX8_isChanged_1 rfl dX8_isChanged_60 ?_
            refine lv_aload_n hx hb dX8_isChanged_63 rfl (lv_at hl 0 rfl) ?_
            refine r_get cx hw inX8_isChanged_8 0 20 rfl rfl (by decide) lkX8_isChanged_2 rfl dX8_isChanged_64 ?_
            refine lv_iload_n hx hb dX8_isChanged_67 rfl (lv_at hl 1 rfl) ?_
            refine lv_iload_n hx hb dX8_isChanged_68 rfl (lv_at hl 2 rfl) ?_
            refine lv_iconst (v := nI 1) hx hb dX8_isChanged_69 (by decide) ?_
            refine r_iadd cx a 1 rfl rfl dX8_isChanged_70 ?_
            refine r_callSi (n := 4) (wr := [(x, .inr (10, [.ref xa, .ref xb, .ref xc, .ref xd, .ref xe, .ref xf, .ref xg, .ref xh, .ref xi, .ref xj, .ref xk, .ref xl, .ref xm, .ref xn, .ref xo, .ref xp, .ref xq, .ref xr, .ref xs, .ref xt, .int (nI n), .int (nI nx), .int (nI nb), .int (nI no), .int (nI na), .int (nI nc), .int (nI ne), .int (nI ns), .int (nI fee), .int sj, .int th, .int rs, .int stc])), (xa, .inl (cC, 60, .inl tL)), (xb, .inl (cC, 60, .inl mL)), (xf, .inl (cI, 60, .inl mC))]) cx hw (mX8_seeks l D cC cI cJ cZ cD xd n (a + 1) v tC H.size hn (by omega)) [3] [0, 1, 2, 4] gX8_isChanged_X8_seeks rfl rfl rfl (by decide +kernel) ⟨Nat.le_of_ble_eq_true rfl, Nat.le_of_ble_eq_true rfl⟩ rfl rfl (by decide) (by decide) (by decide) rfl rfl hl.1 (Nat.le_of_ble_eq_true rfl) dX8_isChanged_71 ⟨Nat.le_of_ble_eq_true rfl, Nat.le_of_ble_eq_true rfl⟩ (fun r_7 u H locs hp hw => ?_)
            obtain ⟨k_6, rfl⟩ : ∃ z, z = u := ⟨_, rfl⟩
            have hw : ww D (TY cC cI cJ cZ cD) s A s.heap [(x, .inr (10, [.ref xa, .ref xb, .ref xc, .ref xd, .ref xe, .ref xf, .ref xg, .ref xh, .ref xi, .ref xj, .ref xk, .ref xl, .ref xm, .ref xn, .ref xo, .ref xp, .ref xq, .ref xr, .ref xs, .ref xt, .int (nI n), .int (nI nx), .int (nI nb), .int (nI no), .int (nI na), .int (nI nc), .int (nI ne), .int (nI ns), .int (nI fee), .int sj, .int th, .int rs, .int stc])), (xa, .inl (cC, 60, .inl tL)), (xb, .inl (cC, 60, .inl mL)), (xf, .inl (cI, 60, .inl mC)), (xd, .inl (cI, 60, .inl tC))] H locs := hw
            try dsimp only at hp
            obtain ⟨rfl, hp71⟩ := hp
            refine lv_istore_n (lv' := [(2, .int (nI k_6)), (0, .ref x), (1, .int v), (3, .int (nI b))]) hx hb dX8_isChanged_74 rfl hl (by decide) rfl (fun ls hl => ?_)
            refine lv_aload_n hx hb dX8_isChanged_75 rfl (lv_at hl 1 rfl) ?_
            refine r_get cx hw inX8_isChanged_8 0 5 rfl rfl (by decide) lkX8_isChanged_3 rfl dX8_isChanged_76 ?_
            refine lv_aload_n hx hb dX8_isChanged_79 rfl (lv_at hl 1 rfl) ?_
            refine r_get cx hw inX8_isChanged_8 0 21 rfl rfl (by decide) lkX8_isChanged_4 rfl dX8_isChanged_80 ?_
            refine lv_iload_n hx hb dX8_isChanged_83 rfl (lv_at hl 2 rfl) ?_
            refine lv_iload_n hx hb dX8_isChanged_84 rfl (lv_at hl 3 rfl) ?_
            refine lv_iconst (v := nI 1) hx hb dX8_isChanged_85 (by decide) ?_
            refine r_iadd cx b 1 rfl rfl dX8_isChanged_86 ?_
            refine r_callSi (n := 4) (wr := [(x, .inr (10, [.ref xa, .ref xb, .ref xc, .ref xd, .ref xe, .ref xf, .ref xg, .ref xh, .ref xi, .ref xj, .ref xk, .ref xl, .ref xm, .ref xn, .ref xo, .ref xp, .ref xq, .ref xr, .ref xs, .ref xt, .int (nI n), .int (nI nx), .int (nI nb), .int (nI no), .int (nI na), .int (nI nc), .int (nI ne), .int (nI ns), .int (nI fee), .int sj, .int th, .int rs, .int stc])), (xa, .inl (cC, 60, .inl tL)), (xb, .inl (cC, 60, .inl mL)), (xd, .inl (cI, 60, .inl tC))]) cx hw (mX8_seeks l D cC cI cJ cZ cD xf nx (b + 1) v mC H.size hx9 (by omega)) [3] [0, 1, 2, 4] gX8_isChanged_X8_seeks rfl rfl rfl (by decide +kernel) ⟨Nat.le_of_ble_eq_true rfl, Nat.le_of_ble_eq_true rfl⟩ rfl rfl (by decide) (by decide) (by decide) rfl rfl hl.1 (Nat.le_of_ble_eq_true rfl) dX8_isChanged_87 ⟨Nat.le_of_ble_eq_true rfl, Nat.le_of_ble_eq_true rfl⟩ (fun r_9 u H locs hp hw => ?_)
            obtain ⟨k_8, rfl⟩ : ∃ z, z = u := ⟨_, rfl⟩
            have hw : ww D (TY cC cI cJ cZ cD) s A s.heap [(x, .inr (10, [.ref xa, .ref xb, .ref xc, .ref xd, .ref xe, .ref xf, .ref xg, .ref xh, .ref xi, .ref xj, .ref xk, .ref xl, .ref xm, .ref xn, .ref xo, .ref xp, .ref xq, .ref xr, .ref xs, .ref xt, .int (nI n), .int (nI nx), .int (nI nb), .int (nI no), .int (nI na), .int (nI nc), .int (nI ne), .int (nI ns), .int (nI fee), .int sj, .int th, .int rs, .int stc])), (xa, .inl (cC, 60, .inl tL)), (xb, .inl (cC, 60, .inl mL)), (xd, .inl (cI, 60, .inl tC)), (xf, .inl (cI, 60, .inl mC))] H locs := hw
            try dsimp only at hp
            obtain ⟨rfl, hp87⟩ := hp
            refine lv_istore_n (lv' := [(3, .int (nI k_8)), (2, .int (nI k_6)), (0, .ref x), (1, .int v)]) hx hb dX8_isChanged_90 rfl hl (by decide) rfl (fun ls hl => ?_)
            refine lv_goto (tgt := 28) hx hb dX8_isChanged_91 (by decide) ?_
            exact ih28 k_6 k_8 (by have := hp71.1; omega) (by exact hp71.2.1) (by exact hp87.2.1) (by rw [wd_go (haa.resolve_left (by omega)) hp71.1 hp71.2.2.1, wd_go (hbb.resolve_left (by omega)) hp87.1 hp87.2.2.1, hwd, c56]) (by exact hp71.2.2.2) (by exact hp87.2.2.2) _ _ hw _ (lv_sub hl [2, 3, 1, 0] rfl)
  exact K28_4 _ k_1 k_3 (Nat.lt_succ_self _) (by exact hp10.2.1) (by exact hp24.2.1) (by exact (wd_gap (Nat.zero_le _) hp10.2.2.1).trans (wd_gap (Nat.zero_le _) hp24.2.2.1).symm) (by exact hp10.2.2.2) (by exact hp24.2.2.2) _ _ hw _ (lv_sub hl [2, 3, 1, 0] rfl)

theorem lkX8_changed_1 : Cond.fieldLink RX8 109 "SignedDocumentModel" "clauses" "I" ∈ wsX8_changed := List.mem_of_getElem? (i := 1) rfl
theorem inX8_changed_8 : ∀ w ∈ u_ws RX8 TX8 33, w ∈ wsX8_changed := fun _ h => List.mem_cons_of_mem _ (List.mem_append_left _ (List.mem_append_right _ h))
set_option maxRecDepth 100000 in
set_option maxHeartbeats 4000000 in
theorem mX8_changed (l : Launch) (D : va_G) (cC cI cJ cZ cD : ClassId) (x xa xb xc xd xe xf xg xh xi xj xk xl xm xn xo xp xq xr xs xt : Nat) (n nx nb no na nc ne ns fee : Nat) (sj th rs stc : Int32) (tL : Nat → Int32) (mL : Nat → Int32) (tC : Nat → Int32) (mC : Nat → Int32) (sz : Nat) (hn : n ≤ 60) (hx9 : nx ≤ 60) (hnc : nc ≤ 6) : MI l yX8_changed wsX8_changed ({ frames := 2, cells := 0, slots := 0, locals := 47 }) [.ref x] D (TY cC cI cJ cZ cD) [(x, .inr (10, [.ref xa, .ref xb, .ref xc, .ref xd, .ref xe, .ref xf, .ref xg, .ref xh, .ref xi, .ref xj, .ref xk, .ref xl, .ref xm, .ref xn, .ref xo, .ref xp, .ref xq, .ref xr, .ref xs, .ref xt, .int (nI n), .int (nI nx), .int (nI nb), .int (nI no), .int (nI na), .int (nI nc), .int (nI ne), .int (nI ns), .int (nI fee), .int sj, .int th, .int rs, .int stc])), (xa, .inl (cC, 60, .inl tL)), (xb, .inl (cC, 60, .inl mL)), (xd, .inl (cI, 60, .inl tC)), (xf, .inl (cI, 60, .inl mC))] sz (fun (r : Int32) => fun (_ : Unit) => r = chs (un tL tC n mL mC nx) nc) (fun (_ : Unit) => [(x, .inr (10, [.ref xa, .ref xb, .ref xc, .ref xd, .ref xe, .ref xf, .ref xg, .ref xh, .ref xi, .ref xj, .ref xk, .ref xl, .ref xm, .ref xn, .ref xo, .ref xp, .ref xq, .ref xr, .ref xs, .ref xt, .int (nI n), .int (nI nx), .int (nI nb), .int (nI no), .int (nI na), .int (nI nc), .int (nI ne), .int (nI ns), .int (nI fee), .int sj, .int th, .int rs, .int stc])), (xa, .inl (cC, 60, .inl tL)), (xb, .inl (cC, 60, .inl mL)), (xd, .inl (cI, 60, .inl tC)), (xf, .inl (cI, 60, .inl mC))]) 0 0 := by
  refine mk_MI (cc := cX8_changed) (maxL := 3) (ret := (some .int)) (by decide) rfl (Nat.le_of_ble_eq_true rfl) ?_
  intro p e s mI args below meth cO A cx hr hlk hnm hw ls hl
  have hx := cx.1
  have hb := cx.2.1
  have hw : ww D (TY cC cI cJ cZ cD) s A s.heap [(x, .inr (10, [.ref xa, .ref xb, .ref xc, .ref xd, .ref xe, .ref xf, .ref xg, .ref xh, .ref xi, .ref xj, .ref xk, .ref xl, .ref xm, .ref xn, .ref xo, .ref xp, .ref xq, .ref xr, .ref xs, .ref xt, .int (nI n), .int (nI nx), .int (nI nb), .int (nI no), .int (nI na), .int (nI nc), .int (nI ne), .int (nI ns), .int (nI fee), .int sj, .int th, .int rs, .int stc])), (xa, .inl (cC, 60, .inl tL)), (xb, .inl (cC, 60, .inl mL)), (xd, .inl (cI, 60, .inl tC)), (xf, .inl (cI, 60, .inl mC))] s.heap [] := hw
  have hl : lv_has ls 3 [(0, .ref x)] := hl
  generalize hQ : MQ _ _ _ _ _ _ _ = Q
  refine hp_start hw (fun H locs hw => ?_)
  refine lv_iconst (v := nI 0) hx hb dX8_changed_0 (by decide) ?_
  refine lv_istore_n (lv' := [(1, .int (nI 0)), (0, .ref x)]) hx hb dX8_changed_1 rfl hl (by decide) rfl (fun ls hl => ?_)
  refine lv_iconst (v := nI 0) hx hb dX8_changed_2 (by decide) ?_
  refine lv_istore_n (lv' := [(2, .int (nI 0)), (1, .int (nI 0)), (0, .ref x)]) hx hb dX8_changed_3 rfl hl (by decide) rfl (fun ls hl => ?_)
  have K4_0 : ∀ (f : Nat) (q : Int32) (i : Nat), (7 - i) < f → (i ≤ nc) → (q = chs (un tL tC n mL mC nx) i) → ∀ (H : Heap) (locs : List Loc), ww D (TY cC cI cJ cZ cD) s A s.heap [(x, .inr (10, [.ref xa, .ref xb, .ref xc, .ref xd, .ref xe, .ref xf, .ref xg, .ref xh, .ref xi, .ref xj, .ref xk, .ref xl, .ref xm, .ref xn, .ref xo, .ref xp, .ref xq, .ref xr, .ref xs, .ref xt, .int (nI n), .int (nI nx), .int (nI nb), .int (nI no), .int (nI na), .int (nI nc), .int (nI ne), .int (nI ns), .int (nI fee), .int sj, .int th, .int rs, .int stc])), (xa, .inl (cC, 60, .inl tL)), (xb, .inl (cC, 60, .inl mL)), (xd, .inl (cI, 60, .inl tC)), (xf, .inl (cI, 60, .inl mC))] H locs → ∀ ls : Array Slot, lv_has ls 3 [(0, .ref x), (1, .int q), (2, .int (nI i))] → W p l e ({ frames := 2, cells := 0, slots := 0, locals := 47 } : Room) s mI args below meth cO H locs 0 0 Q (F0 mI 4 ls []) := by
    intro f
    induction f with
    | zero => intro q i hms9; exact absurd hms9 (Nat.not_lt_zero _)
    | succ f ih4 =>
      intro q i hms9 hi hq H locs hw ls hl
      refine lv_iload_n hx hb dX8_changed_4 rfl (lv_at hl 2 rfl) ?_
      refine lv_aload_n hx hb dX8_changed_5 rfl (lv_at hl 0 rfl) ?_
      refine r_get cx hw inX8_changed_8 0 25 rfl rfl (by decide) lkX8_changed_1 rfl dX8_changed_6 ?_
      refine r_icmp_ge cx 36 i nc rfl rfl (by omega) (by omega) dX8_changed_9 (by decide) (fun c9 => ?_) (fun c9 => ?_)
      · refine lv_iload_n hx hb dX8_changed_36 rfl (lv_at hl 1 rfl) ?_
        subst hQ
        exact r_reti (v := q) cx hr rfl hlk hw (Nat.le_of_ble_eq_true rfl) (Nat.le_of_ble_eq_true rfl) () (by rw [hq, show i = nc by omega]) [0, 1, 2, 3, 4] (by decide) rfl dX8_changed_37
      · refine lv_iload_n hx hb dX8_changed_12 rfl (lv_at hl 1 rfl) ?_
        refine lv_aload_n hx hb dX8_changed_13 rfl (lv_at hl 0 rfl) ?_
        refine lv_iload_n hx hb dX8_changed_14 rfl (lv_at hl 2 rfl) ?_
        refine r_callVi (n := 1) (wr := []) cx hw (mX8_isChanged l D cC cI cJ cZ cD x xa xb xc xd xe xf xg xh xi xj xk xl xm xn xo xp xq xr xs xt n nx nb no na nc ne ns fee sj th rs stc tL mL tC mC (nI i) H.size hn hx9) [0, 1, 2, 3, 4] [] gX8_changed_X8_isChanged rfl rfl rfl (by decide +kernel) ⟨Nat.le_of_ble_eq_true rfl, Nat.le_of_ble_eq_true rfl⟩ (q0 := 0) rfl rfl rfl rfl (by decide) (by decide) (by decide) rfl rfl hl.1 (Nat.le_of_ble_eq_true rfl) dX8_changed_15 ⟨Nat.le_of_ble_eq_true rfl, Nat.le_of_ble_eq_true rfl⟩ (fun r_2 u H locs hp hw => ?_)
        have hw : ww D (TY cC cI cJ cZ cD) s A s.heap [(x, .inr (10, [.ref xa, .ref xb, .ref xc, .ref xd, .ref xe, .ref xf, .ref xg, .ref xh, .ref xi, .ref xj, .ref xk, .ref xl, .ref xm, .ref xn, .ref xo, .ref xp, .ref xq, .ref xr, .ref xs, .ref xt, .int (nI n), .int (nI nx), .int (nI nb), .int (nI no), .int (nI na), .int (nI nc), .int (nI ne), .int (nI ns), .int (nI fee), .int sj, .int th, .int rs, .int stc])), (xa, .inl (cC, 60, .inl tL)), (xb, .inl (cC, 60, .inl mL)), (xd, .inl (cI, 60, .inl tC)), (xf, .inl (cI, 60, .inl mC))] H locs := hw
        try dsimp only at hp
        have hb9 := hp
        rcases hb9 with ⟨rfl, b15⟩ | ⟨rfl, b15⟩
        · refine r_if_eq cx 27 1 rfl (by omega) dX8_changed_18 (by decide) (fun c18 => by exact absurd c18 (by decide)) (fun c18 => ?_)
          refine lv_iconst (v := nI 1) hx hb dX8_changed_21 (by decide) ?_
          refine lv_iload_n hx hb dX8_changed_22 rfl (lv_at hl 2 rfl) ?_
          refine lv_ishl hx hb dX8_changed_23 ?_
          refine lv_goto (tgt := 28) hx hb dX8_changed_24 (by decide) ?_
          refine lv_ior hx hb dX8_changed_28 ?_
          refine lv_istore_n (lv' := [(1, .int (q ||| ((nI 1) <<< (nI i &&& 31)))), (0, .ref x), (2, .int (nI i))]) hx hb dX8_changed_29 rfl hl (by decide) rfl (fun ls hl => ?_)
          refine lv_iinc (v := nI (i + 1)) (lv' := [(2, .int (nI (i + 1))), (1, .int (q ||| ((nI 1) <<< (nI i &&& 31)))), (0, .ref x)]) hx hb dX8_changed_30 hl (k := 2) rfl (by rw [ii1, nI_1]) (by decide) rfl (fun ls hl => ?_)
          refine lv_goto (tgt := 4) hx hb dX8_changed_33 (by decide) ?_
          exact ih4 (q ||| ((nI 1) <<< (nI i &&& 31))) (i + 1) (by omega) (by omega) (by rw [hq]; exact (chs_t (decide_eq_true b15)).symm) _ _ hw _ (lv_sub hl [2, 1, 0] rfl)
        · refine r_if_eq cx 27 0 rfl (by omega) dX8_changed_18 (by decide) (fun c18 => ?_) (fun c18 => by exact absurd c18 (by decide))
          refine lv_iconst (v := nI 0) hx hb dX8_changed_27 (by decide) ?_
          refine lv_ior hx hb dX8_changed_28 ?_
          refine lv_istore_n (lv' := [(1, .int (q ||| (nI 0))), (0, .ref x), (2, .int (nI i))]) hx hb dX8_changed_29 rfl hl (by decide) rfl (fun ls hl => ?_)
          refine lv_iinc (v := nI (i + 1)) (lv' := [(2, .int (nI (i + 1))), (1, .int (q ||| (nI 0))), (0, .ref x)]) hx hb dX8_changed_30 hl (k := 2) rfl (by rw [ii1, nI_1]) (by decide) rfl (fun ls hl => ?_)
          refine lv_goto (tgt := 4) hx hb dX8_changed_33 (by decide) ?_
          exact ih4 (q ||| (nI 0)) (i + 1) (by omega) (by omega) (by rw [hq, or0]; exact (chs_f (fun z => b15 (of_decide_eq_true z))).symm) _ _ hw _ (lv_sub hl [2, 1, 0] rfl)
  exact K4_0 _ (nI 0) 0 (Nat.lt_succ_self _) (by omega) (by rfl) _ _ hw _ (lv_sub hl [2, 1, 0] rfl)

