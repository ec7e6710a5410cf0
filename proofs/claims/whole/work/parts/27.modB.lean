theorem lkX8_addAuthor_1 : Cond.fieldLink RX8 89 "SignedDocumentModel" "authors" "I" ∈ wsX8_addAuthor := List.mem_of_getElem? (i := 1) rfl
theorem inX8_addAuthor_8 : ∀ w ∈ u_ws RX8 TX8 33, w ∈ wsX8_addAuthor := fun _ h => List.mem_cons_of_mem _ (List.mem_append_left _ (List.mem_append_right _ h))
theorem lkX8_addAuthor_2 : Cond.fieldLink RX8 38 "SignedDocumentModel" "scheme" "[I" ∈ wsX8_addAuthor := List.mem_of_getElem? (i := 2) rfl
theorem lkX8_addAuthor_3 : Cond.fieldLink RX8 41 "SignedDocumentModel" "rate" "[I" ∈ wsX8_addAuthor := List.mem_of_getElem? (i := 3) rfl
set_option maxRecDepth 100000 in
set_option maxHeartbeats 4000000 in
theorem mX8_addAuthor (l : Launch) (D : va_G) (cC cI cJ cZ cD : ClassId) (x xa xb xc xd xe xf xg xh xi xj xk xl xm xn xo xp xq xr xs xt : Nat) (n nx nb no na nc ne ns fee : Nat) (sj th rs stc : Int32) (sS : Nat → Int32) (sR : Nat → Int32) (sc ra : Int32) (sz : Nat) (hna : na ≤ 5) : MI l yX8_addAuthor wsX8_addAuthor ({ frames := 1, cells := 0, slots := 0, locals := 22 }) [.ref x, .int sc, .int ra] D (TY cC cI cJ cZ cD) [(x, .inr (10, [.ref xa, .ref xb, .ref xc, .ref xd, .ref xe, .ref xf, .ref xg, .ref xh, .ref xi, .ref xj, .ref xk, .ref xl, .ref xm, .ref xn, .ref xo, .ref xp, .ref xq, .ref xr, .ref xs, .ref xt, .int (nI n), .int (nI nx), .int (nI nb), .int (nI no), .int (nI na), .int (nI nc), .int (nI ne), .int (nI ns), .int (nI fee), .int sj, .int th, .int rs, .int stc])), (xj, .inl (cI, 5, .inl sS)), (xk, .inl (cI, 5, .inl sR))] sz (fun (r : Int32) => fun (uu : Int32 × Nat × (Nat → Int32) × (Nat → Int32)) => match uu with | (d9, na2, sS2, sR2) => d9 = nI (vAdd sc ra na) ∧ (((vAdd sc ra na) = 0 ∧ r = nI na ∧ na2 = na + 1 ∧ sS2 = upd sS na sc ∧ sR2 = upd sR na ra) ∨ (¬ (vAdd sc ra na) = 0 ∧ r = nI 0 ∧ na2 = na ∧ sS2 = sS ∧ sR2 = sR))) (fun (uu : Int32 × Nat × (Nat → Int32) × (Nat → Int32)) => match uu with | (d9, na2, sS2, sR2) => [(x, .inr (10, [.ref xa, .ref xb, .ref xc, .ref xd, .ref xe, .ref xf, .ref xg, .ref xh, .ref xi, .ref xj, .ref xk, .ref xl, .ref xm, .ref xn, .ref xo, .ref xp, .ref xq, .ref xr, .ref xs, .ref xt, .int (nI n), .int (nI nx), .int (nI nb), .int (nI no), .int (nI na2), .int (nI nc), .int (nI ne), .int (nI ns), .int (nI fee), .int sj, .int d9, .int rs, .int stc])), (xj, .inl (cI, 5, .inl sS2)), (xk, .inl (cI, 5, .inl sR2))]) 0 0 := by
  refine mk_MI (cc := cX8_addAuthor) (maxL := 3) (ret := (some .int)) (by decide) rfl (Nat.le_of_ble_eq_true rfl) ?_
  intro p e s mI args below meth cO A cx hr hlk hnm hw ls hl
  have hx := cx.1
  have hb := cx.2.1
  have hw : ww D (TY cC cI cJ cZ cD) s A s.heap [(x, .inr (10, [.ref xa, .ref xb, .ref xc, .ref xd, .ref xe, .ref xf, .ref xg, .ref xh, .ref xi, .ref xj, .ref xk, .ref xl, .ref xm, .ref xn, .ref xo, .ref xp, .ref xq, .ref xr, .ref xs, .ref xt, .int (nI n), .int (nI nx), .int (nI nb), .int (nI no), .int (nI na), .int (nI nc), .int (nI ne), .int (nI ns), .int (nI fee), .int sj, .int th, .int rs, .int stc])), (xj, .inl (cI, 5, .inl sS)), (xk, .inl (cI, 5, .inl sR))] s.heap [] := hw
  have hl : lv_has ls 3 [(0, .ref x), (1, .int sc), (2, .int ra)] := hl
  generalize hQ : MQ _ _ _ _ _ _ _ = Q
  refine hp_start hw (fun H locs hw => ?_)
  refine lv_aload_n hx hb dX8_addAuthor_0 rfl (lv_at hl 0 rfl) ?_
  refine lv_iload_n hx hb dX8_addAuthor_1 rfl (lv_at hl 1 rfl) ?_
  refine lv_iconst (v := nI 0) hx hb dX8_addAuthor_2 (by decide) ?_
  refine lv_iconst (v := nI 3) hx hb dX8_addAuthor_3 (by decide) ?_
  refine r_callSi (n := 3) (wr := [(x, .inr (10, [.ref xa, .ref xb, .ref xc, .ref xd, .ref xe, .ref xf, .ref xg, .ref xh, .ref xi, .ref xj, .ref xk, .ref xl, .ref xm, .ref xn, .ref xo, .ref xp, .ref xq, .ref xr, .ref xs, .ref xt, .int (nI n), .int (nI nx), .int (nI nb), .int (nI no), .int (nI na), .int (nI nc), .int (nI ne), .int (nI ns), .int (nI fee), .int sj, .int th, .int rs, .int stc])), (xj, .inl (cI, 5, .inl sS)), (xk, .inl (cI, 5, .inl sR))]) cx hw (mX8_isIn l D cC cI cJ cZ cD sc (nI 0) (nI 3) H.size) [] [0, 1, 2] gX8_addAuthor_X8_isIn rfl rfl rfl (by decide +kernel) ⟨Nat.le_of_ble_eq_true rfl, Nat.le_of_ble_eq_true rfl⟩ rfl rfl (by decide) (by decide) (by decide) rfl rfl hl.1 (Nat.le_of_ble_eq_true rfl) dX8_addAuthor_4 ⟨Nat.le_of_ble_eq_true rfl, Nat.le_of_ble_eq_true rfl⟩ (fun r_1 u H locs hp hw => ?_)
  have hw : ww D (TY cC cI cJ cZ cD) s A s.heap [(x, .inr (10, [.ref xa, .ref xb, .ref xc, .ref xd, .ref xe, .ref xf, .ref xg, .ref xh, .ref xi, .ref xj, .ref xk, .ref xl, .ref xm, .ref xn, .ref xo, .ref xp, .ref xq, .ref xr, .ref xs, .ref xt, .int (nI n), .int (nI nx), .int (nI nb), .int (nI no), .int (nI na), .int (nI nc), .int (nI ne), .int (nI ns), .int (nI fee), .int sj, .int th, .int rs, .int stc])), (xj, .inl (cI, 5, .inl sS)), (xk, .inl (cI, 5, .inl sR))] H locs := hw
  try dsimp only at hp
  have hb9 := hp
  rcases hb9 with ⟨rfl, b4⟩ | ⟨rfl, b4⟩
  · refine r_if_eq cx 21 1 rfl (by omega) dX8_addAuthor_7 (by decide) (fun c7 => by exact absurd c7 (by decide)) (fun c7 => ?_)
    refine lv_iload_n hx hb dX8_addAuthor_10 rfl (lv_at hl 2 rfl) ?_
    refine lv_iconst (v := nI 0) hx hb dX8_addAuthor_11 (by decide) ?_
    refine lv_sipush (v := nI 999) hx hb dX8_addAuthor_12 (by decide) ?_
    refine r_callSi (n := 3) (wr := [(x, .inr (10, [.ref xa, .ref xb, .ref xc, .ref xd, .ref xe, .ref xf, .ref xg, .ref xh, .ref xi, .ref xj, .ref xk, .ref xl, .ref xm, .ref xn, .ref xo, .ref xp, .ref xq, .ref xr, .ref xs, .ref xt, .int (nI n), .int (nI nx), .int (nI nb), .int (nI no), .int (nI na), .int (nI nc), .int (nI ne), .int (nI ns), .int (nI fee), .int sj, .int th, .int rs, .int stc])), (xj, .inl (cI, 5, .inl sS)), (xk, .inl (cI, 5, .inl sR))]) cx hw (mX8_isIn l D cC cI cJ cZ cD ra (nI 0) (nI 999) H.size) [] [0, 1, 2] gX8_addAuthor_X8_isIn rfl rfl rfl (by decide +kernel) ⟨Nat.le_of_ble_eq_true rfl, Nat.le_of_ble_eq_true rfl⟩ rfl rfl (by decide) (by decide) (by decide) rfl rfl hl.1 (Nat.le_of_ble_eq_true rfl) dX8_addAuthor_15 ⟨Nat.le_of_ble_eq_true rfl, Nat.le_of_ble_eq_true rfl⟩ (fun r_2 u H locs hp hw => ?_)
    have hw : ww D (TY cC cI cJ cZ cD) s A s.heap [(x, .inr (10, [.ref xa, .ref xb, .ref xc, .ref xd, .ref xe, .ref xf, .ref xg, .ref xh, .ref xi, .ref xj, .ref xk, .ref xl, .ref xm, .ref xn, .ref xo, .ref xp, .ref xq, .ref xr, .ref xs, .ref xt, .int (nI n), .int (nI nx), .int (nI nb), .int (nI no), .int (nI na), .int (nI nc), .int (nI ne), .int (nI ns), .int (nI fee), .int sj, .int th, .int rs, .int stc])), (xj, .inl (cI, 5, .inl sS)), (xk, .inl (cI, 5, .inl sR))] H locs := hw
    try dsimp only at hp
    have hb9 := hp
    rcases hb9 with ⟨rfl, b15⟩ | ⟨rfl, b15⟩
    · refine r_if_ne cx 25 1 rfl (by omega) dX8_addAuthor_18 (by decide) (fun c18 => ?_) (fun c18 => by exact absurd c18 (by decide))
      refine lv_iconst (v := nI 0) hx hb dX8_addAuthor_25 (by decide) ?_
      refine lv_iconst (v := nI 1) hx hb dX8_addAuthor_26 (by decide) ?_
      refine r_callVi (n := 2) (wr := [(xj, .inl (cI, 5, .inl sS)), (xk, .inl (cI, 5, .inl sR))]) cx hw (mX8_isThrown l D cC cI cJ cZ cD x xa xb xc xd xe xf xg xh xi xj xk xl xm xn xo xp xq xr xs xt n nx nb no na nc ne ns fee sj th rs stc 0 1 H.size (by omega)) [0] [1, 2] gX8_addAuthor_X8_isThrown rfl rfl rfl (by decide +kernel) ⟨Nat.le_of_ble_eq_true rfl, Nat.le_of_ble_eq_true rfl⟩ (q0 := 0) rfl rfl rfl rfl (by decide) (by decide) (by decide) rfl rfl hl.1 (Nat.le_of_ble_eq_true rfl) dX8_addAuthor_27 ⟨Nat.le_of_ble_eq_true rfl, Nat.le_of_ble_eq_true rfl⟩ (fun r_3 u H locs hp hw => ?_)
      have hw : ww D (TY cC cI cJ cZ cD) s A s.heap [(xj, .inl (cI, 5, .inl sS)), (xk, .inl (cI, 5, .inl sR)), (x, .inr (10, [.ref xa, .ref xb, .ref xc, .ref xd, .ref xe, .ref xf, .ref xg, .ref xh, .ref xi, .ref xj, .ref xk, .ref xl, .ref xm, .ref xn, .ref xo, .ref xp, .ref xq, .ref xr, .ref xs, .ref xt, .int (nI n), .int (nI nx), .int (nI nb), .int (nI no), .int (nI na), .int (nI nc), .int (nI ne), .int (nI ns), .int (nI fee), .int sj, .int (thv 0 1), .int rs, .int stc]))] H locs := hw
      try dsimp only at hp
      subst hp
      refine r_if_ne cx 54 0 rfl (by omega) dX8_addAuthor_30 (by decide) (fun c30 => by exact absurd c30 (by decide)) (fun c30 => ?_)
      refine lv_aload_n hx hb dX8_addAuthor_33 rfl (lv_at hl 0 rfl) ?_
      refine lv_aload_n hx hb dX8_addAuthor_34 rfl (lv_at hl 0 rfl) ?_
      refine r_get cx hw inX8_addAuthor_8 2 24 rfl rfl (by decide) lkX8_addAuthor_1 rfl dX8_addAuthor_35 ?_
      refine lv_iconst (v := nI 5) hx hb dX8_addAuthor_38 (by decide) ?_
      refine r_icmp_ne cx 46 na 5 rfl rfl (by omega) (by omega) dX8_addAuthor_39 (by decide) (fun c39 => ?_) (fun c39 => ?_)
      · refine lv_iconst (v := nI 0) hx hb dX8_addAuthor_46 (by decide) ?_
        refine lv_iconst (v := nI 2) hx hb dX8_addAuthor_47 (by decide) ?_
        refine r_callVi (n := 2) (wr := [(xj, .inl (cI, 5, .inl sS)), (xk, .inl (cI, 5, .inl sR))]) cx hw (mX8_isThrown l D cC cI cJ cZ cD x xa xb xc xd xe xf xg xh xi xj xk xl xm xn xo xp xq xr xs xt n nx nb no na nc ne ns fee sj (thv 0 1) rs stc 0 2 H.size (by omega)) [2] [0, 1] gX8_addAuthor_X8_isThrown rfl rfl rfl (by decide +kernel) ⟨Nat.le_of_ble_eq_true rfl, Nat.le_of_ble_eq_true rfl⟩ (q0 := 2) rfl rfl rfl rfl (by decide) (by decide) (by decide) rfl rfl hl.1 (Nat.le_of_ble_eq_true rfl) dX8_addAuthor_48 ⟨Nat.le_of_ble_eq_true rfl, Nat.le_of_ble_eq_true rfl⟩ (fun r_4 u H locs hp hw => ?_)
        have hw : ww D (TY cC cI cJ cZ cD) s A s.heap [(xj, .inl (cI, 5, .inl sS)), (xk, .inl (cI, 5, .inl sR)), (x, .inr (10, [.ref xa, .ref xb, .ref xc, .ref xd, .ref xe, .ref xf, .ref xg, .ref xh, .ref xi, .ref xj, .ref xk, .ref xl, .ref xm, .ref xn, .ref xo, .ref xp, .ref xq, .ref xr, .ref xs, .ref xt, .int (nI n), .int (nI nx), .int (nI nb), .int (nI no), .int (nI na), .int (nI nc), .int (nI ne), .int (nI ns), .int (nI fee), .int sj, .int (thv 0 2), .int rs, .int stc]))] H locs := hw
        try dsimp only at hp
        subst hp
        refine r_if_eq cx 56 0 rfl (by omega) dX8_addAuthor_51 (by decide) (fun c51 => ?_) (fun c51 => by exact absurd c51 (by decide))
        refine lv_aload_n hx hb dX8_addAuthor_56 rfl (lv_at hl 0 rfl) ?_
        refine r_get cx hw inX8_addAuthor_8 2 9 rfl rfl (by decide) lkX8_addAuthor_2 rfl dX8_addAuthor_57 ?_
        refine lv_aload_n hx hb dX8_addAuthor_60 rfl (lv_at hl 0 rfl) ?_
        refine r_get cx hw inX8_addAuthor_8 2 24 rfl rfl (by decide) lkX8_addAuthor_1 rfl dX8_addAuthor_61 ?_
        refine lv_iload_n hx hb dX8_addAuthor_64 rfl (lv_at hl 1 rfl) ?_
        refine r_iast cx hw 0 1 rfl rfl na rfl (by omega) (by omega) dX8_addAuthor_65 (fun H locs hw => ?_)
        have hw : ww D (TY cC cI cJ cZ cD) s A s.heap [(xj, .inl (cI, 5, .inl (upd sS na sc))), (xk, .inl (cI, 5, .inl sR)), (x, .inr (10, [.ref xa, .ref xb, .ref xc, .ref xd, .ref xe, .ref xf, .ref xg, .ref xh, .ref xi, .ref xj, .ref xk, .ref xl, .ref xm, .ref xn, .ref xo, .ref xp, .ref xq, .ref xr, .ref xs, .ref xt, .int (nI n), .int (nI nx), .int (nI nb), .int (nI no), .int (nI na), .int (nI nc), .int (nI ne), .int (nI ns), .int (nI fee), .int sj, .int (thv 0 2), .int rs, .int stc]))] H locs := hw
        refine lv_aload_n hx hb dX8_addAuthor_66 rfl (lv_at hl 0 rfl) ?_
        refine r_get cx hw inX8_addAuthor_8 2 10 rfl rfl (by decide) lkX8_addAuthor_3 rfl dX8_addAuthor_67 ?_
        refine lv_aload_n hx hb dX8_addAuthor_70 rfl (lv_at hl 0 rfl) ?_
        refine r_get cx hw inX8_addAuthor_8 2 24 rfl rfl (by decide) lkX8_addAuthor_1 rfl dX8_addAuthor_71 ?_
        refine lv_iload_n hx hb dX8_addAuthor_74 rfl (lv_at hl 2 rfl) ?_
        refine r_iast cx hw 1 1 rfl rfl na rfl (by omega) (by omega) dX8_addAuthor_75 (fun H locs hw => ?_)
        have hw : ww D (TY cC cI cJ cZ cD) s A s.heap [(xj, .inl (cI, 5, .inl (upd sS na sc))), (xk, .inl (cI, 5, .inl (upd sR na ra))), (x, .inr (10, [.ref xa, .ref xb, .ref xc, .ref xd, .ref xe, .ref xf, .ref xg, .ref xh, .ref xi, .ref xj, .ref xk, .ref xl, .ref xm, .ref xn, .ref xo, .ref xp, .ref xq, .ref xr, .ref xs, .ref xt, .int (nI n), .int (nI nx), .int (nI nb), .int (nI no), .int (nI na), .int (nI nc), .int (nI ne), .int (nI ns), .int (nI fee), .int sj, .int (thv 0 2), .int rs, .int stc]))] H locs := hw
        refine lv_aload_n hx hb dX8_addAuthor_76 rfl (lv_at hl 0 rfl) ?_
        refine lv_dup hx hb dX8_addAuthor_77 rfl ?_
        refine r_get cx hw inX8_addAuthor_8 2 24 rfl rfl (by decide) lkX8_addAuthor_1 rfl dX8_addAuthor_78 ?_
        refine lv_iconst (v := nI 1) hx hb dX8_addAuthor_81 (by decide) ?_
        refine r_iadd cx na 1 rfl rfl dX8_addAuthor_82 ?_
        refine r_put cx hw inX8_addAuthor_8 tyX8 tyX8_ok nmX8 2 24 rfl rfl (by decide) lkX8_addAuthor_1 rfl rfl rfl (Nat.le_of_ble_eq_true rfl) dX8_addAuthor_83 (fun H locs hw => ?_)
        have hw : ww D (TY cC cI cJ cZ cD) s A s.heap [(xj, .inl (cI, 5, .inl (upd sS na sc))), (xk, .inl (cI, 5, .inl (upd sR na ra))), (x, .inr (10, [.ref xa, .ref xb, .ref xc, .ref xd, .ref xe, .ref xf, .ref xg, .ref xh, .ref xi, .ref xj, .ref xk, .ref xl, .ref xm, .ref xn, .ref xo, .ref xp, .ref xq, .ref xr, .ref xs, .ref xt, .int (nI n), .int (nI nx), .int (nI nb), .int (nI no), .int (nI (na + 1)), .int (nI nc), .int (nI ne), .int (nI ns), .int (nI fee), .int sj, .int (thv 0 2), .int rs, .int stc]))] H locs := hw
        refine lv_aload_n hx hb dX8_addAuthor_86 rfl (lv_at hl 0 rfl) ?_
        refine r_get cx hw inX8_addAuthor_8 2 24 rfl rfl (by decide) lkX8_addAuthor_1 rfl dX8_addAuthor_87 ?_
        refine lv_iconst (v := nI 1) hx hb dX8_addAuthor_90 (by decide) ?_
        refine r_isub cx (na + 1) 1 rfl rfl (by omega) dX8_addAuthor_91 ?_
        subst hQ
        exact r_reti (v := nI (na + 1 - 1)) cx hr rfl hlk hw (Nat.le_of_ble_eq_true rfl) (Nat.le_of_ble_eq_true rfl) (thv 0 2, na + 1, upd sS na sc, upd sR na ra) (vn (vAdd_0 (sc_in b4 b15) (by omega)) ⟨rfl, rfl, rfl, rfl⟩) [2, 0, 1] (by decide) rfl dX8_addAuthor_92
      · refine lv_iconst (v := nI 1) hx hb dX8_addAuthor_42 (by decide) ?_
        refine lv_goto (tgt := 47) hx hb dX8_addAuthor_43 (by decide) ?_
        refine lv_iconst (v := nI 2) hx hb dX8_addAuthor_47 (by decide) ?_
        refine r_callVi (n := 2) (wr := [(xj, .inl (cI, 5, .inl sS)), (xk, .inl (cI, 5, .inl sR))]) cx hw (mX8_isThrown l D cC cI cJ cZ cD x xa xb xc xd xe xf xg xh xi xj xk xl xm xn xo xp xq xr xs xt n nx nb no na nc ne ns fee sj (thv 0 1) rs stc 1 2 H.size (by omega)) [2] [0, 1] gX8_addAuthor_X8_isThrown rfl rfl rfl (by decide +kernel) ⟨Nat.le_of_ble_eq_true rfl, Nat.le_of_ble_eq_true rfl⟩ (q0 := 2) rfl rfl rfl rfl (by decide) (by decide) (by decide) rfl rfl hl.1 (Nat.le_of_ble_eq_true rfl) dX8_addAuthor_48 ⟨Nat.le_of_ble_eq_true rfl, Nat.le_of_ble_eq_true rfl⟩ (fun r_5 u H locs hp hw => ?_)
        have hw : ww D (TY cC cI cJ cZ cD) s A s.heap [(xj, .inl (cI, 5, .inl sS)), (xk, .inl (cI, 5, .inl sR)), (x, .inr (10, [.ref xa, .ref xb, .ref xc, .ref xd, .ref xe, .ref xf, .ref xg, .ref xh, .ref xi, .ref xj, .ref xk, .ref xl, .ref xm, .ref xn, .ref xo, .ref xp, .ref xq, .ref xr, .ref xs, .ref xt, .int (nI n), .int (nI nx), .int (nI nb), .int (nI no), .int (nI na), .int (nI nc), .int (nI ne), .int (nI ns), .int (nI fee), .int sj, .int (thv 1 2), .int rs, .int stc]))] H locs := hw
        try dsimp only at hp
        subst hp
        refine r_if_eq cx 56 1 rfl (by omega) dX8_addAuthor_51 (by decide) (fun c51 => by exact absurd c51 (by decide)) (fun c51 => ?_)
        refine lv_iconst (v := nI 0) hx hb dX8_addAuthor_54 (by decide) ?_
        subst hQ
        exact r_reti (v := nI 0) cx hr rfl hlk hw (Nat.le_of_ble_eq_true rfl) (Nat.le_of_ble_eq_true rfl) (thv 1 2, na, sS, sR) (by first | exact vy (vAdd_1 (sc_n1 b4)) (by decide) ⟨rfl, rfl, rfl, rfl⟩ | exact vy (vAdd_1 (sc_n2 b15)) (by decide) ⟨rfl, rfl, rfl, rfl⟩ | exact vy (vAdd_2 (sc_in b4 b15) c39) (by decide) ⟨rfl, rfl, rfl, rfl⟩ | exact vy (vAdd_2 (sc_in b4 b15) (by omega)) (by decide) ⟨rfl, rfl, rfl, rfl⟩) [2, 0, 1] (by decide) rfl dX8_addAuthor_55
    · refine r_if_ne cx 25 0 rfl (by omega) dX8_addAuthor_18 (by decide) (fun c18 => by exact absurd c18 (by decide)) (fun c18 => ?_)
      refine lv_iconst (v := nI 1) hx hb dX8_addAuthor_21 (by decide) ?_
      refine lv_goto (tgt := 26) hx hb dX8_addAuthor_22 (by decide) ?_
      refine lv_iconst (v := nI 1) hx hb dX8_addAuthor_26 (by decide) ?_
      refine r_callVi (n := 2) (wr := [(xj, .inl (cI, 5, .inl sS)), (xk, .inl (cI, 5, .inl sR))]) cx hw (mX8_isThrown l D cC cI cJ cZ cD x xa xb xc xd xe xf xg xh xi xj xk xl xm xn xo xp xq xr xs xt n nx nb no na nc ne ns fee sj th rs stc 1 1 H.size (by omega)) [0] [1, 2] gX8_addAuthor_X8_isThrown rfl rfl rfl (by decide +kernel) ⟨Nat.le_of_ble_eq_true rfl, Nat.le_of_ble_eq_true rfl⟩ (q0 := 0) rfl rfl rfl rfl (by decide) (by decide) (by decide) rfl rfl hl.1 (Nat.le_of_ble_eq_true rfl) dX8_addAuthor_27 ⟨Nat.le_of_ble_eq_true rfl, Nat.le_of_ble_eq_true rfl⟩ (fun r_6 u H locs hp hw => ?_)
      have hw : ww D (TY cC cI cJ cZ cD) s A s.heap [(xj, .inl (cI, 5, .inl sS)), (xk, .inl (cI, 5, .inl sR)), (x, .inr (10, [.ref xa, .ref xb, .ref xc, .ref xd, .ref xe, .ref xf, .ref xg, .ref xh, .ref xi, .ref xj, .ref xk, .ref xl, .ref xm, .ref xn, .ref xo, .ref xp, .ref xq, .ref xr, .ref xs, .ref xt, .int (nI n), .int (nI nx), .int (nI nb), .int (nI no), .int (nI na), .int (nI nc), .int (nI ne), .int (nI ns), .int (nI fee), .int sj, .int (thv 1 1), .int rs, .int stc]))] H locs := hw
      try dsimp only at hp
      subst hp
      refine r_if_ne cx 54 1 rfl (by omega) dX8_addAuthor_30 (by decide) (fun c30 => ?_) (fun c30 => by exact absurd c30 (by decide))
      refine lv_iconst (v := nI 0) hx hb dX8_addAuthor_54 (by decide) ?_
      subst hQ
      exact r_reti (v := nI 0) cx hr rfl hlk hw (Nat.le_of_ble_eq_true rfl) (Nat.le_of_ble_eq_true rfl) (thv 1 1, na, sS, sR) (by first | exact vy (vAdd_1 (sc_n1 b4)) (by decide) ⟨rfl, rfl, rfl, rfl⟩ | exact vy (vAdd_1 (sc_n2 b15)) (by decide) ⟨rfl, rfl, rfl, rfl⟩ | exact vy (vAdd_2 (sc_in b4 b15) c39) (by decide) ⟨rfl, rfl, rfl, rfl⟩ | exact vy (vAdd_2 (sc_in b4 b15) (by omega)) (by decide) ⟨rfl, rfl, rfl, rfl⟩) [2, 0, 1] (by decide) rfl dX8_addAuthor_55
  · refine r_if_eq cx 21 0 rfl (by omega) dX8_addAuthor_7 (by decide) (fun c7 => ?_) (fun c7 => by exact absurd c7 (by decide))
    refine lv_iconst (v := nI 1) hx hb dX8_addAuthor_21 (by decide) ?_
    refine lv_goto (tgt := 26) hx hb dX8_addAuthor_22 (by decide) ?_
    refine lv_iconst (v := nI 1) hx hb dX8_addAuthor_26 (by decide) ?_
    refine r_callVi (n := 2) (wr := [(xj, .inl (cI, 5, .inl sS)), (xk, .inl (cI, 5, .inl sR))]) cx hw (mX8_isThrown l D cC cI cJ cZ cD x xa xb xc xd xe xf xg xh xi xj xk xl xm xn xo xp xq xr xs xt n nx nb no na nc ne ns fee sj th rs stc 1 1 H.size (by omega)) [0] [1, 2] gX8_addAuthor_X8_isThrown rfl rfl rfl (by decide +kernel) ⟨Nat.le_of_ble_eq_true rfl, Nat.le_of_ble_eq_true rfl⟩ (q0 := 0) rfl rfl rfl rfl (by decide) (by decide) (by decide) rfl rfl hl.1 (Nat.le_of_ble_eq_true rfl) dX8_addAuthor_27 ⟨Nat.le_of_ble_eq_true rfl, Nat.le_of_ble_eq_true rfl⟩ (fun r_7 u H locs hp hw => ?_)
    have hw : ww D (TY cC cI cJ cZ cD) s A s.heap [(xj, .inl (cI, 5, .inl sS)), (xk, .inl (cI, 5, .inl sR)), (x, .inr (10, [.ref xa, .ref xb, .ref xc, .ref xd, .ref xe, .ref xf, .ref xg, .ref xh, .ref xi, .ref xj, .ref xk, .ref xl, .ref xm, .ref xn, .ref xo, .ref xp, .ref xq, .ref xr, .ref xs, .ref xt, .int (nI n), .int (nI nx), .int (nI nb), .int (nI no), .int (nI na), .int (nI nc), .int (nI ne), .int (nI ns), .int (nI fee), .int sj, .int (thv 1 1), .int rs, .int stc]))] H locs := hw
    try dsimp only at hp
    subst hp
    refine r_if_ne cx 54 1 rfl (by omega) dX8_addAuthor_30 (by decide) (fun c30 => ?_) (fun c30 => by exact absurd c30 (by decide))
    refine lv_iconst (v := nI 0) hx hb dX8_addAuthor_54 (by decide) ?_
    subst hQ
    exact r_reti (v := nI 0) cx hr rfl hlk hw (Nat.le_of_ble_eq_true rfl) (Nat.le_of_ble_eq_true rfl) (thv 1 1, na, sS, sR) (by first | exact vy (vAdd_1 (sc_n1 b4)) (by decide) ⟨rfl, rfl, rfl, rfl⟩ | exact vy (vAdd_1 (sc_n2 b15)) (by decide) ⟨rfl, rfl, rfl, rfl⟩ | exact vy (vAdd_2 (sc_in b4 b15) c39) (by decide) ⟨rfl, rfl, rfl, rfl⟩ | exact vy (vAdd_2 (sc_in b4 b15) (by omega)) (by decide) ⟨rfl, rfl, rfl, rfl⟩) [2, 0, 1] (by decide) rfl dX8_addAuthor_55

theorem lkX8_type_1 : Cond.fieldLink RX8 92 "SignedDocumentModel" "buffered" "I" ∈ wsX8_type := List.mem_of_getElem? (i := 1) rfl
theorem inX8_type_8 : ∀ w ∈ u_ws RX8 TX8 33, w ∈ wsX8_type := fun _ h => List.mem_cons_of_mem _ (List.mem_append_left _ (List.mem_append_right _ h))
theorem lkX8_type_2 : Cond.fieldLink RX8 29 "SignedDocumentModel" "buffer" "[C" ∈ wsX8_type := List.mem_of_getElem? (i := 2) rfl
set_option maxRecDepth 100000 in
set_option maxHeartbeats 4000000 in
theorem mX8_type (l : Launch) (D : va_G) (cC cI cJ cZ cD : ClassId) (x xa xb xc xd xe xf xg xh xi xj xk xl xm xn xo xp xq xr xs xt : Nat) (n nx nb no na nc ne ns fee : Nat) (sj th rs stc : Int32) (bF : Nat → Int32) (v : Int32) (sz : Nat) (hnb : nb ≤ 20) (hv9 : vp_nar .char v = v) (hbF : ∀ j, vp_nar .char (bF j) = bF j) : MI l yX8_type wsX8_type ({ frames := 1, cells := 0, slots := 0, locals := 22 }) [.ref x, .int v] D (TY cC cI cJ cZ cD) [(x, .inr (10, [.ref xa, .ref xb, .ref xc, .ref xd, .ref xe, .ref xf, .ref xg, .ref xh, .ref xi, .ref xj, .ref xk, .ref xl, .ref xm, .ref xn, .ref xo, .ref xp, .ref xq, .ref xr, .ref xs, .ref xt, .int (nI n), .int (nI nx), .int (nI nb), .int (nI no), .int (nI na), .int (nI nc), .int (nI ne), .int (nI ns), .int (nI fee), .int sj, .int th, .int rs, .int stc])), (xg, .inl (cC, 20, .inl bF))] sz (fun (r : Int32) => fun (uu : Int32 × Nat × (Nat → Int32)) => match uu with | (d9, nb2, bF2) => d9 = nI (vTyp v nb) ∧ (((vTyp v nb) = 0 ∧ r = nI (nb + 1) ∧ nb2 = nb + 1 ∧ bF2 = upd bF nb v) ∨ (¬ (vTyp v nb) = 0 ∧ r = nI 0 ∧ nb2 = nb ∧ bF2 = bF))) (fun (uu : Int32 × Nat × (Nat → Int32)) => match uu with | (d9, nb2, bF2) => [(x, .inr (10, [.ref xa, .ref xb, .ref xc, .ref xd, .ref xe, .ref xf, .ref xg, .ref xh, .ref xi, .ref xj, .ref xk, .ref xl, .ref xm, .ref xn, .ref xo, .ref xp, .ref xq, .ref xr, .ref xs, .ref xt, .int (nI n), .int (nI nx), .int (nI nb2), .int (nI no), .int (nI na), .int (nI nc), .int (nI ne), .int (nI ns), .int (nI fee), .int sj, .int d9, .int rs, .int stc])), (xg, .inl (cC, 20, .inl bF2))]) 0 0 := by
  refine mk_MI (cc := cX8_type) (maxL := 2) (ret := (some .int)) (by decide) rfl (Nat.le_of_ble_eq_true rfl) ?_
  intro p e s mI args below meth cO A cx hr hlk hnm hw ls hl
  have hx := cx.1
  have hb := cx.2.1
  have hw : ww D (TY cC cI cJ cZ cD) s A s.heap [(x, .inr (10, [.ref xa, .ref xb, .ref xc, .ref xd, .ref xe, .ref xf, .ref xg, .ref xh, .ref xi, .ref xj, .ref xk, .ref xl, .ref xm, .ref xn, .ref xo, .ref xp, .ref xq, .ref xr, .ref xs, .ref xt, .int (nI n), .int (nI nx), .int (nI nb), .int (nI no), .int (nI na), .int (nI nc), .int (nI ne), .int (nI ns), .int (nI fee), .int sj, .int th, .int rs, .int stc])), (xg, .inl (cC, 20, .inl bF))] s.heap [] := hw
  have hl : lv_has ls 2 [(0, .ref x), (1, .int v)] := hl
  generalize hQ : MQ _ _ _ _ _ _ _ = Q
  refine hp_start hw (fun H locs hw => ?_)
  refine lv_aload_n hx hb dX8_type_0 rfl (lv_at hl 0 rfl) ?_
  refine lv_iload_n hx hb dX8_type_1 rfl (lv_at hl 1 rfl) ?_
  refine lv_bipush (v := nI 97) hx hb dX8_type_2 (by decide) ?_
  refine lv_bipush (v := nI 122) hx hb dX8_type_4 (by decide) ?_
  refine r_callSi (n := 3) (wr := [(x, .inr (10, [.ref xa, .ref xb, .ref xc, .ref xd, .ref xe, .ref xf, .ref xg, .ref xh, .ref xi, .ref xj, .ref xk, .ref xl, .ref xm, .ref xn, .ref xo, .ref xp, .ref xq, .ref xr, .ref xs, .ref xt, .int (nI n), .int (nI nx), .int (nI nb), .int (nI no), .int (nI na), .int (nI nc), .int (nI ne), .int (nI ns), .int (nI fee), .int sj, .int th, .int rs, .int stc])), (xg, .inl (cC, 20, .inl bF))]) cx hw (mX8_isIn l D cC cI cJ cZ cD v (nI 97) (nI 122) H.size) [] [0, 1] gX8_type_X8_isIn rfl rfl rfl (by decide +kernel) ⟨Nat.le_of_ble_eq_true rfl, Nat.le_of_ble_eq_true rfl⟩ rfl rfl (by decide) (by decide) (by decide) rfl rfl hl.1 (Nat.le_of_ble_eq_true rfl) dX8_type_6 ⟨Nat.le_of_ble_eq_true rfl, Nat.le_of_ble_eq_true rfl⟩ (fun r_1 u H locs hp hw => ?_)
  have hw : ww D (TY cC cI cJ cZ cD) s A s.heap [(x, .inr (10, [.ref xa, .ref xb, .ref xc, .ref xd, .ref xe, .ref xf, .ref xg, .ref xh, .ref xi, .ref xj, .ref xk, .ref xl, .ref xm, .ref xn, .ref xo, .ref xp, .ref xq, .ref xr, .ref xs, .ref xt, .int (nI n), .int (nI nx), .int (nI nb), .int (nI no), .int (nI na), .int (nI nc), .int (nI ne), .int (nI ns), .int (nI fee), .int sj, .int th, .int rs, .int stc])), (xg, .inl (cC, 20, .inl bF))] H locs := hw
  try dsimp only at hp
  have hb9 := hp
  rcases hb9 with ⟨rfl, b6⟩ | ⟨rfl, b6⟩
  · refine r_if_ne cx 22 1 rfl (by omega) dX8_type_9 (by decide) (fun c9 => ?_) (fun c9 => by exact absurd c9 (by decide))
    refine lv_iconst (v := nI 0) hx hb dX8_type_22 (by decide) ?_
    refine lv_iconst (v := nI 1) hx hb dX8_type_23 (by decide) ?_
    refine r_callVi (n := 2) (wr := [(xg, .inl (cC, 20, .inl bF))]) cx hw (mX8_isThrown l D cC cI cJ cZ cD x xa xb xc xd xe xf xg xh xi xj xk xl xm xn xo xp xq xr xs xt n nx nb no na nc ne ns fee sj th rs stc 0 1 H.size (by omega)) [0] [1] gX8_type_X8_isThrown rfl rfl rfl (by decide +kernel) ⟨Nat.le_of_ble_eq_true rfl, Nat.le_of_ble_eq_true rfl⟩ (q0 := 0) rfl rfl rfl rfl (by decide) (by decide) (by decide) rfl rfl hl.1 (Nat.le_of_ble_eq_true rfl) dX8_type_24 ⟨Nat.le_of_ble_eq_true rfl, Nat.le_of_ble_eq_true rfl⟩ (fun r_2 u H locs hp hw => ?_)
    have hw : ww D (TY cC cI cJ cZ cD) s A s.heap [(xg, .inl (cC, 20, .inl bF)), (x, .inr (10, [.ref xa, .ref xb, .ref xc, .ref xd, .ref xe, .ref xf, .ref xg, .ref xh, .ref xi, .ref xj, .ref xk, .ref xl, .ref xm, .ref xn, .ref xo, .ref xp, .ref xq, .ref xr, .ref xs, .ref xt, .int (nI n), .int (nI nx), .int (nI nb), .int (nI no), .int (nI na), .int (nI nc), .int (nI ne), .int (nI ns), .int (nI fee), .int sj, .int (thv 0 1), .int rs, .int stc]))] H locs := hw
    try dsimp only at hp
    subst hp
    refine r_if_ne cx 52 0 rfl (by omega) dX8_type_27 (by decide) (fun c27 => by exact absurd c27 (by decide)) (fun c27 => ?_)
    refine lv_aload_n hx hb dX8_type_30 rfl (lv_at hl 0 rfl) ?_
    refine lv_aload_n hx hb dX8_type_31 rfl (lv_at hl 0 rfl) ?_
    refine r_get cx hw inX8_type_8 1 22 rfl rfl (by decide) lkX8_type_1 rfl dX8_type_32 ?_
    refine lv_bipush (v := nI 20) hx hb dX8_type_35 (by decide) ?_
    refine r_icmp_ne cx 44 nb 20 rfl rfl (by omega) (by omega) dX8_type_37 (by decide) (fun c37 => ?_) (fun c37 => ?_)
    · refine lv_iconst (v := nI 0) hx hb dX8_type_44 (by decide) ?_
      refine lv_iconst (v := nI 2) hx hb dX8_type_45 (by decide) ?_
      refine r_callVi (n := 2) (wr := [(xg, .inl (cC, 20, .inl bF))]) cx hw (mX8_isThrown l D cC cI cJ cZ cD x xa xb xc xd xe xf xg xh xi xj xk xl xm xn xo xp xq xr xs xt n nx nb no na nc ne ns fee sj (thv 0 1) rs stc 0 2 H.size (by omega)) [1] [0] gX8_type_X8_isThrown rfl rfl rfl (by decide +kernel) ⟨Nat.le_of_ble_eq_true rfl, Nat.le_of_ble_eq_true rfl⟩ (q0 := 1) rfl rfl rfl rfl (by decide) (by decide) (by decide) rfl rfl hl.1 (Nat.le_of_ble_eq_true rfl) dX8_type_46 ⟨Nat.le_of_ble_eq_true rfl, Nat.le_of_ble_eq_true rfl⟩ (fun r_3 u H locs hp hw => ?_)
      have hw : ww D (TY cC cI cJ cZ cD) s A s.heap [(xg, .inl (cC, 20, .inl bF)), (x, .inr (10, [.ref xa, .ref xb, .ref xc, .ref xd, .ref xe, .ref xf, .ref xg, .ref xh, .ref xi, .ref xj, .ref xk, .ref xl, .ref xm, .ref xn, .ref xo, .ref xp, .ref xq, .ref xr, .ref xs, .ref xt, .int (nI n), .int (nI nx), .int (nI nb), .int (nI no), .int (nI na), .int (nI nc), .int (nI ne), .int (nI ns), .int (nI fee), .int sj, .int (thv 0 2), .int rs, .int stc]))] H locs := hw
      try dsimp only at hp
      subst hp
      refine r_if_eq cx 54 0 rfl (by omega) dX8_type_49 (by decide) (fun c49 => ?_) (fun c49 => by exact absurd c49 (by decide))
      refine lv_aload_n hx hb dX8_type_54 rfl (lv_at hl 0 rfl) ?_
      refine r_get cx hw inX8_type_8 1 6 rfl rfl (by decide) lkX8_type_2 rfl dX8_type_55 ?_
      refine lv_aload_n hx hb dX8_type_58 rfl (lv_at hl 0 rfl) ?_
      refine r_get cx hw inX8_type_8 1 22 rfl rfl (by decide) lkX8_type_1 rfl dX8_type_59 ?_
      refine lv_iload_n hx hb dX8_type_62 rfl (lv_at hl 1 rfl) ?_
      refine r_cast cx hw 0 0 rfl rfl nb rfl hv9 (by omega) (by omega) dX8_type_63 (fun H locs hw => ?_)
      have hw : ww D (TY cC cI cJ cZ cD) s A s.heap [(xg, .inl (cC, 20, .inl (upd bF nb v))), (x, .inr (10, [.ref xa, .ref xb, .ref xc, .ref xd, .ref xe, .ref xf, .ref xg, .ref xh, .ref xi, .ref xj, .ref xk, .ref xl, .ref xm, .ref xn, .ref xo, .ref xp, .ref xq, .ref xr, .ref xs, .ref xt, .int (nI n), .int (nI nx), .int (nI nb), .int (nI no), .int (nI na), .int (nI nc), .int (nI ne), .int (nI ns), .int (nI fee), .int sj, .int (thv 0 2), .int rs, .int stc]))] H locs := hw
      refine lv_aload_n hx hb dX8_type_64 rfl (lv_at hl 0 rfl) ?_
      refine lv_dup hx hb dX8_type_65 rfl ?_
      refine r_get cx hw inX8_type_8 1 22 rfl rfl (by decide) lkX8_type_1 rfl dX8_type_66 ?_
      refine lv_iconst (v := nI 1) hx hb dX8_type_69 (by decide) ?_
      refine r_iadd cx nb 1 rfl rfl dX8_type_70 ?_
      refine r_put cx hw inX8_type_8 tyX8 tyX8_ok nmX8 1 22 rfl rfl (by decide) lkX8_type_1 rfl rfl rfl (Nat.le_of_ble_eq_true rfl) dX8_type_71 (fun H locs hw => ?_)
      have hw : ww D (TY cC cI cJ cZ cD) s A s.heap [(xg, .inl (cC, 20, .inl (upd bF nb v))), (x, .inr (10, [.ref xa, .ref xb, .ref xc, .ref xd, .ref xe, .ref xf, .ref xg, .ref xh, .ref xi, .ref xj, .ref xk, .ref xl, .ref xm, .ref xn, .ref xo, .ref xp, .ref xq, .ref xr, .ref xs, .ref xt, .int (nI n), .int (nI nx), .int (nI (nb + 1)), .int (nI no), .int (nI na), .int (nI nc), .int (nI ne), .int (nI ns), .int (nI fee), .int sj, .int (thv 0 2), .int rs, .int stc]))] H locs := hw
      refine lv_aload_n hx hb dX8_type_74 rfl (lv_at hl 0 rfl) ?_
      refine r_get cx hw inX8_type_8 1 22 rfl rfl (by decide) lkX8_type_1 rfl dX8_type_75 ?_
      subst hQ
      exact r_reti (v := nI (nb + 1)) cx hr rfl hlk hw (Nat.le_of_ble_eq_true rfl) (Nat.le_of_ble_eq_true rfl) (thv 0 2, nb + 1, upd bF nb v) (vn (vTyp_0 (by first | exact ch_in b6 | exact Or.inl c15) (by omega)) ⟨rfl, rfl, rfl⟩) [1, 0] (by decide) rfl dX8_type_78
    · refine lv_iconst (v := nI 1) hx hb dX8_type_40 (by decide) ?_
      refine lv_goto (tgt := 45) hx hb dX8_type_41 (by decide) ?_
      refine lv_iconst (v := nI 2) hx hb dX8_type_45 (by decide) ?_
      refine r_callVi (n := 2) (wr := [(xg, .inl (cC, 20, .inl bF))]) cx hw (mX8_isThrown l D cC cI cJ cZ cD x xa xb xc xd xe xf xg xh xi xj xk xl xm xn xo xp xq xr xs xt n nx nb no na nc ne ns fee sj (thv 0 1) rs stc 1 2 H.size (by omega)) [1] [0] gX8_type_X8_isThrown rfl rfl rfl (by decide +kernel) ⟨Nat.le_of_ble_eq_true rfl, Nat.le_of_ble_eq_true rfl⟩ (q0 := 1) rfl rfl rfl rfl (by decide) (by decide) (by decide) rfl rfl hl.1 (Nat.le_of_ble_eq_true rfl) dX8_type_46 ⟨Nat.le_of_ble_eq_true rfl, Nat.le_of_ble_eq_true rfl⟩ (fun r_4 u H locs hp hw => ?_)
      have hw : ww D (TY cC cI cJ cZ cD) s A s.heap [(xg, .inl (cC, 20, .inl bF)), (x, .inr (10, [.ref xa, .ref xb, .ref xc, .ref xd, .ref xe, .ref xf, .ref xg, .ref xh, .ref xi, .ref xj, .ref xk, .ref xl, .ref xm, .ref xn, .ref xo, .ref xp, .ref xq, .ref xr, .ref xs, .ref xt, .int (nI n), .int (nI nx), .int (nI nb), .int (nI no), .int (nI na), .int (nI nc), .int (nI ne), .int (nI ns), .int (nI fee), .int sj, .int (thv 1 2), .int rs, .int stc]))] H locs := hw
      try dsimp only at hp
      subst hp
      refine r_if_eq cx 54 1 rfl (by omega) dX8_type_49 (by decide) (fun c49 => by exact absurd c49 (by decide)) (fun c49 => ?_)
      refine lv_iconst (v := nI 0) hx hb dX8_type_52 (by decide) ?_
      subst hQ
      exact r_reti (v := nI 0) cx hr rfl hlk hw (Nat.le_of_ble_eq_true rfl) (Nat.le_of_ble_eq_true rfl) (thv 1 2, nb, bF) (by first | exact vy (vTyp_1 (ch_ni b6 c15)) (by decide) ⟨rfl, rfl, rfl⟩ | exact vy (vTyp_2 (by first | exact ch_in b6 | exact Or.inl c15) (by omega)) (by decide) ⟨rfl, rfl, rfl⟩) [1, 0] (by decide) rfl dX8_type_53
  · refine r_if_ne cx 22 0 rfl (by omega) dX8_type_9 (by decide) (fun c9 => by exact absurd c9 (by decide)) (fun c9 => ?_)
    refine lv_iload_n hx hb dX8_type_12 rfl (lv_at hl 1 rfl) ?_
    refine lv_bipush (v := nI 32) hx hb dX8_type_13 (by decide) ?_
    refine lv_icmp_eq (tgt := 22) hx hb dX8_type_15 (by decide) (fun c15 => ?_) (fun c15 => ?_)
    · refine lv_iconst (v := nI 0) hx hb dX8_type_22 (by decide) ?_
      refine lv_iconst (v := nI 1) hx hb dX8_type_23 (by decide) ?_
      refine r_callVi (n := 2) (wr := [(xg, .inl (cC, 20, .inl bF))]) cx hw (mX8_isThrown l D cC cI cJ cZ cD x xa xb xc xd xe xf xg xh xi xj xk xl xm xn xo xp xq xr xs xt n nx nb no na nc ne ns fee sj th rs stc 0 1 H.size (by omega)) [0] [1] gX8_type_X8_isThrown rfl rfl rfl (by decide +kernel) ⟨Nat.le_of_ble_eq_true rfl, Nat.le_of_ble_eq_true rfl⟩ (q0 := 0) rfl rfl rfl rfl (by decide) (by decide) (by decide) rfl rfl hl.1 (Nat.le_of_ble_eq_true rfl) dX8_type_24 ⟨Nat.le_of_ble_eq_true rfl, Nat.le_of_ble_eq_true rfl⟩ (fun r_5 u H locs hp hw => ?_)
      have hw : ww D (TY cC cI cJ cZ cD) s A s.heap [(xg, .inl (cC, 20, .inl bF)), (x, .inr (10, [.ref xa, .ref xb, .ref xc, .ref xd, .ref xe, .ref xf, .ref xg, .ref xh, .ref xi, .ref xj, .ref xk, .ref xl, .ref xm, .ref xn, .ref xo, .ref xp, .ref xq, .ref xr, .ref xs, .ref xt, .int (nI n), .int (nI nx), .int (nI nb), .int (nI no), .int (nI na), .int (nI nc), .int (nI ne), .int (nI ns), .int (nI fee), .int sj, .int (thv 0 1), .int rs, .int stc]))] H locs := hw
      try dsimp only at hp
      subst hp
      refine r_if_ne cx 52 0 rfl (by omega) dX8_type_27 (by decide) (fun c27 => by exact absurd c27 (by decide)) (fun c27 => ?_)
      refine lv_aload_n hx hb dX8_type_30 rfl (lv_at hl 0 rfl) ?_
      refine lv_aload_n hx hb dX8_type_31 rfl (lv_at hl 0 rfl) ?_
      refine r_get cx hw inX8_type_8 1 22 rfl rfl (by decide) lkX8_type_1 rfl dX8_type_32 ?_
      refine lv_bipush (v := nI 20) hx hb dX8_type_35 (by decide) ?_
      refine r_icmp_ne cx 44 nb 20 rfl rfl (by omega) (by omega) dX8_type_37 (by decide) (fun c37 => ?_) (fun c37 => ?_)
      · refine lv_iconst (v := nI 0) hx hb dX8_type_44 (by decide) ?_
        refine lv_iconst (v := nI 2) hx hb dX8_type_45 (by decide) ?_
        refine r_callVi (n := 2) (wr := [(xg, .inl (cC, 20, .inl bF))]) cx hw (mX8_isThrown l D cC cI cJ cZ cD x xa xb xc xd xe xf xg xh xi xj xk xl xm xn xo xp xq xr xs xt n nx nb no na nc ne ns fee sj (thv 0 1) rs stc 0 2 H.size (by omega)) [1] [0] gX8_type_X8_isThrown rfl rfl rfl (by decide +kernel) ⟨Nat.le_of_ble_eq_true rfl, Nat.le_of_ble_eq_true rfl⟩ (q0 := 1) rfl rfl rfl rfl (by decide) (by decide) (by decide) rfl rfl hl.1 (Nat.le_of_ble_eq_true rfl) dX8_type_46 ⟨Nat.le_of_ble_eq_true rfl, Nat.le_of_ble_eq_true rfl⟩ (fun r_6 u H locs hp hw => ?_)
        have hw : ww D (TY cC cI cJ cZ cD) s A s.heap [(xg, .inl (cC, 20, .inl bF)), (x, .inr (10, [.ref xa, .ref xb, .ref xc, .ref xd, .ref xe, .ref xf, .ref xg, .ref xh, .ref xi, .ref xj, .ref xk, .ref xl, .ref xm, .ref xn, .ref xo, .ref xp, .ref xq, .ref xr, .ref xs, .ref xt, .int (nI n), .int (nI nx), .int (nI nb), .int (nI no), .int (nI na), .int (nI nc), .int (nI ne), .int (nI ns), .int (nI fee), .int sj, .int (thv 0 2), .int rs, .int stc]))] H locs := hw
        try dsimp only at hp
        subst hp
        refine r_if_eq cx 54 0 rfl (by omega) dX8_type_49 (by decide) (fun c49 => ?_) (fun c49 => by exact absurd c49 (by decide))
        refine lv_aload_n hx hb dX8_type_54 rfl (lv_at hl 0 rfl) ?_
        refine r_get cx hw inX8_type_8 1 6 rfl rfl (by decide) lkX8_type_2 rfl dX8_type_55 ?_
        refine lv_aload_n hx hb dX8_type_58 rfl (lv_at hl 0 rfl) ?_
        refine r_get cx hw inX8_type_8 1 22 rfl rfl (by decide) lkX8_type_1 rfl dX8_type_59 ?_
        refine lv_iload_n hx hb dX8_type_62 rfl (lv_at hl 1 rfl) ?_
        refine r_cast cx hw 0 0 rfl rfl nb rfl hv9 (by omega) (by omega) dX8_type_63 (fun H locs hw => ?_)
        have hw : ww D (TY cC cI cJ cZ cD) s A s.heap [(xg, .inl (cC, 20, .inl (upd bF nb v))), (x, .inr (10, [.ref xa, .ref xb, .ref xc, .ref xd, .ref xe, .ref xf, .ref xg, .ref xh, .ref xi, .ref xj, .ref xk, .ref xl, .ref xm, .ref xn, .ref xo, .ref xp, .ref xq, .ref xr, .ref xs, .ref xt, .int (nI n), .int (nI nx), .int (nI nb), .int (nI no), .int (nI na), .int (nI nc), .int (nI ne), .int (nI ns), .int (nI fee), .int sj, .int (thv 0 2), .int rs, .int stc]))] H locs := hw
        refine lv_aload_n hx hb dX8_type_64 rfl (lv_at hl 0 rfl) ?_
        refine lv_dup hx hb dX8_type_65 rfl ?_
        refine r_get cx hw inX8_type_8 1 22 rfl rfl (by decide) lkX8_type_1 rfl dX8_type_66 ?_
        refine lv_iconst (v := nI 1) hx hb dX8_type_69 (by decide) ?_
        refine r_iadd cx nb 1 rfl rfl dX8_type_70 ?_
        refine r_put cx hw inX8_type_8 tyX8 tyX8_ok nmX8 1 22 rfl rfl (by decide) lkX8_type_1 rfl rfl rfl (Nat.le_of_ble_eq_true rfl) dX8_type_71 (fun H locs hw => ?_)
        have hw : ww D (TY cC cI cJ cZ cD) s A s.heap [(xg, .inl (cC, 20, .inl (upd bF nb v))), (x, .inr (10, [.ref xa, .ref xb, .ref xc, .ref xd, .ref xe, .ref xf, .ref xg, .ref xh, .ref xi, .ref xj, .ref xk, .ref xl, .ref xm, .ref xn, .ref xo, .ref xp, .ref xq, .ref xr, .ref xs, .ref xt, .int (nI n), .int (nI nx), .int (nI (nb + 1)), .int (nI no), .int (nI na), .int (nI nc), .int (nI ne), .int (nI ns), .int (nI fee), .int sj, .int (thv 0 2), .int rs, .int stc]))] H locs := hw
        refine lv_aload_n hx hb dX8_type_74 rfl (lv_at hl 0 rfl) ?_
        refine r_get cx hw inX8_type_8 1 22 rfl rfl (by decide) lkX8_type_1 rfl dX8_type_75 ?_
        subst hQ
        exact r_reti (v := nI (nb + 1)) cx hr rfl hlk hw (Nat.le_of_ble_eq_true rfl) (Nat.le_of_ble_eq_true rfl) (thv 0 2, nb + 1, upd bF nb v) (vn (vTyp_0 (by first | exact ch_in b6 | exact Or.inl c15) (by omega)) ⟨rfl, rfl, rfl⟩) [1, 0] (by decide) rfl dX8_type_78
      · refine lv_iconst (v := nI 1) hx hb dX8_type_40 (by decide) ?_
        refine lv_goto (tgt := 45) hx hb dX8_type_41 (by decide) ?_
        refine lv_iconst (v := nI 2) hx hb dX8_type_45 (by decide) ?_
        refine r_callVi (n := 2) (wr := [(xg, .inl (cC, 20, .inl bF))]) cx hw (mX8_isThrown l D cC cI cJ cZ cD x xa xb xc xd xe xf xg xh xi xj xk xl xm xn xo xp xq xr xs xt n nx nb no na nc ne ns fee sj (thv 0 1) rs stc 1 2 H.size (by omega)) [1] [0] gX8_type_X8_isThrown rfl rfl rfl (by decide +kernel) ⟨Nat.le_of_ble_eq_true rfl, Nat.le_of_ble_eq_true rfl⟩ (q0 := 1) rfl rfl rfl rfl (by decide) (by decide) (by decide) rfl rfl hl.1 (Nat.le_of_ble_eq_true rfl) dX8_type_46 ⟨Nat.le_of_ble_eq_true rfl, Nat.le_of_ble_eq_true rfl⟩ (fun r_7 u H locs hp hw => ?_)
        have hw : ww D (TY cC cI cJ cZ cD) s A s.heap [(xg, .inl (cC, 20, .inl bF)), (x, .inr (10, [.ref xa, .ref xb, .ref xc, .ref xd, .ref xe, .ref xf, .ref xg, .ref xh, .ref xi, .ref xj, .ref xk, .ref xl, .ref xm, .ref xn, .ref xo, .ref xp, .ref xq, .ref xr, .ref xs, .ref xt, .int (nI n), .int (nI nx), .int (nI nb), .int (nI no), .int (nI na), .int (nI nc), .int (nI ne), .int (nI ns), .int (nI fee), .int sj, .int (thv 1 2), .int rs, .int stc]))] H locs := hw
        try dsimp only at hp
        subst hp
        refine r_if_eq cx 54 1 rfl (by omega) dX8_type_49 (by decide) (fun c49 => by exact absurd c49 (by decide)) (fun c49 => ?_)
        refine lv_iconst (v := nI 0) hx hb dX8_type_52 (by decide) ?_
        subst hQ
        exact r_reti (v := nI 0) cx hr rfl hlk hw (Nat.le_of_ble_eq_true rfl) (Nat.le_of_ble_eq_true rfl) (thv 1 2, nb, bF) (by first | exact vy (vTyp_1 (ch_ni b6 c15)) (by decide) ⟨rfl, rfl, rfl⟩ | exact vy (vTyp_2 (by first | exact ch_in b6 | exact Or.inl c15) (by omega)) (by decide) ⟨rfl, rfl, rfl⟩) [1, 0] (by decide) rfl dX8_type_53
    · refine lv_iconst (v := nI 1) hx hb dX8_type_18 (by decide) ?_
      refine lv_goto (tgt := 23) hx hb dX8_type_19 (by decide) ?_
      refine lv_iconst (v := nI 1) hx hb dX8_type_23 (by decide) ?_
      refine r_callVi (n := 2) (wr := [(xg, .inl (cC, 20, .inl bF))]) cx hw (mX8_isThrown l D cC cI cJ cZ cD x xa xb xc xd xe xf xg xh xi xj xk xl xm xn xo xp xq xr xs xt n nx nb no na nc ne ns fee sj th rs stc 1 1 H.size (by omega)) [0] [1] gX8_type_X8_isThrown rfl rfl rfl (by decide +kernel) ⟨Nat.le_of_ble_eq_true rfl, Nat.le_of_ble_eq_true rfl⟩ (q0 := 0) rfl rfl rfl rfl (by decide) (by decide) (by decide) rfl rfl hl.1 (Nat.le_of_ble_eq_true rfl) dX8_type_24 ⟨Nat.le_of_ble_eq_true rfl, Nat.le_of_ble_eq_true rfl⟩ (fun r_8 u H locs hp hw => ?_)
      have hw : ww D (TY cC cI cJ cZ cD) s A s.heap [(xg, .inl (cC, 20, .inl bF)), (x, .inr (10, [.ref xa, .ref xb, .ref xc, .ref xd, .ref xe, .ref xf, .ref xg, .ref xh, .ref xi, .ref xj, .ref xk, .ref xl, .ref xm, .ref xn, .ref xo, .ref xp, .ref xq, .ref xr, .ref xs, .ref xt, .int (nI n), .int (nI nx), .int (nI nb), .int (nI no), .int (nI na), .int (nI nc), .int (nI ne), .int (nI ns), .int (nI fee), .int sj, .int (thv 1 1), .int rs, .int stc]))] H locs := hw
      try dsimp only at hp
      subst hp
      refine r_if_ne cx 52 1 rfl (by omega) dX8_type_27 (by decide) (fun c27 => ?_) (fun c27 => by exact absurd c27 (by decide))
      refine lv_iconst (v := nI 0) hx hb dX8_type_52 (by decide) ?_
      subst hQ
      exact r_reti (v := nI 0) cx hr rfl hlk hw (Nat.le_of_ble_eq_true rfl) (Nat.le_of_ble_eq_true rfl) (thv 1 1, nb, bF) (by first | exact vy (vTyp_1 (ch_ni b6 c15)) (by decide) ⟨rfl, rfl, rfl⟩ | exact vy (vTyp_2 (by first | exact ch_in b6 | exact Or.inl c15) (by omega)) (by decide) ⟨rfl, rfl, rfl⟩) [1, 0] (by decide) rfl dX8_type_53

theorem lkX8_writes_1 : Cond.fieldLink RX8 32 "SignedDocumentModel" "line" "[C" ∈ wsX8_writes := List.mem_of_getElem? (i := 1) rfl
theorem inX8_writes_8 : ∀ w ∈ u_ws RX8 TX8 33, w ∈ wsX8_writes := fun _ h => List.mem_cons_of_mem _ (List.mem_append_left _ (List.mem_append_right _ h))
theorem lkX8_writes_2 : Cond.fieldLink RX8 177 "SignedDocumentModel" "written" "I" ∈ wsX8_writes := List.mem_of_getElem? (i := 2) rfl
set_option maxRecDepth 100000 in
set_option maxHeartbeats 4000000 in
theorem mX8_writes (l : Launch) (D : va_G) (cC cI cJ cZ cD : ClassId) (x xa xb xc xd xe xf xg xh xi xj xk xl xm xn xo xp xq xr xs xt : Nat) (n nx nb no na nc ne ns fee : Nat) (sj th rs stc : Int32) (lF : Nat → Int32) (v : Int32) (sz : Nat) (hno : no < 400) (hv9 : vp_nar .char v = v) (hlF : ∀ j, vp_nar .char (lF j) = lF j) : MV l yX8_writes wsX8_writes ({ frames := 0, cells := 0, slots := 0, locals := 0 }) [.ref x, .int v] D (TY cC cI cJ cZ cD) [(x, .inr (10, [.ref xa, .ref xb, .ref xc, .ref xd, .ref xe, .ref xf, .ref xg, .ref xh, .ref xi, .ref xj, .ref xk, .ref xl, .ref xm, .ref xn, .ref xo, .ref xp, .ref xq, .ref xr, .ref xs, .ref xt, .int (nI n), .int (nI nx), .int (nI nb), .int (nI no), .int (nI na), .int (nI nc), .int (nI ne), .int (nI ns), .int (nI fee), .int sj, .int th, .int rs, .int stc])), (xh, .inl (cC, 400, .inl lF))] sz (fun (_ : Unit) => True) (fun (_ : Unit) => [(x, .inr (10, [.ref xa, .ref xb, .ref xc, .ref xd, .ref xe, .ref xf, .ref xg, .ref xh, .ref xi, .ref xj, .ref xk, .ref xl, .ref xm, .ref xn, .ref xo, .ref xp, .ref xq, .ref xr, .ref xs, .ref xt, .int (nI n), .int (nI nx), .int (nI nb), .int (nI (no + 1)), .int (nI na), .int (nI nc), .int (nI ne), .int (nI ns), .int (nI fee), .int sj, .int th, .int rs, .int stc])), (xh, .inl (cC, 400, .inl (upd lF no v)))]) 0 0 := by
  refine mk_MV (cc := cX8_writes) (maxL := 2) (ret := none) (by decide) rfl (Nat.le_of_ble_eq_true rfl) ?_
  intro p e s mI args below meth cO A cx hr hlk hnm hw ls hl
  have hx := cx.1
  have hb := cx.2.1
  have hw : ww D (TY cC cI cJ cZ cD) s A s.heap [(x, .inr (10, [.ref xa, .ref xb, .ref xc, .ref xd, .ref xe, .ref xf, .ref xg, .ref xh, .ref xi, .ref xj, .ref xk, .ref xl, .ref xm, .ref xn, .ref xo, .ref xp, .ref xq, .ref xr, .ref xs, .ref xt, .int (nI n), .int (nI nx), .int (nI nb), .int (nI no), .int (nI na), .int (nI nc), .int (nI ne), .int (nI ns), .int (nI fee), .int sj, .int th, .int rs, .int stc])), (xh, .inl (cC, 400, .inl lF))] s.heap [] := hw
  have hl : lv_has ls 2 [(0, .ref x), (1, .int v)] := hl
  generalize hQ : MQ _ _ _ _ _ _ _ = Q
  refine hp_start hw (fun H locs hw => ?_)
  refine lv_aload_n hx hb dX8_writes_0 rfl (lv_at hl 0 rfl) ?_
  refine r_get cx hw inX8_writes_8 0 7 rfl rfl (by decide) lkX8_writes_1 rfl dX8_writes_1 ?_
  refine lv_aload_n hx hb dX8_writes_4 rfl (lv_at hl 0 rfl) ?_
  refine r_get cx hw inX8_writes_8 0 23 rfl rfl (by decide) lkX8_writes_2 rfl dX8_writes_5 ?_
  refine lv_iload_n hx hb dX8_writes_8 rfl (lv_at hl 1 rfl) ?_
  refine r_cast cx hw 1 0 rfl rfl no rfl hv9 (by omega) (by omega) dX8_writes_9 (fun H locs hw => ?_)
  have hw : ww D (TY cC cI cJ cZ cD) s A s.heap [(x, .inr (10, [.ref xa, .ref xb, .ref xc, .ref xd, .ref xe, .ref xf, .ref xg, .ref xh, .ref xi, .ref xj, .ref xk, .ref xl, .ref xm, .ref xn, .ref xo, .ref xp, .ref xq, .ref xr, .ref xs, .ref xt, .int (nI n), .int (nI nx), .int (nI nb), .int (nI no), .int (nI na), .int (nI nc), .int (nI ne), .int (nI ns), .int (nI fee), .int sj, .int th, .int rs, .int stc])), (xh, .inl (cC, 400, .inl (upd lF no v)))] H locs := hw
  refine lv_aload_n hx hb dX8_writes_10 rfl (lv_at hl 0 rfl) ?_
  refine lv_dup hx hb dX8_writes_11 rfl ?_
  refine r_get cx hw inX8_writes_8 0 23 rfl rfl (by decide) lkX8_writes_2 rfl dX8_writes_12 ?_
  refine lv_iconst (v := nI 1) hx hb dX8_writes_15 (by decide) ?_
  refine r_iadd cx no 1 rfl rfl dX8_writes_16 ?_
  refine r_put cx hw inX8_writes_8 tyX8 tyX8_ok nmX8 0 23 rfl rfl (by decide) lkX8_writes_2 rfl rfl rfl (Nat.le_of_ble_eq_true rfl) dX8_writes_17 (fun H locs hw => ?_)
  have hw : ww D (TY cC cI cJ cZ cD) s A s.heap [(x, .inr (10, [.ref xa, .ref xb, .ref xc, .ref xd, .ref xe, .ref xf, .ref xg, .ref xh, .ref xi, .ref xj, .ref xk, .ref xl, .ref xm, .ref xn, .ref xo, .ref xp, .ref xq, .ref xr, .ref xs, .ref xt, .int (nI n), .int (nI nx), .int (nI nb), .int (nI (no + 1)), .int (nI na), .int (nI nc), .int (nI ne), .int (nI ns), .int (nI fee), .int sj, .int th, .int rs, .int stc])), (xh, .inl (cC, 400, .inl (upd lF no v)))] H locs := hw
  subst hQ
  exact r_retv cx hr hlk hw (Nat.le_of_ble_eq_true rfl) (Nat.le_of_ble_eq_true rfl) () trivial [0, 1] (by decide) rfl dX8_writes_20

theorem lkX8_outputAt_1 : Cond.fieldLink RX8 177 "SignedDocumentModel" "written" "I" ∈ wsX8_outputAt := List.mem_of_getElem? (i := 1) rfl
theorem inX8_outputAt_8 : ∀ w ∈ u_ws RX8 TX8 33, w ∈ wsX8_outputAt := fun _ h => List.mem_cons_of_mem _ (List.mem_append_left _ (List.mem_append_right _ h))
theorem lkX8_outputAt_2 : Cond.fieldLink RX8 32 "SignedDocumentModel" "line" "[C" ∈ wsX8_outputAt := List.mem_of_getElem? (i := 2) rfl
set_option maxRecDepth 100000 in
set_option maxHeartbeats 4000000 in
theorem mX8_outputAt (l : Launch) (D : va_G) (cC cI cJ cZ cD : ClassId) (x xa xb xc xd xe xf xg xh xi xj xk xl xm xn xo xp xq xr xs xt : Nat) (n nx nb no na nc ne ns fee : Nat) (sj th rs stc : Int32) (lF : Nat → Int32) (v : Int32) (sz : Nat) (hno : no ≤ 400) (hlF : ∀ j, vp_nar .char (lF j) = lF j) : MI l yX8_outputAt wsX8_outputAt ({ frames := 1, cells := 0, slots := 0, locals := 22 }) [.ref x, .int v] D (TY cC cI cJ cZ cD) [(x, .inr (10, [.ref xa, .ref xb, .ref xc, .ref xd, .ref xe, .ref xf, .ref xg, .ref xh, .ref xi, .ref xj, .ref xk, .ref xl, .ref xm, .ref xn, .ref xo, .ref xp, .ref xq, .ref xr, .ref xs, .ref xt, .int (nI n), .int (nI nx), .int (nI nb), .int (nI no), .int (nI na), .int (nI nc), .int (nI ne), .int (nI ns), .int (nI fee), .int sj, .int th, .int rs, .int stc])), (xh, .inl (cC, 400, .inl lF))] sz (fun (r : Int32) => fun (uu : Int32 × Nat) => match uu with | (d9, k) => ((d9 = nI 0 ∧ k < no ∧ v = nI k ∧ r = lF k) ∨ (d9 = nI 1 ∧ ¬ ix v no ∧ r = (nI 45)))) (fun (uu : Int32 × Nat) => match uu with | (d9, k) => [(x, .inr (10, [.ref xa, .ref xb, .ref xc, .ref xd, .ref xe, .ref xf, .ref xg, .ref xh, .ref xi, .ref xj, .ref xk, .ref xl, .ref xm, .ref xn, .ref xo, .ref xp, .ref xq, .ref xr, .ref xs, .ref xt, .int (nI n), .int (nI nx), .int (nI nb), .int (nI no), .int (nI na), .int (nI nc), .int (nI ne), .int (nI ns), .int (nI fee), .int sj, .int d9, .int rs, .int stc])), (xh, .inl (cC, 400, .inl lF))]) 0 0 := by
  refine mk_MI (cc := cX8_outputAt) (maxL := 2) (ret := (some .char)) (by decide) rfl (Nat.le_of_ble_eq_true rfl) ?_
  intro p e s mI args below meth cO A cx hr hlk hnm hw ls hl
  have hx := cx.1
  have hb := cx.2.1
  have hw : ww D (TY cC cI cJ cZ cD) s A s.heap [(x, .inr (10, [.ref xa, .ref xb, .ref xc, .ref xd, .ref xe, .ref xf, .ref xg, .ref xh, .ref xi, .ref xj, .ref xk, .ref xl, .ref xm, .ref xn, .ref xo, .ref xp, .ref xq, .ref xr, .ref xs, .ref xt, .int (nI n), .int (nI nx), .int (nI nb), .int (nI no), .int (nI na), .int (nI nc), .int (nI ne), .int (nI ns), .int (nI fee), .int sj, .int th, .int rs, .int stc])), (xh, .inl (cC, 400, .inl lF))] s.heap [] := hw
  have hl : lv_has ls 2 [(0, .ref x), (1, .int v)] := hl
  generalize hQ : MQ _ _ _ _ _ _ _ = Q
  refine hp_start hw (fun H locs hw => ?_)
  refine lv_aload_n hx hb dX8_outputAt_0 rfl (lv_at hl 0 rfl) ?_
  refine lv_iload_n hx hb dX8_outputAt_1 rfl (lv_at hl 1 rfl) ?_
  refine lv_iconst (v := nI 0) hx hb dX8_outputAt_2 (by decide) ?_
  refine lv_aload_n hx hb dX8_outputAt_3 rfl (lv_at hl 0 rfl) ?_
  refine r_get cx hw inX8_outputAt_8 0 23 rfl rfl (by decide) lkX8_outputAt_1 rfl dX8_outputAt_4 ?_
  refine lv_iconst (v := nI 1) hx hb dX8_outputAt_7 (by decide) ?_
  refine lv_isub hx hb dX8_outputAt_8 ?_
  refine r_callSi (n := 3) (wr := [(x, .inr (10, [.ref xa, .ref xb, .ref xc, .ref xd, .ref xe, .ref xf, .ref xg, .ref xh, .ref xi, .ref xj, .ref xk, .ref xl, .ref xm, .ref xn, .ref xo, .ref xp, .ref xq, .ref xr, .ref xs, .ref xt, .int (nI n), .int (nI nx), .int (nI nb), .int (nI no), .int (nI na), .int (nI nc), .int (nI ne), .int (nI ns), .int (nI fee), .int sj, .int th, .int rs, .int stc])), (xh, .inl (cC, 400, .inl lF))]) cx hw (mX8_isIn l D cC cI cJ cZ cD v (nI 0) ((nI no) - (nI 1)) H.size) [] [0, 1] gX8_outputAt_X8_isIn rfl rfl rfl (by decide +kernel) ⟨Nat.le_of_ble_eq_true rfl, Nat.le_of_ble_eq_true rfl⟩ rfl rfl (by decide) (by decide) (by decide) rfl rfl hl.1 (Nat.le_of_ble_eq_true rfl) dX8_outputAt_9 ⟨Nat.le_of_ble_eq_true rfl, Nat.le_of_ble_eq_true rfl⟩ (fun r_1 u H locs hp hw => ?_)
  have hw : ww D (TY cC cI cJ cZ cD) s A s.heap [(x, .inr (10, [.ref xa, .ref xb, .ref xc, .ref xd, .ref xe, .ref xf, .ref xg, .ref xh, .ref xi, .ref xj, .ref xk, .ref xl, .ref xm, .ref xn, .ref xo, .ref xp, .ref xq, .ref xr, .ref xs, .ref xt, .int (nI n), .int (nI nx), .int (nI nb), .int (nI no), .int (nI na), .int (nI nc), .int (nI ne), .int (nI ns), .int (nI fee), .int sj, .int th, .int rs, .int stc])), (xh, .inl (cC, 400, .inl lF))] H locs := hw
  try dsimp only at hp
  have hb9 := hp
  rcases hb9 with ⟨rfl, b9⟩ | ⟨rfl, b9⟩
  · refine r_if_ne cx 19 1 rfl (by omega) dX8_outputAt_12 (by decide) (fun c12 => ?_) (fun c12 => by exact absurd c12 (by decide))
    refine lv_iconst (v := nI 0) hx hb dX8_outputAt_19 (by decide) ?_
    refine lv_iconst (v := nI 1) hx hb dX8_outputAt_20 (by decide) ?_
    refine r_callVi (n := 2) (wr := [(xh, .inl (cC, 400, .inl lF))]) cx hw (mX8_isThrown l D cC cI cJ cZ cD x xa xb xc xd xe xf xg xh xi xj xk xl xm xn xo xp xq xr xs xt n nx nb no na nc ne ns fee sj th rs stc 0 1 H.size (by omega)) [0] [1] gX8_outputAt_X8_isThrown rfl rfl rfl (by decide +kernel) ⟨Nat.le_of_ble_eq_true rfl, Nat.le_of_ble_eq_true rfl⟩ (q0 := 0) rfl rfl rfl rfl (by decide) (by decide) (by decide) rfl rfl hl.1 (Nat.le_of_ble_eq_true rfl) dX8_outputAt_21 ⟨Nat.le_of_ble_eq_true rfl, Nat.le_of_ble_eq_true rfl⟩ (fun r_2 u H locs hp hw => ?_)
    have hw : ww D (TY cC cI cJ cZ cD) s A s.heap [(xh, .inl (cC, 400, .inl lF)), (x, .inr (10, [.ref xa, .ref xb, .ref xc, .ref xd, .ref xe, .ref xf, .ref xg, .ref xh, .ref xi, .ref xj, .ref xk, .ref xl, .ref xm, .ref xn, .ref xo, .ref xp, .ref xq, .ref xr, .ref xs, .ref xt, .int (nI n), .int (nI nx), .int (nI nb), .int (nI no), .int (nI na), .int (nI nc), .int (nI ne), .int (nI ns), .int (nI fee), .int sj, .int (thv 0 1), .int rs, .int stc]))] H locs := hw
    try dsimp only at hp
    subst hp
    refine r_if_eq cx 32 0 rfl (by omega) dX8_outputAt_24 (by decide) (fun c24 => ?_) (fun c24 => by exact absurd c24 (by decide))
    obtain ⟨k9, hk9, rfl⟩ := nI_of_ix ((in_ix (by omega)).mp b9)
    refine lv_aload_n hx hb dX8_outputAt_32 rfl (lv_at hl 0 rfl) ?_
    refine r_get cx hw inX8_outputAt_8 1 7 rfl rfl (by decide) lkX8_outputAt_2 rfl dX8_outputAt_33 ?_
    refine lv_iload_n hx hb dX8_outputAt_36 rfl (lv_at hl 1 rfl) ?_
    refine r_cald cx hw 0 0 rfl rfl k9 rfl (by omega) (by omega) dX8_outputAt_37 ?_
    subst hQ
    exact r_reti (v := lF k9) cx hr (nrC (hlF k9)) hlk hw (Nat.le_of_ble_eq_true rfl) (Nat.le_of_ble_eq_true rfl) (thv 0 1, k9) (Or.inl ⟨rfl, hk9, rfl, rfl⟩) [1, 0] (by decide) rfl dX8_outputAt_38
  · refine r_if_ne cx 19 0 rfl (by omega) dX8_outputAt_12 (by decide) (fun c12 => by exact absurd c12 (by decide)) (fun c12 => ?_)
    refine lv_iconst (v := nI 1) hx hb dX8_outputAt_15 (by decide) ?_
    refine lv_goto (tgt := 20) hx hb dX8_outputAt_16 (by decide) ?_
    refine lv_iconst (v := nI 1) hx hb dX8_outputAt_20 (by decide) ?_
    refine r_callVi (n := 2) (wr := [(xh, .inl (cC, 400, .inl lF))]) cx hw (mX8_isThrown l D cC cI cJ cZ cD x xa xb xc xd xe xf xg xh xi xj xk xl xm xn xo xp xq xr xs xt n nx nb no na nc ne ns fee sj th rs stc 1 1 H.size (by omega)) [0] [1] gX8_outputAt_X8_isThrown rfl rfl rfl (by decide +kernel) ⟨Nat.le_of_ble_eq_true rfl, Nat.le_of_ble_eq_true rfl⟩ (q0 := 0) rfl rfl rfl rfl (by decide) (by decide) (by decide) rfl rfl hl.1 (Nat.le_of_ble_eq_true rfl) dX8_outputAt_21 ⟨Nat.le_of_ble_eq_true rfl, Nat.le_of_ble_eq_true rfl⟩ (fun r_3 u H locs hp hw => ?_)
    have hw : ww D (TY cC cI cJ cZ cD) s A s.heap [(xh, .inl (cC, 400, .inl lF)), (x, .inr (10, [.ref xa, .ref xb, .ref xc, .ref xd, .ref xe, .ref xf, .ref xg, .ref xh, .ref xi, .ref xj, .ref xk, .ref xl, .ref xm, .ref xn, .ref xo, .ref xp, .ref xq, .ref xr, .ref xs, .ref xt, .int (nI n), .int (nI nx), .int (nI nb), .int (nI no), .int (nI na), .int (nI nc), .int (nI ne), .int (nI ns), .int (nI fee), .int sj, .int (thv 1 1), .int rs, .int stc]))] H locs := hw
    try dsimp only at hp
    subst hp
    refine r_if_eq cx 32 1 rfl (by omega) dX8_outputAt_24 (by decide) (fun c24 => by exact absurd c24 (by decide)) (fun c24 => ?_)
    refine lv_bipush (v := nI 45) hx hb dX8_outputAt_27 (by decide) ?_
    refine lv_goto (tgt := 38) hx hb dX8_outputAt_29 (by decide) ?_
    subst hQ
    exact r_reti (v := nI 45) cx hr (by decide) hlk hw (Nat.le_of_ble_eq_true rfl) (Nat.le_of_ble_eq_true rfl) (thv 1 1, 0) (Or.inr ⟨rfl, fun z => b9 ((in_ix (by omega)).mpr z), rfl⟩) [1, 0] (by decide) rfl dX8_outputAt_38

theorem lkX8_clauseLength_1 : Cond.fieldLink RX8 98 "SignedDocumentModel" "length" "I" ∈ wsX8_clauseLength := List.mem_of_getElem? (i := 1) rfl
theorem inX8_clauseLength_8 : ∀ w ∈ u_ws RX8 TX8 33, w ∈ wsX8_clauseLength := fun _ h => List.mem_cons_of_mem _ (List.mem_append_left _ (List.mem_append_right _ h))
theorem lkX8_clauseLength_2 : Cond.fieldLink RX8 20 "SignedDocumentModel" "clause" "[I" ∈ wsX8_clauseLength := List.mem_of_getElem? (i := 2) rfl
set_option maxRecDepth 100000 in
set_option maxHeartbeats 4000000 in
theorem mX8_clauseLength (l : Launch) (D : va_G) (cC cI cJ cZ cD : ClassId) (x xa xb xc xd xe xf xg xh xi xj xk xl xm xn xo xp xq xr xs xt : Nat) (n nx nb no na nc ne ns fee : Nat) (sj th rs stc : Int32) (tC : Nat → Int32) (v : Int32) (sz : Nat) (hnc : nc ≤ 6) (hn : n ≤ 60) : MI l yX8_clauseLength wsX8_clauseLength ({ frames := 2, cells := 0, slots := 0, locals := 43 }) [.ref x, .int v] D (TY cC cI cJ cZ cD) [(x, .inr (10, [.ref xa, .ref xb, .ref xc, .ref xd, .ref xe, .ref xf, .ref xg, .ref xh, .ref xi, .ref xj, .ref xk, .ref xl, .ref xm, .ref xn, .ref xo, .ref xp, .ref xq, .ref xr, .ref xs, .ref xt, .int (nI n), .int (nI nx), .int (nI nb), .int (nI no), .int (nI na), .int (nI nc), .int (nI ne), .int (nI ns), .int (nI fee), .int sj, .int th, .int rs, .int stc])), (xd, .inl (cI, 60, .inl tC))] sz (fun (r : Int32) => fun (k : Nat) => ((k < nc ∧ v = nI k ∧ r = nI (ct (fun j => decide (tC j = nI k)) n)) ∨ (¬ ix v nc ∧ r = nI 0))) (fun (k : Nat) => [(x, .inr (10, [.ref xa, .ref xb, .ref xc, .ref xd, .ref xe, .ref xf, .ref xg, .ref xh, .ref xi, .ref xj, .ref xk, .ref xl, .ref xm, .ref xn, .ref xo, .ref xp, .ref xq, .ref xr, .ref xs, .ref xt, .int (nI n), .int (nI nx), .int (nI nb), .int (nI no), .int (nI na), .int (nI nc), .int (nI ne), .int (nI ns), .int (nI fee), .int sj, .int (tx v nc), .int rs, .int stc])), (xd, .inl (cI, 60, .inl tC))]) 0 0 := by
  refine mk_MI (cc := cX8_clauseLength) (maxL := 4) (ret := (some .int)) (by decide) rfl (Nat.le_of_ble_eq_true rfl) ?_
  intro p e s mI args below meth cO A cx hr hlk hnm hw ls hl
  have hx := cx.1
  have hb := cx.2.1
  have hw : ww D (TY cC cI cJ cZ cD) s A s.heap [(x, .inr (10, [.ref xa, .ref xb, .ref xc, .ref xd, .ref xe, .ref xf, .ref xg, .ref xh, .ref xi, .ref xj, .ref xk, .ref xl, .ref xm, .ref xn, .ref xo, .ref xp, .ref xq, .ref xr, .ref xs, .ref xt, .int (nI n), .int (nI nx), .int (nI nb), .int (nI no), .int (nI na), .int (nI nc), .int (nI ne), .int (nI ns), .int (nI fee), .int sj, .int th, .int rs, .int stc])), (xd, .inl (cI, 60, .inl tC))] s.heap [] := hw
  have hl : lv_has ls 4 [(0, .ref x), (1, .int v)] := hl
  generalize hQ : MQ _ _ _ _ _ _ _ = Q
  refine hp_start hw (fun H locs hw => ?_)
  refine lv_aload_n hx hb dX8_clauseLength_0 rfl (lv_at hl 0 rfl) ?_
  refine lv_iload_n hx hb dX8_clauseLength_1 rfl (lv_at hl 1 rfl) ?_
  refine r_callVi (n := 1) (wr := [(xd, .inl (cI, 60, .inl tC))]) cx hw (mX8_isNoClause l D cC cI cJ cZ cD x xa xb xc xd xe xf xg xh xi xj xk xl xm xn xo xp xq xr xs xt n nx nb no na nc ne ns fee sj th rs stc v H.size hnc) [0] [1] gX8_clauseLength_X8_isNoClause rfl rfl rfl (by decide +kernel) ⟨Nat.le_of_ble_eq_true rfl, Nat.le_of_ble_eq_true rfl⟩ (q0 := 0) rfl rfl rfl rfl (by decide) (by decide) (by decide) rfl rfl hl.1 (Nat.le_of_ble_eq_true rfl) dX8_clauseLength_2 ⟨Nat.le_of_ble_eq_true rfl, Nat.le_of_ble_eq_true rfl⟩ (fun r_1 u H locs hp hw => ?_)
  have hw : ww D (TY cC cI cJ cZ cD) s A s.heap [(xd, .inl (cI, 60, .inl tC)), (x, .inr (10, [.ref xa, .ref xb, .ref xc, .ref xd, .ref xe, .ref xf, .ref xg, .ref xh, .ref xi, .ref xj, .ref xk, .ref xl, .ref xm, .ref xn, .ref xo, .ref xp, .ref xq, .ref xr, .ref xs, .ref xt, .int (nI n), .int (nI nx), .int (nI nb), .int (nI no), .int (nI na), .int (nI nc), .int (nI ne), .int (nI ns), .int (nI fee), .int sj, .int (tx v nc), .int rs, .int stc]))] H locs := hw
  try dsimp only at hp
  have hb9 := hp
  rcases hb9 with ⟨rfl, b2⟩ | ⟨rfl, b2⟩
  · refine r_if_eq cx 10 1 rfl (by omega) dX8_clauseLength_5 (by decide) (fun c5 => by exact absurd c5 (by decide)) (fun c5 => ?_)
    refine lv_iconst (v := nI 0) hx hb dX8_clauseLength_8 (by decide) ?_
    subst hQ
    exact r_reti (v := nI 0) cx hr rfl hlk hw (Nat.le_of_ble_eq_true rfl) (Nat.le_of_ble_eq_true rfl) 0 (Or.inr ⟨b2, rfl⟩) [1, 0] (by decide) rfl dX8_clauseLength_9
  · obtain ⟨k9, hk9, rfl⟩ := nI_of_ix (Decidable.of_not_not b2)
    refine r_if_eq cx 10 0 rfl (by omega) dX8_clauseLength_5 (by decide) (fun c5 => ?_) (fun c5 => by exact absurd c5 (by decide))
    refine lv_iconst (v := nI 0) hx hb dX8_clauseLength_10 (by decide) ?_
    refine lv_istore_n (lv' := [(2, .int (nI 0)), (0, .ref x), (1, .int (nI k9))]) hx hb dX8_clauseLength_11 rfl hl (by decide) rfl (fun ls hl => ?_)
    refine lv_iconst (v := nI 0) hx hb dX8_clauseLength_12 (by decide) ?_
    refine lv_istore_n (lv' := [(3, .int (nI 0)), (2, .int (nI 0)), (0, .ref x), (1, .int (nI k9))]) hx hb dX8_clauseLength_13 rfl hl (by decide) rfl (fun ls hl => ?_)
    have K14_1 : ∀ (f : Nat) (q : Nat) (i : Nat), (61 - i) < f → (i ≤ n) → (q = ct (fun j => decide (tC j = nI k9)) i) → ∀ (H : Heap) (locs : List Loc), ww D (TY cC cI cJ cZ cD) s A s.heap [(xd, .inl (cI, 60, .inl tC)), (x, .inr (10, [.ref xa, .ref xb, .ref xc, .ref xd, .ref xe, .ref xf, .ref xg, .ref xh, .ref xi, .ref xj, .ref xk, .ref xl, .ref xm, .ref xn, .ref xo, .ref xp, .ref xq, .ref xr, .ref xs, .ref xt, .int (nI n), .int (nI nx), .int (nI nb), .int (nI no), .int (nI na), .int (nI nc), .int (nI ne), .int (nI ns), .int (nI fee), .int sj, .int (tx (nI k9) nc), .int rs, .int stc]))] H locs → ∀ ls : Array Slot, lv_has ls 4 [(0, .ref x), (1, .int (nI k9)), (2, .int (nI q)), (3, .int (nI i))] → W p l e ({ frames := 2, cells := 0, slots := 0, locals := 43 } : Room) s mI args below meth cO H locs 0 0 Q (F0 mI 14 ls []) := by
      intro f
      induction f with
      | zero => intro q i hms9; exact absurd hms9 (Nat.not_lt_zero _)
      | succ f ih14 =>
        intro q i hms9 hi hq H locs hw ls hl
        refine lv_iload_n hx hb dX8_clauseLength_14 rfl (lv_at hl 3 rfl) ?_
        refine lv_aload_n hx hb dX8_clauseLength_15 rfl (lv_at hl 0 rfl) ?_
        refine r_get cx hw inX8_clauseLength_8 1 20 rfl rfl (by decide) lkX8_clauseLength_1 rfl dX8_clauseLength_16 ?_
        refine r_icmp_ge cx 46 i n rfl rfl (by omega) (by omega) dX8_clauseLength_19 (by decide) (fun c19 => ?_) (fun c19 => ?_)
        · refine lv_iload_n hx hb dX8_clauseLength_46 rfl (lv_at hl 2 rfl) ?_
          subst hQ
          exact r_reti (v := nI q) cx hr rfl hlk hw (Nat.le_of_ble_eq_true rfl) (Nat.le_of_ble_eq_true rfl) k9 (Or.inl ⟨hk9, rfl, by rw [hq, show i = n by omega]⟩) [1, 0] (by decide) rfl dX8_clauseLength_47
        · refine lv_iload_n hx hb dX8_clauseLength_22 rfl (lv_at hl 2 rfl) ?_
          refine lv_aload_n hx hb dX8_clauseLength_23 rfl (lv_at hl 0 rfl) ?_
          refine r_get cx hw inX8_clauseLength_8 1 3 rfl rfl (by decide) lkX8_clauseLength_2 rfl dX8_clauseLength_24 ?_
          refine lv_iload_n hx hb dX8_clauseLength_27 rfl (lv_at hl 3 rfl) ?_
          refine r_iald cx hw 0 1 rfl rfl i rfl (by omega) (by omega) dX8_clauseLength_28 ?_
          refine lv_iload_n hx hb dX8_clauseLength_29 rfl (lv_at hl 1 rfl) ?_
          refine lv_icmp_ne (tgt := 37) hx hb dX8_clauseLength_30 (by decide) (fun c30 => ?_) (fun c30 => ?_)
          · refine lv_iconst (v := nI 0) hx hb dX8_clauseLength_37 (by decide) ?_
            refine r_iadd cx q 0 rfl rfl dX8_clauseLength_38 ?_
            refine lv_istore_n (lv' := [(2, .int (nI (q + 0))), (0, .ref x), (1, .int (nI k9)), (3, .int (nI i))]) hx hb dX8_clauseLength_39 rfl hl (by decide) rfl (fun ls hl => ?_)
            refine lv_iinc (v := nI (i + 1)) (lv' := [(3, .int (nI (i + 1))), (2, .int (nI (q + 0))), (0, .ref x), (1, .int (nI k9))]) hx hb dX8_clauseLength_40 hl (k := 3) rfl (by rw [ii1, nI_1]) (by decide) rfl (fun ls hl => ?_)
            refine lv_goto (tgt := 14) hx hb dX8_clauseLength_43 (by decide) ?_
            exact ih14 (q + 0) (i + 1) (by omega) (by omega) (by rw [hq]; exact (ct_f (fun z => c30 (of_decide_eq_true z))).symm) _ _ hw _ (lv_sub hl [2, 3, 1, 0] rfl)
          · refine lv_iconst (v := nI 1) hx hb dX8_clauseLength_33 (by decide) ?_
            refine lv_goto (tgt := 38) hx hb dX8_clauseLength_34 (by decide) ?_
            refine r_iadd cx q 1 rfl rfl dX8_clauseLength_38 ?_
            refine lv_istore_n (lv' := [(2, .int (nI (q + 1))), (0, .ref x), (1, .int (nI k9)), (3, .int (nI i))]) hx hb dX8_clauseLength_39 rfl hl (by decide) rfl (fun ls hl => ?_)
            refine lv_iinc (v := nI (i + 1)) (lv' := [(3, .int (nI (i + 1))), (2, .int (nI (q + 1))), (0, .ref x), (1, .int (nI k9))]) hx hb dX8_clauseLength_40 hl (k := 3) rfl (by rw [ii1, nI_1]) (by decide) rfl (fun ls hl => ?_)
            refine lv_goto (tgt := 14) hx hb dX8_clauseLength_43 (by decide) ?_
            exact ih14 (q + 1) (i + 1) (by omega) (by omega) (by rw [hq]; exact (ct_t (decide_eq_true c30)).symm) _ _ hw _ (lv_sub hl [2, 3, 1, 0] rfl)
    exact K14_1 _ 0 0 (Nat.lt_succ_self _) (by omega) (by rfl) _ _ hw _ (lv_sub hl [2, 3, 1, 0] rfl)

theorem lkX8_lock_1 : Cond.fieldLink RX8 63 "SignedDocumentModel" "isLocked" "[Z" ∈ wsX8_lock := List.mem_of_getElem? (i := 1) rfl
theorem inX8_lock_8 : ∀ w ∈ u_ws RX8 TX8 33, w ∈ wsX8_lock := fun _ h => List.mem_cons_of_mem _ (List.mem_append_left _ (List.mem_append_right _ h))
set_option maxRecDepth 100000 in
set_option maxHeartbeats 4000000 in
theorem mX8_lock (l : Launch) (D : va_G) (cC cI cJ cZ cD : ClassId) (x xa xb xc xd xe xf xg xh xi xj xk xl xm xn xo xp xq xr xs xt : Nat) (n nx nb no na nc ne ns fee : Nat) (sj th rs stc : Int32) (kZ : Nat → Int32) (v b9 : Int32) (sz : Nat) (hnc : nc ≤ 6) (hb9 : b9 = 0 ∨ b9 = 1) (hkZ : ∀ j, kZ j = 0 ∨ kZ j = 1) : MI l yX8_lock wsX8_lock ({ frames := 2, cells := 0, slots := 0, locals := 43 }) [.ref x, .int v, .int b9] D (TY cC cI cJ cZ cD) [(x, .inr (10, [.ref xa, .ref xb, .ref xc, .ref xd, .ref xe, .ref xf, .ref xg, .ref xh, .ref xi, .ref xj, .ref xk, .ref xl, .ref xm, .ref xn, .ref xo, .ref xp, .ref xq, .ref xr, .ref xs, .ref xt, .int (nI n), .int (nI nx), .int (nI nb), .int (nI no), .int (nI na), .int (nI nc), .int (nI ne), .int (nI ns), .int (nI fee), .int sj, .int th, .int rs, .int stc])), (xr, .inl (cZ, 6, .inl kZ))] sz (fun (r : Int32) => fun (uu : Nat × (Nat → Int32)) => match uu with | (k, kZ2) => ((k < nc ∧ v = nI k ∧ r = kZ k ∧ kZ2 = upd kZ k b9) ∨ (¬ ix v nc ∧ r = nI 0 ∧ kZ2 = kZ))) (fun (uu : Nat × (Nat → Int32)) => match uu with | (k, kZ2) => [(x, .inr (10, [.ref xa, .ref xb, .ref xc, .ref xd, .ref xe, .ref xf, .ref xg, .ref xh, .ref xi, .ref xj, .ref xk, .ref xl, .ref xm, .ref xn, .ref xo, .ref xp, .ref xq, .ref xr, .ref xs, .ref xt, .int (nI n), .int (nI nx), .int (nI nb), .int (nI no), .int (nI na), .int (nI nc), .int (nI ne), .int (nI ns), .int (nI fee), .int sj, .int (tx v nc), .int rs, .int stc])), (xr, .inl (cZ, 6, .inl kZ2))]) 0 0 := by
  refine mk_MI (cc := cX8_lock) (maxL := 4) (ret := (some .boolean)) (by decide) rfl (Nat.le_of_ble_eq_true rfl) ?_
  intro p e s mI args below meth cO A cx hr hlk hnm hw ls hl
  have hx := cx.1
  have hb := cx.2.1
  have hw : ww D (TY cC cI cJ cZ cD) s A s.heap [(x, .inr (10, [.ref xa, .ref xb, .ref xc, .ref xd, .ref xe, .ref xf, .ref xg, .ref xh, .ref xi, .ref xj, .ref xk, .ref xl, .ref xm, .ref xn, .ref xo, .ref xp, .ref xq, .ref xr, .ref xs, .ref xt, .int (nI n), .int (nI nx), .int (nI nb), .int (nI no), .int (nI na), .int (nI nc), .int (nI ne), .int (nI ns), .int (nI fee), .int sj, .int th, .int rs, .int stc])), (xr, .inl (cZ, 6, .inl kZ))] s.heap [] := hw
  have hl : lv_has ls 4 [(0, .ref x), (1, .int v), (2, .int b9)] := hl
  generalize hQ : MQ _ _ _ _ _ _ _ = Q
  refine hp_start hw (fun H locs hw => ?_)
  refine lv_aload_n hx hb dX8_lock_0 rfl (lv_at hl 0 rfl) ?_
  refine lv_iload_n hx hb dX8_lock_1 rfl (lv_at hl 1 rfl) ?_
  refine r_callVi (n := 1) (wr := [(xr, .inl (cZ, 6, .inl kZ))]) cx hw (mX8_isNoClause l D cC cI cJ cZ cD x xa xb xc xd xe xf xg xh xi xj xk xl xm xn xo xp xq xr xs xt n nx nb no na nc ne ns fee sj th rs stc v H.size hnc) [0] [1] gX8_lock_X8_isNoClause rfl rfl rfl (by decide +kernel) ⟨Nat.le_of_ble_eq_true rfl, Nat.le_of_ble_eq_true rfl⟩ (q0 := 0) rfl rfl rfl rfl (by decide) (by decide) (by decide) rfl rfl hl.1 (Nat.le_of_ble_eq_true rfl) dX8_lock_2 ⟨Nat.le_of_ble_eq_true rfl, Nat.le_of_ble_eq_true rfl⟩ (fun r_1 u H locs hp hw => ?_)
  have hw : ww D (TY cC cI cJ cZ cD) s A s.heap [(xr, .inl (cZ, 6, .inl kZ)), (x, .inr (10, [.ref xa, .ref xb, .ref xc, .ref xd, .ref xe, .ref xf, .ref xg, .ref xh, .ref xi, .ref xj, .ref xk, .ref xl, .ref xm, .ref xn, .ref xo, .ref xp, .ref xq, .ref xr, .ref xs, .ref xt, .int (nI n), .int (nI nx), .int (nI nb), .int (nI no), .int (nI na), .int (nI nc), .int (nI ne), .int (nI ns), .int (nI fee), .int sj, .int (tx v nc), .int rs, .int stc]))] H locs := hw
  try dsimp only at hp
  have hb9 := hp
  rcases hb9 with ⟨rfl, b2⟩ | ⟨rfl, b2⟩
  · refine r_if_eq cx 10 1 rfl (by omega) dX8_lock_5 (by decide) (fun c5 => by exact absurd c5 (by decide)) (fun c5 => ?_)
    refine lv_iconst (v := nI 0) hx hb dX8_lock_8 (by decide) ?_
    subst hQ
    exact r_reti (v := nI 0) cx hr (by decide) hlk hw (Nat.le_of_ble_eq_true rfl) (Nat.le_of_ble_eq_true rfl) (0, kZ) (Or.inr ⟨b2, rfl, rfl⟩) [1, 0] (by decide) rfl dX8_lock_9
  · obtain ⟨k9, hk9, rfl⟩ := nI_of_ix (Decidable.of_not_not b2)
    refine r_if_eq cx 10 0 rfl (by omega) dX8_lock_5 (by decide) (fun c5 => ?_) (fun c5 => by exact absurd c5 (by decide))
    refine lv_aload_n hx hb dX8_lock_10 rfl (lv_at hl 0 rfl) ?_
    refine r_get cx hw inX8_lock_8 1 17 rfl rfl (by decide) lkX8_lock_1 rfl dX8_lock_11 ?_
    refine lv_iload_n hx hb dX8_lock_14 rfl (lv_at hl 1 rfl) ?_
    refine r_zald cx hw 0 3 rfl rfl k9 rfl (by omega) (by omega) dX8_lock_15 ?_
    refine lv_istore_n (lv' := [(3, .int (kZ k9)), (0, .ref x), (1, .int (nI k9)), (2, .int b9)]) hx hb dX8_lock_16 rfl hl (by decide) rfl (fun ls hl => ?_)
    refine lv_aload_n hx hb dX8_lock_17 rfl (lv_at hl 1 rfl) ?_
    refine r_get cx hw inX8_lock_8 1 17 rfl rfl (by decide) lkX8_lock_1 rfl dX8_lock_18 ?_
    refine lv_iload_n hx hb dX8_lock_21 rfl (lv_at hl 2 rfl) ?_
    refine lv_iload_n hx hb dX8_lock_22 rfl (lv_at hl 3 rfl) ?_
    refine r_zast cx hw 0 3 rfl rfl k9 rfl (vpZ hb9) (by omega) (by omega) dX8_lock_23 (fun H locs hw => ?_)
    have hw : ww D (TY cC cI cJ cZ cD) s A s.heap [(xr, .inl (cZ, 6, .inl (upd kZ k9 b9))), (x, .inr (10, [.ref xa, .ref xb, .ref xc, .ref xd, .ref xe, .ref xf, .ref xg, .ref xh, .ref xi, .ref xj, .ref xk, .ref xl, .ref xm, .ref xn, .ref xo, .ref xp, .ref xq, .ref xr, .ref xs, .ref xt, .int (nI n), .int (nI nx), .int (nI nb), .int (nI no), .int (nI na), .int (nI nc), .int (nI ne), .int (nI ns), .int (nI fee), .int sj, .int (tx (nI k9) nc), .int rs, .int stc]))] H locs := hw
    refine lv_iload_n hx hb dX8_lock_24 rfl (lv_at hl 0 rfl) ?_
    subst hQ
    exact r_reti (v := kZ k9) cx hr (nrZ (hkZ _)) hlk hw (Nat.le_of_ble_eq_true rfl) (Nat.le_of_ble_eq_true rfl) (k9, upd kZ k9 b9) (Or.inl ⟨hk9, rfl, rfl, rfl⟩) [1, 0] (by decide) rfl dX8_lock_25

theorem lkX8_sign_1 : Cond.fieldLink RX8 109 "SignedDocumentModel" "clauses" "I" ∈ wsX8_sign := List.mem_of_getElem? (i := 1) rfl
theorem inX8_sign_8 : ∀ w ∈ u_ws RX8 TX8 33, w ∈ wsX8_sign := fun _ h => List.mem_cons_of_mem _ (List.mem_append_left _ (List.mem_append_right _ h))
theorem lkX8_sign_2 : Cond.fieldLink RX8 120 "SignedDocumentModel" "signatures" "I" ∈ wsX8_sign := List.mem_of_getElem? (i := 2) rfl
theorem lkX8_sign_3 : Cond.fieldLink RX8 50 "SignedDocumentModel" "signer" "[I" ∈ wsX8_sign := List.mem_of_getElem? (i := 3) rfl
theorem lkX8_sign_4 : Cond.fieldLink RX8 53 "SignedDocumentModel" "set" "[I" ∈ wsX8_sign := List.mem_of_getElem? (i := 4) rfl
theorem lkX8_sign_5 : Cond.fieldLink RX8 70 "SignedDocumentModel" "state" "[C" ∈ wsX8_sign := List.mem_of_getElem? (i := 5) rfl
set_option maxRecDepth 100000 in
set_option maxHeartbeats 4000000 in
theorem mX8_sign (l : Launch) (D : va_G) (cC cI cJ cZ cD : ClassId) (x xa xb xc xd xe xf xg xh xi xj xk xl xm xn xo xp xq xr xs xt : Nat) (n nx nb no na nc ne ns fee : Nat) (sj th rs stc : Int32) (gA : Nat → Int32) (gX : Nat → Int32) (gT : Nat → Int32) (v cl : Int32) (sz : Nat) (hna : na ≤ 5) (hnc : nc ≤ 6) (hns : ns ≤ 12) (hgT : ∀ j, vp_nar .char (gT j) = gT j) : MI l yX8_sign wsX8_sign ({ frames := 2, cells := 0, slots := 0, locals := 43 }) [.ref x, .int v, .int cl] D (TY cC cI cJ cZ cD) [(x, .inr (10, [.ref xa, .ref xb, .ref xc, .ref xd, .ref xe, .ref xf, .ref xg, .ref xh, .ref xi, .ref xj, .ref xk, .ref xl, .ref xm, .ref xn, .ref xo, .ref xp, .ref xq, .ref xr, .ref xs, .ref xt, .int (nI n), .int (nI nx), .int (nI nb), .int (nI no), .int (nI na), .int (nI nc), .int (nI ne), .int (nI ns), .int (nI fee), .int sj, .int th, .int rs, .int stc])), (xn, .inl (cI, 12, .inl gA)), (xo, .inl (cI, 12, .inl gX)), (xt, .inl (cC, 12, .inl gT))] sz (fun (r : Int32) => fun (uu : Int32 × Nat × (Nat → Int32) × (Nat → Int32) × (Nat → Int32)) => match uu with | (d9, ns2, gA2, gX2, gT2) => d9 = nI (vSig v cl na nc ns) ∧ (((vSig v cl na nc ns) = 0 ∧ r = nI ns ∧ ns2 = ns + 1 ∧ gA2 = upd gA ns v ∧ gX2 = upd gX ns cl ∧ gT2 = upd gT ns (nI 118)) ∨ (¬ (vSig v cl na nc ns) = 0 ∧ r = nI 0 ∧ ns2 = ns ∧ gA2 = gA ∧ gX2 = gX ∧ gT2 = gT))) (fun (uu : Int32 × Nat × (Nat → Int32) × (Nat → Int32) × (Nat → Int32)) => match uu with | (d9, ns2, gA2, gX2, gT2) => [(x, .inr (10, [.ref xa, .ref xb, .ref xc, .ref xd, .ref xe, .ref xf, .ref xg, .ref xh, .ref xi, .ref xj, .ref xk, .ref xl, .ref xm, .ref xn, .ref xo, .ref xp, .ref xq, .ref xr, .ref xs, .ref xt, .int (nI n), .int (nI nx), .int (nI nb), .int (nI no), .int (nI na), .int (nI nc), .int (nI ne), .int (nI ns2), .int (nI fee), .int sj, .int d9, .int rs, .int stc])), (xn, .inl (cI, 12, .inl gA2)), (xo, .inl (cI, 12, .inl gX2)), (xt, .inl (cC, 12, .inl gT2))]) 0 0 := by
  refine mk_MI (cc := cX8_sign) (maxL := 3) (ret := (some .int)) (by decide) rfl (Nat.le_of_ble_eq_true rfl) ?_
  intro p e s mI args below meth cO A cx hr hlk hnm hw ls hl
  have hx := cx.1
  have hb := cx.2.1
  have hw : ww D (TY cC cI cJ cZ cD) s A s.heap [(x, .inr (10, [.ref xa, .ref xb, .ref xc, .ref xd, .ref xe, .ref xf, .ref xg, .ref xh, .ref xi, .ref xj, .ref xk, .ref xl, .ref xm, .ref xn, .ref xo, .ref xp, .ref xq, .ref xr, .ref xs, .ref xt, .int (nI n), .int (nI nx), .int (nI nb), .int (nI no), .int (nI na), .int (nI nc), .int (nI ne), .int (nI ns), .int (nI fee), .int sj, .int th, .int rs, .int stc])), (xn, .inl (cI, 12, .inl gA)), (xo, .inl (cI, 12, .inl gX)), (xt, .inl (cC, 12, .inl gT))] s.heap [] := hw
  have hl : lv_has ls 3 [(0, .ref x), (1, .int v), (2, .int cl)] := hl
  generalize hQ : MQ _ _ _ _ _ _ _ = Q
  refine hp_start hw (fun H locs hw => ?_)
  refine lv_aload_n hx hb dX8_sign_0 rfl (lv_at hl 0 rfl) ?_
  refine lv_aload_n hx hb dX8_sign_1 rfl (lv_at hl 0 rfl) ?_
  refine lv_iload_n hx hb dX8_sign_2 rfl (lv_at hl 1 rfl) ?_
  refine r_callVi (n := 1) (wr := [(xn, .inl (cI, 12, .inl gA)), (xo, .inl (cI, 12, .inl gX)), (xt, .inl (cC, 12, .inl gT))]) cx hw (mX8_isNoAuthor l D cC cI cJ cZ cD x xa xb xc xd xe xf xg xh xi xj xk xl xm xn xo xp xq xr xs xt n nx nb no na nc ne ns fee sj th rs stc v H.size hna) [0] [1, 2, 3] gX8_sign_X8_isNoAuthor rfl rfl rfl (by decide +kernel) ⟨Nat.le_of_ble_eq_true rfl, Nat.le_of_ble_eq_true rfl⟩ (q0 := 0) rfl rfl rfl rfl (by decide) (by decide) (by decide) rfl rfl hl.1 (Nat.le_of_ble_eq_true rfl) dX8_sign_3 ⟨Nat.le_of_ble_eq_true rfl, Nat.le_of_ble_eq_true rfl⟩ (fun r_1 u H locs hp hw => ?_)
  have hw : ww D (TY cC cI cJ cZ cD) s A s.heap [(xn, .inl (cI, 12, .inl gA)), (xo, .inl (cI, 12, .inl gX)), (xt, .inl (cC, 12, .inl gT)), (x, .inr (10, [.ref xa, .ref xb, .ref xc, .ref xd, .ref xe, .ref xf, .ref xg, .ref xh, .ref xi, .ref xj, .ref xk, .ref xl, .ref xm, .ref xn, .ref xo, .ref xp, .ref xq, .ref xr, .ref xs, .ref xt, .int (nI n), .int (nI nx), .int (nI nb), .int (nI no), .int (nI na), .int (nI nc), .int (nI ne), .int (nI ns), .int (nI fee), .int sj, .int th, .int rs, .int stc]))] H locs := hw
  try dsimp only at hp
  have hb9 := hp
  rcases hb9 with ⟨rfl, b3⟩ | ⟨rfl, b3⟩
  · refine lv_iconst (v := nI 1) hx hb dX8_sign_6 (by decide) ?_
    refine r_callVi (n := 2) (wr := [(xn, .inl (cI, 12, .inl gA)), (xo, .inl (cI, 12, .inl gX)), (xt, .inl (cC, 12, .inl gT))]) cx hw (mX8_isThrown l D cC cI cJ cZ cD x xa xb xc xd xe xf xg xh xi xj xk xl xm xn xo xp xq xr xs xt n nx nb no na nc ne ns fee sj th rs stc 1 1 H.size (by omega)) [3] [0, 1, 2] gX8_sign_X8_isThrown rfl rfl rfl (by decide +kernel) ⟨Nat.le_of_ble_eq_true rfl, Nat.le_of_ble_eq_true rfl⟩ (q0 := 3) rfl rfl rfl rfl (by decide) (by decide) (by decide) rfl rfl hl.1 (Nat.le_of_ble_eq_true rfl) dX8_sign_7 ⟨Nat.le_of_ble_eq_true rfl, Nat.le_of_ble_eq_true rfl⟩ (fun r_2 u H locs hp hw => ?_)
    have hw : ww D (TY cC cI cJ cZ cD) s A s.heap [(xn, .inl (cI, 12, .inl gA)), (xo, .inl (cI, 12, .inl gX)), (xt, .inl (cC, 12, .inl gT)), (x, .inr (10, [.ref xa, .ref xb, .ref xc, .ref xd, .ref xe, .ref xf, .ref xg, .ref xh, .ref xi, .ref xj, .ref xk, .ref xl, .ref xm, .ref xn, .ref xo, .ref xp, .ref xq, .ref xr, .ref xs, .ref xt, .int (nI n), .int (nI nx), .int (nI nb), .int (nI no), .int (nI na), .int (nI nc), .int (nI ne), .int (nI ns), .int (nI fee), .int sj, .int (thv 1 1), .int rs, .int stc]))] H locs := hw
    try dsimp only at hp
    subst hp
    refine r_if_ne cx 63 1 rfl (by omega) dX8_sign_10 (by decide) (fun c10 => ?_) (fun c10 => by exact absurd c10 (by decide))
    refine lv_iconst (v := nI 0) hx hb dX8_sign_63 (by decide) ?_
    subst hQ
    exact r_reti (v := nI 0) cx hr rfl hlk hw (Nat.le_of_ble_eq_true rfl) (Nat.le_of_ble_eq_true rfl) (thv 1 1, ns, gA, gX, gT) (by first | exact vy (if_pos b3) (by decide) ⟨rfl, rfl, rfl, rfl, rfl⟩ | exact vy ((if_neg (not_not_intro (Decidable.of_not_not b3))).trans (if_pos (cl_n1 c16))) (by decide) ⟨rfl, rfl, rfl, rfl, rfl⟩ | exact vy ((if_neg (not_not_intro (Decidable.of_not_not b3))).trans (if_pos (cl_n2 hnc c26))) (by decide) ⟨rfl, rfl, rfl, rfl, rfl⟩ | exact vy ((if_neg (not_not_intro (Decidable.of_not_not b3))).trans ((if_neg (not_not_intro (cl_ok hnc c16 c26))).trans (if_pos (by omega)))) (by decide) ⟨rfl, rfl, rfl, rfl, rfl⟩) [3, 0, 1, 2] (by decide) rfl dX8_sign_64
  · refine lv_iconst (v := nI 1) hx hb dX8_sign_6 (by decide) ?_
    refine r_callVi (n := 2) (wr := [(xn, .inl (cI, 12, .inl gA)), (xo, .inl (cI, 12, .inl gX)), (xt, .inl (cC, 12, .inl gT))]) cx hw (mX8_isThrown l D cC cI cJ cZ cD x xa xb xc xd xe xf xg xh xi xj xk xl xm xn xo xp xq xr xs xt n nx nb no na nc ne ns fee sj th rs stc 0 1 H.size (by omega)) [3] [0, 1, 2] gX8_sign_X8_isThrown rfl rfl rfl (by decide +kernel) ⟨Nat.le_of_ble_eq_true rfl, Nat.le_of_ble_eq_true rfl⟩ (q0 := 3) rfl rfl rfl rfl (by decide) (by decide) (by decide) rfl rfl hl.1 (Nat.le_of_ble_eq_true rfl) dX8_sign_7 ⟨Nat.le_of_ble_eq_true rfl, Nat.le_of_ble_eq_true rfl⟩ (fun r_3 u H locs hp hw => ?_)
    have hw : ww D (TY cC cI cJ cZ cD) s A s.heap [(xn, .inl (cI, 12, .inl gA)), (xo, .inl (cI, 12, .inl gX)), (xt, .inl (cC, 12, .inl gT)), (x, .inr (10, [.ref xa, .ref xb, .ref xc, .ref xd, .ref xe, .ref xf, .ref xg, .ref xh, .ref xi, .ref xj, .ref xk, .ref xl, .ref xm, .ref xn, .ref xo, .ref xp, .ref xq, .ref xr, .ref xs, .ref xt, .int (nI n), .int (nI nx), .int (nI nb), .int (nI no), .int (nI na), .int (nI nc), .int (nI ne), .int (nI ns), .int (nI fee), .int sj, .int (thv 0 1), .int rs, .int stc]))] H locs := hw
    try dsimp only at hp
    subst hp
    refine r_if_ne cx 63 0 rfl (by omega) dX8_sign_10 (by decide) (fun c10 => by exact absurd c10 (by decide)) (fun c10 => ?_)
    refine lv_aload_n hx hb dX8_sign_13 rfl (lv_at hl 0 rfl) ?_
    refine lv_iload_n hx hb dX8_sign_14 rfl (lv_at hl 2 rfl) ?_
    refine lv_iconst (v := nI 1) hx hb dX8_sign_15 (by decide) ?_
    refine lv_icmp_lt (tgt := 29) hx hb dX8_sign_16 (by decide) (fun c16 => ?_) (fun c16 => ?_)
    · refine lv_iconst (v := nI 1) hx hb dX8_sign_29 (by decide) ?_
      refine lv_goto (tgt := 34) hx hb dX8_sign_30 (by decide) ?_
      refine lv_iconst (v := nI 2) hx hb dX8_sign_34 (by decide) ?_
      refine r_callVi (n := 2) (wr := [(xn, .inl (cI, 12, .inl gA)), (xo, .inl (cI, 12, .inl gX)), (xt, .inl (cC, 12, .inl gT))]) cx hw (mX8_isThrown l D cC cI cJ cZ cD x xa xb xc xd xe xf xg xh xi xj xk xl xm xn xo xp xq xr xs xt n nx nb no na nc ne ns fee sj (thv 0 1) rs stc 1 2 H.size (by omega)) [3] [0, 1, 2] gX8_sign_X8_isThrown rfl rfl rfl (by decide +kernel) ⟨Nat.le_of_ble_eq_true rfl, Nat.le_of_ble_eq_true rfl⟩ (q0 := 3) rfl rfl rfl rfl (by decide) (by decide) (by decide) rfl rfl hl.1 (Nat.le_of_ble_eq_true rfl) dX8_sign_35 ⟨Nat.le_of_ble_eq_true rfl, Nat.le_of_ble_eq_true rfl⟩ (fun r_4 u H locs hp hw => ?_)
      have hw : ww D (TY cC cI cJ cZ cD) s A s.heap [(xn, .inl (cI, 12, .inl gA)), (xo, .inl (cI, 12, .inl gX)), (xt, .inl (cC, 12, .inl gT)), (x, .inr (10, [.ref xa, .ref xb, .ref xc, .ref xd, .ref xe, .ref xf, .ref xg, .ref xh, .ref xi, .ref xj, .ref xk, .ref xl, .ref xm, .ref xn, .ref xo, .ref xp, .ref xq, .ref xr, .ref xs, .ref xt, .int (nI n), .int (nI nx), .int (nI nb), .int (nI no), .int (nI na), .int (nI nc), .int (nI ne), .int (nI ns), .int (nI fee), .int sj, .int (thv 1 2), .int rs, .int stc]))] H locs := hw
      try dsimp only at hp
      subst hp
      refine r_if_ne cx 63 1 rfl (by omega) dX8_sign_38 (by decide) (fun c38 => ?_) (fun c38 => by exact absurd c38 (by decide))
      refine lv_iconst (v := nI 0) hx hb dX8_sign_63 (by decide) ?_
      subst hQ
      exact r_reti (v := nI 0) cx hr rfl hlk hw (Nat.le_of_ble_eq_true rfl) (Nat.le_of_ble_eq_true rfl) (thv 1 2, ns, gA, gX, gT) (by first | exact vy (if_pos b3) (by decide) ⟨rfl, rfl, rfl, rfl, rfl⟩ | exact vy ((if_neg (not_not_intro (Decidable.of_not_not b3))).trans (if_pos (cl_n1 c16))) (by decide) ⟨rfl, rfl, rfl, rfl, rfl⟩ | exact vy ((if_neg (not_not_intro (Decidable.of_not_not b3))).trans (if_pos (cl_n2 hnc c26))) (by decide) ⟨rfl, rfl, rfl, rfl, rfl⟩ | exact vy ((if_neg (not_not_intro (Decidable.of_not_not b3))).trans ((if_neg (not_not_intro (cl_ok hnc c16 c26))).trans (if_pos (by omega)))) (by decide) ⟨rfl, rfl, rfl, rfl, rfl⟩) [3, 0, 1, 2] (by decide) rfl dX8_sign_64
    · refine lv_iload_n hx hb dX8_sign_19 rfl (lv_at hl 2 rfl) ?_
      refine lv_iconst (v := nI 1) hx hb dX8_sign_20 (by decide) ?_
      refine lv_aload_n hx hb dX8_sign_21 rfl (lv_at hl 0 rfl) ?_
      refine r_get cx hw inX8_sign_8 3 25 rfl rfl (by decide) lkX8_sign_1 rfl dX8_sign_22 ?_
      refine lv_ishl hx hb dX8_sign_25 ?_
      refine lv_icmp_lt (tgt := 33) hx hb dX8_sign_26 (by decide) (fun c26 => ?_) (fun c26 => ?_)
      · refine lv_iconst (v := nI 0) hx hb dX8_sign_33 (by decide) ?_
        refine lv_iconst (v := nI 2) hx hb dX8_sign_34 (by decide) ?_
        refine r_callVi (n := 2) (wr := [(xn, .inl (cI, 12, .inl gA)), (xo, .inl (cI, 12, .inl gX)), (xt, .inl (cC, 12, .inl gT))]) cx hw (mX8_isThrown l D cC cI cJ cZ cD x xa xb xc xd xe xf xg xh xi xj xk xl xm xn xo xp xq xr xs xt n nx nb no na nc ne ns fee sj (thv 0 1) rs stc 0 2 H.size (by omega)) [3] [0, 1, 2] gX8_sign_X8_isThrown rfl rfl rfl (by decide +kernel) ⟨Nat.le_of_ble_eq_true rfl, Nat.le_of_ble_eq_true rfl⟩ (q0 := 3) rfl rfl rfl rfl (by decide) (by decide) (by decide) rfl rfl hl.1 (Nat.le_of_ble_eq_true rfl) dX8_sign_35 ⟨Nat.le_of_ble_eq_true rfl, Nat.le_of_ble_eq_true rfl⟩ (fun r_5 u H locs hp hw => ?_)
        have hw : ww D (TY cC cI cJ cZ cD) s A s.heap [(xn, .inl (cI, 12, .inl gA)), (xo, .inl (cI, 12, .inl gX)), (xt, .inl (cC, 12, .inl gT)), (x, .inr (10, [.ref xa, .ref xb, .ref xc, .ref xd, .ref xe, .ref xf, .ref xg, .ref xh, .ref xi, .ref xj, .ref xk, .ref xl, .ref xm, .ref xn, .ref xo, .ref xp, .ref xq, .ref xr, .ref xs, .ref xt, .int (nI n), .int (nI nx), .int (nI nb), .int (nI no), .int (nI na), .int (nI nc), .int (nI ne), .int (nI ns), .int (nI fee), .int sj, .int (thv 0 2), .int rs, .int stc]))] H locs := hw
        try dsimp only at hp
        subst hp
        refine r_if_ne cx 63 0 rfl (by omega) dX8_sign_38 (by decide) (fun c38 => by exact absurd c38 (by decide)) (fun c38 => ?_)
        refine lv_aload_n hx hb dX8_sign_41 rfl (lv_at hl 0 rfl) ?_
        refine lv_aload_n hx hb dX8_sign_42 rfl (lv_at hl 0 rfl) ?_
        refine r_get cx hw inX8_sign_8 3 27 rfl rfl (by decide) lkX8_sign_2 rfl dX8_sign_43 ?_
        refine lv_bipush (v := nI 12) hx hb dX8_sign_46 (by decide) ?_
        refine r_icmp_ne cx 55 ns 12 rfl rfl (by omega) (by omega) dX8_sign_48 (by decide) (fun c48 => ?_) (fun c48 => ?_)
        · refine lv_iconst (v := nI 0) hx hb dX8_sign_55 (by decide) ?_
          refine lv_iconst (v := nI 3) hx hb dX8_sign_56 (by decide) ?_
          refine r_callVi (n := 2) (wr := [(xn, .inl (cI, 12, .inl gA)), (xo, .inl (cI, 12, .inl gX)), (xt, .inl (cC, 12, .inl gT))]) cx hw (mX8_isThrown l D cC cI cJ cZ cD x xa xb xc xd xe xf xg xh xi xj xk xl xm xn xo xp xq xr xs xt n nx nb no na nc ne ns fee sj (thv 0 2) rs stc 0 3 H.size (by omega)) [3] [0, 1, 2] gX8_sign_X8_isThrown rfl rfl rfl (by decide +kernel) ⟨Nat.le_of_ble_eq_true rfl, Nat.le_of_ble_eq_true rfl⟩ (q0 := 3) rfl rfl rfl rfl (by decide) (by decide) (by decide) rfl rfl hl.1 (Nat.le_of_ble_eq_true rfl) dX8_sign_57 ⟨Nat.le_of_ble_eq_true rfl, Nat.le_of_ble_eq_true rfl⟩ (fun r_6 u H locs hp hw => ?_)
          have hw : ww D (TY cC cI cJ cZ cD) s A s.heap [(xn, .inl (cI, 12, .inl gA)), (xo, .inl (cI, 12, .inl gX)), (xt, .inl (cC, 12, .inl gT)), (x, .inr (10, [.ref xa, .ref xb, .ref xc, .ref xd, .ref xe, .ref xf, .ref xg, .ref xh, .ref xi, .ref xj, .ref xk, .ref xl, .ref xm, .ref xn, .ref xo, .ref xp, .ref xq, .ref xr, .ref xs, .ref xt, .int (nI n), .int (nI nx), .int (nI nb), .int (nI no), .int (nI na), .int (nI nc), .int (nI ne), .int (nI ns), .int (nI fee), .int sj, .int (thv 0 3), .int rs, .int stc]))] H locs := hw
          try dsimp only at hp
          subst hp
          refine r_if_eq cx 65 0 rfl (by omega) dX8_sign_60 (by decide) (fun c60 => ?_) (fun c60 => by exact absurd c60 (by decide))
          refine lv_aload_n hx hb dX8_sign_65 rfl (lv_at hl 0 rfl) ?_
          refine r_get cx hw inX8_sign_8 3 13 rfl rfl (by decide) lkX8_sign_3 rfl dX8_sign_66 ?_
          refine lv_aload_n hx hb dX8_sign_69 rfl (lv_at hl 0 rfl) ?_
          refine r_get cx hw inX8_sign_8 3 27 rfl rfl (by decide) lkX8_sign_2 rfl dX8_sign_70 ?_
          refine lv_iload_n hx hb dX8_sign_73 rfl (lv_at hl 1 rfl) ?_
          refine r_iast cx hw 0 1 rfl rfl ns rfl (by omega) (by omega) dX8_sign_74 (fun H locs hw => ?_)
          have hw : ww D (TY cC cI cJ cZ cD) s A s.heap [(xn, .inl (cI, 12, .inl (upd gA ns v))), (xo, .inl (cI, 12, .inl gX)), (xt, .inl (cC, 12, .inl gT)), (x, .inr (10, [.ref xa, .ref xb, .ref xc, .ref xd, .ref xe, .ref xf, .ref xg, .ref xh, .ref xi, .ref xj, .ref xk, .ref xl, .ref xm, .ref xn, .ref xo, .ref xp, .ref xq, .ref xr, .ref xs, .ref xt, .int (nI n), .int (nI nx), .int (nI nb), .int (nI no), .int (nI na), .int (nI nc), .int (nI ne), .int (nI ns), .int (nI fee), .int sj, .int (thv 0 3), .int rs, .int stc]))] H locs := hw
          refine lv_aload_n hx hb dX8_sign_75 rfl (lv_at hl 0 rfl) ?_
          refine r_get cx hw inX8_sign_8 3 14 rfl rfl (by decide) lkX8_sign_4 rfl dX8_sign_76 ?_
          refine lv_aload_n hx hb dX8_sign_79 rfl (lv_at hl 0 rfl) ?_
          refine r_get cx hw inX8_sign_8 3 27 rfl rfl (by decide) lkX8_sign_2 rfl dX8_sign_80 ?_
          refine lv_iload_n hx hb dX8_sign_83 rfl (lv_at hl 2 rfl) ?_
          refine r_iast cx hw 1 1 rfl rfl ns rfl (by omega) (by omega) dX8_sign_84 (fun H locs hw => ?_)
          have hw : ww D (TY cC cI cJ cZ cD) s A s.heap [(xn, .inl (cI, 12, .inl (upd gA ns v))), (xo, .inl (cI, 12, .inl (upd gX ns cl))), (xt, .inl (cC, 12, .inl gT)), (x, .inr (10, [.ref xa, .ref xb, .ref xc, .ref xd, .ref xe, .ref xf, .ref xg, .ref xh, .ref xi, .ref xj, .ref xk, .ref xl, .ref xm, .ref xn, .ref xo, .ref xp, .ref xq, .ref xr, .ref xs, .ref xt, .int (nI n), .int (nI nx), .int (nI nb), .int (nI no), .int (nI na), .int (nI nc), .int (nI ne), .int (nI ns), .int (nI fee), .int sj, .int (thv 0 3), .int rs, .int stc]))] H locs := hw
          refine lv_aload_n hx hb dX8_sign_85 rfl (lv_at hl 0 rfl) ?_
          refine r_get cx hw inX8_sign_8 3 19 rfl rfl (by decide) lkX8_sign_5 rfl dX8_sign_86 ?_
          refine lv_aload_n hx hb dX8_sign_89 rfl (lv_at hl 0 rfl) ?_
          refine r_get cx hw inX8_sign_8 3 27 rfl rfl (by decide) lkX8_sign_2 rfl dX8_sign_90 ?_
          refine lv_bipush (v := nI 118) hx hb dX8_sign_93 (by decide) ?_
          refine r_cast cx hw 2 0 rfl rfl ns rfl (by decide) (by omega) (by omega) dX8_sign_95 (fun H locs hw => ?_)
          have hw : ww D (TY cC cI cJ cZ cD) s A s.heap [(xn, .inl (cI, 12, .inl (upd gA ns v))), (xo, .inl (cI, 12, .inl (upd gX ns cl))), (xt, .inl (cC, 12, .inl (upd gT ns (nI 118)))), (x, .inr (10, [.ref xa, .ref xb, .ref xc, .ref xd, .ref xe, .ref xf, .ref xg, .ref xh, .ref xi, .ref xj, .ref xk, .ref xl, .ref xm, .ref xn, .ref xo, .ref xp, .ref xq, .ref xr, .ref xs, .ref xt, .int (nI n), .int (nI nx), .int (nI nb), .int (nI no), .int (nI na), .int (nI nc), .int (nI ne), .int (nI ns), .int (nI fee), .int sj, .int (thv 0 3), .int rs, .int stc]))] H locs := hw
          refine lv_aload_n hx hb dX8_sign_96 rfl (lv_at hl 0 rfl) ?_
          refine lv_dup hx hb dX8_sign_97 rfl ?_
          refine r_get cx hw inX8_sign_8 3 27 rfl rfl (by decide) lkX8_sign_2 rfl dX8_sign_98 ?_
          refine lv_iconst (v := nI 1) hx hb dX8_sign_101 (by decide) ?_
          refine r_iadd cx ns 1 rfl rfl dX8_sign_102 ?_
          refine r_put cx hw inX8_sign_8 tyX8 tyX8_ok nmX8 3 27 rfl rfl (by decide) lkX8_sign_2 rfl rfl rfl (Nat.le_of_ble_eq_true rfl) dX8_sign_103 (fun H locs hw => ?_)
          have hw : ww D (TY cC cI cJ cZ cD) s A s.heap [(xn, .inl (cI, 12, .inl (upd gA ns v))), (xo, .inl (cI, 12, .inl (upd gX ns cl))), (xt, .inl (cC, 12, .inl (upd gT ns (nI 118)))), (x, .inr (10, [.ref xa, .ref xb, .ref xc, .ref xd, .ref xe, .ref xf, .ref xg, .ref xh, .ref xi, .ref xj, .ref xk, .ref xl, .ref xm, .ref xn, .ref xo, .ref xp, .ref xq, .ref xr, .ref xs, .ref xt, .int (nI n), .int (nI nx), .int (nI nb), .int (nI no), .int (nI na), .int (nI nc), .int (nI ne), .int (nI (ns + 1)), .int (nI fee), .int sj, .int (thv 0 3), .int rs, .int stc]))] H locs := hw
          refine lv_aload_n hx hb dX8_sign_106 rfl (lv_at hl 0 rfl) ?_
          refine r_get cx hw inX8_sign_8 3 27 rfl rfl (by decide) lkX8_sign_2 rfl dX8_sign_107 ?_
          refine lv_iconst (v := nI 1) hx hb dX8_sign_110 (by decide) ?_
          refine r_isub cx (ns + 1) 1 rfl rfl (by omega) dX8_sign_111 ?_
          subst hQ
          exact r_reti (v := nI (ns + 1 - 1)) cx hr rfl hlk hw (Nat.le_of_ble_eq_true rfl) (Nat.le_of_ble_eq_true rfl) (thv 0 3, ns + 1, upd gA ns v, upd gX ns cl, upd gT ns (nI 118)) (vn ((if_neg (not_not_intro (Decidable.of_not_not b3))).trans ((if_neg (not_not_intro (cl_ok hnc c16 c26))).trans (if_neg (by omega)))) ⟨rfl, rfl, rfl, rfl, rfl⟩) [3, 0, 1, 2] (by decide) rfl dX8_sign_112
        · refine lv_iconst (v := nI 1) hx hb dX8_sign_51 (by decide) ?_
          refine lv_goto (tgt := 56) hx hb dX8_sign_52 (by decide) ?_
          refine lv_iconst (v := nI 3) hx hb dX8_sign_56 (by decide) ?_
          refine r_callVi (n := 2) (wr := [(xn, .inl (cI, 12, .inl gA)), (xo, .inl (cI, 12, .inl gX)), (xt, .inl (cC, 12, .inl gT))]) cx hw (mX8_isThrown l D cC cI cJ cZ cD x xa xb xc xd xe xf xg xh xi xj xk xl xm xn xo xp xq xr xs xt n nx nb no na nc ne ns fee sj (thv 0 2) rs stc 1 3 H.size (by omega)) [3] [0, 1, 2] gX8_sign_X8_isThrown rfl rfl rfl (by decide +kernel) ⟨Nat.le_of_ble_eq_true rfl, Nat.le_of_ble_eq_true rfl⟩ (q0 := 3) rfl rfl rfl rfl (by decide) (by decide) (by decide) rfl rfl hl.1 (Nat.le_of_ble_eq_true rfl) dX8_sign_57 ⟨Nat.le_of_ble_eq_true rfl, Nat.le_of_ble_eq_true rfl⟩ (fun r_7 u H locs hp hw => ?_)
          have hw : ww D (TY cC cI cJ cZ cD) s A s.heap [(xn, .inl (cI, 12, .inl gA)), (xo, .inl (cI, 12, .inl gX)), (xt, .inl (cC, 12, .inl gT)), (x, .inr (10, [.ref xa, .ref xb, .ref xc, .ref xd, .ref xe, .ref xf, .ref xg, .ref xh, .ref xi, .ref xj, .ref xk, .ref xl, .ref xm, .ref xn, .ref xo, .ref xp, .ref xq, .ref xr, .ref xs, .ref xt, .int (nI n), .int (nI nx), .int (nI nb), .int (nI no), .int (nI na), .int (nI nc), .int (nI ne), .int (nI ns), .int (nI fee), .int sj, .int (thv 1 3), .int rs, .int stc]))] H locs := hw
          try dsimp only at hp
          subst hp
          refine r_if_eq cx 65 1 rfl (by omega) dX8_sign_60 (by decide) (fun c60 => by exact absurd c60 (by decide)) (fun c60 => ?_)
          refine lv_iconst (v := nI 0) hx hb dX8_sign_63 (by decide) ?_
          subst hQ
          exact r_reti (v := nI 0) cx hr rfl hlk hw (Nat.le_of_ble_eq_true rfl) (Nat.le_of_ble_eq_true rfl) (thv 1 3, ns, gA, gX, gT) (by first | exact vy (if_pos b3) (by decide) ⟨rfl, rfl, rfl, rfl, rfl⟩ | exact vy ((if_neg (not_not_intro (Decidable.of_not_not b3))).trans (if_pos (cl_n1 c16))) (by decide) ⟨rfl, rfl, rfl, rfl, rfl⟩ | exact vy ((if_neg (not_not_intro (Decidable.of_not_not b3))).trans (if_pos (cl_n2 hnc c26))) (by decide) ⟨rfl, rfl, rfl, rfl, rfl⟩ | exact vy ((if_neg (not_not_intro (Decidable.of_not_not b3))).trans ((if_neg (not_not_intro (cl_ok hnc c16 c26))).trans (if_pos (by omega)))) (by decide) ⟨rfl, rfl, rfl, rfl, rfl⟩) [3, 0, 1, 2] (by decide) rfl dX8_sign_64
      · refine lv_iconst (v := nI 1) hx hb dX8_sign_29 (by decide) ?_
        refine lv_goto (tgt := 34) hx hb dX8_sign_30 (by decide) ?_
        refine lv_iconst (v := nI 2) hx hb dX8_sign_34 (by decide) ?_
        refine r_callVi (n := 2) (wr := [(xn, .inl (cI, 12, .inl gA)), (xo, .inl (cI, 12, .inl gX)), (xt, .inl (cC, 12, .inl gT))]) cx hw (mX8_isThrown l D cC cI cJ cZ cD x xa xb xc xd xe xf xg xh xi xj xk xl xm xn xo xp xq xr xs xt n nx nb no na nc ne ns fee sj (thv 0 1) rs stc 1 2 H.size (by omega)) [3] [0, 1, 2] gX8_sign_X8_isThrown rfl rfl rfl (by decide +kernel) ⟨Nat.le_of_ble_eq_true rfl, Nat.le_of_ble_eq_true rfl⟩ (q0 := 3) rfl rfl rfl rfl (by decide) (by decide) (by decide) rfl rfl hl.1 (Nat.le_of_ble_eq_true rfl) dX8_sign_35 ⟨Nat.le_of_ble_eq_true rfl, Nat.le_of_ble_eq_true rfl⟩ (fun r_8 u H locs hp hw => ?_)
        have hw : ww D (TY cC cI cJ cZ cD) s A s.heap [(xn, .inl (cI, 12, .inl gA)), (xo, .inl (cI, 12, .inl gX)), (xt, .inl (cC, 12, .inl gT)), (x, .inr (10, [.ref xa, .ref xb, .ref xc, .ref xd, .ref xe, .ref xf, .ref xg, .ref xh, .ref xi, .ref xj, .ref xk, .ref xl, .ref xm, .ref xn, .ref xo, .ref xp, .ref xq, .ref xr, .ref xs, .ref xt, .int (nI n), .int (nI nx), .int (nI nb), .int (nI no), .int (nI na), .int (nI nc), .int (nI ne), .int (nI ns), .int (nI fee), .int sj, .int (thv 1 2), .int rs, .int stc]))] H locs := hw
        try dsimp only at hp
        subst hp
        refine r_if_ne cx 63 1 rfl (by omega) dX8_sign_38 (by decide) (fun c38 => ?_) (fun c38 => by exact absurd c38 (by decide))
        refine lv_iconst (v := nI 0) hx hb dX8_sign_63 (by decide) ?_
        subst hQ
        exact r_reti (v := nI 0) cx hr rfl hlk hw (Nat.le_of_ble_eq_true rfl) (Nat.le_of_ble_eq_true rfl) (thv 1 2, ns, gA, gX, gT) (by first | exact vy (if_pos b3) (by decide) ⟨rfl, rfl, rfl, rfl, rfl⟩ | exact vy ((if_neg (not_not_intro (Decidable.of_not_not b3))).trans (if_pos (cl_n1 c16))) (by decide) ⟨rfl, rfl, rfl, rfl, rfl⟩ | exact vy ((if_neg (not_not_intro (Decidable.of_not_not b3))).trans (if_pos (cl_n2 hnc c26))) (by decide) ⟨rfl, rfl, rfl, rfl, rfl⟩ | exact vy ((if_neg (not_not_intro (Decidable.of_not_not b3))).trans ((if_neg (not_not_intro (cl_ok hnc c16 c26))).trans (if_pos (by omega)))) (by decide) ⟨rfl, rfl, rfl, rfl, rfl⟩) [3, 0, 1, 2] (by decide) rfl dX8_sign_64

theorem lkX8_withdraw_1 : Cond.fieldLink RX8 70 "SignedDocumentModel" "state" "[C" ∈ wsX8_withdraw := List.mem_of_getElem? (i := 1) rfl
theorem inX8_withdraw_8 : ∀ w ∈ u_ws RX8 TX8 33, w ∈ wsX8_withdraw := fun _ h => List.mem_cons_of_mem _ (List.mem_append_left _ (List.mem_append_right _ h))
theorem lkX8_withdraw_2 : Cond.fieldLink RX8 120 "SignedDocumentModel" "signatures" "I" ∈ wsX8_withdraw := List.mem_of_getElem? (i := 2) rfl
set_option maxRecDepth 100000 in
set_option maxHeartbeats 4000000 in
theorem mX8_withdraw (l : Launch) (D : va_G) (cC cI cJ cZ cD : ClassId) (x xa xb xc xd xe xf xg xh xi xj xk xl xm xn xo xp xq xr xs xt : Nat) (n nx nb no na nc ne ns fee : Nat) (sj th rs stc : Int32) (gT : Nat → Int32) (v : Int32) (sz : Nat) (hns : ns ≤ 12) (hgT : ∀ j, vp_nar .char (gT j) = gT j) : MI l yX8_withdraw wsX8_withdraw ({ frames := 2, cells := 0, slots := 0, locals := 43 }) [.ref x, .int v] D (TY cC cI cJ cZ cD) [(x, .inr (10, [.ref xa, .ref xb, .ref xc, .ref xd, .ref xe, .ref xf, .ref xg, .ref xh, .ref xi, .ref xj, .ref xk, .ref xl, .ref xm, .ref xn, .ref xo, .ref xp, .ref xq, .ref xr, .ref xs, .ref xt, .int (nI n), .int (nI nx), .int (nI nb), .int (nI no), .int (nI na), .int (nI nc), .int (nI ne), .int (nI ns), .int (nI fee), .int sj, .int th, .int rs, .int stc])), (xt, .inl (cC, 12, .inl gT))] sz (fun (r : Int32) => fun (uu : Int32 × (Nat → Int32) × Nat) => match uu with | (d9, gT2, k) => d9 = nI (vWit v ns gT) ∧ (((vWit v ns gT) = 0 ∧ k < ns ∧ v = nI k ∧ gT2 = upd gT k (nI 119) ∧ r = nI (ct (fun j => decide (upd gT k (nI 119) j = nI 118)) ns)) ∨ (¬ (vWit v ns gT) = 0 ∧ r = nI 0 ∧ gT2 = gT))) (fun (uu : Int32 × (Nat → Int32) × Nat) => match uu with | (d9, gT2, k) => [(x, .inr (10, [.ref xa, .ref xb, .ref xc, .ref xd, .ref xe, .ref xf, .ref xg, .ref xh, .ref xi, .ref xj, .ref xk, .ref xl, .ref xm, .ref xn, .ref xo, .ref xp, .ref xq, .ref xr, .ref xs, .ref xt, .int (nI n), .int (nI nx), .int (nI nb), .int (nI no), .int (nI na), .int (nI nc), .int (nI ne), .int (nI ns), .int (nI fee), .int sj, .int d9, .int rs, .int stc])), (xt, .inl (cC, 12, .inl gT2))]) 0 0 := by
  refine mk_MI (cc := cX8_withdraw) (maxL := 4) (ret := (some .int)) (by decide) rfl (Nat.le_of_ble_eq_true rfl) ?_
  intro p e s mI args below meth cO A cx hr hlk hnm hw ls hl
  have hx := cx.1
  have hb := cx.2.1
  have hw : ww D (TY cC cI cJ cZ cD) s A s.heap [(x, .inr (10, [.ref xa, .ref xb, .ref xc, .ref xd, .ref xe, .ref xf, .ref xg, .ref xh, .ref xi, .ref xj, .ref xk, .ref xl, .ref xm, .ref xn, .ref xo, .ref xp, .ref xq, .ref xr, .ref xs, .ref xt, .int (nI n), .int (nI nx), .int (nI nb), .int (nI no), .int (nI na), .int (nI nc), .int (nI ne), .int (nI ns), .int (nI fee), .int sj, .int th, .int rs, .int stc])), (xt, .inl (cC, 12, .inl gT))] s.heap [] := hw
  have hl : lv_has ls 4 [(0, .ref x), (1, .int v)] := hl
  generalize hQ : MQ _ _ _ _ _ _ _ = Q
  refine hp_start hw (fun H locs hw => ?_)
  refine lv_aload_n hx hb dX8_withdraw_0 rfl (lv_at hl 0 rfl) ?_
  refine lv_iload_n hx hb dX8_withdraw_1 rfl (lv_at hl 1 rfl) ?_
  refine r_callVi (n := 1) (wr := [(xt, .inl (cC, 12, .inl gT))]) cx hw (mX8_isNoSignature l D cC cI cJ cZ cD x xa xb xc xd xe xf xg xh xi xj xk xl xm xn xo xp xq xr xs xt n nx nb no na nc ne ns fee sj th rs stc v H.size hns) [0] [1] gX8_withdraw_X8_isNoSignature rfl rfl rfl (by decide +kernel) ⟨Nat.le_of_ble_eq_true rfl, Nat.le_of_ble_eq_true rfl⟩ (q0 := 0) rfl rfl rfl rfl (by decide) (by decide) (by decide) rfl rfl hl.1 (Nat.le_of_ble_eq_true rfl) dX8_withdraw_2 ⟨Nat.le_of_ble_eq_true rfl, Nat.le_of_ble_eq_true rfl⟩ (fun r_1 u H locs hp hw => ?_)
  have hw : ww D (TY cC cI cJ cZ cD) s A s.heap [(xt, .inl (cC, 12, .inl gT)), (x, .inr (10, [.ref xa, .ref xb, .ref xc, .ref xd, .ref xe, .ref xf, .ref xg, .ref xh, .ref xi, .ref xj, .ref xk, .ref xl, .ref xm, .ref xn, .ref xo, .ref xp, .ref xq, .ref xr, .ref xs, .ref xt, .int (nI n), .int (nI nx), .int (nI nb), .int (nI no), .int (nI na), .int (nI nc), .int (nI ne), .int (nI ns), .int (nI fee), .int sj, .int (tx v ns), .int rs, .int stc]))] H locs := hw
  try dsimp only at hp
  have hb9 := hp
  rcases hb9 with ⟨rfl, b2⟩ | ⟨rfl, b2⟩
  · refine r_if_ne cx 32 1 rfl (by omega) dX8_withdraw_5 (by decide) (fun c5 => ?_) (fun c5 => by exact absurd c5 (by decide))
    refine lv_iconst (v := nI 0) hx hb dX8_withdraw_32 (by decide) ?_
    subst hQ
    exact r_reti (v := nI 0) cx hr rfl hlk hw (Nat.le_of_ble_eq_true rfl) (Nat.le_of_ble_eq_true rfl) (tx v ns, gT, 0) (by first | exact vx b2 (if_pos b2) ⟨rfl, rfl⟩ | exact vy ((if_neg (not_not_intro (ix_nI hk9 (by omega)))).trans (if_pos (by rw [nI_clamp (by omega)]; exact c17))) (by decide) ⟨rfl, rfl⟩) [1, 0] (by decide) rfl dX8_withdraw_33
  · obtain ⟨k9, hk9, rfl⟩ := nI_of_ix (Decidable.of_not_not b2)
    refine r_if_ne cx 32 0 rfl (by omega) dX8_withdraw_5 (by decide) (fun c5 => by exact absurd c5 (by decide)) (fun c5 => ?_)
    refine lv_aload_n hx hb dX8_withdraw_8 rfl (lv_at hl 0 rfl) ?_
    refine lv_aload_n hx hb dX8_withdraw_9 rfl (lv_at hl 0 rfl) ?_
    refine r_get cx hw inX8_withdraw_8 1 19 rfl rfl (by decide) lkX8_withdraw_1 rfl dX8_withdraw_10 ?_
    refine lv_iload_n hx hb dX8_withdraw_13 rfl (lv_at hl 1 rfl) ?_
    refine r_cald cx hw 0 0 rfl rfl k9 rfl (by omega) (by omega) dX8_withdraw_14 ?_
    refine lv_bipush (v := nI 118) hx hb dX8_withdraw_15 (by decide) ?_
    refine lv_icmp_eq (tgt := 24) hx hb dX8_withdraw_17 (by decide) (fun c17 => ?_) (fun c17 => ?_)
    · refine lv_iconst (v := nI 0) hx hb dX8_withdraw_24 (by decide) ?_
      refine lv_iconst (v := nI 2) hx hb dX8_withdraw_25 (by decide) ?_
      refine r_callVi (n := 2) (wr := [(xt, .inl (cC, 12, .inl gT))]) cx hw (mX8_isThrown l D cC cI cJ cZ cD x xa xb xc xd xe xf xg xh xi xj xk xl xm xn xo xp xq xr xs xt n nx nb no na nc ne ns fee sj (tx (nI k9) ns) rs stc 0 2 H.size (by omega)) [1] [0] gX8_withdraw_X8_isThrown rfl rfl rfl (by decide +kernel) ⟨Nat.le_of_ble_eq_true rfl, Nat.le_of_ble_eq_true rfl⟩ (q0 := 1) rfl rfl rfl rfl (by decide) (by decide) (by decide) rfl rfl hl.1 (Nat.le_of_ble_eq_true rfl) dX8_withdraw_26 ⟨Nat.le_of_ble_eq_true rfl, Nat.le_of_ble_eq_true rfl⟩ (fun r_2 u H locs hp hw => ?_)
      have hw : ww D (TY cC cI cJ cZ cD) s A s.heap [(xt, .inl (cC, 12, .inl gT)), (x, .inr (10, [.ref xa, .ref xb, .ref xc, .ref xd, .ref xe, .ref xf, .ref xg, .ref xh, .ref xi, .ref xj, .ref xk, .ref xl, .ref xm, .ref xn, .ref xo, .ref xp, .ref xq, .ref xr, .ref xs, .ref xt, .int (nI n), .int (nI nx), .int (nI nb), .int (nI no), .int (nI na), .int (nI nc), .int (nI ne), .int (nI ns), .int (nI fee), .int sj, .int (thv 0 2), .int rs, .int stc]))] H locs := hw
      try dsimp only at hp
      subst hp
      refine r_if_eq cx 34 0 rfl (by omega) dX8_withdraw_29 (by decide) (fun c29 => ?_) (fun c29 => by exact absurd c29 (by decide))
      refine lv_aload_n hx hb dX8_withdraw_34 rfl (lv_at hl 0 rfl) ?_
      refine r_get cx hw inX8_withdraw_8 1 19 rfl rfl (by decide) lkX8_withdraw_1 rfl dX8_withdraw_35 ?_
      refine lv_iload_n hx hb dX8_withdraw_38 rfl (lv_at hl 1 rfl) ?_
      refine lv_bipush (v := nI 119) hx hb dX8_withdraw_39 (by decide) ?_
      refine r_cast cx hw 0 0 rfl rfl k9 rfl (by decide) (by omega) (by omega) dX8_withdraw_41 (fun H locs hw => ?_)
      have hw : ww D (TY cC cI cJ cZ cD) s A s.heap [(xt, .inl (cC, 12, .inl (upd gT k9 (nI 119)))), (x, .inr (10, [.ref xa, .ref xb, .ref xc, .ref xd, .ref xe, .ref xf, .ref xg, .ref xh, .ref xi, .ref xj, .ref xk, .ref xl, .ref xm, .ref xn, .ref xo, .ref xp, .ref xq, .ref xr, .ref xs, .ref xt, .int (nI n), .int (nI nx), .int (nI nb), .int (nI no), .int (nI na), .int (nI nc), .int (nI ne), .int (nI ns), .int (nI fee), .int sj, .int (thv 0 2), .int rs, .int stc]))] H locs := hw
      refine lv_iconst (v := nI 0) hx hb dX8_withdraw_42 (by decide) ?_
      refine lv_istore_n (lv' := [(2, .int (nI 0)), (0, .ref x), (1, .int (nI k9))]) hx hb dX8_withdraw_43 rfl hl (by decide) rfl (fun ls hl => ?_)
      refine lv_iconst (v := nI 0) hx hb dX8_withdraw_44 (by decide) ?_
      refine lv_istore_n (lv' := [(3, .int (nI 0)), (2, .int (nI 0)), (0, .ref x), (1, .int (nI k9))]) hx hb dX8_withdraw_45 rfl hl (by decide) rfl (fun ls hl => ?_)
      have K46_2 : ∀ (f : Nat) (q : Nat) (i : Nat), (13 - i) < f → (i ≤ ns) → (q = ct (fun j => decide (upd gT k9 (nI 119) j = nI 118)) i) → ∀ (H : Heap) (locs : List Loc), ww D (TY cC cI cJ cZ cD) s A s.heap [(xt, .inl (cC, 12, .inl (upd gT k9 (nI 119)))), (x, .inr (10, [.ref xa, .ref xb, .ref xc, .ref xd, .ref xe, .ref xf, .ref xg, .ref xh, .ref xi, .ref xj, .ref xk, .ref xl, .ref xm, .ref xn, .ref xo, .ref xp, .ref xq, .ref xr, .ref xs, .ref xt, .int (nI n), .int (nI nx), .int (nI nb), .int (nI no), .int (nI na), .int (nI nc), .int (nI ne), .int (nI ns), .int (nI fee), .int sj, .int (thv 0 2), .int rs, .int stc]))] H locs → ∀ ls : Array Slot, lv_has ls 4 [(0, .ref x), (1, .int (nI k9)), (2, .int (nI q)), (3, .int (nI i))] → W p l e ({ frames := 2, cells := 0, slots := 0, locals := 43 } : Room) s mI args below meth cO H locs 0 0 Q (F0 mI 46 ls []) := by
        intro f
        induction f with
        | zero => intro q i hms9; exact absurd hms9 (Nat.not_lt_zero _)
        | succ f ih46 =>
          intro q i hms9 hi hq H locs hw ls hl
          refine lv_iload_n hx hb dX8_withdraw_46 rfl (lv_at hl 3 rfl) ?_
          refine lv_aload_n hx hb dX8_withdraw_47 rfl (lv_at hl 0 rfl) ?_
          refine r_get cx hw inX8_withdraw_8 1 27 rfl rfl (by decide) lkX8_withdraw_2 rfl dX8_withdraw_48 ?_
          refine r_icmp_ge cx 79 i ns rfl rfl (by omega) (by omega) dX8_withdraw_51 (by decide) (fun c51 => ?_) (fun c51 => ?_)
          · refine lv_iload_n hx hb dX8_withdraw_79 rfl (lv_at hl 2 rfl) ?_
            subst hQ
            exact r_reti (v := nI q) cx hr rfl hlk hw (Nat.le_of_ble_eq_true rfl) (Nat.le_of_ble_eq_true rfl) (thv 0 2, upd gT k9 (nI 119), k9) (vn ((if_neg (not_not_intro (ix_nI hk9 (by omega)))).trans (if_neg (by rw [nI_clamp (by omega)]; exact not_not_intro c17))) ⟨hk9, rfl, rfl, by rw [hq, show i = ns by omega]⟩) [1, 0] (by decide) rfl dX8_withdraw_80
          · refine lv_iload_n hx hb dX8_withdraw_54 rfl (lv_at hl 2 rfl) ?_
            refine lv_aload_n hx hb dX8_withdraw_55 rfl (lv_at hl 0 rfl) ?_
            refine r_get cx hw inX8_withdraw_8 1 19 rfl rfl (by decide) lkX8_withdraw_1 rfl dX8_withdraw_56 ?_
            refine lv_iload_n hx hb dX8_withdraw_59 rfl (lv_at hl 3 rfl) ?_
            refine r_cald cx hw 0 0 rfl rfl i rfl (by omega) (by omega) dX8_withdraw_60 ?_
            refine lv_bipush (v := nI 118) hx hb dX8_withdraw_61 (by decide) ?_
            refine lv_icmp_ne (tgt := 70) hx hb dX8_withdraw_63 (by decide) (fun c63 => ?_) (fun c63 => ?_)
            · refine lv_iconst (v := nI 0) hx hb dX8_withdraw_70 (by decide) ?_
              refine r_iadd cx q 0 rfl rfl dX8_withdraw_71 ?_
              refine lv_istore_n (lv' := [(2, .int (nI (q + 0))), (0, .ref x), (1, .int (nI k9)), (3, .int (nI i))]) hx hb dX8_withdraw_72 rfl hl (by decide) rfl (fun ls hl => ?_)
              refine lv_iinc (v := nI (i + 1)) (lv' := [(3, .int (nI (i + 1))), (2, .int (nI (q + 0))), (0, .ref x), (1, .int (nI k9))]) hx hb dX8_withdraw_73 hl (k := 3) rfl (by rw [ii1, nI_1]) (by decide) rfl (fun ls hl => ?_)
              refine lv_goto (tgt := 46) hx hb dX8_withdraw_76 (by decide) ?_
              exact ih46 (q + 0) (i + 1) (by omega) (by omega) (by rw [hq]; exact (ct_f (fun z => c63 (of_decide_eq_true z))).symm) _ _ hw _ (lv_sub hl [2, 3, 1, 0] rfl)
            · refine lv_iconst (v := nI 1) hx hb dX8_withdraw_66 (by decide) ?_
              refine lv_goto (tgt := 71) hx hb dX8_withdraw_67 (by decide) ?_
              refine r_iadd cx q 1 rfl rfl dX8_withdraw_71 ?_
              refine lv_istore_n (lv' := [(2, .int (nI (q + 1))), (0, .ref x), (1, .int (nI k9)), (3, .int (nI i))]) hx hb dX8_withdraw_72 rfl hl (by decide) rfl (fun ls hl => ?_)
              refine lv_iinc (v := nI (i + 1)) (lv' := [(3, .int (nI (i + 1))), (2, .int (nI (q + 1))), (0, .ref x), (1, .int (nI k9))]) hx hb dX8_withdraw_73 hl (k := 3) rfl (by rw [ii1, nI_1]) (by decide) rfl (fun ls hl => ?_)
              refine lv_goto (tgt := 46) hx hb dX8_withdraw_76 (by decide) ?_
              exact ih46 (q + 1) (i + 1) (by omega) (by omega) (by rw [hq]; exact (ct_t (decide_eq_true c63)).symm) _ _ hw _ (lv_sub hl [2, 3, 1, 0] rfl)
      exact K46_2 _ 0 0 (Nat.lt_succ_self _) (by omega) (by rfl) _ _ hw _ (lv_sub hl [2, 3, 1, 0] rfl)
    · refine lv_iconst (v := nI 1) hx hb dX8_withdraw_20 (by decide) ?_
      refine lv_goto (tgt := 25) hx hb dX8_withdraw_21 (by decide) ?_
      refine lv_iconst (v := nI 2) hx hb dX8_withdraw_25 (by decide) ?_
      refine r_callVi (n := 2) (wr := [(xt, .inl (cC, 12, .inl gT))]) cx hw (mX8_isThrown l D cC cI cJ cZ cD x xa xb xc xd xe xf xg xh xi xj xk xl xm xn xo xp xq xr xs xt n nx nb no na nc ne ns fee sj (tx (nI k9) ns) rs stc 1 2 H.size (by omega)) [1] [0] gX8_withdraw_X8_isThrown rfl rfl rfl (by decide +kernel) ⟨Nat.le_of_ble_eq_true rfl, Nat.le_of_ble_eq_true rfl⟩ (q0 := 1) rfl rfl rfl rfl (by decide) (by decide) (by decide) rfl rfl hl.1 (Nat.le_of_ble_eq_true rfl) dX8_withdraw_26 ⟨Nat.le_of_ble_eq_true rfl, Nat.le_of_ble_eq_true rfl⟩ (fun r_4 u H locs hp hw => ?_)
      have hw : ww D (TY cC cI cJ cZ cD) s A s.heap [(xt, .inl (cC, 12, .inl gT)), (x, .inr (10, [.ref xa, .ref xb, .ref xc, .ref xd, .ref xe, .ref xf, .ref xg, .ref xh, .ref xi, .ref xj, .ref xk, .ref xl, .ref xm, .ref xn, .ref xo, .ref xp, .ref xq, .ref xr, .ref xs, .ref xt, .int (nI n), .int (nI nx), .int (nI nb), .int (nI no), .int (nI na), .int (nI nc), .int (nI ne), .int (nI ns), .int (nI fee), .int sj, .int (thv 1 2), .int rs, .int stc]))] H locs := hw
      try dsimp only at hp
      subst hp
      refine r_if_eq cx 34 1 rfl (by omega) dX8_withdraw_29 (by decide) (fun c29 => by exact absurd c29 (by decide)) (fun c29 => ?_)
      refine lv_iconst (v := nI 0) hx hb dX8_withdraw_32 (by decide) ?_
      subst hQ
      exact r_reti (v := nI 0) cx hr rfl hlk hw (Nat.le_of_ble_eq_true rfl) (Nat.le_of_ble_eq_true rfl) (thv 1 2, gT, 0) (by first | exact vx b2 (if_pos b2) ⟨rfl, rfl⟩ | exact vy ((if_neg (not_not_intro (ix_nI hk9 (by omega)))).trans (if_pos (by rw [nI_clamp (by omega)]; exact c17))) (by decide) ⟨rfl, rfl⟩) [1, 0] (by decide) rfl dX8_withdraw_33

theorem lkX8_voidedBy_1 : Cond.fieldLink RX8 70 "SignedDocumentModel" "state" "[C" ∈ wsX8_voidedBy := List.mem_of_getElem? (i := 1) rfl
theorem inX8_voidedBy_8 : ∀ w ∈ u_ws RX8 TX8 33, w ∈ wsX8_voidedBy := fun _ h => List.mem_cons_of_mem _ (List.mem_append_left _ (List.mem_append_right _ h))
theorem lkX8_voidedBy_2 : Cond.fieldLink RX8 56 "SignedDocumentModel" "voidedBy" "[I" ∈ wsX8_voidedBy := List.mem_of_getElem? (i := 2) rfl
set_option maxRecDepth 100000 in
set_option maxHeartbeats 4000000 in
theorem mX8_voidedBy (l : Launch) (D : va_G) (cC cI cJ cZ cD : ClassId) (x xa xb xc xd xe xf xg xh xi xj xk xl xm xn xo xp xq xr xs xt : Nat) (n nx nb no na nc ne ns fee : Nat) (sj th rs stc : Int32) (gT : Nat → Int32) (gV : Nat → Int32) (v : Int32) (sz : Nat) (hns : ns ≤ 12) : MI l yX8_voidedBy wsX8_voidedBy ({ frames := 2, cells := 0, slots := 0, locals := 43 }) [.ref x, .int v] D (TY cC cI cJ cZ cD) [(x, .inr (10, [.ref xa, .ref xb, .ref xc, .ref xd, .ref xe, .ref xf, .ref xg, .ref xh, .ref xi, .ref xj, .ref xk, .ref xl, .ref xm, .ref xn, .ref xo, .ref xp, .ref xq, .ref xr, .ref xs, .ref xt, .int (nI n), .int (nI nx), .int (nI nb), .int (nI no), .int (nI na), .int (nI nc), .int (nI ne), .int (nI ns), .int (nI fee), .int sj, .int th, .int rs, .int stc])), (xt, .inl (cC, 12, .inl gT)), (xp, .inl (cI, 12, .inl gV))] sz (fun (r : Int32) => fun (uu : Int32 × Nat) => match uu with | (d9, k) => d9 = nI (vVoi v ns gT) ∧ (((vVoi v ns gT) = 0 ∧ k < ns ∧ v = nI k ∧ r = gV k) ∨ (¬ (vVoi v ns gT) = 0 ∧ r = nI 0))) (fun (uu : Int32 × Nat) => match uu with | (d9, k) => [(x, .inr (10, [.ref xa, .ref xb, .ref xc, .ref xd, .ref xe, .ref xf, .ref xg, .ref xh, .ref xi, .ref xj, .ref xk, .ref xl, .ref xm, .ref xn, .ref xo, .ref xp, .ref xq, .ref xr, .ref xs, .ref xt, .int (nI n), .int (nI nx), .int (nI nb), .int (nI no), .int (nI na), .int (nI nc), .int (nI ne), .int (nI ns), .int (nI fee), .int sj, .int d9, .int rs, .int stc])), (xt, .inl (cC, 12, .inl gT)), (xp, .inl (cI, 12, .inl gV))]) 0 0 := by
  refine mk_MI (cc := cX8_voidedBy) (maxL := 2) (ret := (some .int)) (by decide) rfl (Nat.le_of_ble_eq_true rfl) ?_
  intro p e s mI args below meth cO A cx hr hlk hnm hw ls hl
  have hx := cx.1
  have hb := cx.2.1
  have hw : ww D (TY cC cI cJ cZ cD) s A s.heap [(x, .inr (10, [.ref xa, .ref xb, .ref xc, .ref xd, .ref xe, .ref xf, .ref xg, .ref xh, .ref xi, .ref xj, .ref xk, .ref xl, .ref xm, .ref xn, .ref xo, .ref xp, .ref xq, .ref xr, .ref xs, .ref xt, .int (nI n), .int (nI nx), .int (nI nb), .int (nI no), .int (nI na), .int (nI nc), .int (nI ne), .int (nI ns), .int (nI fee), .int sj, .int th, .int rs, .int stc])), (xt, .inl (cC, 12, .inl gT)), (xp, .inl (cI, 12, .inl gV))] s.heap [] := hw
  have hl : lv_has ls 2 [(0, .ref x), (1, .int v)] := hl
  generalize hQ : MQ _ _ _ _ _ _ _ = Q
  refine hp_start hw (fun H locs hw => ?_)
  refine lv_aload_n hx hb dX8_voidedBy_0 rfl (lv_at hl 0 rfl) ?_
  refine lv_iload_n hx hb dX8_voidedBy_1 rfl (lv_at hl 1 rfl) ?_
  refine r_callVi (n := 1) (wr := [(xt, .inl (cC, 12, .inl gT)), (xp, .inl (cI, 12, .inl gV))]) cx hw (mX8_isNoSignature l D cC cI cJ cZ cD x xa xb xc xd xe xf xg xh xi xj xk xl xm xn xo xp xq xr xs xt n nx nb no na nc ne ns fee sj th rs stc v H.size hns) [0] [1, 2] gX8_voidedBy_X8_isNoSignature rfl rfl rfl (by decide +kernel) ⟨Nat.le_of_ble_eq_true rfl, Nat.le_of_ble_eq_true rfl⟩ (q0 := 0) rfl rfl rfl rfl (by decide) (by decide) (by decide) rfl rfl hl.1 (Nat.le_of_ble_eq_true rfl) dX8_voidedBy_2 ⟨Nat.le_of_ble_eq_true rfl, Nat.le_of_ble_eq_true rfl⟩ (fun r_1 u H locs hp hw => ?_)
  have hw : ww D (TY cC cI cJ cZ cD) s A s.heap [(xt, .inl (cC, 12, .inl gT)), (xp, .inl (cI, 12, .inl gV)), (x, .inr (10, [.ref xa, .ref xb, .ref xc, .ref xd, .ref xe, .ref xf, .ref xg, .ref xh, .ref xi, .ref xj, .ref xk, .ref xl, .ref xm, .ref xn, .ref xo, .ref xp, .ref xq, .ref xr, .ref xs, .ref xt, .int (nI n), .int (nI nx), .int (nI nb), .int (nI no), .int (nI na), .int (nI nc), .int (nI ne), .int (nI ns), .int (nI fee), .int sj, .int (tx v ns), .int rs, .int stc]))] H locs := hw
  try dsimp only at hp
  have hb9 := hp
  rcases hb9 with ⟨rfl, b2⟩ | ⟨rfl, b2⟩
  · refine r_if_ne cx 32 1 rfl (by omega) dX8_voidedBy_5 (by decide) (fun c5 => ?_) (fun c5 => by exact absurd c5 (by decide))
    refine lv_iconst (v := nI 0) hx hb dX8_voidedBy_32 (by decide) ?_
    refine lv_goto (tgt := 42) hx hb dX8_voidedBy_33 (by decide) ?_
    subst hQ
    exact r_reti (v := nI 0) cx hr rfl hlk hw (Nat.le_of_ble_eq_true rfl) (Nat.le_of_ble_eq_true rfl) (tx v ns, 0) (by first | exact vx b2 (if_pos b2) rfl | exact vy ((if_neg (not_not_intro (ix_nI hk9 (by omega)))).trans (if_pos (by rw [nI_clamp (by omega)]; exact c17))) (by decide) rfl) [2, 0, 1] (by decide) rfl dX8_voidedBy_42
  · obtain ⟨k9, hk9, rfl⟩ := nI_of_ix (Decidable.of_not_not b2)
    refine r_if_ne cx 32 0 rfl (by omega) dX8_voidedBy_5 (by decide) (fun c5 => by exact absurd c5 (by decide)) (fun c5 => ?_)
    refine lv_aload_n hx hb dX8_voidedBy_8 rfl (lv_at hl 0 rfl) ?_
    refine lv_aload_n hx hb dX8_voidedBy_9 rfl (lv_at hl 0 rfl) ?_
    refine r_get cx hw inX8_voidedBy_8 2 19 rfl rfl (by decide) lkX8_voidedBy_1 rfl dX8_voidedBy_10 ?_
    refine lv_iload_n hx hb dX8_voidedBy_13 rfl (lv_at hl 1 rfl) ?_
    refine r_cald cx hw 0 0 rfl rfl k9 rfl (by omega) (by omega) dX8_voidedBy_14 ?_
    refine lv_bipush (v := nI 120) hx hb dX8_voidedBy_15 (by decide) ?_
    refine lv_icmp_eq (tgt := 24) hx hb dX8_voidedBy_17 (by decide) (fun c17 => ?_) (fun c17 => ?_)
    · refine lv_iconst (v := nI 0) hx hb dX8_voidedBy_24 (by decide) ?_
      refine lv_iconst (v := nI 2) hx hb dX8_voidedBy_25 (by decide) ?_
      refine r_callVi (n := 2) (wr := [(xt, .inl (cC, 12, .inl gT)), (xp, .inl (cI, 12, .inl gV))]) cx hw (mX8_isThrown l D cC cI cJ cZ cD x xa xb xc xd xe xf xg xh xi xj xk xl xm xn xo xp xq xr xs xt n nx nb no na nc ne ns fee sj (tx (nI k9) ns) rs stc 0 2 H.size (by omega)) [2] [0, 1] gX8_voidedBy_X8_isThrown rfl rfl rfl (by decide +kernel) ⟨Nat.le_of_ble_eq_true rfl, Nat.le_of_ble_eq_true rfl⟩ (q0 := 2) rfl rfl rfl rfl (by decide) (by decide) (by decide) rfl rfl hl.1 (Nat.le_of_ble_eq_true rfl) dX8_voidedBy_26 ⟨Nat.le_of_ble_eq_true rfl, Nat.le_of_ble_eq_true rfl⟩ (fun r_2 u H locs hp hw => ?_)
      have hw : ww D (TY cC cI cJ cZ cD) s A s.heap [(xt, .inl (cC, 12, .inl gT)), (xp, .inl (cI, 12, .inl gV)), (x, .inr (10, [.ref xa, .ref xb, .ref xc, .ref xd, .ref xe, .ref xf, .ref xg, .ref xh, .ref xi, .ref xj, .ref xk, .ref xl, .ref xm, .ref xn, .ref xo, .ref xp, .ref xq, .ref xr, .ref xs, .ref xt, .int (nI n), .int (nI nx), .int (nI nb), .int (nI no), .int (nI na), .int (nI nc), .int (nI ne), .int (nI ns), .int (nI fee), .int sj, .int (thv 0 2), .int rs, .int stc]))] H locs := hw
      try dsimp only at hp
      subst hp
      refine r_if_eq cx 36 0 rfl (by omega) dX8_voidedBy_29 (by decide) (fun c29 => ?_) (fun c29 => by exact absurd c29 (by decide))
      refine lv_aload_n hx hb dX8_voidedBy_36 rfl (lv_at hl 0 rfl) ?_
      refine r_get cx hw inX8_voidedBy_8 2 15 rfl rfl (by decide) lkX8_voidedBy_2 rfl dX8_voidedBy_37 ?_
      refine lv_iload_n hx hb dX8_voidedBy_40 rfl (lv_at hl 1 rfl) ?_
      refine r_iald cx hw 1 1 rfl rfl k9 rfl (by omega) (by omega) dX8_voidedBy_41 ?_
      subst hQ
      exact r_reti (v := gV k9) cx hr rfl hlk hw (Nat.le_of_ble_eq_true rfl) (Nat.le_of_ble_eq_true rfl) (thv 0 2, k9) (vn ((if_neg (not_not_intro (ix_nI hk9 (by omega)))).trans (if_neg (by rw [nI_clamp (by omega)]; exact not_not_intro c17))) ⟨hk9, rfl, rfl⟩) [2, 0, 1] (by decide) rfl dX8_voidedBy_42
    · refine lv_iconst (v := nI 1) hx hb dX8_voidedBy_20 (by decide) ?_
      refine lv_goto (tgt := 25) hx hb dX8_voidedBy_21 (by decide) ?_
      refine lv_iconst (v := nI 2) hx hb dX8_voidedBy_25 (by decide) ?_
      refine r_callVi (n := 2) (wr := [(xt, .inl (cC, 12, .inl gT)), (xp, .inl (cI, 12, .inl gV))]) cx hw (mX8_isThrown l D cC cI cJ cZ cD x xa xb xc xd xe xf xg xh xi xj xk xl xm xn xo xp xq xr xs xt n nx nb no na nc ne ns fee sj (tx (nI k9) ns) rs stc 1 2 H.size (by omega)) [2] [0, 1] gX8_voidedBy_X8_isThrown rfl rfl rfl (by decide +kernel) ⟨Nat.le_of_ble_eq_true rfl, Nat.le_of_ble_eq_true rfl⟩ (q0 := 2) rfl rfl rfl rfl (by decide) (by decide) (by decide) rfl rfl hl.1 (Nat.le_of_ble_eq_true rfl) dX8_voidedBy_26 ⟨Nat.le_of_ble_eq_true rfl, Nat.le_of_ble_eq_true rfl⟩ (fun r_3 u H locs hp hw => ?_)
      have hw : ww D (TY cC cI cJ cZ cD) s A s.heap [(xt, .inl (cC, 12, .inl gT)), (xp, .inl (cI, 12, .inl gV)), (x, .inr (10, [.ref xa, .ref xb, .ref xc, .ref xd, .ref xe, .ref xf, .ref xg, .ref xh, .ref xi, .ref xj, .ref xk, .ref xl, .ref xm, .ref xn, .ref xo, .ref xp, .ref xq, .ref xr, .ref xs, .ref xt, .int (nI n), .int (nI nx), .int (nI nb), .int (nI no), .int (nI na), .int (nI nc), .int (nI ne), .int (nI ns), .int (nI fee), .int sj, .int (thv 1 2), .int rs, .int stc]))] H locs := hw
      try dsimp only at hp
      subst hp
      refine r_if_eq cx 36 1 rfl (by omega) dX8_voidedBy_29 (by decide) (fun c29 => by exact absurd c29 (by decide)) (fun c29 => ?_)
      refine lv_iconst (v := nI 0) hx hb dX8_voidedBy_32 (by decide) ?_
      refine lv_goto (tgt := 42) hx hb dX8_voidedBy_33 (by decide) ?_
      subst hQ
      exact r_reti (v := nI 0) cx hr rfl hlk hw (Nat.le_of_ble_eq_true rfl) (Nat.le_of_ble_eq_true rfl) (thv 1 2, 0) (by first | exact vx b2 (if_pos b2) rfl | exact vy ((if_neg (not_not_intro (ix_nI hk9 (by omega)))).trans (if_pos (by rw [nI_clamp (by omega)]; exact c17))) (by decide) rfl) [2, 0, 1] (by decide) rfl dX8_voidedBy_42

theorem lkX8_isUntouched_1 : Cond.fieldLink RX8 67 "SignedDocumentModel" "isTouched" "[Z" ∈ wsX8_isUntouched := List.mem_of_getElem? (i := 1) rfl
theorem inX8_isUntouched_8 : ∀ w ∈ u_ws RX8 TX8 33, w ∈ wsX8_isUntouched := fun _ h => List.mem_cons_of_mem _ (List.mem_append_left _ (List.mem_append_right _ h))
set_option maxRecDepth 100000 in
set_option maxHeartbeats 4000000 in
theorem mX8_isUntouched (l : Launch) (D : va_G) (cC cI cJ cZ cD : ClassId) (x xa xb xc xd xe xf xg xh xi xj xk xl xm xn xo xp xq xr xs xt : Nat) (n nx nb no na nc ne ns fee : Nat) (sj th rs stc : Int32) (wT : Nat → Int32) (v : Int32) (sz : Nat) (hns : ns ≤ 12) : MI l yX8_isUntouched wsX8_isUntouched ({ frames := 2, cells := 0, slots := 0, locals := 43 }) [.ref x, .int v] D (TY cC cI cJ cZ cD) [(x, .inr (10, [.ref xa, .ref xb, .ref xc, .ref xd, .ref xe, .ref xf, .ref xg, .ref xh, .ref xi, .ref xj, .ref xk, .ref xl, .ref xm, .ref xn, .ref xo, .ref xp, .ref xq, .ref xr, .ref xs, .ref xt, .int (nI n), .int (nI nx), .int (nI nb), .int (nI no), .int (nI na), .int (nI nc), .int (nI ne), .int (nI ns), .int (nI fee), .int sj, .int th, .int rs, .int stc])), (xs, .inl (cZ, 12, .inl wT))] sz (fun (r : Int32) => fun (k : Nat) => ((k < ns ∧ v = nI k ∧ ((wT k = 0 ∧ r = nI 1) ∨ (¬ wT k = 0 ∧ r = nI 0))) ∨ (¬ ix v ns ∧ r = nI 0))) (fun (k : Nat) => [(x, .inr (10, [.ref xa, .ref xb, .ref xc, .ref xd, .ref xe, .ref xf, .ref xg, .ref xh, .ref xi, .ref xj, .ref xk, .ref xl, .ref xm, .ref xn, .ref xo, .ref xp, .ref xq, .ref xr, .ref xs, .ref xt, .int (nI n), .int (nI nx), .int (nI nb), .int (nI no), .int (nI na), .int (nI nc), .int (nI ne), .int (nI ns), .int (nI fee), .int sj, .int (tx v ns), .int rs, .int stc])), (xs, .inl (cZ, 12, .inl wT))]) 0 0 := by
  refine mk_MI (cc := cX8_isUntouched) (maxL := 2) (ret := (some .boolean)) (by decide) rfl (Nat.le_of_ble_eq_true rfl) ?_
  intro p e s mI args below meth cO A cx hr hlk hnm hw ls hl
  have hx := cx.1
  have hb := cx.2.1
  have hw : ww D (TY cC cI cJ cZ cD) s A s.heap [(x, .inr (10, [.ref xa, .ref xb, .ref xc, .ref xd, .ref xe, .ref xf, .ref xg, .ref xh, .ref xi, .ref xj, .ref xk, .ref xl, .ref xm, .ref xn, .ref xo, .ref xp, .ref xq, .ref xr, .ref xs, .ref xt, .int (nI n), .int (nI nx), .int (nI nb), .int (nI no), .int (nI na), .int (nI nc), .int (nI ne), .int (nI ns), .int (nI fee), .int sj, .int th, .int rs, .int stc])), (xs, .inl (cZ, 12, .inl wT))] s.heap [] := hw
  have hl : lv_has ls 2 [(0, .ref x), (1, .int v)] := hl
  generalize hQ : MQ _ _ _ _ _ _ _ = Q
  refine hp_start hw (fun H locs hw => ?_)
  refine lv_aload_n hx hb dX8_isUntouched_0 rfl (lv_at hl 0 rfl) ?_
  refine lv_iload_n hx hb dX8_isUntouched_1 rfl (lv_at hl 1 rfl) ?_
  refine r_callVi (n := 1) (wr := [(xs, .inl (cZ, 12, .inl wT))]) cx hw (mX8_isNoSignature l D cC cI cJ cZ cD x xa xb xc xd xe xf xg xh xi xj xk xl xm xn xo xp xq xr xs xt n nx nb no na nc ne ns fee sj th rs stc v H.size hns) [0] [1] gX8_isUntouched_X8_isNoSignature rfl rfl rfl (by decide +kernel) ⟨Nat.le_of_ble_eq_true rfl, Nat.le_of_ble_eq_true rfl⟩ (q0 := 0) rfl rfl rfl rfl (by decide) (by decide) (by decide) rfl rfl hl.1 (Nat.le_of_ble_eq_true rfl) dX8_isUntouched_2 ⟨Nat.le_of_ble_eq_true rfl, Nat.le_of_ble_eq_true rfl⟩ (fun r_1 u H locs hp hw => ?_)
  have hw : ww D (TY cC cI cJ cZ cD) s A s.heap [(xs, .inl (cZ, 12, .inl wT)), (x, .inr (10, [.ref xa, .ref xb, .ref xc, .ref xd, .ref xe, .ref xf, .ref xg, .ref xh, .ref xi, .ref xj, .ref xk, .ref xl, .ref xm, .ref xn, .ref xo, .ref xp, .ref xq, .ref xr, .ref xs, .ref xt, .int (nI n), .int (nI nx), .int (nI nb), .int (nI no), .int (nI na), .int (nI nc), .int (nI ne), .int (nI ns), .int (nI fee), .int sj, .int (tx v ns), .int rs, .int stc]))] H locs := hw
  try dsimp only at hp
  have hb9 := hp
  rcases hb9 with ⟨rfl, b2⟩ | ⟨rfl, b2⟩
  · refine r_if_ne cx 21 1 rfl (by omega) dX8_isUntouched_5 (by decide) (fun c5 => ?_) (fun c5 => by exact absurd c5 (by decide))
    refine lv_iconst (v := nI 0) hx hb dX8_isUntouched_21 (by decide) ?_
    subst hQ
    exact r_reti (v := nI 0) cx hr (by decide) hlk hw (Nat.le_of_ble_eq_true rfl) (Nat.le_of_ble_eq_true rfl) 0 (Or.inr ⟨b2, rfl⟩) [1, 0] (by decide) rfl dX8_isUntouched_22
  · obtain ⟨k9, hk9, rfl⟩ := nI_of_ix (Decidable.of_not_not b2)
    refine r_if_ne cx 21 0 rfl (by omega) dX8_isUntouched_5 (by decide) (fun c5 => by exact absurd c5 (by decide)) (fun c5 => ?_)
    refine lv_aload_n hx hb dX8_isUntouched_8 rfl (lv_at hl 0 rfl) ?_
    refine r_get cx hw inX8_isUntouched_8 1 18 rfl rfl (by decide) lkX8_isUntouched_1 rfl dX8_isUntouched_9 ?_
    refine lv_iload_n hx hb dX8_isUntouched_12 rfl (lv_at hl 1 rfl) ?_
    refine r_zald cx hw 0 3 rfl rfl k9 rfl (by omega) (by omega) dX8_isUntouched_13 ?_
    refine lv_if_ne (tgt := 21) hx hb dX8_isUntouched_14 (by decide) (fun c14 => ?_) (fun c14 => ?_)
    · refine lv_iconst (v := nI 0) hx hb dX8_isUntouched_21 (by decide) ?_
      subst hQ
      exact r_reti (v := nI 0) cx hr (by decide) hlk hw (Nat.le_of_ble_eq_true rfl) (Nat.le_of_ble_eq_true rfl) k9 (Or.inl ⟨hk9, rfl, Or.inr ⟨c14, rfl⟩⟩) [1, 0] (by decide) rfl dX8_isUntouched_22
    · refine lv_iconst (v := nI 1) hx hb dX8_isUntouched_17 (by decide) ?_
      refine lv_goto (tgt := 22) hx hb dX8_isUntouched_18 (by decide) ?_
      subst hQ
      exact r_reti (v := nI 1) cx hr (by decide) hlk hw (Nat.le_of_ble_eq_true rfl) (Nat.le_of_ble_eq_true rfl) k9 (Or.inl ⟨hk9, rfl, Or.inl ⟨c14, rfl⟩⟩) [1, 0] (by decide) rfl dX8_isUntouched_22

theorem lkX8_setStrict_1 : Cond.fieldLink RX8 77 "SignedDocumentModel" "thrown" "I" ∈ wsX8_setStrict := List.mem_of_getElem? (i := 1) rfl
theorem inX8_setStrict_8 : ∀ w ∈ u_ws RX8 TX8 33, w ∈ wsX8_setStrict := fun _ h => List.mem_cons_of_mem _ (List.mem_append_right _ h)
theorem lkX8_setStrict_2 : Cond.fieldLink RX8 123 "SignedDocumentModel" "isStrict" "Z" ∈ wsX8_setStrict := List.mem_of_getElem? (i := 2) rfl
set_option maxRecDepth 100000 in
set_option maxHeartbeats 4000000 in
theorem mX8_setStrict (l : Launch) (D : va_G) (cC cI cJ cZ cD : ClassId) (x xa xb xc xd xe xf xg xh xi xj xk xl xm xn xo xp xq xr xs xt : Nat) (n nx nb no na nc ne ns fee : Nat) (sj th rs stc : Int32) (b9 : Int32) (sz : Nat) (hb9 : b9 = 0 ∨ b9 = 1) (hst : stc = 0 ∨ stc = 1) : MI l yX8_setStrict wsX8_setStrict ({ frames := 0, cells := 0, slots := 0, locals := 0 }) [.ref x, .int b9] D (TY cC cI cJ cZ cD) [(x, .inr (10, [.ref xa, .ref xb, .ref xc, .ref xd, .ref xe, .ref xf, .ref xg, .ref xh, .ref xi, .ref xj, .ref xk, .ref xl, .ref xm, .ref xn, .ref xo, .ref xp, .ref xq, .ref xr, .ref xs, .ref xt, .int (nI n), .int (nI nx), .int (nI nb), .int (nI no), .int (nI na), .int (nI nc), .int (nI ne), .int (nI ns), .int (nI fee), .int sj, .int th, .int rs, .int stc]))] sz (fun (r : Int32) => fun (_ : Unit) => r = stc) (fun (_ : Unit) => [(x, .inr (10, [.ref xa, .ref xb, .ref xc, .ref xd, .ref xe, .ref xf, .ref xg, .ref xh, .ref xi, .ref xj, .ref xk, .ref xl, .ref xm, .ref xn, .ref xo, .ref xp, .ref xq, .ref xr, .ref xs, .ref xt, .int (nI n), .int (nI nx), .int (nI nb), .int (nI no), .int (nI na), .int (nI nc), .int (nI ne), .int (nI ns), .int (nI fee), .int sj, .int (nI 0), .int rs, .int b9]))]) 0 0 := by
  refine mk_MI (cc := cX8_setStrict) (maxL := 3) (ret := (some .boolean)) (by decide) rfl (Nat.le_of_ble_eq_true rfl) ?_
  intro p e s mI args below meth cO A cx hr hlk hnm hw ls hl
  have hx := cx.1
  have hb := cx.2.1
  have hw : ww D (TY cC cI cJ cZ cD) s A s.heap [(x, .inr (10, [.ref xa, .ref xb, .ref xc, .ref xd, .ref xe, .ref xf, .ref xg, .ref xh, .ref xi, .ref xj, .ref xk, .ref xl, .ref xm, .ref xn, .ref xo, .ref xp, .ref xq, .ref xr, .ref xs, .ref xt, .int (nI n), .int (nI nx), .int (nI nb), .int (nI no), .int (nI na), .int (nI nc), .int (nI ne), .int (nI ns), .int (nI fee), .int sj, .int th, .int rs, .int stc]))] s.heap [] := hw
  have hl : lv_has ls 3 [(0, .ref x), (1, .int b9)] := hl
  generalize hQ : MQ _ _ _ _ _ _ _ = Q
  refine hp_start hw (fun H locs hw => ?_)
  refine lv_aload_n hx hb dX8_setStrict_0 rfl (lv_at hl 0 rfl) ?_
  refine lv_iconst (v := nI 0) hx hb dX8_setStrict_1 (by decide) ?_
  refine r_put cx hw inX8_setStrict_8 tyX8 tyX8_ok nmX8 0 30 rfl rfl (by decide) lkX8_setStrict_1 rfl rfl rfl (Nat.le_of_ble_eq_true rfl) dX8_setStrict_2 (fun H locs hw => ?_)
  have hw : ww D (TY cC cI cJ cZ cD) s A s.heap [(x, .inr (10, [.ref xa, .ref xb, .ref xc, .ref xd, .ref xe, .ref xf, .ref xg, .ref xh, .ref xi, .ref xj, .ref xk, .ref xl, .ref xm, .ref xn, .ref xo, .ref xp, .ref xq, .ref xr, .ref xs, .ref xt, .int (nI n), .int (nI nx), .int (nI nb), .int (nI no), .int (nI na), .int (nI nc), .int (nI ne), .int (nI ns), .int (nI fee), .int sj, .int (nI 0), .int rs, .int stc]))] H locs := hw
  refine lv_aload_n hx hb dX8_setStrict_5 rfl (lv_at hl 0 rfl) ?_
  refine r_get cx hw inX8_setStrict_8 0 32 rfl rfl (by decide) lkX8_setStrict_2 rfl dX8_setStrict_6 ?_
  refine lv_istore_n (lv' := [(2, .int stc), (0, .ref x), (1, .int b9)]) hx hb dX8_setStrict_9 rfl hl (by decide) rfl (fun ls hl => ?_)
  refine lv_aload_n hx hb dX8_setStrict_10 rfl (lv_at hl 1 rfl) ?_
  refine lv_iload_n hx hb dX8_setStrict_11 rfl (lv_at hl 2 rfl) ?_
  refine r_put cx hw inX8_setStrict_8 tyX8 tyX8_ok nmX8 0 32 rfl rfl (by decide) lkX8_setStrict_2 rfl (nrZ hb9) (ftZ hb9) (Nat.le_of_ble_eq_true rfl) dX8_setStrict_12 (fun H locs hw => ?_)
  have hw : ww D (TY cC cI cJ cZ cD) s A s.heap [(x, .inr (10, [.ref xa, .ref xb, .ref xc, .ref xd, .ref xe, .ref xf, .ref xg, .ref xh, .ref xi, .ref xj, .ref xk, .ref xl, .ref xm, .ref xn, .ref xo, .ref xp, .ref xq, .ref xr, .ref xs, .ref xt, .int (nI n), .int (nI nx), .int (nI nb), .int (nI no), .int (nI na), .int (nI nc), .int (nI ne), .int (nI ns), .int (nI fee), .int sj, .int (nI 0), .int rs, .int b9]))] H locs := hw
  refine lv_iload_n hx hb dX8_setStrict_15 rfl (lv_at hl 0 rfl) ?_
  subst hQ
  exact r_reti (v := stc) cx hr (nrZ hst) hlk hw (Nat.le_of_ble_eq_true rfl) (Nat.le_of_ble_eq_true rfl) () rfl [0] (by decide) rfl dX8_setStrict_16

theorem lkX8_setFee_1 : Cond.fieldLink RX8 137 "SignedDocumentModel" "fee" "I" ∈ wsX8_setFee := List.mem_of_getElem? (i := 1) rfl
theorem inX8_setFee_8 : ∀ w ∈ u_ws RX8 TX8 33, w ∈ wsX8_setFee := fun _ h => List.mem_cons_of_mem _ (List.mem_append_right _ h)
set_option maxRecDepth 100000 in
set_option maxHeartbeats 4000000 in
theorem mX8_setFee (l : Launch) (D : va_G) (cC cI cJ cZ cD : ClassId) (x xa xb xc xd xe xf xg xh xi xj xk xl xm xn xo xp xq xr xs xt : Nat) (n nx nb no na nc ne ns fee : Nat) (sj th rs stc : Int32) (v : Int32) (sz : Nat) : MI l yX8_setFee wsX8_setFee ({ frames := 1, cells := 0, slots := 0, locals := 22 }) [.ref x, .int v] D (TY cC cI cJ cZ cD) [(x, .inr (10, [.ref xa, .ref xb, .ref xc, .ref xd, .ref xe, .ref xf, .ref xg, .ref xh, .ref xi, .ref xj, .ref xk, .ref xl, .ref xm, .ref xn, .ref xo, .ref xp, .ref xq, .ref xr, .ref xs, .ref xt, .int (nI n), .int (nI nx), .int (nI nb), .int (nI no), .int (nI na), .int (nI nc), .int (nI ne), .int (nI ns), .int (nI fee), .int sj, .int th, .int rs, .int stc]))] sz (fun (r : Int32) => fun (uu : Int32 × Nat) => match uu with | (d9, k) => ((d9 = nI 0 ∧ v = nI k ∧ k ≤ 999 ∧ r = nI fee) ∨ (d9 = nI 1 ∧ ¬ ixl v 999 ∧ r = nI 0 ∧ k = fee))) (fun (uu : Int32 × Nat) => match uu with | (d9, k) => [(x, .inr (10, [.ref xa, .ref xb, .ref xc, .ref xd, .ref xe, .ref xf, .ref xg, .ref xh, .ref xi, .ref xj, .ref xk, .ref xl, .ref xm, .ref xn, .ref xo, .ref xp, .ref xq, .ref xr, .ref xs, .ref xt, .int (nI n), .int (nI nx), .int (nI nb), .int (nI no), .int (nI na), .int (nI nc), .int (nI ne), .int (nI ns), .int (nI k), .int sj, .int d9, .int rs, .int stc]))]) 0 0 := by
  refine mk_MI (cc := cX8_setFee) (maxL := 3) (ret := (some .int)) (by decide) rfl (Nat.le_of_ble_eq_true rfl) ?_
  intro p e s mI args below meth cO A cx hr hlk hnm hw ls hl
  have hx := cx.1
  have hb := cx.2.1
  have hw : ww D (TY cC cI cJ cZ cD) s A s.heap [(x, .inr (10, [.ref xa, .ref xb, .ref xc, .ref xd, .ref xe, .ref xf, .ref xg, .ref xh, .ref xi, .ref xj, .ref xk, .ref xl, .ref xm, .ref xn, .ref xo, .ref xp, .ref xq, .ref xr, .ref xs, .ref xt, .int (nI n), .int (nI nx), .int (nI nb), .int (nI no), .int (nI na), .int (nI nc), .int (nI ne), .int (nI ns), .int (nI fee), .int sj, .int th, .int rs, .int stc]))] s.heap [] := hw
  have hl : lv_has ls 3 [(0, .ref x), (1, .int v)] := hl
  generalize hQ : MQ _ _ _ _ _ _ _ = Q
  refine hp_start hw (fun H locs hw => ?_)
  refine lv_aload_n hx hb dX8_setFee_0 rfl (lv_at hl 0 rfl) ?_
  refine lv_iload_n hx hb dX8_setFee_1 rfl (lv_at hl 1 rfl) ?_
  refine lv_iconst (v := nI 0) hx hb dX8_setFee_2 (by decide) ?_
  refine lv_sipush (v := nI 999) hx hb dX8_setFee_3 (by decide) ?_
  refine r_callSi (n := 3) (wr := [(x, .inr (10, [.ref xa, .ref xb, .ref xc, .ref xd, .ref xe, .ref xf, .ref xg, .ref xh, .ref xi, .ref xj, .ref xk, .ref xl, .ref xm, .ref xn, .ref xo, .ref xp, .ref xq, .ref xr, .ref xs, .ref xt, .int (nI n), .int (nI nx), .int (nI nb), .int (nI no), .int (nI na), .int (nI nc), .int (nI ne), .int (nI ns), .int (nI fee), .int sj, .int th, .int rs, .int stc]))]) cx hw (mX8_isIn l D cC cI cJ cZ cD v (nI 0) (nI 999) H.size) [] [0] gX8_setFee_X8_isIn rfl rfl rfl (by decide +kernel) ⟨Nat.le_of_ble_eq_true rfl, Nat.le_of_ble_eq_true rfl⟩ rfl rfl (by decide) (by decide) (by decide) rfl rfl hl.1 (Nat.le_of_ble_eq_true rfl) dX8_setFee_6 ⟨Nat.le_of_ble_eq_true rfl, Nat.le_of_ble_eq_true rfl⟩ (fun r_1 u H locs hp hw => ?_)
  have hw : ww D (TY cC cI cJ cZ cD) s A s.heap [(x, .inr (10, [.ref xa, .ref xb, .ref xc, .ref xd, .ref xe, .ref xf, .ref xg, .ref xh, .ref xi, .ref xj, .ref xk, .ref xl, .ref xm, .ref xn, .ref xo, .ref xp, .ref xq, .ref xr, .ref xs, .ref xt, .int (nI n), .int (nI nx), .int (nI nb), .int (nI no), .int (nI na), .int (nI nc), .int (nI ne), .int (nI ns), .int (nI fee), .int sj, .int th, .int rs, .int stc]))] H locs := hw
  try dsimp only at hp
  have hb9 := hp
  rcases hb9 with ⟨rfl, b6⟩ | ⟨rfl, b6⟩
  · obtain ⟨k9, hk9, rfl⟩ := nI_of_ixl ((in_ixl (by omega)).mp b6)
    refine r_if_ne cx 16 1 rfl (by omega) dX8_setFee_9 (by decide) (fun c9 => ?_) (fun c9 => by exact absurd c9 (by decide))
    refine lv_iconst (v := nI 0) hx hb dX8_setFee_16 (by decide) ?_
    refine lv_iconst (v := nI 1) hx hb dX8_setFee_17 (by decide) ?_
    refine r_callVi (n := 2) (wr := []) cx hw (mX8_isThrown l D cC cI cJ cZ cD x xa xb xc xd xe xf xg xh xi xj xk xl xm xn xo xp xq xr xs xt n nx nb no na nc ne ns fee sj th rs stc 0 1 H.size (by omega)) [0] [] gX8_setFee_X8_isThrown rfl rfl rfl (by decide +kernel) ⟨Nat.le_of_ble_eq_true rfl, Nat.le_of_ble_eq_true rfl⟩ (q0 := 0) rfl rfl rfl rfl (by decide) (by decide) (by decide) rfl rfl hl.1 (Nat.le_of_ble_eq_true rfl) dX8_setFee_18 ⟨Nat.le_of_ble_eq_true rfl, Nat.le_of_ble_eq_true rfl⟩ (fun r_2 u H locs hp hw => ?_)
    have hw : ww D (TY cC cI cJ cZ cD) s A s.heap [(x, .inr (10, [.ref xa, .ref xb, .ref xc, .ref xd, .ref xe, .ref xf, .ref xg, .ref xh, .ref xi, .ref xj, .ref xk, .ref xl, .ref xm, .ref xn, .ref xo, .ref xp, .ref xq, .ref xr, .ref xs, .ref xt, .int (nI n), .int (nI nx), .int (nI nb), .int (nI no), .int (nI na), .int (nI nc), .int (nI ne), .int (nI ns), .int (nI fee), .int sj, .int (thv 0 1), .int rs, .int stc]))] H locs := hw
    try dsimp only at hp
    subst hp
    refine r_if_eq cx 26 0 rfl (by omega) dX8_setFee_21 (by decide) (fun c21 => ?_) (fun c21 => by exact absurd c21 (by decide))
    refine lv_aload_n hx hb dX8_setFee_26 rfl (lv_at hl 0 rfl) ?_
    refine r_get cx hw inX8_setFee_8 0 28 rfl rfl (by decide) lkX8_setFee_1 rfl dX8_setFee_27 ?_
    refine lv_istore_n (lv' := [(2, .int (nI fee)), (0, .ref x), (1, .int (nI k9))]) hx hb dX8_setFee_30 rfl hl (by decide) rfl (fun ls hl => ?_)
    refine lv_aload_n hx hb dX8_setFee_31 rfl (lv_at hl 1 rfl) ?_
    refine lv_iload_n hx hb dX8_setFee_32 rfl (lv_at hl 2 rfl) ?_
    refine r_put cx hw inX8_setFee_8 tyX8 tyX8_ok nmX8 0 28 rfl rfl (by decide) lkX8_setFee_1 rfl rfl rfl (Nat.le_of_ble_eq_true rfl) dX8_setFee_33 (fun H locs hw => ?_)
    have hw : ww D (TY cC cI cJ cZ cD) s A s.heap [(x, .inr (10, [.ref xa, .ref xb, .ref xc, .ref xd, .ref xe, .ref xf, .ref xg, .ref xh, .ref xi, .ref xj, .ref xk, .ref xl, .ref xm, .ref xn, .ref xo, .ref xp, .ref xq, .ref xr, .ref xs, .ref xt, .int (nI n), .int (nI nx), .int (nI nb), .int (nI no), .int (nI na), .int (nI nc), .int (nI ne), .int (nI ns), .int (nI k9), .int sj, .int (thv 0 1), .int rs, .int stc]))] H locs := hw
    refine lv_iload_n hx hb dX8_setFee_36 rfl (lv_at hl 0 rfl) ?_
    subst hQ
    exact r_reti (v := nI fee) cx hr rfl hlk hw (Nat.le_of_ble_eq_true rfl) (Nat.le_of_ble_eq_true rfl) (thv 0 1, k9) (Or.inl ⟨rfl, rfl, hk9, rfl⟩) [0] (by decide) rfl dX8_setFee_37
  · refine r_if_ne cx 16 0 rfl (by omega) dX8_setFee_9 (by decide) (fun c9 => by exact absurd c9 (by decide)) (fun c9 => ?_)
    refine lv_iconst (v := nI 1) hx hb dX8_setFee_12 (by decide) ?_
    refine lv_goto (tgt := 17) hx hb dX8_setFee_13 (by decide) ?_
    refine lv_iconst (v := nI 1) hx hb dX8_setFee_17 (by decide) ?_
    refine r_callVi (n := 2) (wr := []) cx hw (mX8_isThrown l D cC cI cJ cZ cD x xa xb xc xd xe xf xg xh xi xj xk xl xm xn xo xp xq xr xs xt n nx nb no na nc ne ns fee sj th rs stc 1 1 H.size (by omega)) [0] [] gX8_setFee_X8_isThrown rfl rfl rfl (by decide +kernel) ⟨Nat.le_of_ble_eq_true rfl, Nat.le_of_ble_eq_true rfl⟩ (q0 := 0) rfl rfl rfl rfl (by decide) (by decide) (by decide) rfl rfl hl.1 (Nat.le_of_ble_eq_true rfl) dX8_setFee_18 ⟨Nat.le_of_ble_eq_true rfl, Nat.le_of_ble_eq_true rfl⟩ (fun r_3 u H locs hp hw => ?_)
    have hw : ww D (TY cC cI cJ cZ cD) s A s.heap [(x, .inr (10, [.ref xa, .ref xb, .ref xc, .ref xd, .ref xe, .ref xf, .ref xg, .ref xh, .ref xi, .ref xj, .ref xk, .ref xl, .ref xm, .ref xn, .ref xo, .ref xp, .ref xq, .ref xr, .ref xs, .ref xt, .int (nI n), .int (nI nx), .int (nI nb), .int (nI no), .int (nI na), .int (nI nc), .int (nI ne), .int (nI ns), .int (nI fee), .int sj, .int (thv 1 1), .int rs, .int stc]))] H locs := hw
    try dsimp only at hp
    subst hp
    refine r_if_eq cx 26 1 rfl (by omega) dX8_setFee_21 (by decide) (fun c21 => by exact absurd c21 (by decide)) (fun c21 => ?_)
    refine lv_iconst (v := nI 0) hx hb dX8_setFee_24 (by decide) ?_
    subst hQ
    exact r_reti (v := nI 0) cx hr rfl hlk hw (Nat.le_of_ble_eq_true rfl) (Nat.le_of_ble_eq_true rfl) (thv 1 1, fee) (Or.inr ⟨rfl, fun z => b6 ((in_ixl (by omega)).mpr z), rfl, rfl⟩) [0] (by decide) rfl dX8_setFee_25

theorem lkX8_bill_1 : Cond.fieldLink RX8 59 "SignedDocumentModel" "bill" "[J" ∈ wsX8_bill := List.mem_of_getElem? (i := 1) rfl
theorem inX8_bill_8 : ∀ w ∈ u_ws RX8 TX8 33, w ∈ wsX8_bill := fun _ h => List.mem_cons_of_mem _ (List.mem_append_left _ (List.mem_append_right _ h))
set_option maxRecDepth 100000 in
set_option maxHeartbeats 4000000 in
theorem mX8_bill (l : Launch) (D : va_G) (cC cI cJ cZ cD : ClassId) (x xa xb xc xd xe xf xg xh xi xj xk xl xm xn xo xp xq xr xs xt : Nat) (n nx nb no na nc ne ns fee : Nat) (sj th rs stc : Int32) (sB : Nat → Int64) (v : Int32) (sz : Nat) (hna : na ≤ 5) : ML l yX8_bill wsX8_bill ({ frames := 2, cells := 0, slots := 0, locals := 43 }) [.ref x, .int v] D (TY cC cI cJ cZ cD) [(x, .inr (10, [.ref xa, .ref xb, .ref xc, .ref xd, .ref xe, .ref xf, .ref xg, .ref xh, .ref xi, .ref xj, .ref xk, .ref xl, .ref xm, .ref xn, .ref xo, .ref xp, .ref xq, .ref xr, .ref xs, .ref xt, .int (nI n), .int (nI nx), .int (nI nb), .int (nI no), .int (nI na), .int (nI nc), .int (nI ne), .int (nI ns), .int (nI fee), .int sj, .int th, .int rs, .int stc])), (xq, .inl (cJ, 5, .inr (.inl sB)))] sz (fun (r : Int64) => fun (uu : Int32 × Nat) => match uu with | (d9, k) => ((d9 = nI 0 ∧ k < na ∧ v = nI k ∧ r = sB k) ∨ (d9 = nI 1 ∧ ¬ ix v na ∧ r = 0))) (fun (uu : Int32 × Nat) => match uu with | (d9, k) => [(x, .inr (10, [.ref xa, .ref xb, .ref xc, .ref xd, .ref xe, .ref xf, .ref xg, .ref xh, .ref xi, .ref xj, .ref xk, .ref xl, .ref xm, .ref xn, .ref xo, .ref xp, .ref xq, .ref xr, .ref xs, .ref xt, .int (nI n), .int (nI nx), .int (nI nb), .int (nI no), .int (nI na), .int (nI nc), .int (nI ne), .int (nI ns), .int (nI fee), .int sj, .int d9, .int rs, .int stc])), (xq, .inl (cJ, 5, .inr (.inl sB)))]) 0 0 := by
  refine mk_ML (cc := cX8_bill) (maxL := 2) (ret := (some .long)) (by decide) rfl (Nat.le_of_ble_eq_true rfl) ?_
  intro p e s mI args below meth cO A cx hr hlk hnm hw ls hl
  have hx := cx.1
  have hb := cx.2.1
  have hw : ww D (TY cC cI cJ cZ cD) s A s.heap [(x, .inr (10, [.ref xa, .ref xb, .ref xc, .ref xd, .ref xe, .ref xf, .ref xg, .ref xh, .ref xi, .ref xj, .ref xk, .ref xl, .ref xm, .ref xn, .ref xo, .ref xp, .ref xq, .ref xr, .ref xs, .ref xt, .int (nI n), .int (nI nx), .int (nI nb), .int (nI no), .int (nI na), .int (nI nc), .int (nI ne), .int (nI ns), .int (nI fee), .int sj, .int th, .int rs, .int stc])), (xq, .inl (cJ, 5, .inr (.inl sB)))] s.heap [] := hw
  have hl : lv_has ls 2 [(0, .ref x), (1, .int v)] := hl
  generalize hQ : MQ _ _ _ _ _ _ _ = Q
  refine hp_start hw (fun H locs hw => ?_)
  refine lv_aload_n hx hb dX8_bill_0 rfl (lv_at hl 0 rfl) ?_
  refine lv_aload_n hx hb dX8_bill_1 rfl (lv_at hl 0 rfl) ?_
  refine lv_iload_n hx hb dX8_bill_2 rfl (lv_at hl 1 rfl) ?_
  refine r_callVi (n := 1) (wr := [(xq, .inl (cJ, 5, .inr (.inl sB)))]) cx hw (mX8_isNoAuthor l D cC cI cJ cZ cD x xa xb xc xd xe xf xg xh xi xj xk xl xm xn xo xp xq xr xs xt n nx nb no na nc ne ns fee sj th rs stc v H.size hna) [0] [1] gX8_bill_X8_isNoAuthor rfl rfl rfl (by decide +kernel) ⟨Nat.le_of_ble_eq_true rfl, Nat.le_of_ble_eq_true rfl⟩ (q0 := 0) rfl rfl rfl rfl (by decide) (by decide) (by decide) rfl rfl hl.1 (Nat.le_of_ble_eq_true rfl) dX8_bill_3 ⟨Nat.le_of_ble_eq_true rfl, Nat.le_of_ble_eq_true rfl⟩ (fun r_1 u H locs hp hw => ?_)
  have hw : ww D (TY cC cI cJ cZ cD) s A s.heap [(xq, .inl (cJ, 5, .inr (.inl sB))), (x, .inr (10, [.ref xa, .ref xb, .ref xc, .ref xd, .ref xe, .ref xf, .ref xg, .ref xh, .ref xi, .ref xj, .ref xk, .ref xl, .ref xm, .ref xn, .ref xo, .ref xp, .ref xq, .ref xr, .ref xs, .ref xt, .int (nI n), .int (nI nx), .int (nI nb), .int (nI no), .int (nI na), .int (nI nc), .int (nI ne), .int (nI ns), .int (nI fee), .int sj, .int th, .int rs, .int stc]))] H locs := hw
  try dsimp only at hp
  have hb9 := hp
  rcases hb9 with ⟨rfl, b3⟩ | ⟨rfl, b3⟩
  · refine lv_iconst (v := nI 1) hx hb dX8_bill_6 (by decide) ?_
    refine r_callVi (n := 2) (wr := [(xq, .inl (cJ, 5, .inr (.inl sB)))]) cx hw (mX8_isThrown l D cC cI cJ cZ cD x xa xb xc xd xe xf xg xh xi xj xk xl xm xn xo xp xq xr xs xt n nx nb no na nc ne ns fee sj th rs stc 1 1 H.size (by omega)) [1] [0] gX8_bill_X8_isThrown rfl rfl rfl (by decide +kernel) ⟨Nat.le_of_ble_eq_true rfl, Nat.le_of_ble_eq_true rfl⟩ (q0 := 1) rfl rfl rfl rfl (by decide) (by decide) (by decide) rfl rfl hl.1 (Nat.le_of_ble_eq_true rfl) dX8_bill_7 ⟨Nat.le_of_ble_eq_true rfl, Nat.le_of_ble_eq_true rfl⟩ (fun r_2 u H locs hp hw => ?_)
    have hw : ww D (TY cC cI cJ cZ cD) s A s.heap [(xq, .inl (cJ, 5, .inr (.inl sB))), (x, .inr (10, [.ref xa, .ref xb, .ref xc, .ref xd, .ref xe, .ref xf, .ref xg, .ref xh, .ref xi, .ref xj, .ref xk, .ref xl, .ref xm, .ref xn, .ref xo, .ref xp, .ref xq, .ref xr, .ref xs, .ref xt, .int (nI n), .int (nI nx), .int (nI nb), .int (nI no), .int (nI na), .int (nI nc), .int (nI ne), .int (nI ns), .int (nI fee), .int sj, .int (thv 1 1), .int rs, .int stc]))] H locs := hw
    try dsimp only at hp
    subst hp
    refine r_if_eq cx 17 1 rfl (by omega) dX8_bill_10 (by decide) (fun c10 => by exact absurd c10 (by decide)) (fun c10 => ?_)
    refine lv_lconst (v := 0) hx hb dX8_bill_13 (by decide) ?_
    refine lv_goto (tgt := 23) hx hb dX8_bill_14 (by decide) ?_
    subst hQ
    exact r_retl (v := 0) cx hr hlk hw (Nat.le_of_ble_eq_true rfl) (Nat.le_of_ble_eq_true rfl) (thv 1 1, 0) (Or.inr ⟨rfl, b3, rfl⟩) [1, 0] (by decide) rfl dX8_bill_23
  · obtain ⟨k9, hk9, rfl⟩ := nI_of_ix (Decidable.of_not_not b3)
    refine lv_iconst (v := nI 1) hx hb dX8_bill_6 (by decide) ?_
    refine r_callVi (n := 2) (wr := [(xq, .inl (cJ, 5, .inr (.inl sB)))]) cx hw (mX8_isThrown l D cC cI cJ cZ cD x xa xb xc xd xe xf xg xh xi xj xk xl xm xn xo xp xq xr xs xt n nx nb no na nc ne ns fee sj th rs stc 0 1 H.size (by omega)) [1] [0] gX8_bill_X8_isThrown rfl rfl rfl (by decide +kernel) ⟨Nat.le_of_ble_eq_true rfl, Nat.le_of_ble_eq_true rfl⟩ (q0 := 1) rfl rfl rfl rfl (by decide) (by decide) (by decide) rfl rfl hl.1 (Nat.le_of_ble_eq_true rfl) dX8_bill_7 ⟨Nat.le_of_ble_eq_true rfl, Nat.le_of_ble_eq_true rfl⟩ (fun r_3 u H locs hp hw => ?_)
    have hw : ww D (TY cC cI cJ cZ cD) s A s.heap [(xq, .inl (cJ, 5, .inr (.inl sB))), (x, .inr (10, [.ref xa, .ref xb, .ref xc, .ref xd, .ref xe, .ref xf, .ref xg, .ref xh, .ref xi, .ref xj, .ref xk, .ref xl, .ref xm, .ref xn, .ref xo, .ref xp, .ref xq, .ref xr, .ref xs, .ref xt, .int (nI n), .int (nI nx), .int (nI nb), .int (nI no), .int (nI na), .int (nI nc), .int (nI ne), .int (nI ns), .int (nI fee), .int sj, .int (thv 0 1), .int rs, .int stc]))] H locs := hw
    try dsimp only at hp
    subst hp
    refine r_if_eq cx 17 0 rfl (by omega) dX8_bill_10 (by decide) (fun c10 => ?_) (fun c10 => by exact absurd c10 (by decide))
    refine lv_aload_n hx hb dX8_bill_17 rfl (lv_at hl 0 rfl) ?_
    refine r_get cx hw inX8_bill_8 1 16 rfl rfl (by decide) lkX8_bill_1 rfl dX8_bill_18 ?_
    refine lv_iload_n hx hb dX8_bill_21 rfl (lv_at hl 1 rfl) ?_
    refine r_lald cx hw 0 2 rfl rfl k9 rfl (by omega) (by omega) dX8_bill_22 ?_
    subst hQ
    exact r_retl (v := sB k9) cx hr hlk hw (Nat.le_of_ble_eq_true rfl) (Nat.le_of_ble_eq_true rfl) (thv 0 1, k9) (Or.inl ⟨rfl, hk9, rfl, rfl⟩) [1, 0] (by decide) rfl dX8_bill_23


set_option maxRecDepth 100000 in
set_option maxHeartbeats 4000000 in
theorem mX8_billAgain (l : Launch) (D : va_G) (cC cI cJ cZ cD : ClassId) (x xa xb xc xd xe xf xg xh xi xj xk xl xm xn xo xp xq xr xs xt : Nat) (n nx nb no na nc ne ns fee : Nat) (sj th rs stc : Int32) (sB : Nat → Int64) (v : Int32) (sz : Nat) (hna : na ≤ 5) : ML l yX8_billAgain wsX8_billAgain ({ frames := 3, cells := 0, slots := 0, locals := 64 }) [.ref x, .int v] D (TY cC cI cJ cZ cD) [(x, .inr (10, [.ref xa, .ref xb, .ref xc, .ref xd, .ref xe, .ref xf, .ref xg, .ref xh, .ref xi, .ref xj, .ref xk, .ref xl, .ref xm, .ref xn, .ref xo, .ref xp, .ref xq, .ref xr, .ref xs, .ref xt, .int (nI n), .int (nI nx), .int (nI nb), .int (nI no), .int (nI na), .int (nI nc), .int (nI ne), .int (nI ns), .int (nI fee), .int sj, .int th, .int rs, .int stc])), (xq, .inl (cJ, 5, .inr (.inl sB)))] sz (fun (r : Int64) => fun (uu : Int32 × Nat) => match uu with | (d9, k) => ((d9 = nI 0 ∧ k < na ∧ v = nI k ∧ r = sB k) ∨ (d9 = nI 1 ∧ ¬ ix v na ∧ r = 0))) (fun (uu : Int32 × Nat) => match uu with | (d9, k) => [(x, .inr (10, [.ref xa, .ref xb, .ref xc, .ref xd, .ref xe, .ref xf, .ref xg, .ref xh, .ref xi, .ref xj, .ref xk, .ref xl, .ref xm, .ref xn, .ref xo, .ref xp, .ref xq, .ref xr, .ref xs, .ref xt, .int (nI n), .int (nI nx), .int (nI nb), .int (nI no), .int (nI na), .int (nI nc), .int (nI ne), .int (nI ns), .int (nI fee), .int sj, .int d9, .int rs, .int stc])), (xq, .inl (cJ, 5, .inr (.inl sB)))]) 0 0 := by
  refine mk_ML (cc := cX8_billAgain) (maxL := 2) (ret := (some .long)) (by decide) rfl (Nat.le_of_ble_eq_true rfl) ?_
  intro p e s mI args below meth cO A cx hr hlk hnm hw ls hl
  have hx := cx.1
  have hb := cx.2.1
  have hw : ww D (TY cC cI cJ cZ cD) s A s.heap [(x, .inr (10, [.ref xa, .ref xb, .ref xc, .ref xd, .ref xe, .ref xf, .ref xg, .ref xh, .ref xi, .ref xj, .ref xk, .ref xl, .ref xm, .ref xn, .ref xo, .ref xp, .ref xq, .ref xr, .ref xs, .ref xt, .int (nI n), .int (nI nx), .int (nI nb), .int (nI no), .int (nI na), .int (nI nc), .int (nI ne), .int (nI ns), .int (nI fee), .int sj, .int th, .int rs, .int stc])), (xq, .inl (cJ, 5, .inr (.inl sB)))] s.heap [] := hw
  have hl : lv_has ls 2 [(0, .ref x), (1, .int v)] := hl
  generalize hQ : MQ _ _ _ _ _ _ _ = Q
  refine hp_start hw (fun H locs hw => ?_)
  refine lv_aload_n hx hb dX8_billAgain_0 rfl (lv_at hl 0 rfl) ?_
  refine lv_iload_n hx hb dX8_billAgain_1 rfl (lv_at hl 1 rfl) ?_
  refine r_callVl (n := 1) (wr := []) cx hw (mX8_bill l D cC cI cJ cZ cD x xa xb xc xd xe xf xg xh xi xj xk xl xm xn xo xp xq xr xs xt n nx nb no na nc ne ns fee sj th rs stc sB v H.size hna) [0, 1] [] gX8_billAgain_X8_bill rfl rfl rfl (by decide +kernel) ⟨Nat.le_of_ble_eq_true rfl, Nat.le_of_ble_eq_true rfl⟩ (q0 := 0) rfl rfl rfl rfl (by decide) (by decide) (by decide) rfl rfl hl.1 (Nat.le_of_ble_eq_true rfl) dX8_billAgain_2 ⟨Nat.le_of_ble_eq_true rfl, Nat.le_of_ble_eq_true rfl⟩ (fun r_3 u H locs hp hw => ?_)
  obtain ⟨d_1, k_2⟩ := u
  have hw : ww D (TY cC cI cJ cZ cD) s A s.heap [(x, .inr (10, [.ref xa, .ref xb, .ref xc, .ref xd, .ref xe, .ref xf, .ref xg, .ref xh, .ref xi, .ref xj, .ref xk, .ref xl, .ref xm, .ref xn, .ref xo, .ref xp, .ref xq, .ref xr, .ref xs, .ref xt, .int (nI n), .int (nI nx), .int (nI nb), .int (nI no), .int (nI na), .int (nI nc), .int (nI ne), .int (nI ns), .int (nI fee), .int sj, .int d_1, .int rs, .int stc])), (xq, .inl (cJ, 5, .inr (.inl sB)))] H locs := hw
  have hp2 := hp
  subst hQ
  exact r_retl (v := r_3) cx hr hlk hw (Nat.le_of_ble_eq_true rfl) (Nat.le_of_ble_eq_true rfl) (d_1, k_2) hp2 [0, 1] (by decide) rfl dX8_billAgain_5

theorem lkX8_refusalReason_1 : Cond.fieldLink RX8 73 "SignedDocumentModel" "reason" "C" ∈ wsX8_refusalReason := List.mem_of_getElem? (i := 1) rfl
theorem inX8_refusalReason_8 : ∀ w ∈ u_ws RX8 TX8 33, w ∈ wsX8_refusalReason := fun _ h => List.mem_cons_of_mem _ (List.mem_append_right _ h)
set_option maxRecDepth 100000 in
set_option maxHeartbeats 4000000 in
theorem mX8_refusalReason (l : Launch) (D : va_G) (cC cI cJ cZ cD : ClassId) (x xa xb xc xd xe xf xg xh xi xj xk xl xm xn xo xp xq xr xs xt : Nat) (n nx nb no na nc ne ns fee : Nat) (sj th rs stc : Int32) (sz : Nat) (hrs : vp_nar .char rs = rs) : MI l yX8_refusalReason wsX8_refusalReason ({ frames := 1, cells := 0, slots := 0, locals := 22 }) [.ref x] D (TY cC cI cJ cZ cD) [(x, .inr (10, [.ref xa, .ref xb, .ref xc, .ref xd, .ref xe, .ref xf, .ref xg, .ref xh, .ref xi, .ref xj, .ref xk, .ref xl, .ref xm, .ref xn, .ref xo, .ref xp, .ref xq, .ref xr, .ref xs, .ref xt, .int (nI n), .int (nI nx), .int (nI nb), .int (nI no), .int (nI na), .int (nI nc), .int (nI ne), .int (nI ns), .int (nI fee), .int sj, .int th, .int rs, .int stc]))] sz (fun (r : Int32) => fun (d9 : Int32) => ((rs = nI 45 ∧ d9 = nI 1 ∧ r = nI 45) ∨ (¬ rs = nI 45 ∧ d9 = nI 0 ∧ r = rs))) (fun (d9 : Int32) => [(x, .inr (10, [.ref xa, .ref xb, .ref xc, .ref xd, .ref xe, .ref xf, .ref xg, .ref xh, .ref xi, .ref xj, .ref xk, .ref xl, .ref xm, .ref xn, .ref xo, .ref xp, .ref xq, .ref xr, .ref xs, .ref xt, .int (nI n), .int (nI nx), .int (nI nb), .int (nI no), .int (nI na), .int (nI nc), .int (nI ne), .int (nI ns), .int (nI fee), .int sj, .int d9, .int rs, .int stc]))]) 0 0 := by
  refine mk_MI (cc := cX8_refusalReason) (maxL := 1) (ret := (some .char)) (by decide) rfl (Nat.le_of_ble_eq_true rfl) ?_
  intro p e s mI args below meth cO A cx hr hlk hnm hw ls hl
  have hx := cx.1
  have hb := cx.2.1
  have hw : ww D (TY cC cI cJ cZ cD) s A s.heap [(x, .inr (10, [.ref xa, .ref xb, .ref xc, .ref xd, .ref xe, .ref xf, .ref xg, .ref xh, .ref xi, .ref xj, .ref xk, .ref xl, .ref xm, .ref xn, .ref xo, .ref xp, .ref xq, .ref xr, .ref xs, .ref xt, .int (nI n), .int (nI nx), .int (nI nb), .int (nI no), .int (nI na), .int (nI nc), .int (nI ne), .int (nI ns), .int (nI fee), .int sj, .int th, .int rs, .int stc]))] s.heap [] := hw
  have hl : lv_has ls 1 [(0, .ref x)] := hl
  generalize hQ : MQ _ _ _ _ _ _ _ = Q
  refine hp_start hw (fun H locs hw => ?_)
  refine lv_aload_n hx hb dX8_refusalReason_0 rfl (lv_at hl 0 rfl) ?_
  refine lv_aload_n hx hb dX8_refusalReason_1 rfl (lv_at hl 0 rfl) ?_
  refine r_get cx hw inX8_refusalReason_8 0 31 rfl rfl (by decide) lkX8_refusalReason_1 rfl dX8_refusalReason_2 ?_
  refine lv_bipush (v := nI 45) hx hb dX8_refusalReason_5 (by decide) ?_
  refine lv_icmp_ne (tgt := 14) hx hb dX8_refusalReason_7 (by decide) (fun c7 => ?_) (fun c7 => ?_)
  · refine lv_iconst (v := nI 0) hx hb dX8_refusalReason_14 (by decide) ?_
    refine lv_iconst (v := nI 1) hx hb dX8_refusalReason_15 (by decide) ?_
    refine r_callVi (n := 2) (wr := []) cx hw (mX8_isThrown l D cC cI cJ cZ cD x xa xb xc xd xe xf xg xh xi xj xk xl xm xn xo xp xq xr xs xt n nx nb no na nc ne ns fee sj th rs stc 0 1 H.size (by omega)) [0] [] gX8_refusalReason_X8_isThrown rfl rfl rfl (by decide +kernel) ⟨Nat.le_of_ble_eq_true rfl, Nat.le_of_ble_eq_true rfl⟩ (q0 := 0) rfl rfl rfl rfl (by decide) (by decide) (by decide) rfl rfl hl.1 (Nat.le_of_ble_eq_true rfl) dX8_refusalReason_16 ⟨Nat.le_of_ble_eq_true rfl, Nat.le_of_ble_eq_true rfl⟩ (fun r_1 u H locs hp hw => ?_)
    have hw : ww D (TY cC cI cJ cZ cD) s A s.heap [(x, .inr (10, [.ref xa, .ref xb, .ref xc, .ref xd, .ref xe, .ref xf, .ref xg, .ref xh, .ref xi, .ref xj, .ref xk, .ref xl, .ref xm, .ref xn, .ref xo, .ref xp, .ref xq, .ref xr, .ref xs, .ref xt, .int (nI n), .int (nI nx), .int (nI nb), .int (nI no), .int (nI na), .int (nI nc), .int (nI ne), .int (nI ns), .int (nI fee), .int sj, .int (thv 0 1), .int rs, .int stc]))] H locs := hw
    try dsimp only at hp
    subst hp
    refine r_if_eq cx 27 0 rfl (by omega) dX8_refusalReason_19 (by decide) (fun c19 => ?_) (fun c19 => by exact absurd c19 (by decide))
    refine lv_aload_n hx hb dX8_refusalReason_27 rfl (lv_at hl 0 rfl) ?_
    refine r_get cx hw inX8_refusalReason_8 0 31 rfl rfl (by decide) lkX8_refusalReason_1 rfl dX8_refusalReason_28 ?_
    subst hQ
    exact r_reti (v := rs) cx hr (nrC hrs) hlk hw (Nat.le_of_ble_eq_true rfl) (Nat.le_of_ble_eq_true rfl) (thv 0 1) (Or.inr ⟨c7, rfl, rfl⟩) [0] (by decide) rfl dX8_refusalReason_31
  · refine lv_iconst (v := nI 1) hx hb dX8_refusalReason_10 (by decide) ?_
    refine lv_goto (tgt := 15) hx hb dX8_refusalReason_11 (by decide) ?_
    refine lv_iconst (v := nI 1) hx hb dX8_refusalReason_15 (by decide) ?_
    refine r_callVi (n := 2) (wr := []) cx hw (mX8_isThrown l D cC cI cJ cZ cD x xa xb xc xd xe xf xg xh xi xj xk xl xm xn xo xp xq xr xs xt n nx nb no na nc ne ns fee sj th rs stc 1 1 H.size (by omega)) [0] [] gX8_refusalReason_X8_isThrown rfl rfl rfl (by decide +kernel) ⟨Nat.le_of_ble_eq_true rfl, Nat.le_of_ble_eq_true rfl⟩ (q0 := 0) rfl rfl rfl rfl (by decide) (by decide) (by decide) rfl rfl hl.1 (Nat.le_of_ble_eq_true rfl) dX8_refusalReason_16 ⟨Nat.le_of_ble_eq_true rfl, Nat.le_of_ble_eq_true rfl⟩ (fun r_2 u H locs hp hw => ?_)
    have hw : ww D (TY cC cI cJ cZ cD) s A s.heap [(x, .inr (10, [.ref xa, .ref xb, .ref xc, .ref xd, .ref xe, .ref xf, .ref xg, .ref xh, .ref xi, .ref xj, .ref xk, .ref xl, .ref xm, .ref xn, .ref xo, .ref xp, .ref xq, .ref xr, .ref xs, .ref xt, .int (nI n), .int (nI nx), .int (nI nb), .int (nI no), .int (nI na), .int (nI nc), .int (nI ne), .int (nI ns), .int (nI fee), .int sj, .int (thv 1 1), .int rs, .int stc]))] H locs := hw
    try dsimp only at hp
    subst hp
    refine r_if_eq cx 27 1 rfl (by omega) dX8_refusalReason_19 (by decide) (fun c19 => by exact absurd c19 (by decide)) (fun c19 => ?_)
    refine lv_bipush (v := nI 45) hx hb dX8_refusalReason_22 (by decide) ?_
    refine lv_goto (tgt := 31) hx hb dX8_refusalReason_24 (by decide) ?_
    subst hQ
    exact r_reti (v := nI 45) cx hr (by decide) hlk hw (Nat.le_of_ble_eq_true rfl) (Nat.le_of_ble_eq_true rfl) (thv 1 1) (Or.inl ⟨c7, rfl, rfl⟩) [0] (by decide) rfl dX8_refusalReason_31

theorem lkX8_refusalSubject_1 : Cond.fieldLink RX8 73 "SignedDocumentModel" "reason" "C" ∈ wsX8_refusalSubject := List.mem_of_getElem? (i := 1) rfl
theorem inX8_refusalSubject_8 : ∀ w ∈ u_ws RX8 TX8 33, w ∈ wsX8_refusalSubject := fun _ h => List.mem_cons_of_mem _ (List.mem_append_right _ h)
theorem lkX8_refusalSubject_2 : Cond.fieldLink RX8 127 "SignedDocumentModel" "subject" "I" ∈ wsX8_refusalSubject := List.mem_of_getElem? (i := 2) rfl
set_option maxRecDepth 100000 in
set_option maxHeartbeats 4000000 in
theorem mX8_refusalSubject (l : Launch) (D : va_G) (cC cI cJ cZ cD : ClassId) (x xa xb xc xd xe xf xg xh xi xj xk xl xm xn xo xp xq xr xs xt : Nat) (n nx nb no na nc ne ns fee : Nat) (sj th rs stc : Int32) (sz : Nat) : MI l yX8_refusalSubject wsX8_refusalSubject ({ frames := 1, cells := 0, slots := 0, locals := 22 }) [.ref x] D (TY cC cI cJ cZ cD) [(x, .inr (10, [.ref xa, .ref xb, .ref xc, .ref xd, .ref xe, .ref xf, .ref xg, .ref xh, .ref xi, .ref xj, .ref xk, .ref xl, .ref xm, .ref xn, .ref xo, .ref xp, .ref xq, .ref xr, .ref xs, .ref xt, .int (nI n), .int (nI nx), .int (nI nb), .int (nI no), .int (nI na), .int (nI nc), .int (nI ne), .int (nI ns), .int (nI fee), .int sj, .int th, .int rs, .int stc]))] sz (fun (r : Int32) => fun (d9 : Int32) => ((rs = nI 45 ∧ d9 = nI 1 ∧ r = nI 0) ∨ (¬ rs = nI 45 ∧ d9 = nI 0 ∧ r = sj))) (fun (d9 : Int32) => [(x, .inr (10, [.ref xa, .ref xb, .ref xc, .ref xd, .ref xe, .ref xf, .ref xg, .ref xh, .ref xi, .ref xj, .ref xk, .ref xl, .ref xm, .ref xn, .ref xo, .ref xp, .ref xq, .ref xr, .ref xs, .ref xt, .int (nI n), .int (nI nx), .int (nI nb), .int (nI no), .int (nI na), .int (nI nc), .int (nI ne), .int (nI ns), .int (nI fee), .int sj, .int d9, .int rs, .int stc]))]) 0 0 := by
  refine mk_MI (cc := cX8_refusalSubject) (maxL := 1) (ret := (some .int)) (by decide) rfl (Nat.le_of_ble_eq_true rfl) ?_
  intro p e s mI args below meth cO A cx hr hlk hnm hw ls hl
  have hx := cx.1
  have hb := cx.2.1
  have hw : ww D (TY cC cI cJ cZ cD) s A s.heap [(x, .inr (10, [.ref xa, .ref xb, .ref xc, .ref xd, .ref xe, .ref xf, .ref xg, .ref xh, .ref xi, .ref xj, .ref xk, .ref xl, .ref xm, .ref xn, .ref xo, .ref xp, .ref xq, .ref xr, .ref xs, .ref xt, .int (nI n), .int (nI nx), .int (nI nb), .int (nI no), .int (nI na), .int (nI nc), .int (nI ne), .int (nI ns), .int (nI fee), .int sj, .int th, .int rs, .int stc]))] s.heap [] := hw
  have hl : lv_has ls 1 [(0, .ref x)] := hl
  generalize hQ : MQ _ _ _ _ _ _ _ = Q
  refine hp_start hw (fun H locs hw => ?_)
  refine lv_aload_n hx hb dX8_refusalSubject_0 rfl (lv_at hl 0 rfl) ?_
  refine lv_aload_n hx hb dX8_refusalSubject_1 rfl (lv_at hl 0 rfl) ?_
  refine r_get cx hw inX8_refusalSubject_8 0 31 rfl rfl (by decide) lkX8_refusalSubject_1 rfl dX8_refusalSubject_2 ?_
  refine lv_bipush (v := nI 45) hx hb dX8_refusalSubject_5 (by decide) ?_
  refine lv_icmp_ne (tgt := 14) hx hb dX8_refusalSubject_7 (by decide) (fun c7 => ?_) (fun c7 => ?_)
  · refine lv_iconst (v := nI 0) hx hb dX8_refusalSubject_14 (by decide) ?_
    refine lv_iconst (v := nI 1) hx hb dX8_refusalSubject_15 (by decide) ?_
    refine r_callVi (n := 2) (wr := []) cx hw (mX8_isThrown l D cC cI cJ cZ cD x xa xb xc xd xe xf xg xh xi xj xk xl xm xn xo xp xq xr xs xt n nx nb no na nc ne ns fee sj th rs stc 0 1 H.size (by omega)) [0] [] gX8_refusalSubject_X8_isThrown rfl rfl rfl (by decide +kernel) ⟨Nat.le_of_ble_eq_true rfl, Nat.le_of_ble_eq_true rfl⟩ (q0 := 0) rfl rfl rfl rfl (by decide) (by decide) (by decide) rfl rfl hl.1 (Nat.le_of_ble_eq_true rfl) dX8_refusalSubject_16 ⟨Nat.le_of_ble_eq_true rfl, Nat.le_of_ble_eq_true rfl⟩ (fun r_1 u H locs hp hw => ?_)
    have hw : ww D (TY cC cI cJ cZ cD) s A s.heap [(x, .inr (10, [.ref xa, .ref xb, .ref xc, .ref xd, .ref xe, .ref xf, .ref xg, .ref xh, .ref xi, .ref xj, .ref xk, .ref xl, .ref xm, .ref xn, .ref xo, .ref xp, .ref xq, .ref xr, .ref xs, .ref xt, .int (nI n), .int (nI nx), .int (nI nb), .int (nI no), .int (nI na), .int (nI nc), .int (nI ne), .int (nI ns), .int (nI fee), .int sj, .int (thv 0 1), .int rs, .int stc]))] H locs := hw
    try dsimp only at hp
    subst hp
    refine r_if_eq cx 26 0 rfl (by omega) dX8_refusalSubject_19 (by decide) (fun c19 => ?_) (fun c19 => by exact absurd c19 (by decide))
    refine lv_aload_n hx hb dX8_refusalSubject_26 rfl (lv_at hl 0 rfl) ?_
    refine r_get cx hw inX8_refusalSubject_8 0 29 rfl rfl (by decide) lkX8_refusalSubject_2 rfl dX8_refusalSubject_27 ?_
    subst hQ
    exact r_reti (v := sj) cx hr rfl hlk hw (Nat.le_of_ble_eq_true rfl) (Nat.le_of_ble_eq_true rfl) (thv 0 1) (Or.inr ⟨c7, rfl, rfl⟩) [0] (by decide) rfl dX8_refusalSubject_30
  · refine lv_iconst (v := nI 1) hx hb dX8_refusalSubject_10 (by decide) ?_
    refine lv_goto (tgt := 15) hx hb dX8_refusalSubject_11 (by decide) ?_
    refine lv_iconst (v := nI 1) hx hb dX8_refusalSubject_15 (by decide) ?_
    refine r_callVi (n := 2) (wr := []) cx hw (mX8_isThrown l D cC cI cJ cZ cD x xa xb xc xd xe xf xg xh xi xj xk xl xm xn xo xp xq xr xs xt n nx nb no na nc ne ns fee sj th rs stc 1 1 H.size (by omega)) [0] [] gX8_refusalSubject_X8_isThrown rfl rfl rfl (by decide +kernel) ⟨Nat.le_of_ble_eq_true rfl, Nat.le_of_ble_eq_true rfl⟩ (q0 := 0) rfl rfl rfl rfl (by decide) (by decide) (by decide) rfl rfl hl.1 (Nat.le_of_ble_eq_true rfl) dX8_refusalSubject_16 ⟨Nat.le_of_ble_eq_true rfl, Nat.le_of_ble_eq_true rfl⟩ (fun r_2 u H locs hp hw => ?_)
    have hw : ww D (TY cC cI cJ cZ cD) s A s.heap [(x, .inr (10, [.ref xa, .ref xb, .ref xc, .ref xd, .ref xe, .ref xf, .ref xg, .ref xh, .ref xi, .ref xj, .ref xk, .ref xl, .ref xm, .ref xn, .ref xo, .ref xp, .ref xq, .ref xr, .ref xs, .ref xt, .int (nI n), .int (nI nx), .int (nI nb), .int (nI no), .int (nI na), .int (nI nc), .int (nI ne), .int (nI ns), .int (nI fee), .int sj, .int (thv 1 1), .int rs, .int stc]))] H locs := hw
    try dsimp only at hp
    subst hp
    refine r_if_eq cx 26 1 rfl (by omega) dX8_refusalSubject_19 (by decide) (fun c19 => by exact absurd c19 (by decide)) (fun c19 => ?_)
    refine lv_iconst (v := nI 0) hx hb dX8_refusalSubject_22 (by decide) ?_
    refine lv_goto (tgt := 30) hx hb dX8_refusalSubject_23 (by decide) ?_
    subst hQ
    exact r_reti (v := nI 0) cx hr rfl hlk hw (Nat.le_of_ble_eq_true rfl) (Nat.le_of_ble_eq_true rfl) (thv 1 1) (Or.inl ⟨c7, rfl, rfl⟩) [0] (by decide) rfl dX8_refusalSubject_30

