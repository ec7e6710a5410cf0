theorem lkX8_writeText_1 : Cond.fieldLink RX8 77 "SignedDocumentModel" "thrown" "I" ∈ wsX8_writeText := List.mem_of_getElem? (i := 1) rfl
theorem inX8_writeText_8 : ∀ w ∈ u_ws RX8 TX8 33, w ∈ wsX8_writeText := fun _ h => List.mem_cons_of_mem _ (List.mem_append_left _ (List.mem_append_right _ h))
theorem lkX8_writeText_2 : Cond.fieldLink RX8 177 "SignedDocumentModel" "written" "I" ∈ wsX8_writeText := List.mem_of_getElem? (i := 2) rfl
theorem lkX8_writeText_3 : Cond.fieldLink RX8 98 "SignedDocumentModel" "length" "I" ∈ wsX8_writeText := List.mem_of_getElem? (i := 3) rfl
theorem lkX8_writeText_4 : Cond.fieldLink RX8 20 "SignedDocumentModel" "clause" "[I" ∈ wsX8_writeText := List.mem_of_getElem? (i := 4) rfl
theorem lkX8_writeText_5 : Cond.fieldLink RX8 7 "SignedDocumentModel" "ch" "[C" ∈ wsX8_writeText := List.mem_of_getElem? (i := 5) rfl
set_option maxRecDepth 100000 in
set_option maxHeartbeats 4000000 in
theorem mX8_writeText (l : Launch) (D : va_G) (cC cI cJ cZ cD : ClassId) (x xa xb xc xd xe xf xg xh xi xj xk xl xm xn xo xp xq xr xs xt : Nat) (n nx nb no na nc ne ns fee : Nat) (sj th rs stc : Int32) (tL : Nat → Int32) (tC : Nat → Int32) (lF : Nat → Int32) (sz : Nat) (hn : n ≤ 60) (htL : ∀ j, vp_nar .char (tL j) = tL j) (hlF : ∀ j, vp_nar .char (lF j) = lF j) (hC9 : ∀ j, j < n → tC j = (-1) ∨ 0 ≤ tC j) : MI l yX8_writeText wsX8_writeText ({ frames := 1, cells := 0, slots := 0, locals := 21 }) [.ref x] D (TY cC cI cJ cZ cD) [(x, .inr (10, [.ref xa, .ref xb, .ref xc, .ref xd, .ref xe, .ref xf, .ref xg, .ref xh, .ref xi, .ref xj, .ref xk, .ref xl, .ref xm, .ref xn, .ref xo, .ref xp, .ref xq, .ref xr, .ref xs, .ref xt, .int (nI n), .int (nI nx), .int (nI nb), .int (nI no), .int (nI na), .int (nI nc), .int (nI ne), .int (nI ns), .int (nI fee), .int sj, .int th, .int rs, .int stc])), (xa, .inl (cC, 60, .inl tL)), (xd, .inl (cI, 60, .inl tC)), (xh, .inl (cC, 400, .inl lF))] sz (fun (r : Int32) => fun (uu : Nat × (Nat → Int32)) => match uu with | (no2, lF2) => r = nI no2 ∧ no2 = wtn tL tC lF n ∧ lF2 = wtf tL tC lF n) (fun (uu : Nat × (Nat → Int32)) => match uu with | (no2, lF2) => [(x, .inr (10, [.ref xa, .ref xb, .ref xc, .ref xd, .ref xe, .ref xf, .ref xg, .ref xh, .ref xi, .ref xj, .ref xk, .ref xl, .ref xm, .ref xn, .ref xo, .ref xp, .ref xq, .ref xr, .ref xs, .ref xt, .int (nI n), .int (nI nx), .int (nI nb), .int (nI no2), .int (nI na), .int (nI nc), .int (nI ne), .int (nI ns), .int (nI fee), .int sj, .int (nI 0), .int rs, .int stc])), (xa, .inl (cC, 60, .inl tL)), (xd, .inl (cI, 60, .inl tC)), (xh, .inl (cC, 400, .inl lF2))]) 0 0 := by
  refine mk_MI (cc := cX8_writeText) (maxL := 4) (ret := (some .int)) (by decide) rfl (Nat.le_of_ble_eq_true rfl) ?_
  intro p e s mI args below meth cO A cx hr hlk hnm hw ls hl
  have hx := cx.1
  have hb := cx.2.1
  have hw : ww D (TY cC cI cJ cZ cD) s A s.heap [(x, .inr (10, [.ref xa, .ref xb, .ref xc, .ref xd, .ref xe, .ref xf, .ref xg, .ref xh, .ref xi, .ref xj, .ref xk, .ref xl, .ref xm, .ref xn, .ref xo, .ref xp, .ref xq, .ref xr, .ref xs, .ref xt, .int (nI n), .int (nI nx), .int (nI nb), .int (nI no), .int (nI na), .int (nI nc), .int (nI ne), .int (nI ns), .int (nI fee), .int sj, .int th, .int rs, .int stc])), (xa, .inl (cC, 60, .inl tL)), (xd, .inl (cI, 60, .inl tC)), (xh, .inl (cC, 400, .inl lF))] s.heap [] := hw
  have hl : lv_has ls 4 [(0, .ref x)] := hl
  generalize hQ : MQ _ _ _ _ _ _ _ = Q
  refine hp_start hw (fun H locs hw => ?_)
  refine lv_aload_n hx hb dX8_writeText_0 rfl (lv_at hl 0 rfl) ?_
  refine lv_iconst (v := nI 0) hx hb dX8_writeText_1 (by decide) ?_
  refine r_put cx hw inX8_writeText_8 tyX8 tyX8_ok nmX8 0 30 rfl rfl (by decide) lkX8_writeText_1 rfl rfl rfl (Nat.le_of_ble_eq_true rfl) dX8_writeText_2 (fun H locs hw => ?_)
  have hw : ww D (TY cC cI cJ cZ cD) s A s.heap [(x, .inr (10, [.ref xa, .ref xb, .ref xc, .ref xd, .ref xe, .ref xf, .ref xg, .ref xh, .ref xi, .ref xj, .ref xk, .ref xl, .ref xm, .ref xn, .ref xo, .ref xp, .ref xq, .ref xr, .ref xs, .ref xt, .int (nI n), .int (nI nx), .int (nI nb), .int (nI no), .int (nI na), .int (nI nc), .int (nI ne), .int (nI ns), .int (nI fee), .int sj, .int (nI 0), .int rs, .int stc])), (xa, .inl (cC, 60, .inl tL)), (xd, .inl (cI, 60, .inl tC)), (xh, .inl (cC, 400, .inl lF))] H locs := hw
  refine lv_aload_n hx hb dX8_writeText_5 rfl (lv_at hl 0 rfl) ?_
  refine lv_iconst (v := nI 0) hx hb dX8_writeText_6 (by decide) ?_
  refine r_put cx hw inX8_writeText_8 tyX8 tyX8_ok nmX8 0 23 rfl rfl (by decide) lkX8_writeText_2 rfl rfl rfl (Nat.le_of_ble_eq_true rfl) dX8_writeText_7 (fun H locs hw => ?_)
  have hw : ww D (TY cC cI cJ cZ cD) s A s.heap [(x, .inr (10, [.ref xa, .ref xb, .ref xc, .ref xd, .ref xe, .ref xf, .ref xg, .ref xh, .ref xi, .ref xj, .ref xk, .ref xl, .ref xm, .ref xn, .ref xo, .ref xp, .ref xq, .ref xr, .ref xs, .ref xt, .int (nI n), .int (nI nx), .int (nI nb), .int (nI 0), .int (nI na), .int (nI nc), .int (nI ne), .int (nI ns), .int (nI fee), .int sj, .int (nI 0), .int rs, .int stc])), (xa, .inl (cC, 60, .inl tL)), (xd, .inl (cI, 60, .inl tC)), (xh, .inl (cC, 400, .inl lF))] H locs := hw
  refine lv_iconst (v := (-1)) hx hb dX8_writeText_10 (by decide) ?_
  refine lv_istore_n (lv' := [(1, .int (-1)), (0, .ref x)]) hx hb dX8_writeText_11 rfl hl (by decide) rfl (fun ls hl => ?_)
  refine lv_iconst (v := nI 0) hx hb dX8_writeText_12 (by decide) ?_
  refine lv_istore_n (lv' := [(2, .int (nI 0)), (1, .int (-1)), (0, .ref x)]) hx hb dX8_writeText_13 rfl hl (by decide) rfl (fun ls hl => ?_)
  have K14_0 : ∀ (f : Nat) (o : Int32) (i : Nat) (N1 : Nat) (F1 : Nat → Int32), (62 - i) < f → (i ≤ n + 1) → (i ≤ n → o = (wtx tL tC lF i).2.2 ∧ N1 = (wtx tL tC lF i).1 ∧ F1 = (wtx tL tC lF i).2.1) → (i = n + 1 → N1 = wtn tL tC lF n ∧ F1 = wtf tL tC lF n) → (∀ j, vp_nar .char (F1 j) = F1 j) → ∀ (H : Heap) (locs : List Loc), ww D (TY cC cI cJ cZ cD) s A s.heap [(x, .inr (10, [.ref xa, .ref xb, .ref xc, .ref xd, .ref xe, .ref xf, .ref xg, .ref xh, .ref xi, .ref xj, .ref xk, .ref xl, .ref xm, .ref xn, .ref xo, .ref xp, .ref xq, .ref xr, .ref xs, .ref xt, .int (nI n), .int (nI nx), .int (nI nb), .int (nI N1), .int (nI na), .int (nI nc), .int (nI ne), .int (nI ns), .int (nI fee), .int sj, .int (nI 0), .int rs, .int stc])), (xa, .inl (cC, 60, .inl tL)), (xd, .inl (cI, 60, .inl tC)), (xh, .inl (cC, 400, .inl F1))] H locs → ∀ ls : Array Slot, lv_has ls 4 [(0, .ref x), (1, .int o), (2, .int (nI i))] → W p l e ({ frames := 1, cells := 0, slots := 0, locals := 21 } : Room) s mI args below meth cO H locs 0 0 Q (F0 mI 14 ls []) := by
    intro f
    induction f with
    | zero => intro o i N1 F1 hms9; exact absurd hms9 (Nat.not_lt_zero _)
    | succ f ih14 =>
      intro o i N1 F1 hms9 hi hm he hFc H locs hw ls hl
      refine lv_iload_n hx hb dX8_writeText_14 rfl (lv_at hl 2 rfl) ?_
      refine lv_aload_n hx hb dX8_writeText_15 rfl (lv_at hl 0 rfl) ?_
      refine r_get cx hw inX8_writeText_8 0 20 rfl rfl (by decide) lkX8_writeText_3 rfl dX8_writeText_16 ?_
      refine r_icmp_gt cx 112 i n rfl rfl (by omega) (by omega) dX8_writeText_19 (by decide) (fun c19 => ?_) (fun c19 => ?_)
      · refine lv_aload_n hx hb dX8_writeText_112 rfl (lv_at hl 0 rfl) ?_
        refine r_get cx hw inX8_writeText_8 0 23 rfl rfl (by decide) lkX8_writeText_2 rfl dX8_writeText_113 ?_
        subst hQ
        exact r_reti (v := nI N1) cx hr rfl hlk hw (Nat.le_of_ble_eq_true rfl) (Nat.le_of_ble_eq_true rfl) (N1, F1) ⟨rfl, (he (by omega)).1, (he (by omega)).2⟩ [0, 1, 2, 3] (by decide) rfl dX8_writeText_116
      · obtain ⟨ho, hN1, hF1⟩ := hm (by omega)
        have hle : N1 + b1 o ≤ 5 * i := by rw [hN1, ho]; exact wtx_le i
        have hov : o = (-1) ∨ 0 ≤ o := by rw [ho]; exact wtx_o hC9 (by omega)
        have hon := i_neg hov
        refine lv_iload_n hx hb dX8_writeText_22 rfl (lv_at hl 2 rfl) ?_
        refine lv_aload_n hx hb dX8_writeText_23 rfl (lv_at hl 0 rfl) ?_
        refine r_get cx hw inX8_writeText_8 0 20 rfl rfl (by decide) lkX8_writeText_3 rfl dX8_writeText_24 ?_
        refine r_icmp_ge cx 39 i n rfl rfl (by omega) (by omega) dX8_writeText_27 (by decide) (fun c27 => ?_) (fun c27 => ?_)
        · refine lv_iconst (v := (-1)) hx hb dX8_writeText_39 (by decide) ?_
          refine lv_istore_n (lv' := [(3, .int (-1)), (0, .ref x), (1, .int o), (2, .int (nI i))]) hx hb dX8_writeText_40 rfl hl (by decide) rfl (fun ls hl => ?_)
          refine lv_iload_n hx hb dX8_writeText_41 rfl (lv_at hl 2 rfl) ?_
          refine lv_if_lt (tgt := 56) hx hb dX8_writeText_42 (by decide) (fun c42 => ?_) (fun c42 => ?_)
          · refine lv_iload_n hx hb dX8_writeText_56 rfl (lv_at hl 0 rfl) ?_
            refine lv_if_lt (tgt := 86) hx hb dX8_writeText_57 (by decide) (fun c57 => ?_) (fun c57 => by exact absurd c57 (by decide))
            refine lv_iload_n hx hb dX8_writeText_86 rfl (lv_at hl 3 rfl) ?_
            refine lv_aload_n hx hb dX8_writeText_87 rfl (lv_at hl 1 rfl) ?_
            refine r_get cx hw inX8_writeText_8 0 20 rfl rfl (by decide) lkX8_writeText_3 rfl dX8_writeText_88 ?_
            refine r_icmp_ge cx 104 i n rfl rfl (by omega) (by omega) dX8_writeText_91 (by decide) (fun c91 => ?_) (fun c91 => by omega)
            refine lv_iload_n hx hb dX8_writeText_104 rfl (lv_at hl 0 rfl) ?_
            refine lv_istore_n (lv' := [(1, .int (-1)), (3, .int (-1)), (0, .ref x), (2, .int (nI i))]) hx hb dX8_writeText_105 rfl hl (by decide) rfl (fun ls hl => ?_)
            refine lv_iinc (v := nI (i + 1)) (lv' := [(2, .int (nI (i + 1))), (1, .int (-1)), (3, .int (-1)), (0, .ref x)]) hx hb dX8_writeText_106 hl (k := 3) rfl (by rw [ii1, nI_1]) (by decide) rfl (fun ls hl => ?_)
            refine lv_goto (tgt := 14) hx hb dX8_writeText_109 (by decide) ?_
            exact ih14 (-1) (i + 1) N1 F1 (by omega) (by omega) (by intro z; omega) (by intro _; have e : i = n := (by omega); rw [e] at ho hN1 hF1; exact ⟨by rw [wtn, ← ho, ← hN1, ← hF1]; (first | rw [wcA (hon.mp c42)] | rw [wcB (fun z => c42 (hon.mpr z))]), by rw [wtf, ← ho, ← hN1, ← hF1]; (first | rw [wcA (hon.mp c42)] | rw [wcB (fun z => c42 (hon.mpr z))])⟩) (by exact hFc) _ _ hw _ (lv_sub hl [3, 1, 0] rfl)
          · refine lv_iload_n hx hb dX8_writeText_45 rfl (lv_at hl 0 rfl) ?_
            refine lv_iload_n hx hb dX8_writeText_46 rfl (lv_at hl 2 rfl) ?_
            refine lv_icmp_eq (tgt := 56) hx hb dX8_writeText_47 (by decide) (fun c47 => by exact (c42 (by rw [← c47]; decide)).elim) (fun c47 => ?_)
            refine lv_aload_n hx hb dX8_writeText_50 rfl (lv_at hl 1 rfl) ?_
            refine lv_bipush (v := nI 93) hx hb dX8_writeText_51 (by decide) ?_
            refine r_callVv (n := 1) (wr := [(xa, .inl (cC, 60, .inl tL)), (xd, .inl (cI, 60, .inl tC))]) cx hw (mX8_writes l D cC cI cJ cZ cD x xa xb xc xd xe xf xg xh xi xj xk xl xm xn xo xp xq xr xs xt n nx nb N1 na nc ne ns fee sj (nI 0) rs stc F1 (nI 93) H.size (by (have hb8 : b1 o = 1 := if_neg (fun z => c42 (hon.mpr z)); omega)) (by decide) hFc) [0, 3] [1, 2] gX8_writeText_X8_writes rfl rfl rfl (by decide +kernel) ⟨Nat.le_of_ble_eq_true rfl, Nat.le_of_ble_eq_true rfl⟩ (q0 := 0) rfl rfl rfl rfl (by decide) (by decide) (by decide) rfl rfl hl.1 (Nat.le_of_ble_eq_true rfl) dX8_writeText_53 ⟨Nat.le_of_ble_eq_true rfl, Nat.le_of_ble_eq_true rfl⟩ (fun u H locs hp hw => ?_)
            have hw : ww D (TY cC cI cJ cZ cD) s A s.heap [(xa, .inl (cC, 60, .inl tL)), (xd, .inl (cI, 60, .inl tC)), (x, .inr (10, [.ref xa, .ref xb, .ref xc, .ref xd, .ref xe, .ref xf, .ref xg, .ref xh, .ref xi, .ref xj, .ref xk, .ref xl, .ref xm, .ref xn, .ref xo, .ref xp, .ref xq, .ref xr, .ref xs, .ref xt, .int (nI n), .int (nI nx), .int (nI nb), .int (nI (N1 + 1)), .int (nI na), .int (nI nc), .int (nI ne), .int (nI ns), .int (nI fee), .int sj, .int (nI 0), .int rs, .int stc])), (xh, .inl (cC, 400, .inl (upd F1 N1 (nI 93))))] H locs := hw
            refine lv_iload_n hx hb dX8_writeText_56 rfl (lv_at hl 0 rfl) ?_
            refine lv_if_lt (tgt := 86) hx hb dX8_writeText_57 (by decide) (fun c57 => ?_) (fun c57 => by exact absurd c57 (by decide))
            refine lv_iload_n hx hb dX8_writeText_86 rfl (lv_at hl 3 rfl) ?_
            refine lv_aload_n hx hb dX8_writeText_87 rfl (lv_at hl 1 rfl) ?_
            refine r_get cx hw inX8_writeText_8 2 20 rfl rfl (by decide) lkX8_writeText_3 rfl dX8_writeText_88 ?_
            refine r_icmp_ge cx 104 i n rfl rfl (by omega) (by omega) dX8_writeText_91 (by decide) (fun c91 => ?_) (fun c91 => by omega)
            refine lv_iload_n hx hb dX8_writeText_104 rfl (lv_at hl 0 rfl) ?_
            refine lv_istore_n (lv' := [(1, .int (-1)), (3, .int (-1)), (0, .ref x), (2, .int (nI i))]) hx hb dX8_writeText_105 rfl hl (by decide) rfl (fun ls hl => ?_)
            refine lv_iinc (v := nI (i + 1)) (lv' := [(2, .int (nI (i + 1))), (1, .int (-1)), (3, .int (-1)), (0, .ref x)]) hx hb dX8_writeText_106 hl (k := 3) rfl (by rw [ii1, nI_1]) (by decide) rfl (fun ls hl => ?_)
            refine lv_goto (tgt := 14) hx hb dX8_writeText_109 (by decide) ?_
            exact ih14 (-1) (i + 1) (N1 + 1) (upd F1 N1 (nI 93)) (by omega) (by omega) (by intro z; omega) (by intro _; have e : i = n := (by omega); rw [e] at ho hN1 hF1; exact ⟨by rw [wtn, ← ho, ← hN1, ← hF1]; (first | rw [wcA (hon.mp c42)] | rw [wcB (fun z => c42 (hon.mpr z))]), by rw [wtf, ← ho, ← hN1, ← hF1]; (first | rw [wcA (hon.mp c42)] | rw [wcB (fun z => c42 (hon.mpr z))])⟩) (by exact (CA_upd hFc (by decide))) _ _ (hw.pick [2, 0, 1, 3] (by decide) rfl) _ (lv_sub hl [3, 1, 0] rfl)
        · refine lv_aload_n hx hb dX8_writeText_30 rfl (lv_at hl 0 rfl) ?_
          refine r_get cx hw inX8_writeText_8 0 3 rfl rfl (by decide) lkX8_writeText_4 rfl dX8_writeText_31 ?_
          refine lv_iload_n hx hb dX8_writeText_34 rfl (lv_at hl 2 rfl) ?_
          refine r_iald cx hw 2 1 rfl rfl i rfl (by omega) (by omega) dX8_writeText_35 ?_
          refine lv_goto (tgt := 40) hx hb dX8_writeText_36 (by decide) ?_
          refine lv_istore_n (lv' := [(3, .int (tC i)), (0, .ref x), (1, .int o), (2, .int (nI i))]) hx hb dX8_writeText_40 rfl hl (by decide) rfl (fun ls hl => ?_)
          have hci := i_neg (hC9 i (by omega))
          refine lv_iload_n hx hb dX8_writeText_41 rfl (lv_at hl 2 rfl) ?_
          refine lv_if_lt (tgt := 56) hx hb dX8_writeText_42 (by decide) (fun c42 => ?_) (fun c42 => ?_)
          · refine lv_iload_n hx hb dX8_writeText_56 rfl (lv_at hl 0 rfl) ?_
            refine lv_if_lt (tgt := 86) hx hb dX8_writeText_57 (by decide) (fun c57 => ?_) (fun c57 => ?_)
            · refine lv_iload_n hx hb dX8_writeText_86 rfl (lv_at hl 3 rfl) ?_
              refine lv_aload_n hx hb dX8_writeText_87 rfl (lv_at hl 1 rfl) ?_
              refine r_get cx hw inX8_writeText_8 0 20 rfl rfl (by decide) lkX8_writeText_3 rfl dX8_writeText_88 ?_
              refine r_icmp_ge cx 104 i n rfl rfl (by omega) (by omega) dX8_writeText_91 (by decide) (fun c91 => by omega) (fun c91 => ?_)
              refine lv_aload_n hx hb dX8_writeText_94 rfl (lv_at hl 1 rfl) ?_
              refine lv_aload_n hx hb dX8_writeText_95 rfl (lv_at hl 1 rfl) ?_
              refine r_get cx hw inX8_writeText_8 0 0 rfl rfl (by decide) lkX8_writeText_5 rfl dX8_writeText_96 ?_
              refine lv_iload_n hx hb dX8_writeText_99 rfl (lv_at hl 3 rfl) ?_
              refine r_cald cx hw 1 0 rfl rfl i rfl (by omega) (by omega) dX8_writeText_100 ?_
              refine r_callVv (n := 1) (wr := [(xa, .inl (cC, 60, .inl tL)), (xd, .inl (cI, 60, .inl tC))]) cx hw (mX8_writes l D cC cI cJ cZ cD x xa xb xc xd xe xf xg xh xi xj xk xl xm xn xo xp xq xr xs xt n nx nb N1 na nc ne ns fee sj (nI 0) rs stc F1 (tL i) H.size (by first | omega | (have hb8 : b1 o = 1 := if_neg (fun z => c42 (hon.mpr z)); omega)) (htL i) hFc) [0, 3] [1, 2] gX8_writeText_X8_writes rfl rfl rfl (by decide +kernel) ⟨Nat.le_of_ble_eq_true rfl, Nat.le_of_ble_eq_true rfl⟩ (q0 := 0) rfl rfl rfl rfl (by decide) (by decide) (by decide) rfl rfl hl.1 (Nat.le_of_ble_eq_true rfl) dX8_writeText_101 ⟨Nat.le_of_ble_eq_true rfl, Nat.le_of_ble_eq_true rfl⟩ (fun u H locs hp hw => ?_)
              have hw : ww D (TY cC cI cJ cZ cD) s A s.heap [(xa, .inl (cC, 60, .inl tL)), (xd, .inl (cI, 60, .inl tC)), (x, .inr (10, [.ref xa, .ref xb, .ref xc, .ref xd, .ref xe, .ref xf, .ref xg, .ref xh, .ref xi, .ref xj, .ref xk, .ref xl, .ref xm, .ref xn, .ref xo, .ref xp, .ref xq, .ref xr, .ref xs, .ref xt, .int (nI n), .int (nI nx), .int (nI nb), .int (nI (N1 + 1)), .int (nI na), .int (nI nc), .int (nI ne), .int (nI ns), .int (nI fee), .int sj, .int (nI 0), .int rs, .int stc])), (xh, .inl (cC, 400, .inl (upd F1 N1 (tL i))))] H locs := hw
              refine lv_iload_n hx hb dX8_writeText_104 rfl (lv_at hl 0 rfl) ?_
              refine lv_istore_n (lv' := [(1, .int (tC i)), (3, .int (tC i)), (0, .ref x), (2, .int (nI i))]) hx hb dX8_writeText_105 rfl hl (by decide) rfl (fun ls hl => ?_)
              refine lv_iinc (v := nI (i + 1)) (lv' := [(2, .int (nI (i + 1))), (1, .int (tC i)), (3, .int (tC i)), (0, .ref x)]) hx hb dX8_writeText_106 hl (k := 3) rfl (by rw [ii1, nI_1]) (by decide) rfl (fun ls hl => ?_)
              refine lv_goto (tgt := 14) hx hb dX8_writeText_109 (by decide) ?_
              exact ih14 (tC i) (i + 1) (N1 + 1) (upd F1 N1 (tL i)) (by omega) (by omega) (by intro _; exact ⟨rfl, by rw [wtx_1, ← hN1, ← hF1, ← ho]; (first | exact absurd c47 c62 | exact absurd c62 c47 | exact absurd (show o < 0 by rw [← c47]; exact c57) c42 | (rw [wsA c62]; first | done | rfl) | (rw [wsB (hon.mp c42) c62]; first | done | rfl) | (rw [wsE (fun z => c42 (hon.mpr z)) (fun z => c57 (hci.mpr z)) c47]; first | done | rfl) | (rw [wsD (fun z => c42 (hon.mpr z)) (hci.mp c57)]; first | done | rfl) | (rw [wsA ((hci.mp c57).trans (hon.mp c42).symm)]; first | done | rfl)), by rw [wtx_2, ← hN1, ← hF1, ← ho]; (first | exact absurd c47 c62 | exact absurd c62 c47 | exact absurd (show o < 0 by rw [← c47]; exact c57) c42 | (rw [wsA c62]; first | done | rfl) | (rw [wsB (hon.mp c42) c62]; first | done | rfl) | (rw [wsE (fun z => c42 (hon.mpr z)) (fun z => c57 (hci.mpr z)) c47]; first | done | rfl) | (rw [wsD (fun z => c42 (hon.mpr z)) (hci.mp c57)]; first | done | rfl) | (rw [wsA ((hci.mp c57).trans (hon.mp c42).symm)]; first | done | rfl))⟩) (by intro z; omega) (by exact (CA_upd hFc (htL i))) _ _ (hw.pick [2, 0, 1, 3] (by decide) rfl) _ (lv_sub hl [3, 1, 0] rfl)
            · refine lv_iload_n hx hb dX8_writeText_60 rfl (lv_at hl 0 rfl) ?_
              refine lv_iload_n hx hb dX8_writeText_61 rfl (lv_at hl 2 rfl) ?_
              refine lv_icmp_eq (tgt := 86) hx hb dX8_writeText_62 (by decide) (fun c62 => ?_) (fun c62 => ?_)
              · refine lv_iload_n hx hb dX8_writeText_86 rfl (lv_at hl 3 rfl) ?_
                refine lv_aload_n hx hb dX8_writeText_87 rfl (lv_at hl 1 rfl) ?_
                refine r_get cx hw inX8_writeText_8 0 20 rfl rfl (by decide) lkX8_writeText_3 rfl dX8_writeText_88 ?_
                refine r_icmp_ge cx 104 i n rfl rfl (by omega) (by omega) dX8_writeText_91 (by decide) (fun c91 => by omega) (fun c91 => ?_)
                refine lv_aload_n hx hb dX8_writeText_94 rfl (lv_at hl 1 rfl) ?_
                refine lv_aload_n hx hb dX8_writeText_95 rfl (lv_at hl 1 rfl) ?_
                refine r_get cx hw inX8_writeText_8 0 0 rfl rfl (by decide) lkX8_writeText_5 rfl dX8_writeText_96 ?_
                refine lv_iload_n hx hb dX8_writeText_99 rfl (lv_at hl 3 rfl) ?_
                refine r_cald cx hw 1 0 rfl rfl i rfl (by omega) (by omega) dX8_writeText_100 ?_
                refine r_callVv (n := 1) (wr := [(xa, .inl (cC, 60, .inl tL)), (xd, .inl (cI, 60, .inl tC))]) cx hw (mX8_writes l D cC cI cJ cZ cD x xa xb xc xd xe xf xg xh xi xj xk xl xm xn xo xp xq xr xs xt n nx nb N1 na nc ne ns fee sj (nI 0) rs stc F1 (tL i) H.size (by first | omega | (have hb8 : b1 o = 1 := if_neg (fun z => c42 (hon.mpr z)); omega)) (htL i) hFc) [0, 3] [1, 2] gX8_writeText_X8_writes rfl rfl rfl (by decide +kernel) ⟨Nat.le_of_ble_eq_true rfl, Nat.le_of_ble_eq_true rfl⟩ (q0 := 0) rfl rfl rfl rfl (by decide) (by decide) (by decide) rfl rfl hl.1 (Nat.le_of_ble_eq_true rfl) dX8_writeText_101 ⟨Nat.le_of_ble_eq_true rfl, Nat.le_of_ble_eq_true rfl⟩ (fun u H locs hp hw => ?_)
                have hw : ww D (TY cC cI cJ cZ cD) s A s.heap [(xa, .inl (cC, 60, .inl tL)), (xd, .inl (cI, 60, .inl tC)), (x, .inr (10, [.ref xa, .ref xb, .ref xc, .ref xd, .ref xe, .ref xf, .ref xg, .ref xh, .ref xi, .ref xj, .ref xk, .ref xl, .ref xm, .ref xn, .ref xo, .ref xp, .ref xq, .ref xr, .ref xs, .ref xt, .int (nI n), .int (nI nx), .int (nI nb), .int (nI (N1 + 1)), .int (nI na), .int (nI nc), .int (nI ne), .int (nI ns), .int (nI fee), .int sj, .int (nI 0), .int rs, .int stc])), (xh, .inl (cC, 400, .inl (upd F1 N1 (tL i))))] H locs := hw
                refine lv_iload_n hx hb dX8_writeText_104 rfl (lv_at hl 0 rfl) ?_
                refine lv_istore_n (lv' := [(1, .int (tC i)), (3, .int (tC i)), (0, .ref x), (2, .int (nI i))]) hx hb dX8_writeText_105 rfl hl (by decide) rfl (fun ls hl => ?_)
                refine lv_iinc (v := nI (i + 1)) (lv' := [(2, .int (nI (i + 1))), (1, .int (tC i)), (3, .int (tC i)), (0, .ref x)]) hx hb dX8_writeText_106 hl (k := 3) rfl (by rw [ii1, nI_1]) (by decide) rfl (fun ls hl => ?_)
                refine lv_goto (tgt := 14) hx hb dX8_writeText_109 (by decide) ?_
                exact ih14 (tC i) (i + 1) (N1 + 1) (upd F1 N1 (tL i)) (by omega) (by omega) (by intro _; exact ⟨rfl, by rw [wtx_1, ← hN1, ← hF1, ← ho]; (first | exact absurd c47 c62 | exact absurd c62 c47 | exact absurd (show o < 0 by rw [← c47]; exact c57) c42 | (rw [wsA c62]; first | done | rfl) | (rw [wsB (hon.mp c42) c62]; first | done | rfl) | (rw [wsE (fun z => c42 (hon.mpr z)) (fun z => c57 (hci.mpr z)) c47]; first | done | rfl) | (rw [wsD (fun z => c42 (hon.mpr z)) (hci.mp c57)]; first | done | rfl) | (rw [wsA ((hci.mp c57).trans (hon.mp c42).symm)]; first | done | rfl)), by rw [wtx_2, ← hN1, ← hF1, ← ho]; (first | exact absurd c47 c62 | exact absurd c62 c47 | exact absurd (show o < 0 by rw [← c47]; exact c57) c42 | (rw [wsA c62]; first | done | rfl) | (rw [wsB (hon.mp c42) c62]; first | done | rfl) | (rw [wsE (fun z => c42 (hon.mpr z)) (fun z => c57 (hci.mpr z)) c47]; first | done | rfl) | (rw [wsD (fun z => c42 (hon.mpr z)) (hci.mp c57)]; first | done | rfl) | (rw [wsA ((hci.mp c57).trans (hon.mp c42).symm)]; first | done | rfl))⟩) (by intro z; omega) (by exact (CA_upd hFc (htL i))) _ _ (hw.pick [2, 0, 1, 3] (by decide) rfl) _ (lv_sub hl [3, 1, 0] rfl)
              · refine lv_aload_n hx hb dX8_writeText_65 rfl (lv_at hl 1 rfl) ?_
                refine lv_bipush (v := nI 91) hx hb dX8_writeText_66 (by decide) ?_
                refine r_callVv (n := 1) (wr := [(xa, .inl (cC, 60, .inl tL)), (xd, .inl (cI, 60, .inl tC))]) cx hw (mX8_writes l D cC cI cJ cZ cD x xa xb xc xd xe xf xg xh xi xj xk xl xm xn xo xp xq xr xs xt n nx nb N1 na nc ne ns fee sj (nI 0) rs stc F1 (nI 91) H.size (by first | omega | (have hb8 : b1 o = 1 := if_neg (fun z => c42 (hon.mpr z)); omega)) (by decide) hFc) [0, 3] [1, 2] gX8_writeText_X8_writes rfl rfl rfl (by decide +kernel) ⟨Nat.le_of_ble_eq_true rfl, Nat.le_of_ble_eq_true rfl⟩ (q0 := 0) rfl rfl rfl rfl (by decide) (by decide) (by decide) rfl rfl hl.1 (Nat.le_of_ble_eq_true rfl) dX8_writeText_68 ⟨Nat.le_of_ble_eq_true rfl, Nat.le_of_ble_eq_true rfl⟩ (fun u H locs hp hw => ?_)
                have hw : ww D (TY cC cI cJ cZ cD) s A s.heap [(xa, .inl (cC, 60, .inl tL)), (xd, .inl (cI, 60, .inl tC)), (x, .inr (10, [.ref xa, .ref xb, .ref xc, .ref xd, .ref xe, .ref xf, .ref xg, .ref xh, .ref xi, .ref xj, .ref xk, .ref xl, .ref xm, .ref xn, .ref xo, .ref xp, .ref xq, .ref xr, .ref xs, .ref xt, .int (nI n), .int (nI nx), .int (nI nb), .int (nI (N1 + 1)), .int (nI na), .int (nI nc), .int (nI ne), .int (nI ns), .int (nI fee), .int sj, .int (nI 0), .int rs, .int stc])), (xh, .inl (cC, 400, .inl (upd F1 N1 (nI 91))))] H locs := hw
                refine lv_aload_n hx hb dX8_writeText_71 rfl (lv_at hl 1 rfl) ?_
                refine lv_bipush (v := nI 48) hx hb dX8_writeText_72 (by decide) ?_
                refine lv_iload_n hx hb dX8_writeText_74 rfl (lv_at hl 0 rfl) ?_
                refine lv_iadd hx hb dX8_writeText_75 ?_
                refine lv_i2c (v := (((nI 48) + (tC i)).toUInt32 % 65536).toInt32) hx hb dX8_writeText_76 rfl ?_
                refine r_callVv (n := 1) (wr := [(xa, .inl (cC, 60, .inl tL)), (xd, .inl (cI, 60, .inl tC))]) cx hw (mX8_writes l D cC cI cJ cZ cD x xa xb xc xd xe xf xg xh xi xj xk xl xm xn xo xp xq xr xs xt n nx nb (N1 + 1) na nc ne ns fee sj (nI 0) rs stc (upd F1 N1 (nI 91)) ((((nI 48) + (tC i)).toUInt32 % 65536).toInt32) H.size (by first | omega | (have hb8 : b1 o = 1 := if_neg (fun z => c42 (hon.mpr z)); omega)) (pk_vc _) (CA_upd hFc (by decide))) [2, 3] [0, 1] gX8_writeText_X8_writes rfl rfl rfl (by decide +kernel) ⟨Nat.le_of_ble_eq_true rfl, Nat.le_of_ble_eq_true rfl⟩ (q0 := 2) rfl rfl rfl rfl (by decide) (by decide) (by decide) rfl rfl hl.1 (Nat.le_of_ble_eq_true rfl) dX8_writeText_77 ⟨Nat.le_of_ble_eq_true rfl, Nat.le_of_ble_eq_true rfl⟩ (fun u H locs hp hw => ?_)
                have hw : ww D (TY cC cI cJ cZ cD) s A s.heap [(xa, .inl (cC, 60, .inl tL)), (xd, .inl (cI, 60, .inl tC)), (x, .inr (10, [.ref xa, .ref xb, .ref xc, .ref xd, .ref xe, .ref xf, .ref xg, .ref xh, .ref xi, .ref xj, .ref xk, .ref xl, .ref xm, .ref xn, .ref xo, .ref xp, .ref xq, .ref xr, .ref xs, .ref xt, .int (nI n), .int (nI nx), .int (nI nb), .int (nI ((N1 + 1) + 1)), .int (nI na), .int (nI nc), .int (nI ne), .int (nI ns), .int (nI fee), .int sj, .int (nI 0), .int rs, .int stc])), (xh, .inl (cC, 400, .inl (upd (upd F1 N1 (nI 91)) (N1 + 1) ((((nI 48) + (tC i)).toUInt32 % 65536).toInt32))))] H locs := hw
                refine lv_aload_n hx hb dX8_writeText_80 rfl (lv_at hl 1 rfl) ?_
                refine lv_bipush (v := nI 58) hx hb dX8_writeText_81 (by decide) ?_
                refine r_callVv (n := 1) (wr := [(xa, .inl (cC, 60, .inl tL)), (xd, .inl (cI, 60, .inl tC))]) cx hw (mX8_writes l D cC cI cJ cZ cD x xa xb xc xd xe xf xg xh xi xj xk xl xm xn xo xp xq xr xs xt n nx nb ((N1 + 1) + 1) na nc ne ns fee sj (nI 0) rs stc (upd (upd F1 N1 (nI 91)) (N1 + 1) ((((nI 48) + (tC i)).toUInt32 % 65536).toInt32)) (nI 58) H.size (by first | omega | (have hb8 : b1 o = 1 := if_neg (fun z => c42 (hon.mpr z)); omega)) (by decide) (CA_upd (CA_upd hFc (by decide)) (pk_vc _))) [2, 3] [0, 1] gX8_writeText_X8_writes rfl rfl rfl (by decide +kernel) ⟨Nat.le_of_ble_eq_true rfl, Nat.le_of_ble_eq_true rfl⟩ (q0 := 2) rfl rfl rfl rfl (by decide) (by decide) (by decide) rfl rfl hl.1 (Nat.le_of_ble_eq_true rfl) dX8_writeText_83 ⟨Nat.le_of_ble_eq_true rfl, Nat.le_of_ble_eq_true rfl⟩ (fun u H locs hp hw => ?_)
                have hw : ww D (TY cC cI cJ cZ cD) s A s.heap [(xa, .inl (cC, 60, .inl tL)), (xd, .inl (cI, 60, .inl tC)), (x, .inr (10, [.ref xa, .ref xb, .ref xc, .ref xd, .ref xe, .ref xf, .ref xg, .ref xh, .ref xi, .ref xj, .ref xk, .ref xl, .ref xm, .ref xn, .ref xo, .ref xp, .ref xq, .ref xr, .ref xs, .ref xt, .int (nI n), .int (nI nx), .int (nI nb), .int (nI (((N1 + 1) + 1) + 1)), .int (nI na), .int (nI nc), .int (nI ne), .int (nI ns), .int (nI fee), .int sj, .int (nI 0), .int rs, .int stc])), (xh, .inl (cC, 400, .inl (upd (upd (upd F1 N1 (nI 91)) (N1 + 1) ((((nI 48) + (tC i)).toUInt32 % 65536).toInt32)) ((N1 + 1) + 1) (nI 58))))] H locs := hw
                refine lv_iload_n hx hb dX8_writeText_86 rfl (lv_at hl 3 rfl) ?_
                refine lv_aload_n hx hb dX8_writeText_87 rfl (lv_at hl 1 rfl) ?_
                refine r_get cx hw inX8_writeText_8 2 20 rfl rfl (by decide) lkX8_writeText_3 rfl dX8_writeText_88 ?_
                refine r_icmp_ge cx 104 i n rfl rfl (by omega) (by omega) dX8_writeText_91 (by decide) (fun c91 => by omega) (fun c91 => ?_)
                refine lv_aload_n hx hb dX8_writeText_94 rfl (lv_at hl 1 rfl) ?_
                refine lv_aload_n hx hb dX8_writeText_95 rfl (lv_at hl 1 rfl) ?_
                refine r_get cx hw inX8_writeText_8 2 0 rfl rfl (by decide) lkX8_writeText_5 rfl dX8_writeText_96 ?_
                refine lv_iload_n hx hb dX8_writeText_99 rfl (lv_at hl 3 rfl) ?_
                refine r_cald cx hw 0 0 rfl rfl i rfl (by omega) (by omega) dX8_writeText_100 ?_
                refine r_callVv (n := 1) (wr := [(xa, .inl (cC, 60, .inl tL)), (xd, .inl (cI, 60, .inl tC))]) cx hw (mX8_writes l D cC cI cJ cZ cD x xa xb xc xd xe xf xg xh xi xj xk xl xm xn xo xp xq xr xs xt n nx nb (((N1 + 1) + 1) + 1) na nc ne ns fee sj (nI 0) rs stc (upd (upd (upd F1 N1 (nI 91)) (N1 + 1) ((((nI 48) + (tC i)).toUInt32 % 65536).toInt32)) ((N1 + 1) + 1) (nI 58)) (tL i) H.size (by first | omega | (have hb8 : b1 o = 1 := if_neg (fun z => c42 (hon.mpr z)); omega)) (htL i) (CA_upd (CA_upd (CA_upd hFc (by decide)) (pk_vc _)) (by decide))) [2, 3] [0, 1] gX8_writeText_X8_writes rfl rfl rfl (by decide +kernel) ⟨Nat.le_of_ble_eq_true rfl, Nat.le_of_ble_eq_true rfl⟩ (q0 := 2) rfl rfl rfl rfl (by decide) (by decide) (by decide) rfl rfl hl.1 (Nat.le_of_ble_eq_true rfl) dX8_writeText_101 ⟨Nat.le_of_ble_eq_true rfl, Nat.le_of_ble_eq_true rfl⟩ (fun u H locs hp hw => ?_)
                have hw : ww D (TY cC cI cJ cZ cD) s A s.heap [(xa, .inl (cC, 60, .inl tL)), (xd, .inl (cI, 60, .inl tC)), (x, .inr (10, [.ref xa, .ref xb, .ref xc, .ref xd, .ref xe, .ref xf, .ref xg, .ref xh, .ref xi, .ref xj, .ref xk, .ref xl, .ref xm, .ref xn, .ref xo, .ref xp, .ref xq, .ref xr, .ref xs, .ref xt, .int (nI n), .int (nI nx), .int (nI nb), .int (nI ((((N1 + 1) + 1) + 1) + 1)), .int (nI na), .int (nI nc), .int (nI ne), .int (nI ns), .int (nI fee), .int sj, .int (nI 0), .int rs, .int stc])), (xh, .inl (cC, 400, .inl (upd (upd (upd (upd F1 N1 (nI 91)) (N1 + 1) ((((nI 48) + (tC i)).toUInt32 % 65536).toInt32)) ((N1 + 1) + 1) (nI 58)) (((N1 + 1) + 1) + 1) (tL i))))] H locs := hw
                refine lv_iload_n hx hb dX8_writeText_104 rfl (lv_at hl 0 rfl) ?_
                refine lv_istore_n (lv' := [(1, .int (tC i)), (3, .int (tC i)), (0, .ref x), (2, .int (nI i))]) hx hb dX8_writeText_105 rfl hl (by decide) rfl (fun ls hl => ?_)
                refine lv_iinc (v := nI (i + 1)) (lv' := [(2, .int (nI (i + 1))), (1, .int (tC i)), (3, .int (tC i)), (0, .ref x)]) hx hb dX8_writeText_106 hl (k := 3) rfl (by rw [ii1, nI_1]) (by decide) rfl (fun ls hl => ?_)
                refine lv_goto (tgt := 14) hx hb dX8_writeText_109 (by decide) ?_
                exact ih14 (tC i) (i + 1) ((((N1 + 1) + 1) + 1) + 1) (upd (upd (upd (upd F1 N1 (nI 91)) (N1 + 1) ((((nI 48) + (tC i)).toUInt32 % 65536).toInt32)) ((N1 + 1) + 1) (nI 58)) (((N1 + 1) + 1) + 1) (tL i)) (by omega) (by omega) (by intro _; exact ⟨rfl, by rw [wtx_1, ← hN1, ← hF1, ← ho]; (first | exact absurd c47 c62 | exact absurd c62 c47 | exact absurd (show o < 0 by rw [← c47]; exact c57) c42 | (rw [wsA c62]; first | done | rfl) | (rw [wsB (hon.mp c42) c62]; first | done | rfl) | (rw [wsE (fun z => c42 (hon.mpr z)) (fun z => c57 (hci.mpr z)) c47]; first | done | rfl) | (rw [wsD (fun z => c42 (hon.mpr z)) (hci.mp c57)]; first | done | rfl) | (rw [wsA ((hci.mp c57).trans (hon.mp c42).symm)]; first | done | rfl)), by rw [wtx_2, ← hN1, ← hF1, ← ho]; (first | exact absurd c47 c62 | exact absurd c62 c47 | exact absurd (show o < 0 by rw [← c47]; exact c57) c42 | (rw [wsA c62]; first | done | rfl) | (rw [wsB (hon.mp c42) c62]; first | done | rfl) | (rw [wsE (fun z => c42 (hon.mpr z)) (fun z => c57 (hci.mpr z)) c47]; first | done | rfl) | (rw [wsD (fun z => c42 (hon.mpr z)) (hci.mp c57)]; first | done | rfl) | (rw [wsA ((hci.mp c57).trans (hon.mp c42).symm)]; first | done | rfl))⟩) (by intro z; omega) (by exact (CA_upd (CA_upd (CA_upd (CA_upd hFc (by decide)) (pk_vc _)) (by decide)) (htL i))) _ _ (hw.pick [2, 0, 1, 3] (by decide) rfl) _ (lv_sub hl [3, 1, 0] rfl)
          · refine lv_iload_n hx hb dX8_writeText_45 rfl (lv_at hl 0 rfl) ?_
            refine lv_iload_n hx hb dX8_writeText_46 rfl (lv_at hl 2 rfl) ?_
            refine lv_icmp_eq (tgt := 56) hx hb dX8_writeText_47 (by decide) (fun c47 => ?_) (fun c47 => ?_)
            · refine lv_iload_n hx hb dX8_writeText_56 rfl (lv_at hl 0 rfl) ?_
              refine lv_if_lt (tgt := 86) hx hb dX8_writeText_57 (by decide) (fun c57 => ?_) (fun c57 => ?_)
              · refine lv_iload_n hx hb dX8_writeText_86 rfl (lv_at hl 3 rfl) ?_
                refine lv_aload_n hx hb dX8_writeText_87 rfl (lv_at hl 1 rfl) ?_
                refine r_get cx hw inX8_writeText_8 0 20 rfl rfl (by decide) lkX8_writeText_3 rfl dX8_writeText_88 ?_
                refine r_icmp_ge cx 104 i n rfl rfl (by omega) (by omega) dX8_writeText_91 (by decide) (fun c91 => by omega) (fun c91 => ?_)
                refine lv_aload_n hx hb dX8_writeText_94 rfl (lv_at hl 1 rfl) ?_
                refine lv_aload_n hx hb dX8_writeText_95 rfl (lv_at hl 1 rfl) ?_
                refine r_get cx hw inX8_writeText_8 0 0 rfl rfl (by decide) lkX8_writeText_5 rfl dX8_writeText_96 ?_
                refine lv_iload_n hx hb dX8_writeText_99 rfl (lv_at hl 3 rfl) ?_
                refine r_cald cx hw 1 0 rfl rfl i rfl (by omega) (by omega) dX8_writeText_100 ?_
                refine r_callVv (n := 1) (wr := [(xa, .inl (cC, 60, .inl tL)), (xd, .inl (cI, 60, .inl tC))]) cx hw (mX8_writes l D cC cI cJ cZ cD x xa xb xc xd xe xf xg xh xi xj xk xl xm xn xo xp xq xr xs xt n nx nb N1 na nc ne ns fee sj (nI 0) rs stc F1 (tL i) H.size (by first | omega | (have hb8 : b1 o = 1 := if_neg (fun z => c42 (hon.mpr z)); omega)) (htL i) hFc) [0, 3] [1, 2] gX8_writeText_X8_writes rfl rfl rfl (by decide +kernel) ⟨Nat.le_of_ble_eq_true rfl, Nat.le_of_ble_eq_true rfl⟩ (q0 := 0) rfl rfl rfl rfl (by decide) (by decide) (by decide) rfl rfl hl.1 (Nat.le_of_ble_eq_true rfl) dX8_writeText_101 ⟨Nat.le_of_ble_eq_true rfl, Nat.le_of_ble_eq_true rfl⟩ (fun u H locs hp hw => ?_)
                have hw : ww D (TY cC cI cJ cZ cD) s A s.heap [(xa, .inl (cC, 60, .inl tL)), (xd, .inl (cI, 60, .inl tC)), (x, .inr (10, [.ref xa, .ref xb, .ref xc, .ref xd, .ref xe, .ref xf, .ref xg, .ref xh, .ref xi, .ref xj, .ref xk, .ref xl, .ref xm, .ref xn, .ref xo, .ref xp, .ref xq, .ref xr, .ref xs, .ref xt, .int (nI n), .int (nI nx), .int (nI nb), .int (nI (N1 + 1)), .int (nI na), .int (nI nc), .int (nI ne), .int (nI ns), .int (nI fee), .int sj, .int (nI 0), .int rs, .int stc])), (xh, .inl (cC, 400, .inl (upd F1 N1 (tL i))))] H locs := hw
                refine lv_iload_n hx hb dX8_writeText_104 rfl (lv_at hl 0 rfl) ?_
                refine lv_istore_n (lv' := [(1, .int (tC i)), (3, .int (tC i)), (0, .ref x), (2, .int (nI i))]) hx hb dX8_writeText_105 rfl hl (by decide) rfl (fun ls hl => ?_)
                refine lv_iinc (v := nI (i + 1)) (lv' := [(2, .int (nI (i + 1))), (1, .int (tC i)), (3, .int (tC i)), (0, .ref x)]) hx hb dX8_writeText_106 hl (k := 3) rfl (by rw [ii1, nI_1]) (by decide) rfl (fun ls hl => ?_)
                refine lv_goto (tgt := 14) hx hb dX8_writeText_109 (by decide) ?_
                exact ih14 (tC i) (i + 1) (N1 + 1) (upd F1 N1 (tL i)) (by omega) (by omega) (by intro _; exact ⟨rfl, by rw [wtx_1, ← hN1, ← hF1, ← ho]; (first | exact absurd c47 c62 | exact absurd c62 c47 | exact absurd (show o < 0 by rw [← c47]; exact c57) c42 | (rw [wsA c62]; first | done | rfl) | (rw [wsB (hon.mp c42) c62]; first | done | rfl) | (rw [wsE (fun z => c42 (hon.mpr z)) (fun z => c57 (hci.mpr z)) c47]; first | done | rfl) | (rw [wsD (fun z => c42 (hon.mpr z)) (hci.mp c57)]; first | done | rfl) | (rw [wsA ((hci.mp c57).trans (hon.mp c42).symm)]; first | done | rfl)), by rw [wtx_2, ← hN1, ← hF1, ← ho]; (first | exact absurd c47 c62 | exact absurd c62 c47 | exact absurd (show o < 0 by rw [← c47]; exact c57) c42 | (rw [wsA c62]; first | done | rfl) | (rw [wsB (hon.mp c42) c62]; first | done | rfl) | (rw [wsE (fun z => c42 (hon.mpr z)) (fun z => c57 (hci.mpr z)) c47]; first | done | rfl) | (rw [wsD (fun z => c42 (hon.mpr z)) (hci.mp c57)]; first | done | rfl) | (rw [wsA ((hci.mp c57).trans (hon.mp c42).symm)]; first | done | rfl))⟩) (by intro z; omega) (by exact (CA_upd hFc (htL i))) _ _ (hw.pick [2, 0, 1, 3] (by decide) rfl) _ (lv_sub hl [3, 1, 0] rfl)
              · refine lv_iload_n hx hb dX8_writeText_60 rfl (lv_at hl 0 rfl) ?_
                refine lv_iload_n hx hb dX8_writeText_61 rfl (lv_at hl 2 rfl) ?_
                refine lv_icmp_eq (tgt := 86) hx hb dX8_writeText_62 (by decide) (fun c62 => ?_) (fun c62 => ?_)
                · refine lv_iload_n hx hb dX8_writeText_86 rfl (lv_at hl 3 rfl) ?_
                  refine lv_aload_n hx hb dX8_writeText_87 rfl (lv_at hl 1 rfl) ?_
                  refine r_get cx hw inX8_writeText_8 0 20 rfl rfl (by decide) lkX8_writeText_3 rfl dX8_writeText_88 ?_
                  refine r_icmp_ge cx 104 i n rfl rfl (by omega) (by omega) dX8_writeText_91 (by decide) (fun c91 => by omega) (fun c91 => ?_)
                  refine lv_aload_n hx hb dX8_writeText_94 rfl (lv_at hl 1 rfl) ?_
                  refine lv_aload_n hx hb dX8_writeText_95 rfl (lv_at hl 1 rfl) ?_
                  refine r_get cx hw inX8_writeText_8 0 0 rfl rfl (by decide) lkX8_writeText_5 rfl dX8_writeText_96 ?_
                  refine lv_iload_n hx hb dX8_writeText_99 rfl (lv_at hl 3 rfl) ?_
                  refine r_cald cx hw 1 0 rfl rfl i rfl (by omega) (by omega) dX8_writeText_100 ?_
                  refine r_callVv (n := 1) (wr := [(xa, .inl (cC, 60, .inl tL)), (xd, .inl (cI, 60, .inl tC))]) cx hw (mX8_writes l D cC cI cJ cZ cD x xa xb xc xd xe xf xg xh xi xj xk xl xm xn xo xp xq xr xs xt n nx nb N1 na nc ne ns fee sj (nI 0) rs stc F1 (tL i) H.size (by first | omega | (have hb8 : b1 o = 1 := if_neg (fun z => c42 (hon.mpr z)); omega)) (htL i) hFc) [0, 3] [1, 2] gX8_writeText_X8_writes rfl rfl rfl (by decide +kernel) ⟨Nat.le_of_ble_eq_true rfl, Nat.le_of_ble_eq_true rfl⟩ (q0 := 0) rfl rfl rfl rfl (by decide) (by decide) (by decide) rfl rfl hl.1 (Nat.le_of_ble_eq_true rfl) dX8_writeText_101 ⟨Nat.le_of_ble_eq_true rfl, Nat.le_of_ble_eq_true rfl⟩ (fun u H locs hp hw => ?_)
                  have hw : ww D (TY cC cI cJ cZ cD) s A s.heap [(xa, .inl (cC, 60, .inl tL)), (xd, .inl (cI, 60, .inl tC)), (x, .inr (10, [.ref xa, .ref xb, .ref xc, .ref xd, .ref xe, .ref xf, .ref xg, .ref xh, .ref xi, .ref xj, .ref xk, .ref xl, .ref xm, .ref xn, .ref xo, .ref xp, .ref xq, .ref xr, .ref xs, .ref xt, .int (nI n), .int (nI nx), .int (nI nb), .int (nI (N1 + 1)), .int (nI na), .int (nI nc), .int (nI ne), .int (nI ns), .int (nI fee), .int sj, .int (nI 0), .int rs, .int stc])), (xh, .inl (cC, 400, .inl (upd F1 N1 (tL i))))] H locs := hw
                  refine lv_iload_n hx hb dX8_writeText_104 rfl (lv_at hl 0 rfl) ?_
                  refine lv_istore_n (lv' := [(1, .int (tC i)), (3, .int (tC i)), (0, .ref x), (2, .int (nI i))]) hx hb dX8_writeText_105 rfl hl (by decide) rfl (fun ls hl => ?_)
                  refine lv_iinc (v := nI (i + 1)) (lv' := [(2, .int (nI (i + 1))), (1, .int (tC i)), (3, .int (tC i)), (0, .ref x)]) hx hb dX8_writeText_106 hl (k := 3) rfl (by rw [ii1, nI_1]) (by decide) rfl (fun ls hl => ?_)
                  refine lv_goto (tgt := 14) hx hb dX8_writeText_109 (by decide) ?_
                  exact ih14 (tC i) (i + 1) (N1 + 1) (upd F1 N1 (tL i)) (by omega) (by omega) (by intro _; exact ⟨rfl, by rw [wtx_1, ← hN1, ← hF1, ← ho]; (first | exact absurd c47 c62 | exact absurd c62 c47 | exact absurd (show o < 0 by rw [← c47]; exact c57) c42 | (rw [wsA c62]; first | done | rfl) | (rw [wsB (hon.mp c42) c62]; first | done | rfl) | (rw [wsE (fun z => c42 (hon.mpr z)) (fun z => c57 (hci.mpr z)) c47]; first | done | rfl) | (rw [wsD (fun z => c42 (hon.mpr z)) (hci.mp c57)]; first | done | rfl) | (rw [wsA ((hci.mp c57).trans (hon.mp c42).symm)]; first | done | rfl)), by rw [wtx_2, ← hN1, ← hF1, ← ho]; (first | exact absurd c47 c62 | exact absurd c62 c47 | exact absurd (show o < 0 by rw [← c47]; exact c57) c42 | (rw [wsA c62]; first | done | rfl) | (rw [wsB (hon.mp c42) c62]; first | done | rfl) | (rw [wsE (fun z => c42 (hon.mpr z)) (fun z => c57 (hci.mpr z)) c47]; first | done | rfl) | (rw [wsD (fun z => c42 (hon.mpr z)) (hci.mp c57)]; first | done | rfl) | (rw [wsA ((hci.mp c57).trans (hon.mp c42).symm)]; first | done | rfl))⟩) (by intro z; omega) (by exact (CA_upd hFc (htL i))) _ _ (hw.pick [2, 0, 1, 3] (by decide) rfl) _ (lv_sub hl [3, 1, 0] rfl)
                · refine lv_aload_n hx hb dX8_writeText_65 rfl (lv_at hl 1 rfl) ?_
                  refine lv_bipush (v := nI 91) hx hb dX8_writeText_66 (by decide) ?_
                  refine r_callVv (n := 1) (wr := [(xa, .inl (cC, 60, .inl tL)), (xd, .inl (cI, 60, .inl tC))]) cx hw (mX8_writes l D cC cI cJ cZ cD x xa xb xc xd xe xf xg xh xi xj xk xl xm xn xo xp xq xr xs xt n nx nb N1 na nc ne ns fee sj (nI 0) rs stc F1 (nI 91) H.size (by first | omega | (have hb8 : b1 o = 1 := if_neg (fun z => c42 (hon.mpr z)); omega)) (by decide) hFc) [0, 3] [1, 2] gX8_writeText_X8_writes rfl rfl rfl (by decide +kernel) ⟨Nat.le_of_ble_eq_true rfl, Nat.le_of_ble_eq_true rfl⟩ (q0 := 0) rfl rfl rfl rfl (by decide) (by decide) (by decide) rfl rfl hl.1 (Nat.le_of_ble_eq_true rfl) dX8_writeText_68 ⟨Nat.le_of_ble_eq_true rfl, Nat.le_of_ble_eq_true rfl⟩ (fun u H locs hp hw => ?_)
                  have hw : ww D (TY cC cI cJ cZ cD) s A s.heap [(xa, .inl (cC, 60, .inl tL)), (xd, .inl (cI, 60, .inl tC)), (x, .inr (10, [.ref xa, .ref xb, .ref xc, .ref xd, .ref xe, .ref xf, .ref xg, .ref xh, .ref xi, .ref xj, .ref xk, .ref xl, .ref xm, .ref xn, .ref xo, .ref xp, .ref xq, .ref xr, .ref xs, .ref xt, .int (nI n), .int (nI nx), .int (nI nb), .int (nI (N1 + 1)), .int (nI na), .int (nI nc), .int (nI ne), .int (nI ns), .int (nI fee), .int sj, .int (nI 0), .int rs, .int stc])), (xh, .inl (cC, 400, .inl (upd F1 N1 (nI 91))))] H locs := hw
                  refine lv_aload_n hx hb dX8_writeText_71 rfl (lv_at hl 1 rfl) ?_
                  refine lv_bipush (v := nI 48) hx hb dX8_writeText_72 (by decide) ?_
                  refine lv_iload_n hx hb dX8_writeText_74 rfl (lv_at hl 0 rfl) ?_
                  refine lv_iadd hx hb dX8_writeText_75 ?_
                  refine lv_i2c (v := (((nI 48) + (tC i)).toUInt32 % 65536).toInt32) hx hb dX8_writeText_76 rfl ?_
                  refine r_callVv (n := 1) (wr := [(xa, .inl (cC, 60, .inl tL)), (xd, .inl (cI, 60, .inl tC))]) cx hw (mX8_writes l D cC cI cJ cZ cD x xa xb xc xd xe xf xg xh xi xj xk xl xm xn xo xp xq xr xs xt n nx nb (N1 + 1) na nc ne ns fee sj (nI 0) rs stc (upd F1 N1 (nI 91)) ((((nI 48) + (tC i)).toUInt32 % 65536).toInt32) H.size (by first | omega | (have hb8 : b1 o = 1 := if_neg (fun z => c42 (hon.mpr z)); omega)) (pk_vc _) (CA_upd hFc (by decide))) [2, 3] [0, 1] gX8_writeText_X8_writes rfl rfl rfl (by decide +kernel) ⟨Nat.le_of_ble_eq_true rfl, Nat.le_of_ble_eq_true rfl⟩ (q0 := 2) rfl rfl rfl rfl (by decide) (by decide) (by decide) rfl rfl hl.1 (Nat.le_of_ble_eq_true rfl) dX8_writeText_77 ⟨Nat.le_of_ble_eq_true rfl, Nat.le_of_ble_eq_true rfl⟩ (fun u H locs hp hw => ?_)
                  have hw : ww D (TY cC cI cJ cZ cD) s A s.heap [(xa, .inl (cC, 60, .inl tL)), (xd, .inl (cI, 60, .inl tC)), (x, .inr (10, [.ref xa, .ref xb, .ref xc, .ref xd, .ref xe, .ref xf, .ref xg, .ref xh, .ref xi, .ref xj, .ref xk, .ref xl, .ref xm, .ref xn, .ref xo, .ref xp, .ref xq, .ref xr, .ref xs, .ref xt, .int (nI n), .int (nI nx), .int (nI nb), .int (nI ((N1 + 1) + 1)), .int (nI na), .int (nI nc), .int (nI ne), .int (nI ns), .int (nI fee), .int sj, .int (nI 0), .int rs, .int stc])), (xh, .inl (cC, 400, .inl (upd (upd F1 N1 (nI 91)) (N1 + 1) ((((nI 48) + (tC i)).toUInt32 % 65536).toInt32))))] H locs := hw
                  refine lv_aload_n hx hb dX8_writeText_80 rfl (lv_at hl 1 rfl) ?_
                  refine lv_bipush (v := nI 58) hx hb dX8_writeText_81 (by decide) ?_
                  refine r_callVv (n := 1) (wr := [(xa, .inl (cC, 60, .inl tL)), (xd, .inl (cI, 60, .inl tC))]) cx hw (mX8_writes l D cC cI cJ cZ cD x xa xb xc xd xe xf xg xh xi xj xk xl xm xn xo xp xq xr xs xt n nx nb ((N1 + 1) + 1) na nc ne ns fee sj (nI 0) rs stc (upd (upd F1 N1 (nI 91)) (N1 + 1) ((((nI 48) + (tC i)).toUInt32 % 65536).toInt32)) (nI 58) H.size (by first | omega | (have hb8 : b1 o = 1 := if_neg (fun z => c42 (hon.mpr z)); omega)) (by decide) (CA_upd (CA_upd hFc (by decide)) (pk_vc _))) [2, 3] [0, 1] gX8_writeText_X8_writes rfl rfl rfl (by decide +kernel) ⟨Nat.le_of_ble_eq_true rfl, Nat.le_of_ble_eq_true rfl⟩ (q0 := 2) rfl rfl rfl rfl (by decide) (by decide) (by decide) rfl rfl hl.1 (Nat.le_of_ble_eq_true rfl) dX8_writeText_83 ⟨Nat.le_of_ble_eq_true rfl, Nat.le_of_ble_eq_true rfl⟩ (fun u H locs hp hw => ?_)
                  have hw : ww D (TY cC cI cJ cZ cD) s A s.heap [(xa, .inl (cC, 60, .inl tL)), (xd, .inl (cI, 60, .inl tC)), (x, .inr (10, [.ref xa, .ref xb, .ref xc, .ref xd, .ref xe, .ref xf, .ref xg, .ref xh, .ref xi, .ref xj, .ref xk, .ref xl, .ref xm, .ref xn, .ref xo, .ref xp, .ref xq, .ref xr, .ref xs, .ref xt, .int (nI n), .int (nI nx), .int (nI nb), .int (nI (((N1 + 1) + 1) + 1)), .int (nI na), .int (nI nc), .int (nI ne), .int (nI ns), .int (nI fee), .int sj, .int (nI 0), .int rs, .int stc])), (xh, .inl (cC, 400, .inl (upd (upd (upd F1 N1 (nI 91)) (N1 + 1) ((((nI 48) + (tC i)).toUInt32 % 65536).toInt32)) ((N1 + 1) + 1) (nI 58))))] H locs := hw
                  refine lv_iload_n hx hb dX8_writeText_86 rfl (lv_at hl 3 rfl) ?_
                  refine lv_aload_n hx hb dX8_writeText_87 rfl (lv_at hl 1 rfl) ?_
                  refine r_get cx hw inX8_writeText_8 2 20 rfl rfl (by decide) lkX8_writeText_3 rfl dX8_writeText_88 ?_
                  refine r_icmp_ge cx 104 i n rfl rfl (by omega) (by omega) dX8_writeText_91 (by decide) (fun c91 => by omega) (fun c91 => ?_)
                  refine lv_aload_n hx hb dX8_writeText_94 rfl (lv_at hl 1 rfl) ?_
                  refine lv_aload_n hx hb dX8_writeText_95 rfl (lv_at hl 1 rfl) ?_
                  refine r_get cx hw inX8_writeText_8 2 0 rfl rfl (by decide) lkX8_writeText_5 rfl dX8_writeText_96 ?_
                  refine lv_iload_n hx hb dX8_writeText_99 rfl (lv_at hl 3 rfl) ?_
                  refine r_cald cx hw 0 0 rfl rfl i rfl (by omega) (by omega) dX8_writeText_100 ?_
                  refine r_callVv (n := 1) (wr := [(xa, .inl (cC, 60, .inl tL)), (xd, .inl (cI, 60, .inl tC))]) cx hw (mX8_writes l D cC cI cJ cZ cD x xa xb xc xd xe xf xg xh xi xj xk xl xm xn xo xp xq xr xs xt n nx nb (((N1 + 1) + 1) + 1) na nc ne ns fee sj (nI 0) rs stc (upd (upd (upd F1 N1 (nI 91)) (N1 + 1) ((((nI 48) + (tC i)).toUInt32 % 65536).toInt32)) ((N1 + 1) + 1) (nI 58)) (tL i) H.size (by first | omega | (have hb8 : b1 o = 1 := if_neg (fun z => c42 (hon.mpr z)); omega)) (htL i) (CA_upd (CA_upd (CA_upd hFc (by decide)) (pk_vc _)) (by decide))) [2, 3] [0, 1] gX8_writeText_X8_writes rfl rfl rfl (by decide +kernel) ⟨Nat.le_of_ble_eq_true rfl, Nat.le_of_ble_eq_true rfl⟩ (q0 := 2) rfl rfl rfl rfl (by decide) (by decide) (by decide) rfl rfl hl.1 (Nat.le_of_ble_eq_true rfl) dX8_writeText_101 ⟨Nat.le_of_ble_eq_true rfl, Nat.le_of_ble_eq_true rfl⟩ (fun u H locs hp hw => ?_)
                  have hw : ww D (TY cC cI cJ cZ cD) s A s.heap [(xa, .inl (cC, 60, .inl tL)), (xd, .inl (cI, 60, .inl tC)), (x, .inr (10, [.ref xa, .ref xb, .ref xc, .ref xd, .ref xe, .ref xf, .ref xg, .ref xh, .ref xi, .ref xj, .ref xk, .ref xl, .ref xm, .ref xn, .ref xo, .ref xp, .ref xq, .ref xr, .ref xs, .ref xt, .int (nI n), .int (nI nx), .int (nI nb), .int (nI ((((N1 + 1) + 1) + 1) + 1)), .int (nI na), .int (nI nc), .int (nI ne), .int (nI ns), .int (nI fee), .int sj, .int (nI 0), .int rs, .int stc])), (xh, .inl (cC, 400, .inl (upd (upd (upd (upd F1 N1 (nI 91)) (N1 + 1) ((((nI 48) + (tC i)).toUInt32 % 65536).toInt32)) ((N1 + 1) + 1) (nI 58)) (((N1 + 1) + 1) + 1) (tL i))))] H locs := hw
                  refine lv_iload_n hx hb dX8_writeText_104 rfl (lv_at hl 0 rfl) ?_
                  refine lv_istore_n (lv' := [(1, .int (tC i)), (3, .int (tC i)), (0, .ref x), (2, .int (nI i))]) hx hb dX8_writeText_105 rfl hl (by decide) rfl (fun ls hl => ?_)
                  refine lv_iinc (v := nI (i + 1)) (lv' := [(2, .int (nI (i + 1))), (1, .int (tC i)), (3, .int (tC i)), (0, .ref x)]) hx hb dX8_writeText_106 hl (k := 3) rfl (by rw [ii1, nI_1]) (by decide) rfl (fun ls hl => ?_)
                  refine lv_goto (tgt := 14) hx hb dX8_writeText_109 (by decide) ?_
                  exact ih14 (tC i) (i + 1) ((((N1 + 1) + 1) + 1) + 1) (upd (upd (upd (upd F1 N1 (nI 91)) (N1 + 1) ((((nI 48) + (tC i)).toUInt32 % 65536).toInt32)) ((N1 + 1) + 1) (nI 58)) (((N1 + 1) + 1) + 1) (tL i)) (by omega) (by omega) (by intro _; exact ⟨rfl, by rw [wtx_1, ← hN1, ← hF1, ← ho]; (first | exact absurd c47 c62 | exact absurd c62 c47 | exact absurd (show o < 0 by rw [← c47]; exact c57) c42 | (rw [wsA c62]; first | done | rfl) | (rw [wsB (hon.mp c42) c62]; first | done | rfl) | (rw [wsE (fun z => c42 (hon.mpr z)) (fun z => c57 (hci.mpr z)) c47]; first | done | rfl) | (rw [wsD (fun z => c42 (hon.mpr z)) (hci.mp c57)]; first | done | rfl) | (rw [wsA ((hci.mp c57).trans (hon.mp c42).symm)]; first | done | rfl)), by rw [wtx_2, ← hN1, ← hF1, ← ho]; (first | exact absurd c47 c62 | exact absurd c62 c47 | exact absurd (show o < 0 by rw [← c47]; exact c57) c42 | (rw [wsA c62]; first | done | rfl) | (rw [wsB (hon.mp c42) c62]; first | done | rfl) | (rw [wsE (fun z => c42 (hon.mpr z)) (fun z => c57 (hci.mpr z)) c47]; first | done | rfl) | (rw [wsD (fun z => c42 (hon.mpr z)) (hci.mp c57)]; first | done | rfl) | (rw [wsA ((hci.mp c57).trans (hon.mp c42).symm)]; first | done | rfl))⟩) (by intro z; omega) (by exact (CA_upd (CA_upd (CA_upd (CA_upd hFc (by decide)) (pk_vc _)) (by decide)) (htL i))) _ _ (hw.pick [2, 0, 1, 3] (by decide) rfl) _ (lv_sub hl [3, 1, 0] rfl)
            · refine lv_aload_n hx hb dX8_writeText_50 rfl (lv_at hl 1 rfl) ?_
              refine lv_bipush (v := nI 93) hx hb dX8_writeText_51 (by decide) ?_
              refine r_callVv (n := 1) (wr := [(xa, .inl (cC, 60, .inl tL)), (xd, .inl (cI, 60, .inl tC))]) cx hw (mX8_writes l D cC cI cJ cZ cD x xa xb xc xd xe xf xg xh xi xj xk xl xm xn xo xp xq xr xs xt n nx nb N1 na nc ne ns fee sj (nI 0) rs stc F1 (nI 93) H.size (by (have hb8 : b1 o = 1 := if_neg (fun z => c42 (hon.mpr z)); omega)) (by decide) hFc) [0, 3] [1, 2] gX8_writeText_X8_writes rfl rfl rfl (by decide +kernel) ⟨Nat.le_of_ble_eq_true rfl, Nat.le_of_ble_eq_true rfl⟩ (q0 := 0) rfl rfl rfl rfl (by decide) (by decide) (by decide) rfl rfl hl.1 (Nat.le_of_ble_eq_true rfl) dX8_writeText_53 ⟨Nat.le_of_ble_eq_true rfl, Nat.le_of_ble_eq_true rfl⟩ (fun u H locs hp hw => ?_)
              have hw : ww D (TY cC cI cJ cZ cD) s A s.heap [(xa, .inl (cC, 60, .inl tL)), (xd, .inl (cI, 60, .inl tC)), (x, .inr (10, [.ref xa, .ref xb, .ref xc, .ref xd, .ref xe, .ref xf, .ref xg, .ref xh, .ref xi, .ref xj, .ref xk, .ref xl, .ref xm, .ref xn, .ref xo, .ref xp, .ref xq, .ref xr, .ref xs, .ref xt, .int (nI n), .int (nI nx), .int (nI nb), .int (nI (N1 + 1)), .int (nI na), .int (nI nc), .int (nI ne), .int (nI ns), .int (nI fee), .int sj, .int (nI 0), .int rs, .int stc])), (xh, .inl (cC, 400, .inl (upd F1 N1 (nI 93))))] H locs := hw
              refine lv_iload_n hx hb dX8_writeText_56 rfl (lv_at hl 0 rfl) ?_
              refine lv_if_lt (tgt := 86) hx hb dX8_writeText_57 (by decide) (fun c57 => ?_) (fun c57 => ?_)
              · refine lv_iload_n hx hb dX8_writeText_86 rfl (lv_at hl 3 rfl) ?_
                refine lv_aload_n hx hb dX8_writeText_87 rfl (lv_at hl 1 rfl) ?_
                refine r_get cx hw inX8_writeText_8 2 20 rfl rfl (by decide) lkX8_writeText_3 rfl dX8_writeText_88 ?_
                refine r_icmp_ge cx 104 i n rfl rfl (by omega) (by omega) dX8_writeText_91 (by decide) (fun c91 => by omega) (fun c91 => ?_)
                refine lv_aload_n hx hb dX8_writeText_94 rfl (lv_at hl 1 rfl) ?_
                refine lv_aload_n hx hb dX8_writeText_95 rfl (lv_at hl 1 rfl) ?_
                refine r_get cx hw inX8_writeText_8 2 0 rfl rfl (by decide) lkX8_writeText_5 rfl dX8_writeText_96 ?_
                refine lv_iload_n hx hb dX8_writeText_99 rfl (lv_at hl 3 rfl) ?_
                refine r_cald cx hw 0 0 rfl rfl i rfl (by omega) (by omega) dX8_writeText_100 ?_
                refine r_callVv (n := 1) (wr := [(xa, .inl (cC, 60, .inl tL)), (xd, .inl (cI, 60, .inl tC))]) cx hw (mX8_writes l D cC cI cJ cZ cD x xa xb xc xd xe xf xg xh xi xj xk xl xm xn xo xp xq xr xs xt n nx nb (N1 + 1) na nc ne ns fee sj (nI 0) rs stc (upd F1 N1 (nI 93)) (tL i) H.size (by first | omega | (have hb8 : b1 o = 1 := if_neg (fun z => c42 (hon.mpr z)); omega)) (htL i) (CA_upd hFc (by decide))) [2, 3] [0, 1] gX8_writeText_X8_writes rfl rfl rfl (by decide +kernel) ⟨Nat.le_of_ble_eq_true rfl, Nat.le_of_ble_eq_true rfl⟩ (q0 := 2) rfl rfl rfl rfl (by decide) (by decide) (by decide) rfl rfl hl.1 (Nat.le_of_ble_eq_true rfl) dX8_writeText_101 ⟨Nat.le_of_ble_eq_true rfl, Nat.le_of_ble_eq_true rfl⟩ (fun u H locs hp hw => ?_)
                have hw : ww D (TY cC cI cJ cZ cD) s A s.heap [(xa, .inl (cC, 60, .inl tL)), (xd, .inl (cI, 60, .inl tC)), (x, .inr (10, [.ref xa, .ref xb, .ref xc, .ref xd, .ref xe, .ref xf, .ref xg, .ref xh, .ref xi, .ref xj, .ref xk, .ref xl, .ref xm, .ref xn, .ref xo, .ref xp, .ref xq, .ref xr, .ref xs, .ref xt, .int (nI n), .int (nI nx), .int (nI nb), .int (nI ((N1 + 1) + 1)), .int (nI na), .int (nI nc), .int (nI ne), .int (nI ns), .int (nI fee), .int sj, .int (nI 0), .int rs, .int stc])), (xh, .inl (cC, 400, .inl (upd (upd F1 N1 (nI 93)) (N1 + 1) (tL i))))] H locs := hw
                refine lv_iload_n hx hb dX8_writeText_104 rfl (lv_at hl 0 rfl) ?_
                refine lv_istore_n (lv' := [(1, .int (tC i)), (3, .int (tC i)), (0, .ref x), (2, .int (nI i))]) hx hb dX8_writeText_105 rfl hl (by decide) rfl (fun ls hl => ?_)
                refine lv_iinc (v := nI (i + 1)) (lv' := [(2, .int (nI (i + 1))), (1, .int (tC i)), (3, .int (tC i)), (0, .ref x)]) hx hb dX8_writeText_106 hl (k := 3) rfl (by rw [ii1, nI_1]) (by decide) rfl (fun ls hl => ?_)
                refine lv_goto (tgt := 14) hx hb dX8_writeText_109 (by decide) ?_
                exact ih14 (tC i) (i + 1) ((N1 + 1) + 1) (upd (upd F1 N1 (nI 93)) (N1 + 1) (tL i)) (by omega) (by omega) (by intro _; exact ⟨rfl, by rw [wtx_1, ← hN1, ← hF1, ← ho]; (first | exact absurd c47 c62 | exact absurd c62 c47 | exact absurd (show o < 0 by rw [← c47]; exact c57) c42 | (rw [wsA c62]; first | done | rfl) | (rw [wsB (hon.mp c42) c62]; first | done | rfl) | (rw [wsE (fun z => c42 (hon.mpr z)) (fun z => c57 (hci.mpr z)) c47]; first | done | rfl) | (rw [wsD (fun z => c42 (hon.mpr z)) (hci.mp c57)]; first | done | rfl) | (rw [wsA ((hci.mp c57).trans (hon.mp c42).symm)]; first | done | rfl)), by rw [wtx_2, ← hN1, ← hF1, ← ho]; (first | exact absurd c47 c62 | exact absurd c62 c47 | exact absurd (show o < 0 by rw [← c47]; exact c57) c42 | (rw [wsA c62]; first | done | rfl) | (rw [wsB (hon.mp c42) c62]; first | done | rfl) | (rw [wsE (fun z => c42 (hon.mpr z)) (fun z => c57 (hci.mpr z)) c47]; first | done | rfl) | (rw [wsD (fun z => c42 (hon.mpr z)) (hci.mp c57)]; first | done | rfl) | (rw [wsA ((hci.mp c57).trans (hon.mp c42).symm)]; first | done | rfl))⟩) (by intro z; omega) (by exact (CA_upd (CA_upd hFc (by decide)) (htL i))) _ _ (hw.pick [2, 0, 1, 3] (by decide) rfl) _ (lv_sub hl [3, 1, 0] rfl)
              · refine lv_iload_n hx hb dX8_writeText_60 rfl (lv_at hl 0 rfl) ?_
                refine lv_iload_n hx hb dX8_writeText_61 rfl (lv_at hl 2 rfl) ?_
                refine lv_icmp_eq (tgt := 86) hx hb dX8_writeText_62 (by decide) (fun c62 => ?_) (fun c62 => ?_)
                · refine lv_iload_n hx hb dX8_writeText_86 rfl (lv_at hl 3 rfl) ?_
                  refine lv_aload_n hx hb dX8_writeText_87 rfl (lv_at hl 1 rfl) ?_
                  refine r_get cx hw inX8_writeText_8 2 20 rfl rfl (by decide) lkX8_writeText_3 rfl dX8_writeText_88 ?_
                  refine r_icmp_ge cx 104 i n rfl rfl (by omega) (by omega) dX8_writeText_91 (by decide) (fun c91 => by omega) (fun c91 => ?_)
                  refine lv_aload_n hx hb dX8_writeText_94 rfl (lv_at hl 1 rfl) ?_
                  refine lv_aload_n hx hb dX8_writeText_95 rfl (lv_at hl 1 rfl) ?_
                  refine r_get cx hw inX8_writeText_8 2 0 rfl rfl (by decide) lkX8_writeText_5 rfl dX8_writeText_96 ?_
                  refine lv_iload_n hx hb dX8_writeText_99 rfl (lv_at hl 3 rfl) ?_
                  refine r_cald cx hw 0 0 rfl rfl i rfl (by omega) (by omega) dX8_writeText_100 ?_
                  refine r_callVv (n := 1) (wr := [(xa, .inl (cC, 60, .inl tL)), (xd, .inl (cI, 60, .inl tC))]) cx hw (mX8_writes l D cC cI cJ cZ cD x xa xb xc xd xe xf xg xh xi xj xk xl xm xn xo xp xq xr xs xt n nx nb (N1 + 1) na nc ne ns fee sj (nI 0) rs stc (upd F1 N1 (nI 93)) (tL i) H.size (by first | omega | (have hb8 : b1 o = 1 := if_neg (fun z => c42 (hon.mpr z)); omega)) (htL i) (CA_upd hFc (by decide))) [2, 3] [0, 1] gX8_writeText_X8_writes rfl rfl rfl (by decide +kernel) ⟨Nat.le_of_ble_eq_true rfl, Nat.le_of_ble_eq_true rfl⟩ (q0 := 2) rfl rfl rfl rfl (by decide) (by decide) (by decide) rfl rfl hl.1 (Nat.le_of_ble_eq_true rfl) dX8_writeText_101 ⟨Nat.le_of_ble_eq_true rfl, Nat.le_of_ble_eq_true rfl⟩ (fun u H locs hp hw => ?_)
                  have hw : ww D (TY cC cI cJ cZ cD) s A s.heap [(xa, .inl (cC, 60, .inl tL)), (xd, .inl (cI, 60, .inl tC)), (x, .inr (10, [.ref xa, .ref xb, .ref xc, .ref xd, .ref xe, .ref xf, .ref xg, .ref xh, .ref xi, .ref xj, .ref xk, .ref xl, .ref xm, .ref xn, .ref xo, .ref xp, .ref xq, .ref xr, .ref xs, .ref xt, .int (nI n), .int (nI nx), .int (nI nb), .int (nI ((N1 + 1) + 1)), .int (nI na), .int (nI nc), .int (nI ne), .int (nI ns), .int (nI fee), .int sj, .int (nI 0), .int rs, .int stc])), (xh, .inl (cC, 400, .inl (upd (upd F1 N1 (nI 93)) (N1 + 1) (tL i))))] H locs := hw
                  refine lv_iload_n hx hb dX8_writeText_104 rfl (lv_at hl 0 rfl) ?_
                  refine lv_istore_n (lv' := [(1, .int (tC i)), (3, .int (tC i)), (0, .ref x), (2, .int (nI i))]) hx hb dX8_writeText_105 rfl hl (by decide) rfl (fun ls hl => ?_)
                  refine lv_iinc (v := nI (i + 1)) (lv' := [(2, .int (nI (i + 1))), (1, .int (tC i)), (3, .int (tC i)), (0, .ref x)]) hx hb dX8_writeText_106 hl (k := 3) rfl (by rw [ii1, nI_1]) (by decide) rfl (fun ls hl => ?_)
                  refine lv_goto (tgt := 14) hx hb dX8_writeText_109 (by decide) ?_
                  exact ih14 (tC i) (i + 1) ((N1 + 1) + 1) (upd (upd F1 N1 (nI 93)) (N1 + 1) (tL i)) (by omega) (by omega) (by intro _; exact ⟨rfl, by rw [wtx_1, ← hN1, ← hF1, ← ho]; (first | exact absurd c47 c62 | exact absurd c62 c47 | exact absurd (show o < 0 by rw [← c47]; exact c57) c42 | (rw [wsA c62]; first | done | rfl) | (rw [wsB (hon.mp c42) c62]; first | done | rfl) | (rw [wsE (fun z => c42 (hon.mpr z)) (fun z => c57 (hci.mpr z)) c47]; first | done | rfl) | (rw [wsD (fun z => c42 (hon.mpr z)) (hci.mp c57)]; first | done | rfl) | (rw [wsA ((hci.mp c57).trans (hon.mp c42).symm)]; first | done | rfl)), by rw [wtx_2, ← hN1, ← hF1, ← ho]; (first | exact absurd c47 c62 | exact absurd c62 c47 | exact absurd (show o < 0 by rw [← c47]; exact c57) c42 | (rw [wsA c62]; first | done | rfl) | (rw [wsB (hon.mp c42) c62]; first | done | rfl) | (rw [wsE (fun z => c42 (hon.mpr z)) (fun z => c57 (hci.mpr z)) c47]; first | done | rfl) | (rw [wsD (fun z => c42 (hon.mpr z)) (hci.mp c57)]; first | done | rfl) | (rw [wsA ((hci.mp c57).trans (hon.mp c42).symm)]; first | done | rfl))⟩) (by intro z; omega) (by exact (CA_upd (CA_upd hFc (by decide)) (htL i))) _ _ (hw.pick [2, 0, 1, 3] (by decide) rfl) _ (lv_sub hl [3, 1, 0] rfl)
                · refine lv_aload_n hx hb dX8_writeText_65 rfl (lv_at hl 1 rfl) ?_
                  refine lv_bipush (v := nI 91) hx hb dX8_writeText_66 (by decide) ?_
                  refine r_callVv (n := 1) (wr := [(xa, .inl (cC, 60, .inl tL)), (xd, .inl (cI, 60, .inl tC))]) cx hw (mX8_writes l D cC cI cJ cZ cD x xa xb xc xd xe xf xg xh xi xj xk xl xm xn xo xp xq xr xs xt n nx nb (N1 + 1) na nc ne ns fee sj (nI 0) rs stc (upd F1 N1 (nI 93)) (nI 91) H.size (by first | omega | (have hb8 : b1 o = 1 := if_neg (fun z => c42 (hon.mpr z)); omega)) (by decide) (CA_upd hFc (by decide))) [2, 3] [0, 1] gX8_writeText_X8_writes rfl rfl rfl (by decide +kernel) ⟨Nat.le_of_ble_eq_true rfl, Nat.le_of_ble_eq_true rfl⟩ (q0 := 2) rfl rfl rfl rfl (by decide) (by decide) (by decide) rfl rfl hl.1 (Nat.le_of_ble_eq_true rfl) dX8_writeText_68 ⟨Nat.le_of_ble_eq_true rfl, Nat.le_of_ble_eq_true rfl⟩ (fun u H locs hp hw => ?_)
                  have hw : ww D (TY cC cI cJ cZ cD) s A s.heap [(xa, .inl (cC, 60, .inl tL)), (xd, .inl (cI, 60, .inl tC)), (x, .inr (10, [.ref xa, .ref xb, .ref xc, .ref xd, .ref xe, .ref xf, .ref xg, .ref xh, .ref xi, .ref xj, .ref xk, .ref xl, .ref xm, .ref xn, .ref xo, .ref xp, .ref xq, .ref xr, .ref xs, .ref xt, .int (nI n), .int (nI nx), .int (nI nb), .int (nI ((N1 + 1) + 1)), .int (nI na), .int (nI nc), .int (nI ne), .int (nI ns), .int (nI fee), .int sj, .int (nI 0), .int rs, .int stc])), (xh, .inl (cC, 400, .inl (upd (upd F1 N1 (nI 93)) (N1 + 1) (nI 91))))] H locs := hw
                  refine lv_aload_n hx hb dX8_writeText_71 rfl (lv_at hl 1 rfl) ?_
                  refine lv_bipush (v := nI 48) hx hb dX8_writeText_72 (by decide) ?_
                  refine lv_iload_n hx hb dX8_writeText_74 rfl (lv_at hl 0 rfl) ?_
                  refine lv_iadd hx hb dX8_writeText_75 ?_
                  refine lv_i2c (v := (((nI 48) + (tC i)).toUInt32 % 65536).toInt32) hx hb dX8_writeText_76 rfl ?_
                  refine r_callVv (n := 1) (wr := [(xa, .inl (cC, 60, .inl tL)), (xd, .inl (cI, 60, .inl tC))]) cx hw (mX8_writes l D cC cI cJ cZ cD x xa xb xc xd xe xf xg xh xi xj xk xl xm xn xo xp xq xr xs xt n nx nb ((N1 + 1) + 1) na nc ne ns fee sj (nI 0) rs stc (upd (upd F1 N1 (nI 93)) (N1 + 1) (nI 91)) ((((nI 48) + (tC i)).toUInt32 % 65536).toInt32) H.size (by first | omega | (have hb8 : b1 o = 1 := if_neg (fun z => c42 (hon.mpr z)); omega)) (pk_vc _) (CA_upd (CA_upd hFc (by decide)) (by decide))) [2, 3] [0, 1] gX8_writeText_X8_writes rfl rfl rfl (by decide +kernel) ⟨Nat.le_of_ble_eq_true rfl, Nat.le_of_ble_eq_true rfl⟩ (q0 := 2) rfl rfl rfl rfl (by decide) (by decide) (by decide) rfl rfl hl.1 (Nat.le_of_ble_eq_true rfl) dX8_writeText_77 ⟨Nat.le_of_ble_eq_true rfl, Nat.le_of_ble_eq_true rfl⟩ (fun u H locs hp hw => ?_)
                  have hw : ww D (TY cC cI cJ cZ cD) s A s.heap [(xa, .inl (cC, 60, .inl tL)), (xd, .inl (cI, 60, .inl tC)), (x, .inr (10, [.ref xa, .ref xb, .ref xc, .ref xd, .ref xe, .ref xf, .ref xg, .ref xh, .ref xi, .ref xj, .ref xk, .ref xl, .ref xm, .ref xn, .ref xo, .ref xp, .ref xq, .ref xr, .ref xs, .ref xt, .int (nI n), .int (nI nx), .int (nI nb), .int (nI (((N1 + 1) + 1) + 1)), .int (nI na), .int (nI nc), .int (nI ne), .int (nI ns), .int (nI fee), .int sj, .int (nI 0), .int rs, .int stc])), (xh, .inl (cC, 400, .inl (upd (upd (upd F1 N1 (nI 93)) (N1 + 1) (nI 91)) ((N1 + 1) + 1) ((((nI 48) + (tC i)).toUInt32 % 65536).toInt32))))] H locs := hw
                  refine lv_aload_n hx hb dX8_writeText_80 rfl (lv_at hl 1 rfl) ?_
                  refine lv_bipush (v := nI 58) hx hb dX8_writeText_81 (by decide) ?_
                  refine r_callVv (n := 1) (wr := [(xa, .inl (cC, 60, .inl tL)), (xd, .inl (cI, 60, .inl tC))]) cx hw (mX8_writes l D cC cI cJ cZ cD x xa xb xc xd xe xf xg xh xi xj xk xl xm xn xo xp xq xr xs xt n nx nb (((N1 + 1) + 1) + 1) na nc ne ns fee sj (nI 0) rs stc (upd (upd (upd F1 N1 (nI 93)) (N1 + 1) (nI 91)) ((N1 + 1) + 1) ((((nI 48) + (tC i)).toUInt32 % 65536).toInt32)) (nI 58) H.size (by first | omega | (have hb8 : b1 o = 1 := if_neg (fun z => c42 (hon.mpr z)); omega)) (by decide) (CA_upd (CA_upd (CA_upd hFc (by decide)) (by decide)) (pk_vc _))) [2, 3] [0, 1] gX8_writeText_X8_writes rfl rfl rfl (by decide +kernel) ⟨Nat.le_of_ble_eq_true rfl, Nat.le_of_ble_eq_true rfl⟩ (q0 := 2) rfl rfl rfl rfl (by decide) (by decide) (by decide) rfl rfl hl.1 (Nat.le_of_ble_eq_true rfl) dX8_writeText_83 ⟨Nat.le_of_ble_eq_true rfl, Nat.le_of_ble_eq_true rfl⟩ (fun u H locs hp hw => ?_)
                  have hw : ww D (TY cC cI cJ cZ cD) s A s.heap [(xa, .inl (cC, 60, .inl tL)), (xd, .inl (cI, 60, .inl tC)), (x, .inr (10, [.ref xa, .ref xb, .ref xc, .ref xd, .ref xe, .ref xf, .ref xg, .ref xh, .ref xi, .ref xj, .ref xk, .ref xl, .ref xm, .ref xn, .ref xo, .ref xp, .ref xq, .ref xr, .ref xs, .ref xt, .int (nI n), .int (nI nx), .int (nI nb), .int (nI ((((N1 + 1) + 1) + 1) + 1)), .int (nI na), .int (nI nc), .int (nI ne), .int (nI ns), .int (nI fee), .int sj, .int (nI 0), .int rs, .int stc])), (xh, .inl (cC, 400, .inl (upd (upd (upd (upd F1 N1 (nI 93)) (N1 + 1) (nI 91)) ((N1 + 1) + 1) ((((nI 48) + (tC i)).toUInt32 % 65536).toInt32)) (((N1 + 1) + 1) + 1) (nI 58))))] H locs := hw
                  refine lv_iload_n hx hb dX8_writeText_86 rfl (lv_at hl 3 rfl) ?_
                  refine lv_aload_n hx hb dX8_writeText_87 rfl (lv_at hl 1 rfl) ?_
                  refine r_get cx hw inX8_writeText_8 2 20 rfl rfl (by decide) lkX8_writeText_3 rfl dX8_writeText_88 ?_
                  refine r_icmp_ge cx 104 i n rfl rfl (by omega) (by omega) dX8_writeText_91 (by decide) (fun c91 => by omega) (fun c91 => ?_)
                  refine lv_aload_n hx hb dX8_writeText_94 rfl (lv_at hl 1 rfl) ?_
                  refine lv_aload_n hx hb dX8_writeText_95 rfl (lv_at hl 1 rfl) ?_
                  refine r_get cx hw inX8_writeText_8 2 0 rfl rfl (by decide) lkX8_writeText_5 rfl dX8_writeText_96 ?_
                  refine lv_iload_n hx hb dX8_writeText_99 rfl (lv_at hl 3 rfl) ?_
                  refine r_cald cx hw 0 0 rfl rfl i rfl (by omega) (by omega) dX8_writeText_100 ?_
                  refine r_callVv (n := 1) (wr := [(xa, .inl (cC, 60, .inl tL)), (xd, .inl (cI, 60, .inl tC))]) cx hw (mX8_writes l D cC cI cJ cZ cD x xa xb xc xd xe xf xg xh xi xj xk xl xm xn xo xp xq xr xs xt n nx nb ((((N1 + 1) + 1) + 1) + 1) na nc ne ns fee sj (nI 0) rs stc (upd (upd (upd (upd F1 N1 (nI 93)) (N1 + 1) (nI 91)) ((N1 + 1) + 1) ((((nI 48) + (tC i)).toUInt32 % 65536).toInt32)) (((N1 + 1) + 1) + 1) (nI 58)) (tL i) H.size (by first | omega | (have hb8 : b1 o = 1 := if_neg (fun z => c42 (hon.mpr z)); omega)) (htL i) (CA_upd (CA_upd (CA_upd (CA_upd hFc (by decide)) (by decide)) (pk_vc _)) (by decide))) [2, 3] [0, 1] gX8_writeText_X8_writes rfl rfl rfl (by decide +kernel) ⟨Nat.le_of_ble_eq_true rfl, Nat.le_of_ble_eq_true rfl⟩ (q0 := 2) rfl rfl rfl rfl (by decide) (by decide) (by decide) rfl rfl hl.1 (Nat.le_of_ble_eq_true rfl) dX8_writeText_101 ⟨Nat.le_of_ble_eq_true rfl, Nat.le_of_ble_eq_true rfl⟩ (fun u H locs hp hw => ?_)
                  have hw : ww D (TY cC cI cJ cZ cD) s A s.heap [(xa, .inl (cC, 60, .inl tL)), (xd, .inl (cI, 60, .inl tC)), (x, .inr (10, [.ref xa, .ref xb, .ref xc, .ref xd, .ref xe, .ref xf, .ref xg, .ref xh, .ref xi, .ref xj, .ref xk, .ref xl, .ref xm, .ref xn, .ref xo, .ref xp, .ref xq, .ref xr, .ref xs, .ref xt, .int (nI n), .int (nI nx), .int (nI nb), .int (nI (((((N1 + 1) + 1) + 1) + 1) + 1)), .int (nI na), .int (nI nc), .int (nI ne), .int (nI ns), .int (nI fee), .int sj, .int (nI 0), .int rs, .int stc])), (xh, .inl (cC, 400, .inl (upd (upd (upd (upd (upd F1 N1 (nI 93)) (N1 + 1) (nI 91)) ((N1 + 1) + 1) ((((nI 48) + (tC i)).toUInt32 % 65536).toInt32)) (((N1 + 1) + 1) + 1) (nI 58)) ((((N1 + 1) + 1) + 1) + 1) (tL i))))] H locs := hw
                  refine lv_iload_n hx hb dX8_writeText_104 rfl (lv_at hl 0 rfl) ?_
                  refine lv_istore_n (lv' := [(1, .int (tC i)), (3, .int (tC i)), (0, .ref x), (2, .int (nI i))]) hx hb dX8_writeText_105 rfl hl (by decide) rfl (fun ls hl => ?_)
                  refine lv_iinc (v := nI (i + 1)) (lv' := [(2, .int (nI (i + 1))), (1, .int (tC i)), (3, .int (tC i)), (0, .ref x)]) hx hb dX8_writeText_106 hl (k := 3) rfl (by rw [ii1, nI_1]) (by decide) rfl (fun ls hl => ?_)
                  refine lv_goto (tgt := 14) hx hb dX8_writeText_109 (by decide) ?_
                  exact ih14 (tC i) (i + 1) (((((N1 + 1) + 1) + 1) + 1) + 1) (upd (upd (upd (upd (upd F1 N1 (nI 93)) (N1 + 1) (nI 91)) ((N1 + 1) + 1) ((((nI 48) + (tC i)).toUInt32 % 65536).toInt32)) (((N1 + 1) + 1) + 1) (nI 58)) ((((N1 + 1) + 1) + 1) + 1) (tL i)) (by omega) (by omega) (by intro _; exact ⟨rfl, by rw [wtx_1, ← hN1, ← hF1, ← ho]; (first | exact absurd c47 c62 | exact absurd c62 c47 | exact absurd (show o < 0 by rw [← c47]; exact c57) c42 | (rw [wsA c62]; first | done | rfl) | (rw [wsB (hon.mp c42) c62]; first | done | rfl) | (rw [wsE (fun z => c42 (hon.mpr z)) (fun z => c57 (hci.mpr z)) c47]; first | done | rfl) | (rw [wsD (fun z => c42 (hon.mpr z)) (hci.mp c57)]; first | done | rfl) | (rw [wsA ((hci.mp c57).trans (hon.mp c42).symm)]; first | done | rfl)), by rw [wtx_2, ← hN1, ← hF1, ← ho]; (first | exact absurd c47 c62 | exact absurd c62 c47 | exact absurd (show o < 0 by rw [← c47]; exact c57) c42 | (rw [wsA c62]; first | done | rfl) | (rw [wsB (hon.mp c42) c62]; first | done | rfl) | (rw [wsE (fun z => c42 (hon.mpr z)) (fun z => c57 (hci.mpr z)) c47]; first | done | rfl) | (rw [wsD (fun z => c42 (hon.mpr z)) (hci.mp c57)]; first | done | rfl) | (rw [wsA ((hci.mp c57).trans (hon.mp c42).symm)]; first | done | rfl))⟩) (by intro z; omega) (by exact (CA_upd (CA_upd (CA_upd (CA_upd (CA_upd hFc (by decide)) (by decide)) (pk_vc _)) (by decide)) (htL i))) _ _ (hw.pick [2, 0, 1, 3] (by decide) rfl) _ (lv_sub hl [3, 1, 0] rfl)
  exact K14_0 _ (-1) 0 0 lF (Nat.lt_succ_self _) (by omega) (by intro _; exact ⟨rfl, rfl, rfl⟩) (by intro z; omega) (by exact hlF) _ _ hw _ (lv_sub hl [2, 1, 0] rfl)

theorem lkX8_writeClause_1 : Cond.fieldLink RX8 177 "SignedDocumentModel" "written" "I" ∈ wsX8_writeClause := List.mem_of_getElem? (i := 1) rfl
theorem inX8_writeClause_8 : ∀ w ∈ u_ws RX8 TX8 33, w ∈ wsX8_writeClause := fun _ h => List.mem_cons_of_mem _ (List.mem_append_left _ (List.mem_append_right _ h))
theorem lkX8_writeClause_2 : Cond.fieldLink RX8 98 "SignedDocumentModel" "length" "I" ∈ wsX8_writeClause := List.mem_of_getElem? (i := 2) rfl
theorem lkX8_writeClause_3 : Cond.fieldLink RX8 20 "SignedDocumentModel" "clause" "[I" ∈ wsX8_writeClause := List.mem_of_getElem? (i := 3) rfl
theorem lkX8_writeClause_4 : Cond.fieldLink RX8 7 "SignedDocumentModel" "ch" "[C" ∈ wsX8_writeClause := List.mem_of_getElem? (i := 4) rfl
set_option maxRecDepth 100000 in
set_option maxHeartbeats 4000000 in
theorem mX8_writeClause (l : Launch) (D : va_G) (cC cI cJ cZ cD : ClassId) (x xa xb xc xd xe xf xg xh xi xj xk xl xm xn xo xp xq xr xs xt : Nat) (n nx nb no na nc ne ns fee : Nat) (sj th rs stc : Int32) (tL : Nat → Int32) (tC : Nat → Int32) (lF : Nat → Int32) (v : Int32) (sz : Nat) (hnc : nc ≤ 6) (hn : n ≤ 60) (htL : ∀ j, vp_nar .char (tL j) = tL j) (hlF : ∀ j, vp_nar .char (lF j) = lF j) : MI l yX8_writeClause wsX8_writeClause ({ frames := 2, cells := 0, slots := 0, locals := 43 }) [.ref x, .int v] D (TY cC cI cJ cZ cD) [(x, .inr (10, [.ref xa, .ref xb, .ref xc, .ref xd, .ref xe, .ref xf, .ref xg, .ref xh, .ref xi, .ref xj, .ref xk, .ref xl, .ref xm, .ref xn, .ref xo, .ref xp, .ref xq, .ref xr, .ref xs, .ref xt, .int (nI n), .int (nI nx), .int (nI nb), .int (nI no), .int (nI na), .int (nI nc), .int (nI ne), .int (nI ns), .int (nI fee), .int sj, .int th, .int rs, .int stc])), (xa, .inl (cC, 60, .inl tL)), (xd, .inl (cI, 60, .inl tC)), (xh, .inl (cC, 400, .inl lF))] sz (fun (r : Int32) => fun (uu : Nat × (Nat → Int32) × Nat) => match uu with | (no2, lF2, k) => ((k < nc ∧ v = nI k ∧ r = nI no2 ∧ no2 = (wcs tL tC lF (nI k) n).1 ∧ lF2 = (wcs tL tC lF (nI k) n).2) ∨ (¬ ix v nc ∧ r = nI 0 ∧ no2 = no ∧ lF2 = lF))) (fun (uu : Nat × (Nat → Int32) × Nat) => match uu with | (no2, lF2, k) => [(x, .inr (10, [.ref xa, .ref xb, .ref xc, .ref xd, .ref xe, .ref xf, .ref xg, .ref xh, .ref xi, .ref xj, .ref xk, .ref xl, .ref xm, .ref xn, .ref xo, .ref xp, .ref xq, .ref xr, .ref xs, .ref xt, .int (nI n), .int (nI nx), .int (nI nb), .int (nI no2), .int (nI na), .int (nI nc), .int (nI ne), .int (nI ns), .int (nI fee), .int sj, .int (tx v nc), .int rs, .int stc])), (xa, .inl (cC, 60, .inl tL)), (xd, .inl (cI, 60, .inl tC)), (xh, .inl (cC, 400, .inl lF2))]) 0 0 := by
  refine mk_MI (cc := cX8_writeClause) (maxL := 3) (ret := (some .int)) (by decide) rfl (Nat.le_of_ble_eq_true rfl) ?_
  intro p e s mI args below meth cO A cx hr hlk hnm hw ls hl
  have hx := cx.1
  have hb := cx.2.1
  have hw : ww D (TY cC cI cJ cZ cD) s A s.heap [(x, .inr (10, [.ref xa, .ref xb, .ref xc, .ref xd, .ref xe, .ref xf, .ref xg, .ref xh, .ref xi, .ref xj, .ref xk, .ref xl, .ref xm, .ref xn, .ref xo, .ref xp, .ref xq, .ref xr, .ref xs, .ref xt, .int (nI n), .int (nI nx), .int (nI nb), .int (nI no), .int (nI na), .int (nI nc), .int (nI ne), .int (nI ns), .int (nI fee), .int sj, .int th, .int rs, .int stc])), (xa, .inl (cC, 60, .inl tL)), (xd, .inl (cI, 60, .inl tC)), (xh, .inl (cC, 400, .inl lF))] s.heap [] := hw
  have hl : lv_has ls 3 [(0, .ref x), (1, .int v)] := hl
  generalize hQ : MQ _ _ _ _ _ _ _ = Q
  refine hp_start hw (fun H locs hw => ?_)
  refine lv_aload_n hx hb dX8_writeClause_0 rfl (lv_at hl 0 rfl) ?_
  refine lv_iload_n hx hb dX8_writeClause_1 rfl (lv_at hl 1 rfl) ?_
  refine r_callVi (n := 1) (wr := [(xa, .inl (cC, 60, .inl tL)), (xd, .inl (cI, 60, .inl tC)), (xh, .inl (cC, 400, .inl lF))]) cx hw (mX8_isNoClause l D cC cI cJ cZ cD x xa xb xc xd xe xf xg xh xi xj xk xl xm xn xo xp xq xr xs xt n nx nb no na nc ne ns fee sj th rs stc v H.size hnc) [0] [1, 2, 3] gX8_writeClause_X8_isNoClause rfl rfl rfl (by decide +kernel) ⟨Nat.le_of_ble_eq_true rfl, Nat.le_of_ble_eq_true rfl⟩ (q0 := 0) rfl rfl rfl rfl (by decide) (by decide) (by decide) rfl rfl hl.1 (Nat.le_of_ble_eq_true rfl) dX8_writeClause_2 ⟨Nat.le_of_ble_eq_true rfl, Nat.le_of_ble_eq_true rfl⟩ (fun r_1 u H locs hp hw => ?_)
  have hw : ww D (TY cC cI cJ cZ cD) s A s.heap [(xa, .inl (cC, 60, .inl tL)), (xd, .inl (cI, 60, .inl tC)), (xh, .inl (cC, 400, .inl lF)), (x, .inr (10, [.ref xa, .ref xb, .ref xc, .ref xd, .ref xe, .ref xf, .ref xg, .ref xh, .ref xi, .ref xj, .ref xk, .ref xl, .ref xm, .ref xn, .ref xo, .ref xp, .ref xq, .ref xr, .ref xs, .ref xt, .int (nI n), .int (nI nx), .int (nI nb), .int (nI no), .int (nI na), .int (nI nc), .int (nI ne), .int (nI ns), .int (nI fee), .int sj, .int (tx v nc), .int rs, .int stc]))] H locs := hw
  try dsimp only at hp
  have hb9 := hp
  rcases hb9 with ⟨rfl, b2⟩ | ⟨rfl, b2⟩
  · refine r_if_eq cx 10 1 rfl (by omega) dX8_writeClause_5 (by decide) (fun c5 => by exact absurd c5 (by decide)) (fun c5 => ?_)
    refine lv_iconst (v := nI 0) hx hb dX8_writeClause_8 (by decide) ?_
    subst hQ
    exact r_reti (v := nI 0) cx hr rfl hlk hw (Nat.le_of_ble_eq_true rfl) (Nat.le_of_ble_eq_true rfl) (no, lF, 0) (Or.inr ⟨b2, rfl, rfl, rfl⟩) [3, 0, 1, 2] (by decide) rfl dX8_writeClause_9
  · obtain ⟨k9, hk9, rfl⟩ := nI_of_ix (Decidable.of_not_not b2)
    refine r_if_eq cx 10 0 rfl (by omega) dX8_writeClause_5 (by decide) (fun c5 => ?_) (fun c5 => by exact absurd c5 (by decide))
    refine lv_aload_n hx hb dX8_writeClause_10 rfl (lv_at hl 0 rfl) ?_
    refine lv_iconst (v := nI 0) hx hb dX8_writeClause_11 (by decide) ?_
    refine r_put cx hw inX8_writeClause_8 tyX8 tyX8_ok nmX8 3 23 rfl rfl (by decide) lkX8_writeClause_1 rfl rfl rfl (Nat.le_of_ble_eq_true rfl) dX8_writeClause_12 (fun H locs hw => ?_)
    have hw : ww D (TY cC cI cJ cZ cD) s A s.heap [(xa, .inl (cC, 60, .inl tL)), (xd, .inl (cI, 60, .inl tC)), (xh, .inl (cC, 400, .inl lF)), (x, .inr (10, [.ref xa, .ref xb, .ref xc, .ref xd, .ref xe, .ref xf, .ref xg, .ref xh, .ref xi, .ref xj, .ref xk, .ref xl, .ref xm, .ref xn, .ref xo, .ref xp, .ref xq, .ref xr, .ref xs, .ref xt, .int (nI n), .int (nI nx), .int (nI nb), .int (nI 0), .int (nI na), .int (nI nc), .int (nI ne), .int (nI ns), .int (nI fee), .int sj, .int (tx (nI k9) nc), .int rs, .int stc]))] H locs := hw
    refine lv_iconst (v := nI 0) hx hb dX8_writeClause_15 (by decide) ?_
    refine lv_istore_n (lv' := [(2, .int (nI 0)), (0, .ref x), (1, .int (nI k9))]) hx hb dX8_writeClause_16 rfl hl (by decide) rfl (fun ls hl => ?_)
    have K17_1 : ∀ (f : Nat) (i : Nat) (N1 : Nat) (F1 : Nat → Int32), (61 - i) < f → (i ≤ n) → (N1 = (wcs tL tC lF (nI k9) i).1) → (F1 = (wcs tL tC lF (nI k9) i).2) → ∀ (H : Heap) (locs : List Loc), ww D (TY cC cI cJ cZ cD) s A s.heap [(xa, .inl (cC, 60, .inl tL)), (xd, .inl (cI, 60, .inl tC)), (xh, .inl (cC, 400, .inl F1)), (x, .inr (10, [.ref xa, .ref xb, .ref xc, .ref xd, .ref xe, .ref xf, .ref xg, .ref xh, .ref xi, .ref xj, .ref xk, .ref xl, .ref xm, .ref xn, .ref xo, .ref xp, .ref xq, .ref xr, .ref xs, .ref xt, .int (nI n), .int (nI nx), .int (nI nb), .int (nI N1), .int (nI na), .int (nI nc), .int (nI ne), .int (nI ns), .int (nI fee), .int sj, .int (tx (nI k9) nc), .int rs, .int stc]))] H locs → ∀ ls : Array Slot, lv_has ls 3 [(0, .ref x), (1, .int (nI k9)), (2, .int (nI i))] → W p l e ({ frames := 2, cells := 0, slots := 0, locals := 43 } : Room) s mI args below meth cO H locs 0 0 Q (F0 mI 17 ls []) := by
      intro f
      induction f with
      | zero => intro i N1 F1 hms9; exact absurd hms9 (Nat.not_lt_zero _)
      | succ f ih17 =>
        intro i N1 F1 hms9 hi hN1 hF1 H locs hw ls hl
        have hFc : ∀ j, vp_nar .char (F1 j) = F1 j := by rw [hF1]; exact CA_wcs htL hlF i
        have hle : N1 ≤ i := by rw [hN1]; exact wcs_le i
        refine lv_iload_n hx hb dX8_writeClause_17 rfl (lv_at hl 2 rfl) ?_
        refine lv_aload_n hx hb dX8_writeClause_18 rfl (lv_at hl 0 rfl) ?_
        refine r_get cx hw inX8_writeClause_8 3 20 rfl rfl (by decide) lkX8_writeClause_2 rfl dX8_writeClause_19 ?_
        refine r_icmp_ge cx 51 i n rfl rfl (by omega) (by omega) dX8_writeClause_22 (by decide) (fun c22 => ?_) (fun c22 => ?_)
        · refine lv_aload_n hx hb dX8_writeClause_51 rfl (lv_at hl 0 rfl) ?_
          refine r_get cx hw inX8_writeClause_8 3 23 rfl rfl (by decide) lkX8_writeClause_1 rfl dX8_writeClause_52 ?_
          subst hQ
          exact r_reti (v := nI N1) cx hr rfl hlk hw (Nat.le_of_ble_eq_true rfl) (Nat.le_of_ble_eq_true rfl) (N1, F1, k9) (Or.inl ⟨hk9, rfl, rfl, by rw [hN1, show i = n by omega], by rw [hF1, show i = n by omega]⟩) [3, 0, 1, 2] (by decide) rfl dX8_writeClause_55
        · refine lv_aload_n hx hb dX8_writeClause_25 rfl (lv_at hl 0 rfl) ?_
          refine r_get cx hw inX8_writeClause_8 3 3 rfl rfl (by decide) lkX8_writeClause_3 rfl dX8_writeClause_26 ?_
          refine lv_iload_n hx hb dX8_writeClause_29 rfl (lv_at hl 2 rfl) ?_
          refine r_iald cx hw 1 1 rfl rfl i rfl (by omega) (by omega) dX8_writeClause_30 ?_
          refine lv_iload_n hx hb dX8_writeClause_31 rfl (lv_at hl 1 rfl) ?_
          refine lv_icmp_ne (tgt := 45) hx hb dX8_writeClause_32 (by decide) (fun c32 => ?_) (fun c32 => ?_)
          · refine lv_iinc (v := nI (i + 1)) (lv' := [(2, .int (nI (i + 1))), (0, .ref x), (1, .int (nI k9))]) hx hb dX8_writeClause_45 hl (k := 2) rfl (by rw [ii1, nI_1]) (by decide) rfl (fun ls hl => ?_)
            refine lv_goto (tgt := 17) hx hb dX8_writeClause_48 (by decide) ?_
            exact ih17 (i + 1) N1 F1 (by omega) (by omega) (by rw [wcs_f c32, hN1]) (by rw [wcs_f c32, hF1]) _ _ hw _ (lv_sub hl [1, 2, 0] rfl)
          · refine lv_aload_n hx hb dX8_writeClause_35 rfl (lv_at hl 0 rfl) ?_
            refine lv_aload_n hx hb dX8_writeClause_36 rfl (lv_at hl 0 rfl) ?_
            refine r_get cx hw inX8_writeClause_8 3 0 rfl rfl (by decide) lkX8_writeClause_4 rfl dX8_writeClause_37 ?_
            refine lv_iload_n hx hb dX8_writeClause_40 rfl (lv_at hl 2 rfl) ?_
            refine r_cald cx hw 0 0 rfl rfl i rfl (by omega) (by omega) dX8_writeClause_41 ?_
            refine r_callVv (n := 1) (wr := [(xa, .inl (cC, 60, .inl tL)), (xd, .inl (cI, 60, .inl tC))]) cx hw (mX8_writes l D cC cI cJ cZ cD x xa xb xc xd xe xf xg xh xi xj xk xl xm xn xo xp xq xr xs xt n nx nb N1 na nc ne ns fee sj (tx (nI k9) nc) rs stc F1 (tL i) H.size (by omega) (htL i) hFc) [3, 2] [0, 1] gX8_writeClause_X8_writes rfl rfl rfl (by decide +kernel) ⟨Nat.le_of_ble_eq_true rfl, Nat.le_of_ble_eq_true rfl⟩ (q0 := 3) rfl rfl rfl rfl (by decide) (by decide) (by decide) rfl rfl hl.1 (Nat.le_of_ble_eq_true rfl) dX8_writeClause_42 ⟨Nat.le_of_ble_eq_true rfl, Nat.le_of_ble_eq_true rfl⟩ (fun u H locs hp hw => ?_)
            have hw : ww D (TY cC cI cJ cZ cD) s A s.heap [(xa, .inl (cC, 60, .inl tL)), (xd, .inl (cI, 60, .inl tC)), (x, .inr (10, [.ref xa, .ref xb, .ref xc, .ref xd, .ref xe, .ref xf, .ref xg, .ref xh, .ref xi, .ref xj, .ref xk, .ref xl, .ref xm, .ref xn, .ref xo, .ref xp, .ref xq, .ref xr, .ref xs, .ref xt, .int (nI n), .int (nI nx), .int (nI nb), .int (nI (N1 + 1)), .int (nI na), .int (nI nc), .int (nI ne), .int (nI ns), .int (nI fee), .int sj, .int (tx (nI k9) nc), .int rs, .int stc])), (xh, .inl (cC, 400, .inl (upd F1 N1 (tL i))))] H locs := hw
            refine lv_iinc (v := nI (i + 1)) (lv' := [(2, .int (nI (i + 1))), (0, .ref x), (1, .int (nI k9))]) hx hb dX8_writeClause_45 hl (k := 2) rfl (by rw [ii1, nI_1]) (by decide) rfl (fun ls hl => ?_)
            refine lv_goto (tgt := 17) hx hb dX8_writeClause_48 (by decide) ?_
            exact ih17 (i + 1) (N1 + 1) (upd F1 N1 (tL i)) (by omega) (by omega) (by rw [wcs_t c32, hN1]) (by rw [wcs_t c32, hN1, hF1]) _ _ (hw.pick [0, 1, 3, 2] (by decide) rfl) _ (lv_sub hl [1, 2, 0] rfl)
    exact K17_1 _ 0 0 lF (Nat.lt_succ_self _) (by omega) (by rfl) (by rfl) _ _ hw _ (lv_sub hl [1, 2, 0] rfl)

theorem lkX8_addClause_2 : Cond.fieldLink RX8 109 "SignedDocumentModel" "clauses" "I" ∈ wsX8_addClause := List.mem_of_getElem? (i := 2) rfl
theorem inX8_addClause_8 : ∀ w ∈ u_ws RX8 TX8 33, w ∈ wsX8_addClause := fun _ h => List.mem_cons_of_mem _ (List.mem_append_left _ (List.mem_append_right _ h))
theorem lkX8_addClause_1 : Cond.fieldLink RX8 20 "SignedDocumentModel" "clause" "[I" ∈ wsX8_addClause := List.mem_of_getElem? (i := 1) rfl
set_option maxRecDepth 100000 in
set_option maxHeartbeats 4000000 in
theorem mX8_addClause (l : Launch) (D : va_G) (cC cI cJ cZ cD : ClassId) (x xa xb xc xd xe xf xg xh xi xj xk xl xm xn xo xp xq xr xs xt : Nat) (n nx nb no na nc ne ns fee : Nat) (sj th rs stc : Int32) (tC : Nat → Int32) (v k9 : Int32) (sz : Nat) (hnc : nc ≤ 6) (hn : n ≤ 60) (hC9 : ∀ j, j < n → tC j = (-1) ∨ 0 ≤ tC j) : MI l yX8_addClause wsX8_addClause ({ frames := 1, cells := 0, slots := 0, locals := 22 }) [.ref x, .int v, .int k9] D (TY cC cI cJ cZ cD) [(x, .inr (10, [.ref xa, .ref xb, .ref xc, .ref xd, .ref xe, .ref xf, .ref xg, .ref xh, .ref xi, .ref xj, .ref xk, .ref xl, .ref xm, .ref xn, .ref xo, .ref xp, .ref xq, .ref xr, .ref xs, .ref xt, .int (nI n), .int (nI nx), .int (nI nb), .int (nI no), .int (nI na), .int (nI nc), .int (nI ne), .int (nI ns), .int (nI fee), .int sj, .int th, .int rs, .int stc])), (xd, .inl (cI, 60, .inl tC))] sz (fun (r : Int32) => fun (uu : Int32 × Nat × (Nat → Int32) × Nat × Nat) => match uu with | (d9, nc2, tC2, i, j) => d9 = nI (vCla v k9 n nc tC) ∧ (((vCla v k9 n nc tC) = 0 ∧ 1 ≤ j ∧ i + j ≤ n ∧ v = nI i ∧ k9 = nI j ∧ r = nI nc ∧ nc2 = nc + 1 ∧ tC2 = mk tC i j (nI nc)) ∨ (¬ (vCla v k9 n nc tC) = 0 ∧ r = nI 0 ∧ nc2 = nc ∧ tC2 = tC))) (fun (uu : Int32 × Nat × (Nat → Int32) × Nat × Nat) => match uu with | (d9, nc2, tC2, i, j) => [(x, .inr (10, [.ref xa, .ref xb, .ref xc, .ref xd, .ref xe, .ref xf, .ref xg, .ref xh, .ref xi, .ref xj, .ref xk, .ref xl, .ref xm, .ref xn, .ref xo, .ref xp, .ref xq, .ref xr, .ref xs, .ref xt, .int (nI n), .int (nI nx), .int (nI nb), .int (nI no), .int (nI na), .int (nI nc2), .int (nI ne), .int (nI ns), .int (nI fee), .int sj, .int d9, .int rs, .int stc])), (xd, .inl (cI, 60, .inl tC2))]) 0 0 := by
  refine mk_MI (cc := cX8_addClause) (maxL := 5) (ret := (some .int)) (by decide) rfl (Nat.le_of_ble_eq_true rfl) ?_
  intro p e s mI args below meth cO A cx hr hlk hnm hw ls hl
  have hx := cx.1
  have hb := cx.2.1
  have hw : ww D (TY cC cI cJ cZ cD) s A s.heap [(x, .inr (10, [.ref xa, .ref xb, .ref xc, .ref xd, .ref xe, .ref xf, .ref xg, .ref xh, .ref xi, .ref xj, .ref xk, .ref xl, .ref xm, .ref xn, .ref xo, .ref xp, .ref xq, .ref xr, .ref xs, .ref xt, .int (nI n), .int (nI nx), .int (nI nb), .int (nI no), .int (nI na), .int (nI nc), .int (nI ne), .int (nI ns), .int (nI fee), .int sj, .int th, .int rs, .int stc])), (xd, .inl (cI, 60, .inl tC))] s.heap [] := hw
  have hl : lv_has ls 5 [(0, .ref x), (1, .int v), (2, .int k9)] := hl
  generalize hQ : MQ _ _ _ _ _ _ _ = Q
  refine hp_start hw (fun H locs hw => ?_)
  refine lv_aload_n hx hb dX8_addClause_0 rfl (lv_at hl 0 rfl) ?_
  refine lv_aload_n hx hb dX8_addClause_1 rfl (lv_at hl 0 rfl) ?_
  refine lv_iload_n hx hb dX8_addClause_2 rfl (lv_at hl 1 rfl) ?_
  refine lv_iload_n hx hb dX8_addClause_3 rfl (lv_at hl 2 rfl) ?_
  refine r_callVi (n := 2) (wr := [(xd, .inl (cI, 60, .inl tC))]) cx hw (mX8_isNoStretch l D cC cI cJ cZ cD x xa xb xc xd xe xf xg xh xi xj xk xl xm xn xo xp xq xr xs xt n nx nb no na nc ne ns fee sj th rs stc v k9 H.size hn) [0] [1] gX8_addClause_X8_isNoStretch rfl rfl rfl (by decide +kernel) ⟨Nat.le_of_ble_eq_true rfl, Nat.le_of_ble_eq_true rfl⟩ (q0 := 0) rfl rfl rfl rfl (by decide) (by decide) (by decide) rfl rfl hl.1 (Nat.le_of_ble_eq_true rfl) dX8_addClause_4 ⟨Nat.le_of_ble_eq_true rfl, Nat.le_of_ble_eq_true rfl⟩ (fun r_1 u H locs hp hw => ?_)
  have hw : ww D (TY cC cI cJ cZ cD) s A s.heap [(xd, .inl (cI, 60, .inl tC)), (x, .inr (10, [.ref xa, .ref xb, .ref xc, .ref xd, .ref xe, .ref xf, .ref xg, .ref xh, .ref xi, .ref xj, .ref xk, .ref xl, .ref xm, .ref xn, .ref xo, .ref xp, .ref xq, .ref xr, .ref xs, .ref xt, .int (nI n), .int (nI nx), .int (nI nb), .int (nI no), .int (nI na), .int (nI nc), .int (nI ne), .int (nI ns), .int (nI fee), .int sj, .int th, .int rs, .int stc]))] H locs := hw
  try dsimp only at hp
  have hb9 := hp
  rcases hb9 with ⟨rfl, b4⟩ | ⟨rfl, b4⟩
  · refine lv_iconst (v := nI 1) hx hb dX8_addClause_7 (by decide) ?_
    refine r_callVi (n := 2) (wr := [(xd, .inl (cI, 60, .inl tC))]) cx hw (mX8_isThrown l D cC cI cJ cZ cD x xa xb xc xd xe xf xg xh xi xj xk xl xm xn xo xp xq xr xs xt n nx nb no na nc ne ns fee sj th rs stc 1 1 H.size (by omega)) [1] [0] gX8_addClause_X8_isThrown rfl rfl rfl (by decide +kernel) ⟨Nat.le_of_ble_eq_true rfl, Nat.le_of_ble_eq_true rfl⟩ (q0 := 1) rfl rfl rfl rfl (by decide) (by decide) (by decide) rfl rfl hl.1 (Nat.le_of_ble_eq_true rfl) dX8_addClause_8 ⟨Nat.le_of_ble_eq_true rfl, Nat.le_of_ble_eq_true rfl⟩ (fun r_2 u H locs hp hw => ?_)
    have hw : ww D (TY cC cI cJ cZ cD) s A s.heap [(xd, .inl (cI, 60, .inl tC)), (x, .inr (10, [.ref xa, .ref xb, .ref xc, .ref xd, .ref xe, .ref xf, .ref xg, .ref xh, .ref xi, .ref xj, .ref xk, .ref xl, .ref xm, .ref xn, .ref xo, .ref xp, .ref xq, .ref xr, .ref xs, .ref xt, .int (nI n), .int (nI nx), .int (nI nb), .int (nI no), .int (nI na), .int (nI nc), .int (nI ne), .int (nI ns), .int (nI fee), .int sj, .int (thv 1 1), .int rs, .int stc]))] H locs := hw
    try dsimp only at hp
    subst hp
    refine r_if_eq cx 16 1 rfl (by omega) dX8_addClause_11 (by decide) (fun c11 => by exact absurd c11 (by decide)) (fun c11 => ?_)
    refine lv_iconst (v := nI 0) hx hb dX8_addClause_14 (by decide) ?_
    subst hQ
    exact r_reti (v := nI 0) cx hr rfl hlk hw (Nat.le_of_ble_eq_true rfl) (Nat.le_of_ble_eq_true rfl) (thv 1 1, nc, tC, 0, 0) (vy (if_pos b4) (by decide) ⟨rfl, rfl, rfl⟩) [1, 0] (by decide) rfl dX8_addClause_15
  · obtain ⟨i9, j9, g1, g2, rfl, rfl⟩ := nI_of_rng (Decidable.of_not_not b4)
    refine lv_iconst (v := nI 1) hx hb dX8_addClause_7 (by decide) ?_
    refine r_callVi (n := 2) (wr := [(xd, .inl (cI, 60, .inl tC))]) cx hw (mX8_isThrown l D cC cI cJ cZ cD x xa xb xc xd xe xf xg xh xi xj xk xl xm xn xo xp xq xr xs xt n nx nb no na nc ne ns fee sj th rs stc 0 1 H.size (by omega)) [1] [0] gX8_addClause_X8_isThrown rfl rfl rfl (by decide +kernel) ⟨Nat.le_of_ble_eq_true rfl, Nat.le_of_ble_eq_true rfl⟩ (q0 := 1) rfl rfl rfl rfl (by decide) (by decide) (by decide) rfl rfl hl.1 (Nat.le_of_ble_eq_true rfl) dX8_addClause_8 ⟨Nat.le_of_ble_eq_true rfl, Nat.le_of_ble_eq_true rfl⟩ (fun r_3 u H locs hp hw => ?_)
    have hw : ww D (TY cC cI cJ cZ cD) s A s.heap [(xd, .inl (cI, 60, .inl tC)), (x, .inr (10, [.ref xa, .ref xb, .ref xc, .ref xd, .ref xe, .ref xf, .ref xg, .ref xh, .ref xi, .ref xj, .ref xk, .ref xl, .ref xm, .ref xn, .ref xo, .ref xp, .ref xq, .ref xr, .ref xs, .ref xt, .int (nI n), .int (nI nx), .int (nI nb), .int (nI no), .int (nI na), .int (nI nc), .int (nI ne), .int (nI ns), .int (nI fee), .int sj, .int (thv 0 1), .int rs, .int stc]))] H locs := hw
    try dsimp only at hp
    subst hp
    refine r_if_eq cx 16 0 rfl (by omega) dX8_addClause_11 (by decide) (fun c11 => ?_) (fun c11 => by exact absurd c11 (by decide))
    refine lv_iconst (v := nI 0) hx hb dX8_addClause_16 (by decide) ?_
    refine lv_istore_n (lv' := [(3, .int (nI 0)), (0, .ref x), (1, .int (nI i9)), (2, .int (nI j9))]) hx hb dX8_addClause_17 rfl hl (by decide) rfl (fun ls hl => ?_)
    refine lv_iload_n hx hb dX8_addClause_18 rfl (lv_at hl 2 rfl) ?_
    refine lv_istore (lv' := [(4, .int (nI i9)), (3, .int (nI 0)), (0, .ref x), (1, .int (nI i9)), (2, .int (nI j9))]) hx hb dX8_addClause_19 hl (by decide) rfl (fun ls hl => ?_)
    have K21_3 : ∀ (f : Nat) (h9 : Int32) (i : Nat), (61 - i) < f → (i9 ≤ i) → (i ≤ i9 + j9) → (h9 = hasv tC i9 (i - i9)) → ∀ (H : Heap) (locs : List Loc), ww D (TY cC cI cJ cZ cD) s A s.heap [(xd, .inl (cI, 60, .inl tC)), (x, .inr (10, [.ref xa, .ref xb, .ref xc, .ref xd, .ref xe, .ref xf, .ref xg, .ref xh, .ref xi, .ref xj, .ref xk, .ref xl, .ref xm, .ref xn, .ref xo, .ref xp, .ref xq, .ref xr, .ref xs, .ref xt, .int (nI n), .int (nI nx), .int (nI nb), .int (nI no), .int (nI na), .int (nI nc), .int (nI ne), .int (nI ns), .int (nI fee), .int sj, .int (thv 0 1), .int rs, .int stc]))] H locs → ∀ ls : Array Slot, lv_has ls 5 [(0, .ref x), (1, .int (nI i9)), (2, .int (nI j9)), (3, .int h9), (4, .int (nI i))] → W p l e ({ frames := 1, cells := 0, slots := 0, locals := 22 } : Room) s mI args below meth cO H locs 0 0 Q (F0 mI 21 ls []) := by
      intro f
      induction f with
      | zero => intro h9 i hms9; exact absurd hms9 (Nat.not_lt_zero _)
      | succ f ih21 =>
        intro h9 i hms9 hi1 hi2 hh H locs hw ls hl
        refine lv_iload hx hb dX8_addClause_21 (lv_at hl 4 rfl) ?_
        refine lv_iload_n hx hb dX8_addClause_23 rfl (lv_at hl 1 rfl) ?_
        refine lv_iload_n hx hb dX8_addClause_24 rfl (lv_at hl 2 rfl) ?_
        refine r_iadd cx i9 j9 rfl rfl dX8_addClause_25 ?_
        refine r_icmp_ge cx 53 i (i9 + j9) rfl rfl (by omega) (by omega) dX8_addClause_26 (by decide) (fun c26 => ?_) (fun c26 => ?_)
        · have e8 : i - i9 = j9 := by omega
          rw [e8] at hh
          refine lv_aload_n hx hb dX8_addClause_53 rfl (lv_at hl 0 rfl) ?_
          refine lv_aload_n hx hb dX8_addClause_54 rfl (lv_at hl 0 rfl) ?_
          refine r_get cx hw inX8_addClause_8 1 25 rfl rfl (by decide) lkX8_addClause_2 rfl dX8_addClause_55 ?_
          refine lv_bipush (v := nI 6) hx hb dX8_addClause_58 (by decide) ?_
          refine r_icmp_eq cx 67 nc 6 rfl rfl (by omega) (by omega) dX8_addClause_60 (by decide) (fun c60 => ?_) (fun c60 => ?_)
          · refine lv_iconst (v := nI 1) hx hb dX8_addClause_67 (by decide) ?_
            refine lv_goto (tgt := 72) hx hb dX8_addClause_68 (by decide) ?_
            refine lv_iconst (v := nI 2) hx hb dX8_addClause_72 (by decide) ?_
            refine r_callVi (n := 2) (wr := [(xd, .inl (cI, 60, .inl tC))]) cx hw (mX8_isThrown l D cC cI cJ cZ cD x xa xb xc xd xe xf xg xh xi xj xk xl xm xn xo xp xq xr xs xt n nx nb no na nc ne ns fee sj (thv 0 1) rs stc 1 2 H.size (by omega)) [1] [0] gX8_addClause_X8_isThrown rfl rfl rfl (by decide +kernel) ⟨Nat.le_of_ble_eq_true rfl, Nat.le_of_ble_eq_true rfl⟩ (q0 := 1) rfl rfl rfl rfl (by decide) (by decide) (by decide) rfl rfl hl.1 (Nat.le_of_ble_eq_true rfl) dX8_addClause_73 ⟨Nat.le_of_ble_eq_true rfl, Nat.le_of_ble_eq_true rfl⟩ (fun r_5 u H locs hp hw => ?_)
            have hw : ww D (TY cC cI cJ cZ cD) s A s.heap [(xd, .inl (cI, 60, .inl tC)), (x, .inr (10, [.ref xa, .ref xb, .ref xc, .ref xd, .ref xe, .ref xf, .ref xg, .ref xh, .ref xi, .ref xj, .ref xk, .ref xl, .ref xm, .ref xn, .ref xo, .ref xp, .ref xq, .ref xr, .ref xs, .ref xt, .int (nI n), .int (nI nx), .int (nI nb), .int (nI no), .int (nI na), .int (nI nc), .int (nI ne), .int (nI ns), .int (nI fee), .int sj, .int (thv 1 2), .int rs, .int stc]))] H locs := hw
            try dsimp only at hp
            subst hp
            refine r_if_eq cx 81 1 rfl (by omega) dX8_addClause_76 (by decide) (fun c76 => by exact absurd c76 (by decide)) (fun c76 => ?_)
            refine lv_iconst (v := nI 0) hx hb dX8_addClause_79 (by decide) ?_
            subst hQ
            exact r_reti (v := nI 0) cx hr rfl hlk hw (Nat.le_of_ble_eq_true rfl) (Nat.le_of_ble_eq_true rfl) (thv 1 2, nc, tC, 0, 0) (vy ((if_neg (not_not_intro (rng_nI g1 g2 (by omega)))).trans (if_pos (by rw [nI_clamp (by omega), nI_clamp (by omega)]; first | exact Or.inl (by omega) | exact Or.inr (Bool.eq_false_iff.mpr (fun z => c64 (hh.trans (has_z.mpr z))))))) (by decide) ⟨rfl, rfl, rfl⟩) [1, 0] (by decide) rfl dX8_addClause_80
          · refine lv_iload_n hx hb dX8_addClause_63 rfl (lv_at hl 3 rfl) ?_
            refine lv_if_eq (tgt := 71) hx hb dX8_addClause_64 (by decide) (fun c64 => ?_) (fun c64 => ?_)
            · refine lv_iconst (v := nI 0) hx hb dX8_addClause_71 (by decide) ?_
              refine lv_iconst (v := nI 2) hx hb dX8_addClause_72 (by decide) ?_
              refine r_callVi (n := 2) (wr := [(xd, .inl (cI, 60, .inl tC))]) cx hw (mX8_isThrown l D cC cI cJ cZ cD x xa xb xc xd xe xf xg xh xi xj xk xl xm xn xo xp xq xr xs xt n nx nb no na nc ne ns fee sj (thv 0 1) rs stc 0 2 H.size (by omega)) [1] [0] gX8_addClause_X8_isThrown rfl rfl rfl (by decide +kernel) ⟨Nat.le_of_ble_eq_true rfl, Nat.le_of_ble_eq_true rfl⟩ (q0 := 1) rfl rfl rfl rfl (by decide) (by decide) (by decide) rfl rfl hl.1 (Nat.le_of_ble_eq_true rfl) dX8_addClause_73 ⟨Nat.le_of_ble_eq_true rfl, Nat.le_of_ble_eq_true rfl⟩ (fun r_6 u H locs hp hw => ?_)
              have hw : ww D (TY cC cI cJ cZ cD) s A s.heap [(xd, .inl (cI, 60, .inl tC)), (x, .inr (10, [.ref xa, .ref xb, .ref xc, .ref xd, .ref xe, .ref xf, .ref xg, .ref xh, .ref xi, .ref xj, .ref xk, .ref xl, .ref xm, .ref xn, .ref xo, .ref xp, .ref xq, .ref xr, .ref xs, .ref xt, .int (nI n), .int (nI nx), .int (nI nb), .int (nI no), .int (nI na), .int (nI nc), .int (nI ne), .int (nI ns), .int (nI fee), .int sj, .int (thv 0 2), .int rs, .int stc]))] H locs := hw
              try dsimp only at hp
              subst hp
              refine r_if_eq cx 81 0 rfl (by omega) dX8_addClause_76 (by decide) (fun c76 => ?_) (fun c76 => by exact absurd c76 (by decide))
              refine lv_iload_n hx hb dX8_addClause_81 rfl (lv_at hl 1 rfl) ?_
              refine lv_istore (lv' := [(4, .int (nI i9)), (0, .ref x), (1, .int (nI i9)), (2, .int (nI j9)), (3, .int h9)]) hx hb dX8_addClause_82 hl (by decide) rfl (fun ls hl => ?_)
              have K84_6 : ∀ (f : Nat) (i : Nat) (C1 : Nat → Int32), (61 - i) < f → (i9 ≤ i) → (i ≤ i9 + j9) → (C1 = mk tC i9 (i - i9) (nI nc)) → ∀ (H : Heap) (locs : List Loc), ww D (TY cC cI cJ cZ cD) s A s.heap [(xd, .inl (cI, 60, .inl C1)), (x, .inr (10, [.ref xa, .ref xb, .ref xc, .ref xd, .ref xe, .ref xf, .ref xg, .ref xh, .ref xi, .ref xj, .ref xk, .ref xl, .ref xm, .ref xn, .ref xo, .ref xp, .ref xq, .ref xr, .ref xs, .ref xt, .int (nI n), .int (nI nx), .int (nI nb), .int (nI no), .int (nI na), .int (nI nc), .int (nI ne), .int (nI ns), .int (nI fee), .int sj, .int (thv 0 2), .int rs, .int stc]))] H locs → ∀ ls : Array Slot, lv_has ls 5 [(0, .ref x), (1, .int (nI i9)), (2, .int (nI j9)), (4, .int (nI i))] → W p l e ({ frames := 1, cells := 0, slots := 0, locals := 22 } : Room) s mI args below meth cO H locs 0 0 Q (F0 mI 84 ls []) := by
                intro f
                induction f with
                | zero => intro i C1 hms9; exact absurd hms9 (Nat.not_lt_zero _)
                | succ f ih84 =>
                  intro i C1 hms9 hi1 hi2 hC1 H locs hw ls hl
                  refine lv_iload hx hb dX8_addClause_84 (lv_at hl 3 rfl) ?_
                  refine lv_iload_n hx hb dX8_addClause_86 rfl (lv_at hl 1 rfl) ?_
                  refine lv_iload_n hx hb dX8_addClause_87 rfl (lv_at hl 2 rfl) ?_
                  refine r_iadd cx i9 j9 rfl rfl dX8_addClause_88 ?_
                  refine r_icmp_ge cx 109 i (i9 + j9) rfl rfl (by omega) (by omega) dX8_addClause_89 (by decide) (fun c89 => ?_) (fun c89 => ?_)
                  · refine lv_aload_n hx hb dX8_addClause_109 rfl (lv_at hl 0 rfl) ?_
                    refine lv_dup hx hb dX8_addClause_110 rfl ?_
                    refine r_get cx hw inX8_addClause_8 1 25 rfl rfl (by decide) lkX8_addClause_2 rfl dX8_addClause_111 ?_
                    refine lv_iconst (v := nI 1) hx hb dX8_addClause_114 (by decide) ?_
                    refine r_iadd cx nc 1 rfl rfl dX8_addClause_115 ?_
                    refine r_put cx hw inX8_addClause_8 tyX8 tyX8_ok nmX8 1 25 rfl rfl (by decide) lkX8_addClause_2 rfl rfl rfl (Nat.le_of_ble_eq_true rfl) dX8_addClause_116 (fun H locs hw => ?_)
                    have hw : ww D (TY cC cI cJ cZ cD) s A s.heap [(xd, .inl (cI, 60, .inl C1)), (x, .inr (10, [.ref xa, .ref xb, .ref xc, .ref xd, .ref xe, .ref xf, .ref xg, .ref xh, .ref xi, .ref xj, .ref xk, .ref xl, .ref xm, .ref xn, .ref xo, .ref xp, .ref xq, .ref xr, .ref xs, .ref xt, .int (nI n), .int (nI nx), .int (nI nb), .int (nI no), .int (nI na), .int (nI (nc + 1)), .int (nI ne), .int (nI ns), .int (nI fee), .int sj, .int (thv 0 2), .int rs, .int stc]))] H locs := hw
                    refine lv_aload_n hx hb dX8_addClause_119 rfl (lv_at hl 0 rfl) ?_
                    refine r_get cx hw inX8_addClause_8 1 25 rfl rfl (by decide) lkX8_addClause_2 rfl dX8_addClause_120 ?_
                    refine lv_iconst (v := nI 1) hx hb dX8_addClause_123 (by decide) ?_
                    refine r_isub cx (nc + 1) 1 rfl rfl (by omega) dX8_addClause_124 ?_
                    subst hQ
                    exact r_reti (v := nI (nc + 1 - 1)) cx hr rfl hlk hw (Nat.le_of_ble_eq_true rfl) (Nat.le_of_ble_eq_true rfl) (thv 0 2, nc + 1, C1, i9, j9) (vn ((if_neg (not_not_intro (rng_nI g1 g2 (by omega)))).trans (if_neg (by rw [nI_clamp (by omega), nI_clamp (by omega)]; rintro (z | z); omega; rw [has_z.mp (hh.symm.trans c64)] at z; cases z))) ⟨g1, g2, rfl, rfl, rfl, rfl, by rw [hC1, show i - i9 = j9 by omega]⟩) [1, 0] (by decide) rfl dX8_addClause_125
                  · refine lv_aload_n hx hb dX8_addClause_92 rfl (lv_at hl 0 rfl) ?_
                    refine r_get cx hw inX8_addClause_8 1 3 rfl rfl (by decide) lkX8_addClause_1 rfl dX8_addClause_93 ?_
                    refine lv_iload hx hb dX8_addClause_96 (lv_at hl 3 rfl) ?_
                    refine lv_aload_n hx hb dX8_addClause_98 rfl (lv_at hl 0 rfl) ?_
                    refine r_get cx hw inX8_addClause_8 1 25 rfl rfl (by decide) lkX8_addClause_2 rfl dX8_addClause_99 ?_
                    refine r_iast cx hw 0 1 rfl rfl i rfl (by omega) (by omega) dX8_addClause_102 (fun H locs hw => ?_)
                    have hw : ww D (TY cC cI cJ cZ cD) s A s.heap [(xd, .inl (cI, 60, .inl (upd C1 i (nI nc)))), (x, .inr (10, [.ref xa, .ref xb, .ref xc, .ref xd, .ref xe, .ref xf, .ref xg, .ref xh, .ref xi, .ref xj, .ref xk, .ref xl, .ref xm, .ref xn, .ref xo, .ref xp, .ref xq, .ref xr, .ref xs, .ref xt, .int (nI n), .int (nI nx), .int (nI nb), .int (nI no), .int (nI na), .int (nI nc), .int (nI ne), .int (nI ns), .int (nI fee), .int sj, .int (thv 0 2), .int rs, .int stc]))] H locs := hw
                    refine lv_iinc (v := nI (i + 1)) (lv' := [(4, .int (nI (i + 1))), (0, .ref x), (1, .int (nI i9)), (2, .int (nI j9))]) hx hb dX8_addClause_103 hl (k := 3) rfl (by rw [ii1, nI_1]) (by decide) rfl (fun ls hl => ?_)
                    refine lv_goto (tgt := 84) hx hb dX8_addClause_106 (by decide) ?_
                    exact ih84 (i + 1) (upd C1 i (nI nc)) (by omega) (by omega) (by omega) (by rw [hC1, show i + 1 - i9 = (i - i9) + 1 by omega, ← mk_s, show i9 + (i - i9) = i by omega]) _ _ hw _ (lv_sub hl [1, 2, 3, 0] rfl)
              exact K84_6 _ i9 tC (Nat.lt_succ_self _) (by omega) (by omega) (by rw [Nat.sub_self, mk_0]) _ _ hw _ (lv_sub hl [1, 2, 3, 0] rfl)
            · refine lv_iconst (v := nI 1) hx hb dX8_addClause_67 (by decide) ?_
              refine lv_goto (tgt := 72) hx hb dX8_addClause_68 (by decide) ?_
              refine lv_iconst (v := nI 2) hx hb dX8_addClause_72 (by decide) ?_
              refine r_callVi (n := 2) (wr := [(xd, .inl (cI, 60, .inl tC))]) cx hw (mX8_isThrown l D cC cI cJ cZ cD x xa xb xc xd xe xf xg xh xi xj xk xl xm xn xo xp xq xr xs xt n nx nb no na nc ne ns fee sj (thv 0 1) rs stc 1 2 H.size (by omega)) [1] [0] gX8_addClause_X8_isThrown rfl rfl rfl (by decide +kernel) ⟨Nat.le_of_ble_eq_true rfl, Nat.le_of_ble_eq_true rfl⟩ (q0 := 1) rfl rfl rfl rfl (by decide) (by decide) (by decide) rfl rfl hl.1 (Nat.le_of_ble_eq_true rfl) dX8_addClause_73 ⟨Nat.le_of_ble_eq_true rfl, Nat.le_of_ble_eq_true rfl⟩ (fun r_8 u H locs hp hw => ?_)
              have hw : ww D (TY cC cI cJ cZ cD) s A s.heap [(xd, .inl (cI, 60, .inl tC)), (x, .inr (10, [.ref xa, .ref xb, .ref xc, .ref xd, .ref xe, .ref xf, .ref xg, .ref xh, .ref xi, .ref xj, .ref xk, .ref xl, .ref xm, .ref xn, .ref xo, .ref xp, .ref xq, .ref xr, .ref xs, .ref xt, .int (nI n), .int (nI nx), .int (nI nb), .int (nI no), .int (nI na), .int (nI nc), .int (nI ne), .int (nI ns), .int (nI fee), .int sj, .int (thv 1 2), .int rs, .int stc]))] H locs := hw
              try dsimp only at hp
              subst hp
              refine r_if_eq cx 81 1 rfl (by omega) dX8_addClause_76 (by decide) (fun c76 => by exact absurd c76 (by decide)) (fun c76 => ?_)
              refine lv_iconst (v := nI 0) hx hb dX8_addClause_79 (by decide) ?_
              subst hQ
              exact r_reti (v := nI 0) cx hr rfl hlk hw (Nat.le_of_ble_eq_true rfl) (Nat.le_of_ble_eq_true rfl) (thv 1 2, nc, tC, 0, 0) (vy ((if_neg (not_not_intro (rng_nI g1 g2 (by omega)))).trans (if_pos (by rw [nI_clamp (by omega), nI_clamp (by omega)]; first | exact Or.inl (by omega) | exact Or.inr (Bool.eq_false_iff.mpr (fun z => c64 (hh.trans (has_z.mpr z))))))) (by decide) ⟨rfl, rfl, rfl⟩) [1, 0] (by decide) rfl dX8_addClause_80
        · refine lv_iload_n hx hb dX8_addClause_29 rfl (lv_at hl 3 rfl) ?_
          refine lv_aload_n hx hb dX8_addClause_30 rfl (lv_at hl 0 rfl) ?_
          refine r_get cx hw inX8_addClause_8 1 3 rfl rfl (by decide) lkX8_addClause_1 rfl dX8_addClause_31 ?_
          refine lv_iload hx hb dX8_addClause_34 (lv_at hl 4 rfl) ?_
          refine r_iald cx hw 0 1 rfl rfl i rfl (by omega) (by omega) dX8_addClause_36 ?_
          refine lv_if_lt (tgt := 44) hx hb dX8_addClause_37 (by decide) (fun c37 => ?_) (fun c37 => ?_)
          · refine lv_iconst (v := nI 0) hx hb dX8_addClause_44 (by decide) ?_
            refine lv_ior hx hb dX8_addClause_45 ?_
            refine lv_istore_n (lv' := [(3, .int (h9 ||| (nI 0))), (0, .ref x), (1, .int (nI i9)), (2, .int (nI j9)), (4, .int (nI i))]) hx hb dX8_addClause_46 rfl hl (by decide) rfl (fun ls hl => ?_)
            refine lv_iinc (v := nI (i + 1)) (lv' := [(4, .int (nI (i + 1))), (3, .int (h9 ||| (nI 0))), (0, .ref x), (1, .int (nI i9)), (2, .int (nI j9))]) hx hb dX8_addClause_47 hl (k := 4) rfl (by rw [ii1, nI_1]) (by decide) rfl (fun ls hl => ?_)
            refine lv_goto (tgt := 21) hx hb dX8_addClause_50 (by decide) ?_
            exact ih21 (h9 ||| (nI 0)) (i + 1) (by omega) (by omega) (by omega) (by rw [hh, show i + 1 - i9 = (i - i9) + 1 by omega]; exact has_n (by rw [show i9 + (i - i9) = i by omega]; exact c37) (by rw [show i9 + (i - i9) = i by omega]; exact hC9 i (by omega))) _ _ hw _ (lv_sub hl [2, 3, 4, 1, 0] rfl)
          · refine lv_iconst (v := nI 1) hx hb dX8_addClause_40 (by decide) ?_
            refine lv_goto (tgt := 45) hx hb dX8_addClause_41 (by decide) ?_
            refine lv_ior hx hb dX8_addClause_45 ?_
            refine lv_istore_n (lv' := [(3, .int (h9 ||| (nI 1))), (0, .ref x), (1, .int (nI i9)), (2, .int (nI j9)), (4, .int (nI i))]) hx hb dX8_addClause_46 rfl hl (by decide) rfl (fun ls hl => ?_)
            refine lv_iinc (v := nI (i + 1)) (lv' := [(4, .int (nI (i + 1))), (3, .int (h9 ||| (nI 1))), (0, .ref x), (1, .int (nI i9)), (2, .int (nI j9))]) hx hb dX8_addClause_47 hl (k := 4) rfl (by rw [ii1, nI_1]) (by decide) rfl (fun ls hl => ?_)
            refine lv_goto (tgt := 21) hx hb dX8_addClause_50 (by decide) ?_
            exact ih21 (h9 ||| (nI 1)) (i + 1) (by omega) (by omega) (by omega) (by rw [hh, show i + 1 - i9 = (i - i9) + 1 by omega]; exact has_p (by rw [show i9 + (i - i9) = i by omega]; exact c37)) _ _ hw _ (lv_sub hl [2, 3, 4, 1, 0] rfl)
    exact K21_3 _ (nI 0) i9 (Nat.lt_succ_self _) (by omega) (by omega) (by rw [Nat.sub_self]; exact has_0.symm) _ _ hw _ (lv_sub hl [2, 3, 4, 1, 0] rfl)

theorem lkX8_signers_1 : Cond.fieldLink RX8 120 "SignedDocumentModel" "signatures" "I" ∈ wsX8_signers := List.mem_of_getElem? (i := 1) rfl
theorem inX8_signers_8 : ∀ w ∈ u_ws RX8 TX8 33, w ∈ wsX8_signers := fun _ h => List.mem_cons_of_mem _ (List.mem_append_left _ (List.mem_append_right _ h))
theorem lkX8_signers_2 : Cond.fieldLink RX8 70 "SignedDocumentModel" "state" "[C" ∈ wsX8_signers := List.mem_of_getElem? (i := 2) rfl
theorem lkX8_signers_3 : Cond.fieldLink RX8 53 "SignedDocumentModel" "set" "[I" ∈ wsX8_signers := List.mem_of_getElem? (i := 3) rfl
theorem lkX8_signers_4 : Cond.fieldLink RX8 50 "SignedDocumentModel" "signer" "[I" ∈ wsX8_signers := List.mem_of_getElem? (i := 4) rfl
set_option maxRecDepth 100000 in
set_option maxHeartbeats 4000000 in
theorem mX8_signers (l : Launch) (D : va_G) (cC cI cJ cZ cD : ClassId) (x xa xb xc xd xe xf xg xh xi xj xk xl xm xn xo xp xq xr xs xt : Nat) (n nx nb no na nc ne ns fee : Nat) (sj th rs stc : Int32) (gA : Nat → Int32) (gX : Nat → Int32) (gT : Nat → Int32) (v : Int32) (sz : Nat) (hnc : nc ≤ 6) (hns : ns ≤ 12) : MI l yX8_signers wsX8_signers ({ frames := 2, cells := 0, slots := 0, locals := 43 }) [.ref x, .int v] D (TY cC cI cJ cZ cD) [(x, .inr (10, [.ref xa, .ref xb, .ref xc, .ref xd, .ref xe, .ref xf, .ref xg, .ref xh, .ref xi, .ref xj, .ref xk, .ref xl, .ref xm, .ref xn, .ref xo, .ref xp, .ref xq, .ref xr, .ref xs, .ref xt, .int (nI n), .int (nI nx), .int (nI nb), .int (nI no), .int (nI na), .int (nI nc), .int (nI ne), .int (nI ns), .int (nI fee), .int sj, .int th, .int rs, .int stc])), (xn, .inl (cI, 12, .inl gA)), (xo, .inl (cI, 12, .inl gX)), (xt, .inl (cC, 12, .inl gT))] sz (fun (r : Int32) => fun (k : Nat) => ((k < nc ∧ v = nI k ∧ r = aov (vo gT gX (nI 1 <<< (nI k &&& 31))) gA ns) ∨ (¬ ix v nc ∧ r = nI 0))) (fun (k : Nat) => [(x, .inr (10, [.ref xa, .ref xb, .ref xc, .ref xd, .ref xe, .ref xf, .ref xg, .ref xh, .ref xi, .ref xj, .ref xk, .ref xl, .ref xm, .ref xn, .ref xo, .ref xp, .ref xq, .ref xr, .ref xs, .ref xt, .int (nI n), .int (nI nx), .int (nI nb), .int (nI no), .int (nI na), .int (nI nc), .int (nI ne), .int (nI ns), .int (nI fee), .int sj, .int (tx v nc), .int rs, .int stc])), (xn, .inl (cI, 12, .inl gA)), (xo, .inl (cI, 12, .inl gX)), (xt, .inl (cC, 12, .inl gT))]) 0 0 := by
  refine mk_MI (cc := cX8_signers) (maxL := 4) (ret := (some .int)) (by decide) rfl (Nat.le_of_ble_eq_true rfl) ?_
  intro p e s mI args below meth cO A cx hr hlk hnm hw ls hl
  have hx := cx.1
  have hb := cx.2.1
  have hw : ww D (TY cC cI cJ cZ cD) s A s.heap [(x, .inr (10, [.ref xa, .ref xb, .ref xc, .ref xd, .ref xe, .ref xf, .ref xg, .ref xh, .ref xi, .ref xj, .ref xk, .ref xl, .ref xm, .ref xn, .ref xo, .ref xp, .ref xq, .ref xr, .ref xs, .ref xt, .int (nI n), .int (nI nx), .int (nI nb), .int (nI no), .int (nI na), .int (nI nc), .int (nI ne), .int (nI ns), .int (nI fee), .int sj, .int th, .int rs, .int stc])), (xn, .inl (cI, 12, .inl gA)), (xo, .inl (cI, 12, .inl gX)), (xt, .inl (cC, 12, .inl gT))] s.heap [] := hw
  have hl : lv_has ls 4 [(0, .ref x), (1, .int v)] := hl
  generalize hQ : MQ _ _ _ _ _ _ _ = Q
  refine hp_start hw (fun H locs hw => ?_)
  refine lv_aload_n hx hb dX8_signers_0 rfl (lv_at hl 0 rfl) ?_
  refine lv_iload_n hx hb dX8_signers_1 rfl (lv_at hl 1 rfl) ?_
  refine r_callVi (n := 1) (wr := [(xn, .inl (cI, 12, .inl gA)), (xo, .inl (cI, 12, .inl gX)), (xt, .inl (cC, 12, .inl gT))]) cx hw (mX8_isNoClause l D cC cI cJ cZ cD x xa xb xc xd xe xf xg xh xi xj xk xl xm xn xo xp xq xr xs xt n nx nb no na nc ne ns fee sj th rs stc v H.size hnc) [0] [1, 2, 3] gX8_signers_X8_isNoClause rfl rfl rfl (by decide +kernel) ⟨Nat.le_of_ble_eq_true rfl, Nat.le_of_ble_eq_true rfl⟩ (q0 := 0) rfl rfl rfl rfl (by decide) (by decide) (by decide) rfl rfl hl.1 (Nat.le_of_ble_eq_true rfl) dX8_signers_2 ⟨Nat.le_of_ble_eq_true rfl, Nat.le_of_ble_eq_true rfl⟩ (fun r_1 u H locs hp hw => ?_)
  have hw : ww D (TY cC cI cJ cZ cD) s A s.heap [(xn, .inl (cI, 12, .inl gA)), (xo, .inl (cI, 12, .inl gX)), (xt, .inl (cC, 12, .inl gT)), (x, .inr (10, [.ref xa, .ref xb, .ref xc, .ref xd, .ref xe, .ref xf, .ref xg, .ref xh, .ref xi, .ref xj, .ref xk, .ref xl, .ref xm, .ref xn, .ref xo, .ref xp, .ref xq, .ref xr, .ref xs, .ref xt, .int (nI n), .int (nI nx), .int (nI nb), .int (nI no), .int (nI na), .int (nI nc), .int (nI ne), .int (nI ns), .int (nI fee), .int sj, .int (tx v nc), .int rs, .int stc]))] H locs := hw
  try dsimp only at hp
  have hb9 := hp
  rcases hb9 with ⟨rfl, b2⟩ | ⟨rfl, b2⟩
  · refine r_if_eq cx 10 1 rfl (by omega) dX8_signers_5 (by decide) (fun c5 => by exact absurd c5 (by decide)) (fun c5 => ?_)
    refine lv_iconst (v := nI 0) hx hb dX8_signers_8 (by decide) ?_
    subst hQ
    exact r_reti (v := nI 0) cx hr rfl hlk hw (Nat.le_of_ble_eq_true rfl) (Nat.le_of_ble_eq_true rfl) 0 (Or.inr ⟨b2, rfl⟩) [3, 0, 1, 2] (by decide) rfl dX8_signers_9
  · obtain ⟨k9, hk9, rfl⟩ := nI_of_ix (Decidable.of_not_not b2)
    refine r_if_eq cx 10 0 rfl (by omega) dX8_signers_5 (by decide) (fun c5 => ?_) (fun c5 => by exact absurd c5 (by decide))
    refine lv_iconst (v := nI 0) hx hb dX8_signers_10 (by decide) ?_
    refine lv_istore_n (lv' := [(2, .int (nI 0)), (0, .ref x), (1, .int (nI k9))]) hx hb dX8_signers_11 rfl hl (by decide) rfl (fun ls hl => ?_)
    refine lv_iconst (v := nI 0) hx hb dX8_signers_12 (by decide) ?_
    refine lv_istore_n (lv' := [(3, .int (nI 0)), (2, .int (nI 0)), (0, .ref x), (1, .int (nI k9))]) hx hb dX8_signers_13 rfl hl (by decide) rfl (fun ls hl => ?_)
    have K14_1 : ∀ (f : Nat) (q : Int32) (i : Nat), (13 - i) < f → (i ≤ ns) → (q = aov (vo gT gX (nI 1 <<< (nI k9 &&& 31))) gA i) → ∀ (H : Heap) (locs : List Loc), ww D (TY cC cI cJ cZ cD) s A s.heap [(xn, .inl (cI, 12, .inl gA)), (xo, .inl (cI, 12, .inl gX)), (xt, .inl (cC, 12, .inl gT)), (x, .inr (10, [.ref xa, .ref xb, .ref xc, .ref xd, .ref xe, .ref xf, .ref xg, .ref xh, .ref xi, .ref xj, .ref xk, .ref xl, .ref xm, .ref xn, .ref xo, .ref xp, .ref xq, .ref xr, .ref xs, .ref xt, .int (nI n), .int (nI nx), .int (nI nb), .int (nI no), .int (nI na), .int (nI nc), .int (nI ne), .int (nI ns), .int (nI fee), .int sj, .int (tx (nI k9) nc), .int rs, .int stc]))] H locs → ∀ ls : Array Slot, lv_has ls 4 [(0, .ref x), (1, .int (nI k9)), (2, .int q), (3, .int (nI i))] → W p l e ({ frames := 2, cells := 0, slots := 0, locals := 43 } : Room) s mI args below meth cO H locs 0 0 Q (F0 mI 14 ls []) := by
      intro f
      induction f with
      | zero => intro q i hms9; exact absurd hms9 (Nat.not_lt_zero _)
      | succ f ih14 =>
        intro q i hms9 hi hq H locs hw ls hl
        refine lv_iload_n hx hb dX8_signers_14 rfl (lv_at hl 3 rfl) ?_
        refine lv_aload_n hx hb dX8_signers_15 rfl (lv_at hl 0 rfl) ?_
        refine r_get cx hw inX8_signers_8 3 27 rfl rfl (by decide) lkX8_signers_1 rfl dX8_signers_16 ?_
        refine r_icmp_ge cx 68 i ns rfl rfl (by omega) (by omega) dX8_signers_19 (by decide) (fun c19 => ?_) (fun c19 => ?_)
        · refine lv_iload_n hx hb dX8_signers_68 rfl (lv_at hl 2 rfl) ?_
          subst hQ
          exact r_reti (v := q) cx hr rfl hlk hw (Nat.le_of_ble_eq_true rfl) (Nat.le_of_ble_eq_true rfl) k9 (Or.inl ⟨hk9, rfl, by rw [hq, show i = ns by omega]⟩) [3, 0, 1, 2] (by decide) rfl dX8_signers_69
        · refine lv_iload_n hx hb dX8_signers_22 rfl (lv_at hl 2 rfl) ?_
          refine lv_aload_n hx hb dX8_signers_23 rfl (lv_at hl 0 rfl) ?_
          refine r_get cx hw inX8_signers_8 3 19 rfl rfl (by decide) lkX8_signers_2 rfl dX8_signers_24 ?_
          refine lv_iload_n hx hb dX8_signers_27 rfl (lv_at hl 3 rfl) ?_
          refine r_cald cx hw 2 0 rfl rfl i rfl (by omega) (by omega) dX8_signers_28 ?_
          refine lv_bipush (v := nI 118) hx hb dX8_signers_29 (by decide) ?_
          refine lv_icmp_ne (tgt := 59) hx hb dX8_signers_31 (by decide) (fun c31 => ?_) (fun c31 => ?_)
          · refine lv_iconst (v := nI 0) hx hb dX8_signers_59 (by decide) ?_
            refine lv_ior hx hb dX8_signers_60 ?_
            refine lv_istore_n (lv' := [(2, .int (q ||| (nI 0))), (0, .ref x), (1, .int (nI k9)), (3, .int (nI i))]) hx hb dX8_signers_61 rfl hl (by decide) rfl (fun ls hl => ?_)
            refine lv_iinc (v := nI (i + 1)) (lv' := [(3, .int (nI (i + 1))), (2, .int (q ||| (nI 0))), (0, .ref x), (1, .int (nI k9))]) hx hb dX8_signers_62 hl (k := 3) rfl (by rw [ii1, nI_1]) (by decide) rfl (fun ls hl => ?_)
            refine lv_goto (tgt := 14) hx hb dX8_signers_65 (by decide) ?_
            exact ih14 (q ||| (nI 0)) (i + 1) (by omega) (by omega) (by rw [hq, or0]; first | exact (aov_f (fun z => c31 (vo_t.mp z).1)).symm | exact (aov_f (fun z => c45 ((bit_i (by omega)).mpr (vo_t.mp z).2))).symm) _ _ hw _ (lv_sub hl [2, 3, 1, 0] rfl)
          · refine lv_aload_n hx hb dX8_signers_34 rfl (lv_at hl 0 rfl) ?_
            refine r_get cx hw inX8_signers_8 3 14 rfl rfl (by decide) lkX8_signers_3 rfl dX8_signers_35 ?_
            refine lv_iload_n hx hb dX8_signers_38 rfl (lv_at hl 3 rfl) ?_
            refine r_iald cx hw 1 1 rfl rfl i rfl (by omega) (by omega) dX8_signers_39 ?_
            refine lv_iload_n hx hb dX8_signers_40 rfl (lv_at hl 1 rfl) ?_
            refine lv_ishr hx hb dX8_signers_41 ?_
            refine lv_iconst (v := nI 1) hx hb dX8_signers_42 (by decide) ?_
            refine lv_iand hx hb dX8_signers_43 ?_
            refine lv_iconst (v := nI 1) hx hb dX8_signers_44 (by decide) ?_
            refine lv_icmp_ne (tgt := 59) hx hb dX8_signers_45 (by decide) (fun c45 => ?_) (fun c45 => ?_)
            · refine lv_iconst (v := nI 0) hx hb dX8_signers_59 (by decide) ?_
              refine lv_ior hx hb dX8_signers_60 ?_
              refine lv_istore_n (lv' := [(2, .int (q ||| (nI 0))), (0, .ref x), (1, .int (nI k9)), (3, .int (nI i))]) hx hb dX8_signers_61 rfl hl (by decide) rfl (fun ls hl => ?_)
              refine lv_iinc (v := nI (i + 1)) (lv' := [(3, .int (nI (i + 1))), (2, .int (q ||| (nI 0))), (0, .ref x), (1, .int (nI k9))]) hx hb dX8_signers_62 hl (k := 3) rfl (by rw [ii1, nI_1]) (by decide) rfl (fun ls hl => ?_)
              refine lv_goto (tgt := 14) hx hb dX8_signers_65 (by decide) ?_
              exact ih14 (q ||| (nI 0)) (i + 1) (by omega) (by omega) (by rw [hq, or0]; first | exact (aov_f (fun z => c31 (vo_t.mp z).1)).symm | exact (aov_f (fun z => c45 ((bit_i (by omega)).mpr (vo_t.mp z).2))).symm) _ _ hw _ (lv_sub hl [2, 3, 1, 0] rfl)
            · refine lv_iconst (v := nI 1) hx hb dX8_signers_48 (by decide) ?_
              refine lv_aload_n hx hb dX8_signers_49 rfl (lv_at hl 0 rfl) ?_
              refine r_get cx hw inX8_signers_8 3 13 rfl rfl (by decide) lkX8_signers_4 rfl dX8_signers_50 ?_
              refine lv_iload_n hx hb dX8_signers_53 rfl (lv_at hl 3 rfl) ?_
              refine r_iald cx hw 0 1 rfl rfl i rfl (by omega) (by omega) dX8_signers_54 ?_
              refine lv_ishl hx hb dX8_signers_55 ?_
              refine lv_goto (tgt := 60) hx hb dX8_signers_56 (by decide) ?_
              refine lv_ior hx hb dX8_signers_60 ?_
              refine lv_istore_n (lv' := [(2, .int (q ||| ((nI 1) <<< (gA i &&& 31)))), (0, .ref x), (1, .int (nI k9)), (3, .int (nI i))]) hx hb dX8_signers_61 rfl hl (by decide) rfl (fun ls hl => ?_)
              refine lv_iinc (v := nI (i + 1)) (lv' := [(3, .int (nI (i + 1))), (2, .int (q ||| ((nI 1) <<< (gA i &&& 31)))), (0, .ref x), (1, .int (nI k9))]) hx hb dX8_signers_62 hl (k := 3) rfl (by rw [ii1, nI_1]) (by decide) rfl (fun ls hl => ?_)
              refine lv_goto (tgt := 14) hx hb dX8_signers_65 (by decide) ?_
              exact ih14 (q ||| ((nI 1) <<< (gA i &&& 31))) (i + 1) (by omega) (by omega) (by rw [hq]; exact (aov_t (vo_t.mpr ⟨c31, (bit_i (by omega)).mp c45⟩)).symm) _ _ hw _ (lv_sub hl [2, 3, 1, 0] rfl)
    exact K14_1 _ (nI 0) 0 (Nat.lt_succ_self _) (by omega) (by rfl) _ _ hw _ (lv_sub hl [2, 3, 1, 0] rfl)

theorem lkX8_share_1 : Cond.fieldLink RX8 98 "SignedDocumentModel" "length" "I" ∈ wsX8_share := List.mem_of_getElem? (i := 1) rfl
theorem inX8_share_8 : ∀ w ∈ u_ws RX8 TX8 33, w ∈ wsX8_share := fun _ h => List.mem_cons_of_mem _ (List.mem_append_left _ (List.mem_append_right _ h))
theorem lkX8_share_2 : Cond.fieldLink RX8 16 "SignedDocumentModel" "who" "[I" ∈ wsX8_share := List.mem_of_getElem? (i := 2) rfl
set_option maxRecDepth 100000 in
set_option maxHeartbeats 4000000 in
theorem mX8_share (l : Launch) (D : va_G) (cC cI cJ cZ cD : ClassId) (x xa xb xc xd xe xf xg xh xi xj xk xl xm xn xo xp xq xr xs xt : Nat) (n nx nb no na nc ne ns fee : Nat) (sj th rs stc : Int32) (tA : Nat → Int32) (v : Int32) (sz : Nat) (hna : na ≤ 5) (hn : n ≤ 60) (hf32 : ∀ a b : Nat, a ≤ 60 → 0 < b → b ≤ 60 → vf_n32 (FP.fdiv (FP.i2f (nI a)) (FP.i2f (nI b)))) : MF l yX8_share wsX8_share ({ frames := 2, cells := 0, slots := 0, locals := 43 }) [.ref x, .int v] D (TY cC cI cJ cZ cD) [(x, .inr (10, [.ref xa, .ref xb, .ref xc, .ref xd, .ref xe, .ref xf, .ref xg, .ref xh, .ref xi, .ref xj, .ref xk, .ref xl, .ref xm, .ref xn, .ref xo, .ref xp, .ref xq, .ref xr, .ref xs, .ref xt, .int (nI n), .int (nI nx), .int (nI nb), .int (nI no), .int (nI na), .int (nI nc), .int (nI ne), .int (nI ns), .int (nI fee), .int sj, .int th, .int rs, .int stc])), (xc, .inl (cI, 60, .inl tA))] sz (fun (r : UInt32) => fun (uu : Int32 × Nat) => match uu with | (d9, k) => d9 = nI (vSha v na n) ∧ (((vSha v na n) = 0 ∧ k < na ∧ v = nI k ∧ r = FP.fdiv (FP.i2f (nI (ct (fun j => decide (tA j = nI k)) n))) (FP.i2f (nI n))) ∨ (¬ (vSha v na n) = 0 ∧ r = 0))) (fun (uu : Int32 × Nat) => match uu with | (d9, k) => [(x, .inr (10, [.ref xa, .ref xb, .ref xc, .ref xd, .ref xe, .ref xf, .ref xg, .ref xh, .ref xi, .ref xj, .ref xk, .ref xl, .ref xm, .ref xn, .ref xo, .ref xp, .ref xq, .ref xr, .ref xs, .ref xt, .int (nI n), .int (nI nx), .int (nI nb), .int (nI no), .int (nI na), .int (nI nc), .int (nI ne), .int (nI ns), .int (nI fee), .int sj, .int d9, .int rs, .int stc])), (xc, .inl (cI, 60, .inl tA))]) 0 0 := by
  refine mk_MF (cc := cX8_share) (maxL := 4) (ret := (some .float)) (by decide) rfl (Nat.le_of_ble_eq_true rfl) ?_
  intro p e s mI args below meth cO A cx hr hlk hnm hw ls hl
  have hx := cx.1
  have hb := cx.2.1
  have hw : ww D (TY cC cI cJ cZ cD) s A s.heap [(x, .inr (10, [.ref xa, .ref xb, .ref xc, .ref xd, .ref xe, .ref xf, .ref xg, .ref xh, .ref xi, .ref xj, .ref xk, .ref xl, .ref xm, .ref xn, .ref xo, .ref xp, .ref xq, .ref xr, .ref xs, .ref xt, .int (nI n), .int (nI nx), .int (nI nb), .int (nI no), .int (nI na), .int (nI nc), .int (nI ne), .int (nI ns), .int (nI fee), .int sj, .int th, .int rs, .int stc])), (xc, .inl (cI, 60, .inl tA))] s.heap [] := hw
  have hl : lv_has ls 4 [(0, .ref x), (1, .int v)] := hl
  generalize hQ : MQ _ _ _ _ _ _ _ = Q
  refine hp_start hw (fun H locs hw => ?_)
  refine lv_aload_n hx hb dX8_share_0 rfl (lv_at hl 0 rfl) ?_
  refine lv_aload_n hx hb dX8_share_1 rfl (lv_at hl 0 rfl) ?_
  refine lv_iload_n hx hb dX8_share_2 rfl (lv_at hl 1 rfl) ?_
  refine r_callVi (n := 1) (wr := [(xc, .inl (cI, 60, .inl tA))]) cx hw (mX8_isNoAuthor l D cC cI cJ cZ cD x xa xb xc xd xe xf xg xh xi xj xk xl xm xn xo xp xq xr xs xt n nx nb no na nc ne ns fee sj th rs stc v H.size hna) [0] [1] gX8_share_X8_isNoAuthor rfl rfl rfl (by decide +kernel) ⟨Nat.le_of_ble_eq_true rfl, Nat.le_of_ble_eq_true rfl⟩ (q0 := 0) rfl rfl rfl rfl (by decide) (by decide) (by decide) rfl rfl hl.1 (Nat.le_of_ble_eq_true rfl) dX8_share_3 ⟨Nat.le_of_ble_eq_true rfl, Nat.le_of_ble_eq_true rfl⟩ (fun r_1 u H locs hp hw => ?_)
  have hw : ww D (TY cC cI cJ cZ cD) s A s.heap [(xc, .inl (cI, 60, .inl tA)), (x, .inr (10, [.ref xa, .ref xb, .ref xc, .ref xd, .ref xe, .ref xf, .ref xg, .ref xh, .ref xi, .ref xj, .ref xk, .ref xl, .ref xm, .ref xn, .ref xo, .ref xp, .ref xq, .ref xr, .ref xs, .ref xt, .int (nI n), .int (nI nx), .int (nI nb), .int (nI no), .int (nI na), .int (nI nc), .int (nI ne), .int (nI ns), .int (nI fee), .int sj, .int th, .int rs, .int stc]))] H locs := hw
  try dsimp only at hp
  have hb9 := hp
  rcases hb9 with ⟨rfl, b3⟩ | ⟨rfl, b3⟩
  · refine lv_iconst (v := nI 1) hx hb dX8_share_6 (by decide) ?_
    refine r_callVi (n := 2) (wr := [(xc, .inl (cI, 60, .inl tA))]) cx hw (mX8_isThrown l D cC cI cJ cZ cD x xa xb xc xd xe xf xg xh xi xj xk xl xm xn xo xp xq xr xs xt n nx nb no na nc ne ns fee sj th rs stc 1 1 H.size (by omega)) [1] [0] gX8_share_X8_isThrown rfl rfl rfl (by decide +kernel) ⟨Nat.le_of_ble_eq_true rfl, Nat.le_of_ble_eq_true rfl⟩ (q0 := 1) rfl rfl rfl rfl (by decide) (by decide) (by decide) rfl rfl hl.1 (Nat.le_of_ble_eq_true rfl) dX8_share_7 ⟨Nat.le_of_ble_eq_true rfl, Nat.le_of_ble_eq_true rfl⟩ (fun r_2 u H locs hp hw => ?_)
    have hw : ww D (TY cC cI cJ cZ cD) s A s.heap [(xc, .inl (cI, 60, .inl tA)), (x, .inr (10, [.ref xa, .ref xb, .ref xc, .ref xd, .ref xe, .ref xf, .ref xg, .ref xh, .ref xi, .ref xj, .ref xk, .ref xl, .ref xm, .ref xn, .ref xo, .ref xp, .ref xq, .ref xr, .ref xs, .ref xt, .int (nI n), .int (nI nx), .int (nI nb), .int (nI no), .int (nI na), .int (nI nc), .int (nI ne), .int (nI ns), .int (nI fee), .int sj, .int (thv 1 1), .int rs, .int stc]))] H locs := hw
    try dsimp only at hp
    subst hp
    refine r_if_ne cx 33 1 rfl (by omega) dX8_share_10 (by decide) (fun c10 => ?_) (fun c10 => by exact absurd c10 (by decide))
    refine lv_fconst0 hx hb dX8_share_33 ?_
    subst hQ
    exact r_retf (v := 0) cx hr hlk hw (Nat.le_of_ble_eq_true rfl) (Nat.le_of_ble_eq_true rfl) (thv 1 1, 0) (by first | exact vy (if_pos b3) (by decide) rfl | exact vy ((if_neg (not_not_intro (ix_nI hk9 (by omega)))).trans (if_pos c18)) (by decide) rfl) [1, 0] (by decide) rfl dX8_share_34
  · obtain ⟨k9, hk9, rfl⟩ := nI_of_ix (Decidable.of_not_not b3)
    refine lv_iconst (v := nI 1) hx hb dX8_share_6 (by decide) ?_
    refine r_callVi (n := 2) (wr := [(xc, .inl (cI, 60, .inl tA))]) cx hw (mX8_isThrown l D cC cI cJ cZ cD x xa xb xc xd xe xf xg xh xi xj xk xl xm xn xo xp xq xr xs xt n nx nb no na nc ne ns fee sj th rs stc 0 1 H.size (by omega)) [1] [0] gX8_share_X8_isThrown rfl rfl rfl (by decide +kernel) ⟨Nat.le_of_ble_eq_true rfl, Nat.le_of_ble_eq_true rfl⟩ (q0 := 1) rfl rfl rfl rfl (by decide) (by decide) (by decide) rfl rfl hl.1 (Nat.le_of_ble_eq_true rfl) dX8_share_7 ⟨Nat.le_of_ble_eq_true rfl, Nat.le_of_ble_eq_true rfl⟩ (fun r_3 u H locs hp hw => ?_)
    have hw : ww D (TY cC cI cJ cZ cD) s A s.heap [(xc, .inl (cI, 60, .inl tA)), (x, .inr (10, [.ref xa, .ref xb, .ref xc, .ref xd, .ref xe, .ref xf, .ref xg, .ref xh, .ref xi, .ref xj, .ref xk, .ref xl, .ref xm, .ref xn, .ref xo, .ref xp, .ref xq, .ref xr, .ref xs, .ref xt, .int (nI n), .int (nI nx), .int (nI nb), .int (nI no), .int (nI na), .int (nI nc), .int (nI ne), .int (nI ns), .int (nI fee), .int sj, .int (thv 0 1), .int rs, .int stc]))] H locs := hw
    try dsimp only at hp
    subst hp
    refine r_if_ne cx 33 0 rfl (by omega) dX8_share_10 (by decide) (fun c10 => by exact absurd c10 (by decide)) (fun c10 => ?_)
    refine lv_aload_n hx hb dX8_share_13 rfl (lv_at hl 0 rfl) ?_
    refine lv_aload_n hx hb dX8_share_14 rfl (lv_at hl 0 rfl) ?_
    refine r_get cx hw inX8_share_8 1 20 rfl rfl (by decide) lkX8_share_1 rfl dX8_share_15 ?_
    refine r_if_ne cx 25 n rfl (by omega) dX8_share_18 (by decide) (fun c18 => ?_) (fun c18 => ?_)
    · refine lv_iconst (v := nI 0) hx hb dX8_share_25 (by decide) ?_
      refine lv_iconst (v := nI 2) hx hb dX8_share_26 (by decide) ?_
      refine r_callVi (n := 2) (wr := [(xc, .inl (cI, 60, .inl tA))]) cx hw (mX8_isThrown l D cC cI cJ cZ cD x xa xb xc xd xe xf xg xh xi xj xk xl xm xn xo xp xq xr xs xt n nx nb no na nc ne ns fee sj (thv 0 1) rs stc 0 2 H.size (by omega)) [1] [0] gX8_share_X8_isThrown rfl rfl rfl (by decide +kernel) ⟨Nat.le_of_ble_eq_true rfl, Nat.le_of_ble_eq_true rfl⟩ (q0 := 1) rfl rfl rfl rfl (by decide) (by decide) (by decide) rfl rfl hl.1 (Nat.le_of_ble_eq_true rfl) dX8_share_27 ⟨Nat.le_of_ble_eq_true rfl, Nat.le_of_ble_eq_true rfl⟩ (fun r_4 u H locs hp hw => ?_)
      have hw : ww D (TY cC cI cJ cZ cD) s A s.heap [(xc, .inl (cI, 60, .inl tA)), (x, .inr (10, [.ref xa, .ref xb, .ref xc, .ref xd, .ref xe, .ref xf, .ref xg, .ref xh, .ref xi, .ref xj, .ref xk, .ref xl, .ref xm, .ref xn, .ref xo, .ref xp, .ref xq, .ref xr, .ref xs, .ref xt, .int (nI n), .int (nI nx), .int (nI nb), .int (nI no), .int (nI na), .int (nI nc), .int (nI ne), .int (nI ns), .int (nI fee), .int sj, .int (thv 0 2), .int rs, .int stc]))] H locs := hw
      try dsimp only at hp
      subst hp
      refine r_if_eq cx 35 0 rfl (by omega) dX8_share_30 (by decide) (fun c30 => ?_) (fun c30 => by exact absurd c30 (by decide))
      refine lv_iconst (v := nI 0) hx hb dX8_share_35 (by decide) ?_
      refine lv_istore_n (lv' := [(2, .int (nI 0)), (0, .ref x), (1, .int (nI k9))]) hx hb dX8_share_36 rfl hl (by decide) rfl (fun ls hl => ?_)
      refine lv_iconst (v := nI 0) hx hb dX8_share_37 (by decide) ?_
      refine lv_istore_n (lv' := [(3, .int (nI 0)), (2, .int (nI 0)), (0, .ref x), (1, .int (nI k9))]) hx hb dX8_share_38 rfl hl (by decide) rfl (fun ls hl => ?_)
      have K39_4 : ∀ (f : Nat) (q : Nat) (i : Nat), (61 - i) < f → (i ≤ n) → (q = ct (fun j => decide (tA j = nI k9)) i) → ∀ (H : Heap) (locs : List Loc), ww D (TY cC cI cJ cZ cD) s A s.heap [(xc, .inl (cI, 60, .inl tA)), (x, .inr (10, [.ref xa, .ref xb, .ref xc, .ref xd, .ref xe, .ref xf, .ref xg, .ref xh, .ref xi, .ref xj, .ref xk, .ref xl, .ref xm, .ref xn, .ref xo, .ref xp, .ref xq, .ref xr, .ref xs, .ref xt, .int (nI n), .int (nI nx), .int (nI nb), .int (nI no), .int (nI na), .int (nI nc), .int (nI ne), .int (nI ns), .int (nI fee), .int sj, .int (thv 0 2), .int rs, .int stc]))] H locs → ∀ ls : Array Slot, lv_has ls 4 [(0, .ref x), (1, .int (nI k9)), (2, .int (nI q)), (3, .int (nI i))] → W p l e ({ frames := 2, cells := 0, slots := 0, locals := 43 } : Room) s mI args below meth cO H locs 0 0 Q (F0 mI 39 ls []) := by
        intro f
        induction f with
        | zero => intro q i hms9; exact absurd hms9 (Nat.not_lt_zero _)
        | succ f ih39 =>
          intro q i hms9 hi hq H locs hw ls hl
          refine lv_iload_n hx hb dX8_share_39 rfl (lv_at hl 3 rfl) ?_
          refine lv_aload_n hx hb dX8_share_40 rfl (lv_at hl 0 rfl) ?_
          refine r_get cx hw inX8_share_8 1 20 rfl rfl (by decide) lkX8_share_1 rfl dX8_share_41 ?_
          refine r_icmp_ge cx 71 i n rfl rfl (by omega) (by omega) dX8_share_44 (by decide) (fun c44 => ?_) (fun c44 => ?_)
          · refine lv_iload_n hx hb dX8_share_71 rfl (lv_at hl 2 rfl) ?_
            refine lv_i2f hx hb dX8_share_72 ?_
            refine lv_aload_n hx hb dX8_share_73 rfl (lv_at hl 0 rfl) ?_
            refine r_get cx hw inX8_share_8 1 20 rfl rfl (by decide) lkX8_share_1 rfl dX8_share_74 ?_
            refine lv_i2f hx hb dX8_share_77 ?_
            refine lv_fdiv hx hb dX8_share_78 (by rw [hq]; exact hf32 _ _ (Nat.le_trans (ct_le _ _) (by omega)) (by omega) hn) ?_
            subst hQ
            exact r_retf (v := FP.fdiv (FP.i2f (nI q)) (FP.i2f (nI n))) cx hr hlk hw (Nat.le_of_ble_eq_true rfl) (Nat.le_of_ble_eq_true rfl) (thv 0 2, k9) (vn ((if_neg (not_not_intro (ix_nI hk9 (by omega)))).trans (if_neg c18)) ⟨hk9, rfl, by rw [hq, show i = n by omega]⟩) [1, 0] (by decide) rfl dX8_share_79
          · refine lv_iload_n hx hb dX8_share_47 rfl (lv_at hl 2 rfl) ?_
            refine lv_aload_n hx hb dX8_share_48 rfl (lv_at hl 0 rfl) ?_
            refine r_get cx hw inX8_share_8 1 2 rfl rfl (by decide) lkX8_share_2 rfl dX8_share_49 ?_
            refine lv_iload_n hx hb dX8_share_52 rfl (lv_at hl 3 rfl) ?_
            refine r_iald cx hw 0 1 rfl rfl i rfl (by omega) (by omega) dX8_share_53 ?_
            refine lv_iload_n hx hb dX8_share_54 rfl (lv_at hl 1 rfl) ?_
            refine lv_icmp_ne (tgt := 62) hx hb dX8_share_55 (by decide) (fun c55 => ?_) (fun c55 => ?_)
            · refine lv_iconst (v := nI 0) hx hb dX8_share_62 (by decide) ?_
              refine r_iadd cx q 0 rfl rfl dX8_share_63 ?_
              refine lv_istore_n (lv' := [(2, .int (nI (q + 0))), (0, .ref x), (1, .int (nI k9)), (3, .int (nI i))]) hx hb dX8_share_64 rfl hl (by decide) rfl (fun ls hl => ?_)
              refine lv_iinc (v := nI (i + 1)) (lv' := [(3, .int (nI (i + 1))), (2, .int (nI (q + 0))), (0, .ref x), (1, .int (nI k9))]) hx hb dX8_share_65 hl (k := 3) rfl (by rw [ii1, nI_1]) (by decide) rfl (fun ls hl => ?_)
              refine lv_goto (tgt := 39) hx hb dX8_share_68 (by decide) ?_
              exact ih39 (q + 0) (i + 1) (by omega) (by omega) (by rw [hq]; exact (ct_f (fun z => c55 (of_decide_eq_true z))).symm) _ _ hw _ (lv_sub hl [2, 3, 1, 0] rfl)
            · refine lv_iconst (v := nI 1) hx hb dX8_share_58 (by decide) ?_
              refine lv_goto (tgt := 63) hx hb dX8_share_59 (by decide) ?_
              refine r_iadd cx q 1 rfl rfl dX8_share_63 ?_
              refine lv_istore_n (lv' := [(2, .int (nI (q + 1))), (0, .ref x), (1, .int (nI k9)), (3, .int (nI i))]) hx hb dX8_share_64 rfl hl (by decide) rfl (fun ls hl => ?_)
              refine lv_iinc (v := nI (i + 1)) (lv' := [(3, .int (nI (i + 1))), (2, .int (nI (q + 1))), (0, .ref x), (1, .int (nI k9))]) hx hb dX8_share_65 hl (k := 3) rfl (by rw [ii1, nI_1]) (by decide) rfl (fun ls hl => ?_)
              refine lv_goto (tgt := 39) hx hb dX8_share_68 (by decide) ?_
              exact ih39 (q + 1) (i + 1) (by omega) (by omega) (by rw [hq]; exact (ct_t (decide_eq_true c55)).symm) _ _ hw _ (lv_sub hl [2, 3, 1, 0] rfl)
      exact K39_4 _ 0 0 (Nat.lt_succ_self _) (by omega) (by rfl) _ _ hw _ (lv_sub hl [2, 3, 1, 0] rfl)
    · refine lv_iconst (v := nI 1) hx hb dX8_share_21 (by decide) ?_
      refine lv_goto (tgt := 26) hx hb dX8_share_22 (by decide) ?_
      refine lv_iconst (v := nI 2) hx hb dX8_share_26 (by decide) ?_
      refine r_callVi (n := 2) (wr := [(xc, .inl (cI, 60, .inl tA))]) cx hw (mX8_isThrown l D cC cI cJ cZ cD x xa xb xc xd xe xf xg xh xi xj xk xl xm xn xo xp xq xr xs xt n nx nb no na nc ne ns fee sj (thv 0 1) rs stc 1 2 H.size (by omega)) [1] [0] gX8_share_X8_isThrown rfl rfl rfl (by decide +kernel) ⟨Nat.le_of_ble_eq_true rfl, Nat.le_of_ble_eq_true rfl⟩ (q0 := 1) rfl rfl rfl rfl (by decide) (by decide) (by decide) rfl rfl hl.1 (Nat.le_of_ble_eq_true rfl) dX8_share_27 ⟨Nat.le_of_ble_eq_true rfl, Nat.le_of_ble_eq_true rfl⟩ (fun r_6 u H locs hp hw => ?_)
      have hw : ww D (TY cC cI cJ cZ cD) s A s.heap [(xc, .inl (cI, 60, .inl tA)), (x, .inr (10, [.ref xa, .ref xb, .ref xc, .ref xd, .ref xe, .ref xf, .ref xg, .ref xh, .ref xi, .ref xj, .ref xk, .ref xl, .ref xm, .ref xn, .ref xo, .ref xp, .ref xq, .ref xr, .ref xs, .ref xt, .int (nI n), .int (nI nx), .int (nI nb), .int (nI no), .int (nI na), .int (nI nc), .int (nI ne), .int (nI ns), .int (nI fee), .int sj, .int (thv 1 2), .int rs, .int stc]))] H locs := hw
      try dsimp only at hp
      subst hp
      refine r_if_eq cx 35 1 rfl (by omega) dX8_share_30 (by decide) (fun c30 => by exact absurd c30 (by decide)) (fun c30 => ?_)
      refine lv_fconst0 hx hb dX8_share_33 ?_
      subst hQ
      exact r_retf (v := 0) cx hr hlk hw (Nat.le_of_ble_eq_true rfl) (Nat.le_of_ble_eq_true rfl) (thv 1 2, 0) (by first | exact vy (if_pos b3) (by decide) rfl | exact vy ((if_neg (not_not_intro (ix_nI hk9 (by omega)))).trans (if_pos c18)) (by decide) rfl) [1, 0] (by decide) rfl dX8_share_34

theorem lkX8_meanCost_1 : Cond.fieldLink RX8 134 "SignedDocumentModel" "edits" "I" ∈ wsX8_meanCost := List.mem_of_getElem? (i := 1) rfl
theorem inX8_meanCost_8 : ∀ w ∈ u_ws RX8 TX8 33, w ∈ wsX8_meanCost := fun _ h => List.mem_cons_of_mem _ (List.mem_append_left _ (List.mem_append_right _ h))
theorem lkX8_meanCost_2 : Cond.fieldLink RX8 47 "SignedDocumentModel" "editCost" "[I" ∈ wsX8_meanCost := List.mem_of_getElem? (i := 2) rfl
set_option maxRecDepth 100000 in
set_option maxHeartbeats 4000000 in
theorem mX8_meanCost (l : Launch) (D : va_G) (cC cI cJ cZ cD : ClassId) (x xa xb xc xd xe xf xg xh xi xj xk xl xm xn xo xp xq xr xs xt : Nat) (n nx nb no na nc ne ns fee : Nat) (sj th rs stc : Int32) (eO : Nat → Int32) (sz : Nat) (hne : ne ≤ 40) (hf64 : 0 < ne → vf_n64 (FP.ddiv (FP.i2d (smi eO ne)) (FP.i2d (nI ne)))) : MD l yX8_meanCost wsX8_meanCost ({ frames := 1, cells := 0, slots := 0, locals := 22 }) [.ref x] D (TY cC cI cJ cZ cD) [(x, .inr (10, [.ref xa, .ref xb, .ref xc, .ref xd, .ref xe, .ref xf, .ref xg, .ref xh, .ref xi, .ref xj, .ref xk, .ref xl, .ref xm, .ref xn, .ref xo, .ref xp, .ref xq, .ref xr, .ref xs, .ref xt, .int (nI n), .int (nI nx), .int (nI nb), .int (nI no), .int (nI na), .int (nI nc), .int (nI ne), .int (nI ns), .int (nI fee), .int sj, .int th, .int rs, .int stc])), (xm, .inl (cI, 40, .inl eO))] sz (fun (r : UInt64) => fun (d9 : Int32) => ((ne = 0 ∧ d9 = nI 1 ∧ r = 0) ∨ (¬ ne = 0 ∧ d9 = nI 0 ∧ r = FP.ddiv (FP.i2d (smi eO ne)) (FP.i2d (nI ne))))) (fun (d9 : Int32) => [(x, .inr (10, [.ref xa, .ref xb, .ref xc, .ref xd, .ref xe, .ref xf, .ref xg, .ref xh, .ref xi, .ref xj, .ref xk, .ref xl, .ref xm, .ref xn, .ref xo, .ref xp, .ref xq, .ref xr, .ref xs, .ref xt, .int (nI n), .int (nI nx), .int (nI nb), .int (nI no), .int (nI na), .int (nI nc), .int (nI ne), .int (nI ns), .int (nI fee), .int sj, .int d9, .int rs, .int stc])), (xm, .inl (cI, 40, .inl eO))]) 0 0 := by
  refine mk_MD (cc := cX8_meanCost) (maxL := 3) (ret := (some .double)) (by decide) rfl (Nat.le_of_ble_eq_true rfl) ?_
  intro p e s mI args below meth cO A cx hr hlk hnm hw ls hl
  have hx := cx.1
  have hb := cx.2.1
  have hw : ww D (TY cC cI cJ cZ cD) s A s.heap [(x, .inr (10, [.ref xa, .ref xb, .ref xc, .ref xd, .ref xe, .ref xf, .ref xg, .ref xh, .ref xi, .ref xj, .ref xk, .ref xl, .ref xm, .ref xn, .ref xo, .ref xp, .ref xq, .ref xr, .ref xs, .ref xt, .int (nI n), .int (nI nx), .int (nI nb), .int (nI no), .int (nI na), .int (nI nc), .int (nI ne), .int (nI ns), .int (nI fee), .int sj, .int th, .int rs, .int stc])), (xm, .inl (cI, 40, .inl eO))] s.heap [] := hw
  have hl : lv_has ls 3 [(0, .ref x)] := hl
  generalize hQ : MQ _ _ _ _ _ _ _ = Q
  refine hp_start hw (fun H locs hw => ?_)
  refine lv_iconst (v := nI 0) hx hb dX8_meanCost_0 (by decide) ?_
  refine lv_istore_n (lv' := [(1, .int (nI 0)), (0, .ref x)]) hx hb dX8_meanCost_1 rfl hl (by decide) rfl (fun ls hl => ?_)
  refine lv_iconst (v := nI 0) hx hb dX8_meanCost_2 (by decide) ?_
  refine lv_istore_n (lv' := [(2, .int (nI 0)), (1, .int (nI 0)), (0, .ref x)]) hx hb dX8_meanCost_3 rfl hl (by decide) rfl (fun ls hl => ?_)
  have K4_0 : ∀ (f : Nat) (q : Int32) (i : Nat), (41 - i) < f → (i ≤ ne) → (q = smi eO i) → ∀ (H : Heap) (locs : List Loc), ww D (TY cC cI cJ cZ cD) s A s.heap [(x, .inr (10, [.ref xa, .ref xb, .ref xc, .ref xd, .ref xe, .ref xf, .ref xg, .ref xh, .ref xi, .ref xj, .ref xk, .ref xl, .ref xm, .ref xn, .ref xo, .ref xp, .ref xq, .ref xr, .ref xs, .ref xt, .int (nI n), .int (nI nx), .int (nI nb), .int (nI no), .int (nI na), .int (nI nc), .int (nI ne), .int (nI ns), .int (nI fee), .int sj, .int th, .int rs, .int stc])), (xm, .inl (cI, 40, .inl eO))] H locs → ∀ ls : Array Slot, lv_has ls 3 [(0, .ref x), (1, .int q), (2, .int (nI i))] → W p l e ({ frames := 1, cells := 0, slots := 0, locals := 22 } : Room) s mI args below meth cO H locs 0 0 Q (F0 mI 4 ls []) := by
    intro f
    induction f with
    | zero => intro q i hms9; exact absurd hms9 (Nat.not_lt_zero _)
    | succ f ih4 =>
      intro q i hms9 hi hq H locs hw ls hl
      refine lv_iload_n hx hb dX8_meanCost_4 rfl (lv_at hl 2 rfl) ?_
      refine lv_aload_n hx hb dX8_meanCost_5 rfl (lv_at hl 0 rfl) ?_
      refine r_get cx hw inX8_meanCost_8 0 26 rfl rfl (by decide) lkX8_meanCost_1 rfl dX8_meanCost_6 ?_
      refine r_icmp_ge cx 27 i ne rfl rfl (by omega) (by omega) dX8_meanCost_9 (by decide) (fun c9 => ?_) (fun c9 => ?_)
      · rw [show i = ne by omega] at hq
        refine lv_aload_n hx hb dX8_meanCost_27 rfl (lv_at hl 0 rfl) ?_
        refine lv_aload_n hx hb dX8_meanCost_28 rfl (lv_at hl 0 rfl) ?_
        refine r_get cx hw inX8_meanCost_8 0 26 rfl rfl (by decide) lkX8_meanCost_1 rfl dX8_meanCost_29 ?_
        refine r_if_ne cx 39 ne rfl (by omega) dX8_meanCost_32 (by decide) (fun c32 => ?_) (fun c32 => ?_)
        · refine lv_iconst (v := nI 0) hx hb dX8_meanCost_39 (by decide) ?_
          refine lv_iconst (v := nI 1) hx hb dX8_meanCost_40 (by decide) ?_
          refine r_callVi (n := 2) (wr := [(xm, .inl (cI, 40, .inl eO))]) cx hw (mX8_isThrown l D cC cI cJ cZ cD x xa xb xc xd xe xf xg xh xi xj xk xl xm xn xo xp xq xr xs xt n nx nb no na nc ne ns fee sj th rs stc 0 1 H.size (by omega)) [0] [1] gX8_meanCost_X8_isThrown rfl rfl rfl (by decide +kernel) ⟨Nat.le_of_ble_eq_true rfl, Nat.le_of_ble_eq_true rfl⟩ (q0 := 0) rfl rfl rfl rfl (by decide) (by decide) (by decide) rfl rfl hl.1 (Nat.le_of_ble_eq_true rfl) dX8_meanCost_41 ⟨Nat.le_of_ble_eq_true rfl, Nat.le_of_ble_eq_true rfl⟩ (fun r_2 u H locs hp hw => ?_)
          have hw : ww D (TY cC cI cJ cZ cD) s A s.heap [(xm, .inl (cI, 40, .inl eO)), (x, .inr (10, [.ref xa, .ref xb, .ref xc, .ref xd, .ref xe, .ref xf, .ref xg, .ref xh, .ref xi, .ref xj, .ref xk, .ref xl, .ref xm, .ref xn, .ref xo, .ref xp, .ref xq, .ref xr, .ref xs, .ref xt, .int (nI n), .int (nI nx), .int (nI nb), .int (nI no), .int (nI na), .int (nI nc), .int (nI ne), .int (nI ns), .int (nI fee), .int sj, .int (thv 0 1), .int rs, .int stc]))] H locs := hw
          try dsimp only at hp
          subst hp
          refine r_if_eq cx 51 0 rfl (by omega) dX8_meanCost_44 (by decide) (fun c44 => ?_) (fun c44 => by exact absurd c44 (by decide))
          refine lv_iload_n hx hb dX8_meanCost_51 rfl (lv_at hl 1 rfl) ?_
          refine lv_i2d hx hb dX8_meanCost_52 ?_
          refine lv_aload_n hx hb dX8_meanCost_53 rfl (lv_at hl 0 rfl) ?_
          refine r_get cx hw inX8_meanCost_8 1 26 rfl rfl (by decide) lkX8_meanCost_1 rfl dX8_meanCost_54 ?_
          refine lv_i2d hx hb dX8_meanCost_57 ?_
          refine lv_ddiv hx hb dX8_meanCost_58 (by rw [hq]; exact hf64 (by omega)) ?_
          subst hQ
          exact r_retd (v := FP.ddiv (FP.i2d q) (FP.i2d (nI ne))) cx hr hlk hw (Nat.le_of_ble_eq_true rfl) (Nat.le_of_ble_eq_true rfl) (thv 0 1) (Or.inr ⟨c32, rfl, by rw [hq]⟩) [1, 0] (by decide) rfl dX8_meanCost_59
        · refine lv_iconst (v := nI 1) hx hb dX8_meanCost_35 (by decide) ?_
          refine lv_goto (tgt := 40) hx hb dX8_meanCost_36 (by decide) ?_
          refine lv_iconst (v := nI 1) hx hb dX8_meanCost_40 (by decide) ?_
          refine r_callVi (n := 2) (wr := [(xm, .inl (cI, 40, .inl eO))]) cx hw (mX8_isThrown l D cC cI cJ cZ cD x xa xb xc xd xe xf xg xh xi xj xk xl xm xn xo xp xq xr xs xt n nx nb no na nc ne ns fee sj th rs stc 1 1 H.size (by omega)) [0] [1] gX8_meanCost_X8_isThrown rfl rfl rfl (by decide +kernel) ⟨Nat.le_of_ble_eq_true rfl, Nat.le_of_ble_eq_true rfl⟩ (q0 := 0) rfl rfl rfl rfl (by decide) (by decide) (by decide) rfl rfl hl.1 (Nat.le_of_ble_eq_true rfl) dX8_meanCost_41 ⟨Nat.le_of_ble_eq_true rfl, Nat.le_of_ble_eq_true rfl⟩ (fun r_3 u H locs hp hw => ?_)
          have hw : ww D (TY cC cI cJ cZ cD) s A s.heap [(xm, .inl (cI, 40, .inl eO)), (x, .inr (10, [.ref xa, .ref xb, .ref xc, .ref xd, .ref xe, .ref xf, .ref xg, .ref xh, .ref xi, .ref xj, .ref xk, .ref xl, .ref xm, .ref xn, .ref xo, .ref xp, .ref xq, .ref xr, .ref xs, .ref xt, .int (nI n), .int (nI nx), .int (nI nb), .int (nI no), .int (nI na), .int (nI nc), .int (nI ne), .int (nI ns), .int (nI fee), .int sj, .int (thv 1 1), .int rs, .int stc]))] H locs := hw
          try dsimp only at hp
          subst hp
          refine r_if_eq cx 51 1 rfl (by omega) dX8_meanCost_44 (by decide) (fun c44 => by exact absurd c44 (by decide)) (fun c44 => ?_)
          refine lv_dconst0 hx hb dX8_meanCost_47 ?_
          refine lv_goto (tgt := 59) hx hb dX8_meanCost_48 (by decide) ?_
          subst hQ
          exact r_retd (v := 0) cx hr hlk hw (Nat.le_of_ble_eq_true rfl) (Nat.le_of_ble_eq_true rfl) (thv 1 1) (Or.inl ⟨c32, rfl, rfl⟩) [1, 0] (by decide) rfl dX8_meanCost_59
      · refine lv_iload_n hx hb dX8_meanCost_12 rfl (lv_at hl 1 rfl) ?_
        refine lv_aload_n hx hb dX8_meanCost_13 rfl (lv_at hl 0 rfl) ?_
        refine r_get cx hw inX8_meanCost_8 0 12 rfl rfl (by decide) lkX8_meanCost_2 rfl dX8_meanCost_14 ?_
        refine lv_iload_n hx hb dX8_meanCost_17 rfl (lv_at hl 2 rfl) ?_
        refine r_iald cx hw 1 1 rfl rfl i rfl (by omega) (by omega) dX8_meanCost_18 ?_
        refine lv_iadd hx hb dX8_meanCost_19 ?_
        refine lv_istore_n (lv' := [(1, .int (q + (eO i))), (0, .ref x), (2, .int (nI i))]) hx hb dX8_meanCost_20 rfl hl (by decide) rfl (fun ls hl => ?_)
        refine lv_iinc (v := nI (i + 1)) (lv' := [(2, .int (nI (i + 1))), (1, .int (q + (eO i))), (0, .ref x)]) hx hb dX8_meanCost_21 hl (k := 2) rfl (by rw [ii1, nI_1]) (by decide) rfl (fun ls hl => ?_)
        refine lv_goto (tgt := 4) hx hb dX8_meanCost_24 (by decide) ?_
        exact ih4 (q + (eO i)) (i + 1) (by omega) (by omega) (by rw [hq]; rfl) _ _ hw _ (lv_sub hl [2, 1, 0] rfl)
  exact K4_0 _ (nI 0) 0 (Nat.lt_succ_self _) (by omega) (by rfl) _ _ hw _ (lv_sub hl [2, 1, 0] rfl)

