theorem lkX8_isRefused_1 : Cond.fieldLink RX8 109 "SignedDocumentModel" "clauses" "I" ∈ wsX8_isRefused := List.mem_of_getElem? (i := 1) rfl
theorem inX8_isRefused_8 : ∀ w ∈ u_ws RX8 TX8 33, w ∈ wsX8_isRefused := fun _ h => List.mem_cons_of_mem _ (List.mem_append_left _ (List.mem_append_right _ h))
theorem lkX8_isRefused_3 : Cond.fieldLink RX8 120 "SignedDocumentModel" "signatures" "I" ∈ wsX8_isRefused := List.mem_of_getElem? (i := 3) rfl
theorem lkX8_isRefused_7 : Cond.fieldLink RX8 73 "SignedDocumentModel" "reason" "C" ∈ wsX8_isRefused := List.mem_of_getElem? (i := 7) rfl
theorem lkX8_isRefused_8 : Cond.fieldLink RX8 127 "SignedDocumentModel" "subject" "I" ∈ wsX8_isRefused := List.mem_of_getElem? (i := 8) rfl
theorem lkX8_isRefused_4 : Cond.fieldLink RX8 123 "SignedDocumentModel" "isStrict" "Z" ∈ wsX8_isRefused := List.mem_of_getElem? (i := 4) rfl
theorem lkX8_isRefused_5 : Cond.fieldLink RX8 70 "SignedDocumentModel" "state" "[C" ∈ wsX8_isRefused := List.mem_of_getElem? (i := 5) rfl
theorem lkX8_isRefused_6 : Cond.fieldLink RX8 53 "SignedDocumentModel" "set" "[I" ∈ wsX8_isRefused := List.mem_of_getElem? (i := 6) rfl
theorem lkX8_isRefused_2 : Cond.fieldLink RX8 63 "SignedDocumentModel" "isLocked" "[Z" ∈ wsX8_isRefused := List.mem_of_getElem? (i := 2) rfl
set_option maxRecDepth 100000 in
set_option maxHeartbeats 4000000 in
theorem mX8_isRefused (l : Launch) (D : va_G) (cC cI cJ cZ cD : ClassId) (x xa xb xc xd xe xf xg xh xi xj xk xl xm xn xo xp xq xr xs xt : Nat) (n nx nb no na nc ne ns fee : Nat) (sj th rs stc : Int32) (tL : Nat → Int32) (mL : Nat → Int32) (tC : Nat → Int32) (mC : Nat → Int32) (kZ : Nat → Int32) (gT : Nat → Int32) (gX : Nat → Int32) (sz : Nat) (hn : n ≤ 60) (hx9 : nx ≤ 60) (hnc : nc ≤ 6) (hns : ns ≤ 12) : MI l yX8_isRefused wsX8_isRefused ({ frames := 3, cells := 0, slots := 0, locals := 69 }) [.ref x] D (TY cC cI cJ cZ cD) [(x, .inr (10, [.ref xa, .ref xb, .ref xc, .ref xd, .ref xe, .ref xf, .ref xg, .ref xh, .ref xi, .ref xj, .ref xk, .ref xl, .ref xm, .ref xn, .ref xo, .ref xp, .ref xq, .ref xr, .ref xs, .ref xt, .int (nI n), .int (nI nx), .int (nI nb), .int (nI no), .int (nI na), .int (nI nc), .int (nI ne), .int (nI ns), .int (nI fee), .int sj, .int th, .int rs, .int stc])), (xa, .inl (cC, 60, .inl tL)), (xb, .inl (cC, 60, .inl mL)), (xd, .inl (cI, 60, .inl tC)), (xf, .inl (cI, 60, .inl mC)), (xr, .inl (cZ, 6, .inl kZ)), (xt, .inl (cC, 12, .inl gT)), (xo, .inl (cI, 12, .inl gX))] sz (fun (r : Int32) => fun (uu : Int32 × Int32) => match uu with | (rs2, sj2) => ((r = nI 1 ∧ (rfd kZ nc stc gT gX ns (chs (un tL tC n mL mC nx) nc))) ∨ (r = nI 0 ∧ ¬ (rfd kZ nc stc gT gX ns (chs (un tL tC n mL mC nx) nc)))) ∧ ((rfd kZ nc stc gT gX ns (chs (un tL tC n mL mC nx) nc) ∧ rs2 = rsn kZ nc (chs (un tL tC n mL mC nx) nc) ∧ sj2 = sbj kZ nc gT gX ns (chs (un tL tC n mL mC nx) nc)) ∨ (¬ rfd kZ nc stc gT gX ns (chs (un tL tC n mL mC nx) nc) ∧ rs2 = rs ∧ sj2 = sj))) (fun (uu : Int32 × Int32) => match uu with | (rs2, sj2) => [(x, .inr (10, [.ref xa, .ref xb, .ref xc, .ref xd, .ref xe, .ref xf, .ref xg, .ref xh, .ref xi, .ref xj, .ref xk, .ref xl, .ref xm, .ref xn, .ref xo, .ref xp, .ref xq, .ref xr, .ref xs, .ref xt, .int (nI n), .int (nI nx), .int (nI nb), .int (nI no), .int (nI na), .int (nI nc), .int (nI ne), .int (nI ns), .int (nI fee), .int sj2, .int th, .int rs2, .int stc])), (xa, .inl (cC, 60, .inl tL)), (xb, .inl (cC, 60, .inl mL)), (xd, .inl (cI, 60, .inl tC)), (xf, .inl (cI, 60, .inl mC)), (xr, .inl (cZ, 6, .inl kZ)), (xt, .inl (cC, 12, .inl gT)), (xo, .inl (cI, 12, .inl gX))]) 0 0 := by
  refine mk_MI (cc := cX8_isRefused) (maxL := 5) (ret := (some .boolean)) (by decide) rfl (Nat.le_of_ble_eq_true rfl) ?_
  intro p e s mI args below meth cO A cx hr hlk hnm hw ls hl
  have hx := cx.1
  have hb := cx.2.1
  have hw : ww D (TY cC cI cJ cZ cD) s A s.heap [(x, .inr (10, [.ref xa, .ref xb, .ref xc, .ref xd, .ref xe, .ref xf, .ref xg, .ref xh, .ref xi, .ref xj, .ref xk, .ref xl, .ref xm, .ref xn, .ref xo, .ref xp, .ref xq, .ref xr, .ref xs, .ref xt, .int (nI n), .int (nI nx), .int (nI nb), .int (nI no), .int (nI na), .int (nI nc), .int (nI ne), .int (nI ns), .int (nI fee), .int sj, .int th, .int rs, .int stc])), (xa, .inl (cC, 60, .inl tL)), (xb, .inl (cC, 60, .inl mL)), (xd, .inl (cI, 60, .inl tC)), (xf, .inl (cI, 60, .inl mC)), (xr, .inl (cZ, 6, .inl kZ)), (xt, .inl (cC, 12, .inl gT)), (xo, .inl (cI, 12, .inl gX))] s.heap [] := hw
  have hl : lv_has ls 5 [(0, .ref x)] := hl
  generalize hQ : MQ _ _ _ _ _ _ _ = Q
  refine hp_start hw (fun H locs hw => ?_)
  refine lv_aload_n hx hb dX8_isRefused_0 rfl (lv_at hl 0 rfl) ?_
  refine r_callVi (n := 0) (wr := [(xr, .inl (cZ, 6, .inl kZ)), (xt, .inl (cC, 12, .inl gT)), (xo, .inl (cI, 12, .inl gX))]) cx hw (mX8_changed l D cC cI cJ cZ cD x xa xb xc xd xe xf xg xh xi xj xk xl xm xn xo xp xq xr xs xt n nx nb no na nc ne ns fee sj th rs stc tL mL tC mC H.size hn hx9 hnc) [0, 1, 2, 3, 4] [5, 6, 7] gX8_isRefused_X8_changed rfl rfl rfl (by decide +kernel) ⟨Nat.le_of_ble_eq_true rfl, Nat.le_of_ble_eq_true rfl⟩ (q0 := 0) rfl rfl rfl rfl (by decide) (by decide) (by decide) rfl rfl hl.1 (Nat.le_of_ble_eq_true rfl) dX8_isRefused_1 ⟨Nat.le_of_ble_eq_true rfl, Nat.le_of_ble_eq_true rfl⟩ (fun r_1 u H locs hp hw => ?_)
  have hw : ww D (TY cC cI cJ cZ cD) s A s.heap [(xr, .inl (cZ, 6, .inl kZ)), (xt, .inl (cC, 12, .inl gT)), (xo, .inl (cI, 12, .inl gX)), (x, .inr (10, [.ref xa, .ref xb, .ref xc, .ref xd, .ref xe, .ref xf, .ref xg, .ref xh, .ref xi, .ref xj, .ref xk, .ref xl, .ref xm, .ref xn, .ref xo, .ref xp, .ref xq, .ref xr, .ref xs, .ref xt, .int (nI n), .int (nI nx), .int (nI nb), .int (nI no), .int (nI na), .int (nI nc), .int (nI ne), .int (nI ns), .int (nI fee), .int sj, .int th, .int rs, .int stc])), (xa, .inl (cC, 60, .inl tL)), (xb, .inl (cC, 60, .inl mL)), (xd, .inl (cI, 60, .inl tC)), (xf, .inl (cI, 60, .inl mC))] H locs := hw
  try dsimp only at hp
  subst hp
  refine lv_istore_n (lv' := [(1, .int (chs (un tL tC n mL mC nx) nc)), (0, .ref x)]) hx hb dX8_isRefused_4 rfl hl (by decide) rfl (fun ls hl => ?_)
  refine lv_iconst (v := (-1)) hx hb dX8_isRefused_5 (by decide) ?_
  refine lv_istore_n (lv' := [(2, .int (-1)), (1, .int (chs (un tL tC n mL mC nx) nc)), (0, .ref x)]) hx hb dX8_isRefused_6 rfl hl (by decide) rfl (fun ls hl => ?_)
  refine lv_iconst (v := (-1)) hx hb dX8_isRefused_7 (by decide) ?_
  refine lv_istore_n (lv' := [(3, .int (-1)), (2, .int (-1)), (1, .int (chs (un tL tC n mL mC nx) nc)), (0, .ref x)]) hx hb dX8_isRefused_8 rfl hl (by decide) rfl (fun ls hl => ?_)
  refine lv_aload_n hx hb dX8_isRefused_9 rfl (lv_at hl 3 rfl) ?_
  refine r_get cx hw inX8_isRefused_8 3 25 rfl rfl (by decide) lkX8_isRefused_1 rfl dX8_isRefused_10 ?_
  refine lv_iconst (v := nI 1) hx hb dX8_isRefused_13 (by decide) ?_
  refine lv_isub hx hb dX8_isRefused_14 ?_
  refine lv_istore (lv' := [(4, .int ((nI nc) - (nI 1))), (3, .int (-1)), (2, .int (-1)), (1, .int (chs (un tL tC n mL mC nx) nc)), (0, .ref x)]) hx hb dX8_isRefused_15 hl (by decide) rfl (fun ls hl => ?_)
  have K17_1 : ∀ (f : Nat) (lk : Int32) (q : Nat), (q + 1) < f → (q ≤ nc) → (ldn (lkb kZ (chs (un tL tC n mL mC nx) nc)) q nc lk) → ∀ (H : Heap) (locs : List Loc), ww D (TY cC cI cJ cZ cD) s A s.heap [(xr, .inl (cZ, 6, .inl kZ)), (xt, .inl (cC, 12, .inl gT)), (xo, .inl (cI, 12, .inl gX)), (x, .inr (10, [.ref xa, .ref xb, .ref xc, .ref xd, .ref xe, .ref xf, .ref xg, .ref xh, .ref xi, .ref xj, .ref xk, .ref xl, .ref xm, .ref xn, .ref xo, .ref xp, .ref xq, .ref xr, .ref xs, .ref xt, .int (nI n), .int (nI nx), .int (nI nb), .int (nI no), .int (nI na), .int (nI nc), .int (nI ne), .int (nI ns), .int (nI fee), .int sj, .int th, .int rs, .int stc])), (xa, .inl (cC, 60, .inl tL)), (xb, .inl (cC, 60, .inl mL)), (xd, .inl (cI, 60, .inl tC)), (xf, .inl (cI, 60, .inl mC))] H locs → ∀ ls : Array Slot, lv_has ls 5 [(0, .ref x), (1, .int (chs (un tL tC n mL mC nx) nc)), (2, .int lk), (3, .int (-1)), (4, .int (nI q - nI 1))] → W p l e ({ frames := 3, cells := 0, slots := 0, locals := 69 } : Room) s mI args below meth cO H locs 0 0 Q (F0 mI 17 ls []) := by
    intro f
    induction f with
    | zero => intro lk q hms9; exact absurd hms9 (Nat.not_lt_zero _)
    | succ f ih17 =>
      intro lk q hms9 hq hl9 H locs hw ls hl
      refine lv_iload hx hb dX8_isRefused_17 (lv_at hl 4 rfl) ?_
      refine lv_if_lt (tgt := 55) hx hb dX8_isRefused_19 (by decide) (fun c19 => ?_) (fun c19 => ?_)
      · have e7 : lk = low (lkb kZ (chs (un tL tC n mL mC nx) nc)) nc := by have z := (dq_lt (by omega)).mp c19; rw [z] at hl9; exact ldn_f hl9
        have v7 := ldn_v (by omega) hl9
        refine lv_aload_n hx hb dX8_isRefused_55 rfl (lv_at hl 0 rfl) ?_
        refine r_get cx hw inX8_isRefused_8 3 27 rfl rfl (by decide) lkX8_isRefused_3 rfl dX8_isRefused_56 ?_
        refine lv_iconst (v := nI 1) hx hb dX8_isRefused_59 (by decide) ?_
        refine lv_isub hx hb dX8_isRefused_60 ?_
        refine lv_istore (lv' := [(4, .int ((nI ns) - (nI 1))), (0, .ref x), (1, .int (chs (un tL tC n mL mC nx) nc)), (2, .int lk), (3, .int (-1))]) hx hb dX8_isRefused_61 hl (by decide) rfl (fun ls hl => ?_)
        have K63_2 : ∀ (f : Nat) (sg : Int32) (q2 : Nat), (q2 + 1) < f → (q2 ≤ ns) → (ldn (vs stc gT gX (chs (un tL tC n mL mC nx) nc)) q2 ns sg) → ∀ (H : Heap) (locs : List Loc), ww D (TY cC cI cJ cZ cD) s A s.heap [(xr, .inl (cZ, 6, .inl kZ)), (xt, .inl (cC, 12, .inl gT)), (xo, .inl (cI, 12, .inl gX)), (x, .inr (10, [.ref xa, .ref xb, .ref xc, .ref xd, .ref xe, .ref xf, .ref xg, .ref xh, .ref xi, .ref xj, .ref xk, .ref xl, .ref xm, .ref xn, .ref xo, .ref xp, .ref xq, .ref xr, .ref xs, .ref xt, .int (nI n), .int (nI nx), .int (nI nb), .int (nI no), .int (nI na), .int (nI nc), .int (nI ne), .int (nI ns), .int (nI fee), .int sj, .int th, .int rs, .int stc])), (xa, .inl (cC, 60, .inl tL)), (xb, .inl (cC, 60, .inl mL)), (xd, .inl (cI, 60, .inl tC)), (xf, .inl (cI, 60, .inl mC))] H locs → ∀ ls : Array Slot, lv_has ls 5 [(0, .ref x), (1, .int (chs (un tL tC n mL mC nx) nc)), (2, .int lk), (3, .int sg), (4, .int (nI q2 - nI 1))] → W p l e ({ frames := 3, cells := 0, slots := 0, locals := 69 } : Room) s mI args below meth cO H locs 0 0 Q (F0 mI 63 ls []) := by
          intro f
          induction f with
          | zero => intro sg q2 hms9; exact absurd hms9 (Nat.not_lt_zero _)
          | succ f ih63 =>
            intro sg q2 hms9 hq2 hs9 H locs hw ls hl
            refine lv_iload hx hb dX8_isRefused_63 (lv_at hl 4 rfl) ?_
            refine lv_if_lt (tgt := 112) hx hb dX8_isRefused_65 (by decide) (fun c65 => ?_) (fun c65 => ?_)
            · have e8 : sg = low (vs stc gT gX (chs (un tL tC n mL mC nx) nc)) ns := by have z := (dq_lt (by omega)).mp c65; rw [z] at hs9; exact ldn_f hs9
              have v8 := ldn_v (by omega) hs9
              have n7 := i_neg v7
              have n8 := i_neg v8
              refine lv_iload_n hx hb dX8_isRefused_112 rfl (lv_at hl 2 rfl) ?_
              refine lv_if_ge (tgt := 122) hx hb dX8_isRefused_113 (by decide) (fun c113 => ?_) (fun c113 => ?_)
              · refine lv_aload_n hx hb dX8_isRefused_122 rfl (lv_at hl 0 rfl) ?_
                refine lv_iload_n hx hb dX8_isRefused_123 rfl (lv_at hl 2 rfl) ?_
                refine lv_if_lt (tgt := 132) hx hb dX8_isRefused_124 (by decide) (fun c124 => ?_) (fun c124 => ?_)
                · refine lv_bipush (v := nI 115) hx hb dX8_isRefused_132 (by decide) ?_
                  refine r_put cx hw inX8_isRefused_8 tyX8 tyX8_ok nmX8 3 31 rfl rfl (by decide) lkX8_isRefused_7 rfl (by decide) (by decide) (Nat.le_of_ble_eq_true rfl) dX8_isRefused_134 (fun H locs hw => ?_)
                  have hw : ww D (TY cC cI cJ cZ cD) s A s.heap [(xr, .inl (cZ, 6, .inl kZ)), (xt, .inl (cC, 12, .inl gT)), (xo, .inl (cI, 12, .inl gX)), (x, .inr (10, [.ref xa, .ref xb, .ref xc, .ref xd, .ref xe, .ref xf, .ref xg, .ref xh, .ref xi, .ref xj, .ref xk, .ref xl, .ref xm, .ref xn, .ref xo, .ref xp, .ref xq, .ref xr, .ref xs, .ref xt, .int (nI n), .int (nI nx), .int (nI nb), .int (nI no), .int (nI na), .int (nI nc), .int (nI ne), .int (nI ns), .int (nI fee), .int sj, .int th, .int (nI 115), .int stc])), (xa, .inl (cC, 60, .inl tL)), (xb, .inl (cC, 60, .inl mL)), (xd, .inl (cI, 60, .inl tC)), (xf, .inl (cI, 60, .inl mC))] H locs := hw
                  refine lv_aload_n hx hb dX8_isRefused_137 rfl (lv_at hl 0 rfl) ?_
                  refine lv_iload_n hx hb dX8_isRefused_138 rfl (lv_at hl 2 rfl) ?_
                  refine lv_if_lt (tgt := 146) hx hb dX8_isRefused_139 (by decide) (fun c139 => ?_) (fun c139 => ?_)
                  · refine lv_iload_n hx hb dX8_isRefused_146 rfl (lv_at hl 3 rfl) ?_
                    refine r_put cx hw inX8_isRefused_8 tyX8 tyX8_ok nmX8 3 29 rfl rfl (by decide) lkX8_isRefused_8 rfl rfl rfl (Nat.le_of_ble_eq_true rfl) dX8_isRefused_147 (fun H locs hw => ?_)
                    have hw : ww D (TY cC cI cJ cZ cD) s A s.heap [(xr, .inl (cZ, 6, .inl kZ)), (xt, .inl (cC, 12, .inl gT)), (xo, .inl (cI, 12, .inl gX)), (x, .inr (10, [.ref xa, .ref xb, .ref xc, .ref xd, .ref xe, .ref xf, .ref xg, .ref xh, .ref xi, .ref xj, .ref xk, .ref xl, .ref xm, .ref xn, .ref xo, .ref xp, .ref xq, .ref xr, .ref xs, .ref xt, .int (nI n), .int (nI nx), .int (nI nb), .int (nI no), .int (nI na), .int (nI nc), .int (nI ne), .int (nI ns), .int (nI fee), .int sg, .int th, .int (nI 115), .int stc])), (xa, .inl (cC, 60, .inl tL)), (xb, .inl (cC, 60, .inl mL)), (xd, .inl (cI, 60, .inl tC)), (xf, .inl (cI, 60, .inl mC))] H locs := hw
                    refine lv_iconst (v := nI 1) hx hb dX8_isRefused_150 (by decide) ?_
                    subst hQ
                    exact r_reti (v := nI 1) cx hr (by decide) hlk hw (Nat.le_of_ble_eq_true rfl) (Nat.le_of_ble_eq_true rfl) ((nI 115), sg) (by first | exact absurd c139 c124 | exact absurd c124 c139 | (have z := rf_l (cZ := kZ) (nc := nc) (stc := stc) (gT := gT) (gX := gX) (ns := ns) (ch := (chs (un tL tC n mL mC nx) nc)) (by rw [← e7]; exact fun y => c124 (n7.mpr y)); exact ⟨Or.inl ⟨rfl, z.1⟩, Or.inl ⟨z.1, z.2.1, e7.trans z.2.2⟩⟩) | (have z := rf_s (cZ := kZ) (nc := nc) (stc := stc) (gT := gT) (gX := gX) (ns := ns) (ch := (chs (un tL tC n mL mC nx) nc)) (by rw [← e7]; exact n7.mp c124) (by rw [← e8]; exact fun y => (not_lt_of_ge9 c117) (n8.mpr y)); exact ⟨Or.inl ⟨rfl, z.1⟩, Or.inl ⟨z.1, z.2.1, e8.trans z.2.2⟩⟩) | exact absurd c124 (not_lt_of_ge9 c113)) [3, 4, 5, 6, 7, 0, 1, 2] (by decide) rfl dX8_isRefused_151
                  · refine lv_iload_n hx hb dX8_isRefused_142 rfl (lv_at hl 2 rfl) ?_
                    refine lv_goto (tgt := 147) hx hb dX8_isRefused_143 (by decide) ?_
                    refine r_put cx hw inX8_isRefused_8 tyX8 tyX8_ok nmX8 3 29 rfl rfl (by decide) lkX8_isRefused_8 rfl rfl rfl (Nat.le_of_ble_eq_true rfl) dX8_isRefused_147 (fun H locs hw => ?_)
                    have hw : ww D (TY cC cI cJ cZ cD) s A s.heap [(xr, .inl (cZ, 6, .inl kZ)), (xt, .inl (cC, 12, .inl gT)), (xo, .inl (cI, 12, .inl gX)), (x, .inr (10, [.ref xa, .ref xb, .ref xc, .ref xd, .ref xe, .ref xf, .ref xg, .ref xh, .ref xi, .ref xj, .ref xk, .ref xl, .ref xm, .ref xn, .ref xo, .ref xp, .ref xq, .ref xr, .ref xs, .ref xt, .int (nI n), .int (nI nx), .int (nI nb), .int (nI no), .int (nI na), .int (nI nc), .int (nI ne), .int (nI ns), .int (nI fee), .int lk, .int th, .int (nI 115), .int stc])), (xa, .inl (cC, 60, .inl tL)), (xb, .inl (cC, 60, .inl mL)), (xd, .inl (cI, 60, .inl tC)), (xf, .inl (cI, 60, .inl mC))] H locs := hw
                    refine lv_iconst (v := nI 1) hx hb dX8_isRefused_150 (by decide) ?_
                    subst hQ
                    exact r_reti (v := nI 1) cx hr (by decide) hlk hw (Nat.le_of_ble_eq_true rfl) (Nat.le_of_ble_eq_true rfl) ((nI 115), lk) (by first | exact absurd c139 c124 | exact absurd c124 c139 | (have z := rf_l (cZ := kZ) (nc := nc) (stc := stc) (gT := gT) (gX := gX) (ns := ns) (ch := (chs (un tL tC n mL mC nx) nc)) (by rw [← e7]; exact fun y => c124 (n7.mpr y)); exact ⟨Or.inl ⟨rfl, z.1⟩, Or.inl ⟨z.1, z.2.1, e7.trans z.2.2⟩⟩) | (have z := rf_s (cZ := kZ) (nc := nc) (stc := stc) (gT := gT) (gX := gX) (ns := ns) (ch := (chs (un tL tC n mL mC nx) nc)) (by rw [← e7]; exact n7.mp c124) (by rw [← e8]; exact fun y => (not_lt_of_ge9 c117) (n8.mpr y)); exact ⟨Or.inl ⟨rfl, z.1⟩, Or.inl ⟨z.1, z.2.1, e8.trans z.2.2⟩⟩) | exact absurd c124 (not_lt_of_ge9 c113)) [3, 4, 5, 6, 7, 0, 1, 2] (by decide) rfl dX8_isRefused_151
                · refine lv_bipush (v := nI 108) hx hb dX8_isRefused_127 (by decide) ?_
                  refine lv_goto (tgt := 134) hx hb dX8_isRefused_129 (by decide) ?_
                  refine r_put cx hw inX8_isRefused_8 tyX8 tyX8_ok nmX8 3 31 rfl rfl (by decide) lkX8_isRefused_7 rfl (by decide) (by decide) (Nat.le_of_ble_eq_true rfl) dX8_isRefused_134 (fun H locs hw => ?_)
                  have hw : ww D (TY cC cI cJ cZ cD) s A s.heap [(xr, .inl (cZ, 6, .inl kZ)), (xt, .inl (cC, 12, .inl gT)), (xo, .inl (cI, 12, .inl gX)), (x, .inr (10, [.ref xa, .ref xb, .ref xc, .ref xd, .ref xe, .ref xf, .ref xg, .ref xh, .ref xi, .ref xj, .ref xk, .ref xl, .ref xm, .ref xn, .ref xo, .ref xp, .ref xq, .ref xr, .ref xs, .ref xt, .int (nI n), .int (nI nx), .int (nI nb), .int (nI no), .int (nI na), .int (nI nc), .int (nI ne), .int (nI ns), .int (nI fee), .int sj, .int th, .int (nI 108), .int stc])), (xa, .inl (cC, 60, .inl tL)), (xb, .inl (cC, 60, .inl mL)), (xd, .inl (cI, 60, .inl tC)), (xf, .inl (cI, 60, .inl mC))] H locs := hw
                  refine lv_aload_n hx hb dX8_isRefused_137 rfl (lv_at hl 0 rfl) ?_
                  refine lv_iload_n hx hb dX8_isRefused_138 rfl (lv_at hl 2 rfl) ?_
                  refine lv_if_lt (tgt := 146) hx hb dX8_isRefused_139 (by decide) (fun c139 => ?_) (fun c139 => ?_)
                  · refine lv_iload_n hx hb dX8_isRefused_146 rfl (lv_at hl 3 rfl) ?_
                    refine r_put cx hw inX8_isRefused_8 tyX8 tyX8_ok nmX8 3 29 rfl rfl (by decide) lkX8_isRefused_8 rfl rfl rfl (Nat.le_of_ble_eq_true rfl) dX8_isRefused_147 (fun H locs hw => ?_)
                    have hw : ww D (TY cC cI cJ cZ cD) s A s.heap [(xr, .inl (cZ, 6, .inl kZ)), (xt, .inl (cC, 12, .inl gT)), (xo, .inl (cI, 12, .inl gX)), (x, .inr (10, [.ref xa, .ref xb, .ref xc, .ref xd, .ref xe, .ref xf, .ref xg, .ref xh, .ref xi, .ref xj, .ref xk, .ref xl, .ref xm, .ref xn, .ref xo, .ref xp, .ref xq, .ref xr, .ref xs, .ref xt, .int (nI n), .int (nI nx), .int (nI nb), .int (nI no), .int (nI na), .int (nI nc), .int (nI ne), .int (nI ns), .int (nI fee), .int sg, .int th, .int (nI 108), .int stc])), (xa, .inl (cC, 60, .inl tL)), (xb, .inl (cC, 60, .inl mL)), (xd, .inl (cI, 60, .inl tC)), (xf, .inl (cI, 60, .inl mC))] H locs := hw
                    refine lv_iconst (v := nI 1) hx hb dX8_isRefused_150 (by decide) ?_
                    subst hQ
                    exact r_reti (v := nI 1) cx hr (by decide) hlk hw (Nat.le_of_ble_eq_true rfl) (Nat.le_of_ble_eq_true rfl) ((nI 108), sg) (by first | exact absurd c139 c124 | exact absurd c124 c139 | (have z := rf_l (cZ := kZ) (nc := nc) (stc := stc) (gT := gT) (gX := gX) (ns := ns) (ch := (chs (un tL tC n mL mC nx) nc)) (by rw [← e7]; exact fun y => c124 (n7.mpr y)); exact ⟨Or.inl ⟨rfl, z.1⟩, Or.inl ⟨z.1, z.2.1, e7.trans z.2.2⟩⟩) | (have z := rf_s (cZ := kZ) (nc := nc) (stc := stc) (gT := gT) (gX := gX) (ns := ns) (ch := (chs (un tL tC n mL mC nx) nc)) (by rw [← e7]; exact n7.mp c124) (by rw [← e8]; exact fun y => (not_lt_of_ge9 c117) (n8.mpr y)); exact ⟨Or.inl ⟨rfl, z.1⟩, Or.inl ⟨z.1, z.2.1, e8.trans z.2.2⟩⟩) | exact absurd c124 (not_lt_of_ge9 c113)) [3, 4, 5, 6, 7, 0, 1, 2] (by decide) rfl dX8_isRefused_151
                  · refine lv_iload_n hx hb dX8_isRefused_142 rfl (lv_at hl 2 rfl) ?_
                    refine lv_goto (tgt := 147) hx hb dX8_isRefused_143 (by decide) ?_
                    refine r_put cx hw inX8_isRefused_8 tyX8 tyX8_ok nmX8 3 29 rfl rfl (by decide) lkX8_isRefused_8 rfl rfl rfl (Nat.le_of_ble_eq_true rfl) dX8_isRefused_147 (fun H locs hw => ?_)
                    have hw : ww D (TY cC cI cJ cZ cD) s A s.heap [(xr, .inl (cZ, 6, .inl kZ)), (xt, .inl (cC, 12, .inl gT)), (xo, .inl (cI, 12, .inl gX)), (x, .inr (10, [.ref xa, .ref xb, .ref xc, .ref xd, .ref xe, .ref xf, .ref xg, .ref xh, .ref xi, .ref xj, .ref xk, .ref xl, .ref xm, .ref xn, .ref xo, .ref xp, .ref xq, .ref xr, .ref xs, .ref xt, .int (nI n), .int (nI nx), .int (nI nb), .int (nI no), .int (nI na), .int (nI nc), .int (nI ne), .int (nI ns), .int (nI fee), .int lk, .int th, .int (nI 108), .int stc])), (xa, .inl (cC, 60, .inl tL)), (xb, .inl (cC, 60, .inl mL)), (xd, .inl (cI, 60, .inl tC)), (xf, .inl (cI, 60, .inl mC))] H locs := hw
                    refine lv_iconst (v := nI 1) hx hb dX8_isRefused_150 (by decide) ?_
                    subst hQ
                    exact r_reti (v := nI 1) cx hr (by decide) hlk hw (Nat.le_of_ble_eq_true rfl) (Nat.le_of_ble_eq_true rfl) ((nI 108), lk) (by first | exact absurd c139 c124 | exact absurd c124 c139 | (have z := rf_l (cZ := kZ) (nc := nc) (stc := stc) (gT := gT) (gX := gX) (ns := ns) (ch := (chs (un tL tC n mL mC nx) nc)) (by rw [← e7]; exact fun y => c124 (n7.mpr y)); exact ⟨Or.inl ⟨rfl, z.1⟩, Or.inl ⟨z.1, z.2.1, e7.trans z.2.2⟩⟩) | (have z := rf_s (cZ := kZ) (nc := nc) (stc := stc) (gT := gT) (gX := gX) (ns := ns) (ch := (chs (un tL tC n mL mC nx) nc)) (by rw [← e7]; exact n7.mp c124) (by rw [← e8]; exact fun y => (not_lt_of_ge9 c117) (n8.mpr y)); exact ⟨Or.inl ⟨rfl, z.1⟩, Or.inl ⟨z.1, z.2.1, e8.trans z.2.2⟩⟩) | exact absurd c124 (not_lt_of_ge9 c113)) [3, 4, 5, 6, 7, 0, 1, 2] (by decide) rfl dX8_isRefused_151
              · refine lv_iload_n hx hb dX8_isRefused_116 rfl (lv_at hl 3 rfl) ?_
                refine lv_if_ge (tgt := 122) hx hb dX8_isRefused_117 (by decide) (fun c117 => ?_) (fun c117 => ?_)
                · refine lv_aload_n hx hb dX8_isRefused_122 rfl (lv_at hl 0 rfl) ?_
                  refine lv_iload_n hx hb dX8_isRefused_123 rfl (lv_at hl 2 rfl) ?_
                  refine lv_if_lt (tgt := 132) hx hb dX8_isRefused_124 (by decide) (fun c124 => ?_) (fun c124 => ?_)
                  · refine lv_bipush (v := nI 115) hx hb dX8_isRefused_132 (by decide) ?_
                    refine r_put cx hw inX8_isRefused_8 tyX8 tyX8_ok nmX8 3 31 rfl rfl (by decide) lkX8_isRefused_7 rfl (by decide) (by decide) (Nat.le_of_ble_eq_true rfl) dX8_isRefused_134 (fun H locs hw => ?_)
                    have hw : ww D (TY cC cI cJ cZ cD) s A s.heap [(xr, .inl (cZ, 6, .inl kZ)), (xt, .inl (cC, 12, .inl gT)), (xo, .inl (cI, 12, .inl gX)), (x, .inr (10, [.ref xa, .ref xb, .ref xc, .ref xd, .ref xe, .ref xf, .ref xg, .ref xh, .ref xi, .ref xj, .ref xk, .ref xl, .ref xm, .ref xn, .ref xo, .ref xp, .ref xq, .ref xr, .ref xs, .ref xt, .int (nI n), .int (nI nx), .int (nI nb), .int (nI no), .int (nI na), .int (nI nc), .int (nI ne), .int (nI ns), .int (nI fee), .int sj, .int th, .int (nI 115), .int stc])), (xa, .inl (cC, 60, .inl tL)), (xb, .inl (cC, 60, .inl mL)), (xd, .inl (cI, 60, .inl tC)), (xf, .inl (cI, 60, .inl mC))] H locs := hw
                    refine lv_aload_n hx hb dX8_isRefused_137 rfl (lv_at hl 0 rfl) ?_
                    refine lv_iload_n hx hb dX8_isRefused_138 rfl (lv_at hl 2 rfl) ?_
                    refine lv_if_lt (tgt := 146) hx hb dX8_isRefused_139 (by decide) (fun c139 => ?_) (fun c139 => ?_)
                    · refine lv_iload_n hx hb dX8_isRefused_146 rfl (lv_at hl 3 rfl) ?_
                      refine r_put cx hw inX8_isRefused_8 tyX8 tyX8_ok nmX8 3 29 rfl rfl (by decide) lkX8_isRefused_8 rfl rfl rfl (Nat.le_of_ble_eq_true rfl) dX8_isRefused_147 (fun H locs hw => ?_)
                      have hw : ww D (TY cC cI cJ cZ cD) s A s.heap [(xr, .inl (cZ, 6, .inl kZ)), (xt, .inl (cC, 12, .inl gT)), (xo, .inl (cI, 12, .inl gX)), (x, .inr (10, [.ref xa, .ref xb, .ref xc, .ref xd, .ref xe, .ref xf, .ref xg, .ref xh, .ref xi, .ref xj, .ref xk, .ref xl, .ref xm, .ref xn, .ref xo, .ref xp, .ref xq, .ref xr, .ref xs, .ref xt, .int (nI n), .int (nI nx), .int (nI nb), .int (nI no), .int (nI na), .int (nI nc), .int (nI ne), .int (nI ns), .int (nI fee), .int sg, .int th, .int (nI 115), .int stc])), (xa, .inl (cC, 60, .inl tL)), (xb, .inl (cC, 60, .inl mL)), (xd, .inl (cI, 60, .inl tC)), (xf, .inl (cI, 60, .inl mC))] H locs := hw
                      refine lv_iconst (v := nI 1) hx hb dX8_isRefused_150 (by decide) ?_
                      subst hQ
                      exact r_reti (v := nI 1) cx hr (by decide) hlk hw (Nat.le_of_ble_eq_true rfl) (Nat.le_of_ble_eq_true rfl) ((nI 115), sg) (by first | exact absurd c139 c124 | exact absurd c124 c139 | (have z := rf_l (cZ := kZ) (nc := nc) (stc := stc) (gT := gT) (gX := gX) (ns := ns) (ch := (chs (un tL tC n mL mC nx) nc)) (by rw [← e7]; exact fun y => c124 (n7.mpr y)); exact ⟨Or.inl ⟨rfl, z.1⟩, Or.inl ⟨z.1, z.2.1, e7.trans z.2.2⟩⟩) | (have z := rf_s (cZ := kZ) (nc := nc) (stc := stc) (gT := gT) (gX := gX) (ns := ns) (ch := (chs (un tL tC n mL mC nx) nc)) (by rw [← e7]; exact n7.mp c124) (by rw [← e8]; exact fun y => (not_lt_of_ge9 c117) (n8.mpr y)); exact ⟨Or.inl ⟨rfl, z.1⟩, Or.inl ⟨z.1, z.2.1, e8.trans z.2.2⟩⟩) | exact absurd c124 (not_lt_of_ge9 c113)) [3, 4, 5, 6, 7, 0, 1, 2] (by decide) rfl dX8_isRefused_151
                    · refine lv_iload_n hx hb dX8_isRefused_142 rfl (lv_at hl 2 rfl) ?_
                      refine lv_goto (tgt := 147) hx hb dX8_isRefused_143 (by decide) ?_
                      refine r_put cx hw inX8_isRefused_8 tyX8 tyX8_ok nmX8 3 29 rfl rfl (by decide) lkX8_isRefused_8 rfl rfl rfl (Nat.le_of_ble_eq_true rfl) dX8_isRefused_147 (fun H locs hw => ?_)
                      have hw : ww D (TY cC cI cJ cZ cD) s A s.heap [(xr, .inl (cZ, 6, .inl kZ)), (xt, .inl (cC, 12, .inl gT)), (xo, .inl (cI, 12, .inl gX)), (x, .inr (10, [.ref xa, .ref xb, .ref xc, .ref xd, .ref xe, .ref xf, .ref xg, .ref xh, .ref xi, .ref xj, .ref xk, .ref xl, .ref xm, .ref xn, .ref xo, .ref xp, .ref xq, .ref xr, .ref xs, .ref xt, .int (nI n), .int (nI nx), .int (nI nb), .int (nI no), .int (nI na), .int (nI nc), .int (nI ne), .int (nI ns), .int (nI fee), .int lk, .int th, .int (nI 115), .int stc])), (xa, .inl (cC, 60, .inl tL)), (xb, .inl (cC, 60, .inl mL)), (xd, .inl (cI, 60, .inl tC)), (xf, .inl (cI, 60, .inl mC))] H locs := hw
                      refine lv_iconst (v := nI 1) hx hb dX8_isRefused_150 (by decide) ?_
                      subst hQ
                      exact r_reti (v := nI 1) cx hr (by decide) hlk hw (Nat.le_of_ble_eq_true rfl) (Nat.le_of_ble_eq_true rfl) ((nI 115), lk) (by first | exact absurd c139 c124 | exact absurd c124 c139 | (have z := rf_l (cZ := kZ) (nc := nc) (stc := stc) (gT := gT) (gX := gX) (ns := ns) (ch := (chs (un tL tC n mL mC nx) nc)) (by rw [← e7]; exact fun y => c124 (n7.mpr y)); exact ⟨Or.inl ⟨rfl, z.1⟩, Or.inl ⟨z.1, z.2.1, e7.trans z.2.2⟩⟩) | (have z := rf_s (cZ := kZ) (nc := nc) (stc := stc) (gT := gT) (gX := gX) (ns := ns) (ch := (chs (un tL tC n mL mC nx) nc)) (by rw [← e7]; exact n7.mp c124) (by rw [← e8]; exact fun y => (not_lt_of_ge9 c117) (n8.mpr y)); exact ⟨Or.inl ⟨rfl, z.1⟩, Or.inl ⟨z.1, z.2.1, e8.trans z.2.2⟩⟩) | exact absurd c124 (not_lt_of_ge9 c113)) [3, 4, 5, 6, 7, 0, 1, 2] (by decide) rfl dX8_isRefused_151
                  · refine lv_bipush (v := nI 108) hx hb dX8_isRefused_127 (by decide) ?_
                    refine lv_goto (tgt := 134) hx hb dX8_isRefused_129 (by decide) ?_
                    refine r_put cx hw inX8_isRefused_8 tyX8 tyX8_ok nmX8 3 31 rfl rfl (by decide) lkX8_isRefused_7 rfl (by decide) (by decide) (Nat.le_of_ble_eq_true rfl) dX8_isRefused_134 (fun H locs hw => ?_)
                    have hw : ww D (TY cC cI cJ cZ cD) s A s.heap [(xr, .inl (cZ, 6, .inl kZ)), (xt, .inl (cC, 12, .inl gT)), (xo, .inl (cI, 12, .inl gX)), (x, .inr (10, [.ref xa, .ref xb, .ref xc, .ref xd, .ref xe, .ref xf, .ref xg, .ref xh, .ref xi, .ref xj, .ref xk, .ref xl, .ref xm, .ref xn, .ref xo, .ref xp, .ref xq, .ref xr, .ref xs, .ref xt, .int (nI n), .int (nI nx), .int (nI nb), .int (nI no), .int (nI na), .int (nI nc), .int (nI ne), .int (nI ns), .int (nI fee), .int sj, .int th, .int (nI 108), .int stc])), (xa, .inl (cC, 60, .inl tL)), (xb, .inl (cC, 60, .inl mL)), (xd, .inl (cI, 60, .inl tC)), (xf, .inl (cI, 60, .inl mC))] H locs := hw
                    refine lv_aload_n hx hb dX8_isRefused_137 rfl (lv_at hl 0 rfl) ?_
                    refine lv_iload_n hx hb dX8_isRefused_138 rfl (lv_at hl 2 rfl) ?_
                    refine lv_if_lt (tgt := 146) hx hb dX8_isRefused_139 (by decide) (fun c139 => ?_) (fun c139 => ?_)
                    · refine lv_iload_n hx hb dX8_isRefused_146 rfl (lv_at hl 3 rfl) ?_
                      refine r_put cx hw inX8_isRefused_8 tyX8 tyX8_ok nmX8 3 29 rfl rfl (by decide) lkX8_isRefused_8 rfl rfl rfl (Nat.le_of_ble_eq_true rfl) dX8_isRefused_147 (fun H locs hw => ?_)
                      have hw : ww D (TY cC cI cJ cZ cD) s A s.heap [(xr, .inl (cZ, 6, .inl kZ)), (xt, .inl (cC, 12, .inl gT)), (xo, .inl (cI, 12, .inl gX)), (x, .inr (10, [.ref xa, .ref xb, .ref xc, .ref xd, .ref xe, .ref xf, .ref xg, .ref xh, .ref xi, .ref xj, .ref xk, .ref xl, .ref xm, .ref xn, .ref xo, .ref xp, .ref xq, .ref xr, .ref xs, .ref xt, .int (nI n), .int (nI nx), .int (nI nb), .int (nI no), .int (nI na), .int (nI nc), .int (nI ne), .int (nI ns), .int (nI fee), .int sg, .int th, .int (nI 108), .int stc])), (xa, .inl (cC, 60, .inl tL)), (xb, .inl (cC, 60, .inl mL)), (xd, .inl (cI, 60, .inl tC)), (xf, .inl (cI, 60, .inl mC))] H locs := hw
                      refine lv_iconst (v := nI 1) hx hb dX8_isRefused_150 (by decide) ?_
                      subst hQ
                      exact r_reti (v := nI 1) cx hr (by decide) hlk hw (Nat.le_of_ble_eq_true rfl) (Nat.le_of_ble_eq_true rfl) ((nI 108), sg) (by first | exact absurd c139 c124 | exact absurd c124 c139 | (have z := rf_l (cZ := kZ) (nc := nc) (stc := stc) (gT := gT) (gX := gX) (ns := ns) (ch := (chs (un tL tC n mL mC nx) nc)) (by rw [← e7]; exact fun y => c124 (n7.mpr y)); exact ⟨Or.inl ⟨rfl, z.1⟩, Or.inl ⟨z.1, z.2.1, e7.trans z.2.2⟩⟩) | (have z := rf_s (cZ := kZ) (nc := nc) (stc := stc) (gT := gT) (gX := gX) (ns := ns) (ch := (chs (un tL tC n mL mC nx) nc)) (by rw [← e7]; exact n7.mp c124) (by rw [← e8]; exact fun y => (not_lt_of_ge9 c117) (n8.mpr y)); exact ⟨Or.inl ⟨rfl, z.1⟩, Or.inl ⟨z.1, z.2.1, e8.trans z.2.2⟩⟩) | exact absurd c124 (not_lt_of_ge9 c113)) [3, 4, 5, 6, 7, 0, 1, 2] (by decide) rfl dX8_isRefused_151
                    · refine lv_iload_n hx hb dX8_isRefused_142 rfl (lv_at hl 2 rfl) ?_
                      refine lv_goto (tgt := 147) hx hb dX8_isRefused_143 (by decide) ?_
                      refine r_put cx hw inX8_isRefused_8 tyX8 tyX8_ok nmX8 3 29 rfl rfl (by decide) lkX8_isRefused_8 rfl rfl rfl (Nat.le_of_ble_eq_true rfl) dX8_isRefused_147 (fun H locs hw => ?_)
                      have hw : ww D (TY cC cI cJ cZ cD) s A s.heap [(xr, .inl (cZ, 6, .inl kZ)), (xt, .inl (cC, 12, .inl gT)), (xo, .inl (cI, 12, .inl gX)), (x, .inr (10, [.ref xa, .ref xb, .ref xc, .ref xd, .ref xe, .ref xf, .ref xg, .ref xh, .ref xi, .ref xj, .ref xk, .ref xl, .ref xm, .ref xn, .ref xo, .ref xp, .ref xq, .ref xr, .ref xs, .ref xt, .int (nI n), .int (nI nx), .int (nI nb), .int (nI no), .int (nI na), .int (nI nc), .int (nI ne), .int (nI ns), .int (nI fee), .int lk, .int th, .int (nI 108), .int stc])), (xa, .inl (cC, 60, .inl tL)), (xb, .inl (cC, 60, .inl mL)), (xd, .inl (cI, 60, .inl tC)), (xf, .inl (cI, 60, .inl mC))] H locs := hw
                      refine lv_iconst (v := nI 1) hx hb dX8_isRefused_150 (by decide) ?_
                      subst hQ
                      exact r_reti (v := nI 1) cx hr (by decide) hlk hw (Nat.le_of_ble_eq_true rfl) (Nat.le_of_ble_eq_true rfl) ((nI 108), lk) (by first | exact absurd c139 c124 | exact absurd c124 c139 | (have z := rf_l (cZ := kZ) (nc := nc) (stc := stc) (gT := gT) (gX := gX) (ns := ns) (ch := (chs (un tL tC n mL mC nx) nc)) (by rw [← e7]; exact fun y => c124 (n7.mpr y)); exact ⟨Or.inl ⟨rfl, z.1⟩, Or.inl ⟨z.1, z.2.1, e7.trans z.2.2⟩⟩) | (have z := rf_s (cZ := kZ) (nc := nc) (stc := stc) (gT := gT) (gX := gX) (ns := ns) (ch := (chs (un tL tC n mL mC nx) nc)) (by rw [← e7]; exact n7.mp c124) (by rw [← e8]; exact fun y => (not_lt_of_ge9 c117) (n8.mpr y)); exact ⟨Or.inl ⟨rfl, z.1⟩, Or.inl ⟨z.1, z.2.1, e8.trans z.2.2⟩⟩) | exact absurd c124 (not_lt_of_ge9 c113)) [3, 4, 5, 6, 7, 0, 1, 2] (by decide) rfl dX8_isRefused_151
                · refine lv_iconst (v := nI 0) hx hb dX8_isRefused_120 (by decide) ?_
                  subst hQ
                  exact r_reti (v := nI 0) cx hr (by decide) hlk hw (Nat.le_of_ble_eq_true rfl) (Nat.le_of_ble_eq_true rfl) (rs, sj) ⟨Or.inr ⟨rfl, rf_no (e7 ▸ n7.mp (lt_of_not_ge9 c113)) (e8 ▸ n8.mp (lt_of_not_ge9 c117))⟩, Or.inr ⟨rf_no (e7 ▸ n7.mp (lt_of_not_ge9 c113)) (e8 ▸ n8.mp (lt_of_not_ge9 c117)), rfl, rfl⟩⟩ [3, 4, 5, 6, 7, 0, 1, 2] (by decide) rfl dX8_isRefused_121
            · have hq0 : ¬ q2 = 0 := fun y => c65 ((dq_lt (by omega)).mpr y)
              have hl : lv_has ls 5 [(0, .ref x), (1, .int (chs (un tL tC n mL mC nx) nc)), (2, .int lk), (3, .int sg), (4, .int (nI (q2 - 1)))] := by rw [← pk_sub (show 1 ≤ q2 by omega)]; exact hl
              refine lv_aload_n hx hb dX8_isRefused_68 rfl (lv_at hl 0 rfl) ?_
              refine r_get cx hw inX8_isRefused_8 3 32 rfl rfl (by decide) lkX8_isRefused_4 rfl dX8_isRefused_69 ?_
              refine lv_if_eq (tgt := 104) hx hb dX8_isRefused_72 (by decide) (fun c72 => ?_) (fun c72 => ?_)
              · refine lv_iload_n hx hb dX8_isRefused_104 rfl (lv_at hl 3 rfl) ?_
                refine lv_istore_n (lv' := [(3, .int sg), (0, .ref x), (1, .int (chs (un tL tC n mL mC nx) nc)), (2, .int lk), (4, .int (nI (q2 - 1)))]) hx hb dX8_isRefused_105 rfl hl (by decide) rfl (fun ls hl => ?_)
                refine lv_iinc (v := nI (q2 - 1) - nI 1) (lv' := [(4, .int (nI (q2 - 1) - nI 1)), (3, .int sg), (0, .ref x), (1, .int (chs (un tL tC n mL mC nx) nc)), (2, .int lk)]) hx hb dX8_isRefused_106 hl (k := 4) rfl (iimz _) (by decide) rfl (fun ls hl => ?_)
                refine lv_goto (tgt := 63) hx hb dX8_isRefused_109 (by decide) ?_
                exact ih63 sg (q2 - 1) (by omega) (by omega) (by exact ldn_n (fun z => by first | exact (vs_t.mp z).1 c72 | exact c84 (vs_t.mp z).2.1 | exact (vs_t.mp z).2.2 c96) (by rw [show q2 - 1 + 1 = q2 by omega]; exact hs9)) _ _ hw _ (lv_sub hl [2, 3, 4, 1, 0] rfl)
              · refine lv_aload_n hx hb dX8_isRefused_75 rfl (lv_at hl 0 rfl) ?_
                refine r_get cx hw inX8_isRefused_8 3 19 rfl rfl (by decide) lkX8_isRefused_5 rfl dX8_isRefused_76 ?_
                refine lv_iload hx hb dX8_isRefused_79 (lv_at hl 4 rfl) ?_
                refine r_cald cx hw 1 0 rfl rfl (q2 - 1) rfl (by omega) (by omega) dX8_isRefused_81 ?_
                refine lv_bipush (v := nI 118) hx hb dX8_isRefused_82 (by decide) ?_
                refine lv_icmp_ne (tgt := 104) hx hb dX8_isRefused_84 (by decide) (fun c84 => ?_) (fun c84 => ?_)
                · refine lv_iload_n hx hb dX8_isRefused_104 rfl (lv_at hl 3 rfl) ?_
                  refine lv_istore_n (lv' := [(3, .int sg), (0, .ref x), (1, .int (chs (un tL tC n mL mC nx) nc)), (2, .int lk), (4, .int (nI (q2 - 1)))]) hx hb dX8_isRefused_105 rfl hl (by decide) rfl (fun ls hl => ?_)
                  refine lv_iinc (v := nI (q2 - 1) - nI 1) (lv' := [(4, .int (nI (q2 - 1) - nI 1)), (3, .int sg), (0, .ref x), (1, .int (chs (un tL tC n mL mC nx) nc)), (2, .int lk)]) hx hb dX8_isRefused_106 hl (k := 4) rfl (iimz _) (by decide) rfl (fun ls hl => ?_)
                  refine lv_goto (tgt := 63) hx hb dX8_isRefused_109 (by decide) ?_
                  exact ih63 sg (q2 - 1) (by omega) (by omega) (by exact ldn_n (fun z => by first | exact (vs_t.mp z).1 c72 | exact c84 (vs_t.mp z).2.1 | exact (vs_t.mp z).2.2 c96) (by rw [show q2 - 1 + 1 = q2 by omega]; exact hs9)) _ _ hw _ (lv_sub hl [2, 3, 4, 1, 0] rfl)
                · refine lv_aload_n hx hb dX8_isRefused_87 rfl (lv_at hl 0 rfl) ?_
                  refine r_get cx hw inX8_isRefused_8 3 14 rfl rfl (by decide) lkX8_isRefused_6 rfl dX8_isRefused_88 ?_
                  refine lv_iload hx hb dX8_isRefused_91 (lv_at hl 4 rfl) ?_
                  refine r_iald cx hw 2 1 rfl rfl (q2 - 1) rfl (by omega) (by omega) dX8_isRefused_93 ?_
                  refine lv_iload_n hx hb dX8_isRefused_94 rfl (lv_at hl 1 rfl) ?_
                  refine lv_iand hx hb dX8_isRefused_95 ?_
                  refine lv_if_eq (tgt := 104) hx hb dX8_isRefused_96 (by decide) (fun c96 => ?_) (fun c96 => ?_)
                  · refine lv_iload_n hx hb dX8_isRefused_104 rfl (lv_at hl 3 rfl) ?_
                    refine lv_istore_n (lv' := [(3, .int sg), (0, .ref x), (1, .int (chs (un tL tC n mL mC nx) nc)), (2, .int lk), (4, .int (nI (q2 - 1)))]) hx hb dX8_isRefused_105 rfl hl (by decide) rfl (fun ls hl => ?_)
                    refine lv_iinc (v := nI (q2 - 1) - nI 1) (lv' := [(4, .int (nI (q2 - 1) - nI 1)), (3, .int sg), (0, .ref x), (1, .int (chs (un tL tC n mL mC nx) nc)), (2, .int lk)]) hx hb dX8_isRefused_106 hl (k := 4) rfl (iimz _) (by decide) rfl (fun ls hl => ?_)
                    refine lv_goto (tgt := 63) hx hb dX8_isRefused_109 (by decide) ?_
                    exact ih63 sg (q2 - 1) (by omega) (by omega) (by exact ldn_n (fun z => by first | exact (vs_t.mp z).1 c72 | exact c84 (vs_t.mp z).2.1 | exact (vs_t.mp z).2.2 c96) (by rw [show q2 - 1 + 1 = q2 by omega]; exact hs9)) _ _ hw _ (lv_sub hl [2, 3, 4, 1, 0] rfl)
                  · refine lv_iload hx hb dX8_isRefused_99 (lv_at hl 4 rfl) ?_
                    refine lv_goto (tgt := 105) hx hb dX8_isRefused_101 (by decide) ?_
                    refine lv_istore_n (lv' := [(3, .int (nI (q2 - 1))), (0, .ref x), (1, .int (chs (un tL tC n mL mC nx) nc)), (2, .int lk), (4, .int (nI (q2 - 1)))]) hx hb dX8_isRefused_105 rfl hl (by decide) rfl (fun ls hl => ?_)
                    refine lv_iinc (v := nI (q2 - 1) - nI 1) (lv' := [(4, .int (nI (q2 - 1) - nI 1)), (3, .int (nI (q2 - 1))), (0, .ref x), (1, .int (chs (un tL tC n mL mC nx) nc)), (2, .int lk)]) hx hb dX8_isRefused_106 hl (k := 4) rfl (iimz _) (by decide) rfl (fun ls hl => ?_)
                    refine lv_goto (tgt := 63) hx hb dX8_isRefused_109 (by decide) ?_
                    exact ih63 (nI (q2 - 1)) (q2 - 1) (by omega) (by omega) (by exact ldn_y (by omega) (vs_t.mpr ⟨c72, c84, c96⟩)) _ _ hw _ (lv_sub hl [2, 3, 4, 1, 0] rfl)
        exact K63_2 _ (-1) ns (Nat.lt_succ_self _) (by omega) (by exact ldn_0) _ _ hw _ (lv_sub hl [1, 2, 3, 4, 0] rfl)
      · have hq0 : ¬ q = 0 := fun y => c19 ((dq_lt (by omega)).mpr y)
        have hl : lv_has ls 5 [(0, .ref x), (1, .int (chs (un tL tC n mL mC nx) nc)), (2, .int lk), (3, .int (-1)), (4, .int (nI (q - 1)))] := by rw [← pk_sub (show 1 ≤ q by omega)]; exact hl
        refine lv_aload_n hx hb dX8_isRefused_22 rfl (lv_at hl 0 rfl) ?_
        refine r_get cx hw inX8_isRefused_8 3 17 rfl rfl (by decide) lkX8_isRefused_2 rfl dX8_isRefused_23 ?_
        refine lv_iload hx hb dX8_isRefused_26 (lv_at hl 4 rfl) ?_
        refine r_zald cx hw 0 3 rfl rfl (q - 1) rfl (by omega) (by omega) dX8_isRefused_28 ?_
        refine lv_if_eq (tgt := 47) hx hb dX8_isRefused_29 (by decide) (fun c29 => ?_) (fun c29 => ?_)
        · refine lv_iload_n hx hb dX8_isRefused_47 rfl (lv_at hl 2 rfl) ?_
          refine lv_istore_n (lv' := [(2, .int lk), (0, .ref x), (1, .int (chs (un tL tC n mL mC nx) nc)), (3, .int (-1)), (4, .int (nI (q - 1)))]) hx hb dX8_isRefused_48 rfl hl (by decide) rfl (fun ls hl => ?_)
          refine lv_iinc (v := nI (q - 1) - nI 1) (lv' := [(4, .int (nI (q - 1) - nI 1)), (2, .int lk), (0, .ref x), (1, .int (chs (un tL tC n mL mC nx) nc)), (3, .int (-1))]) hx hb dX8_isRefused_49 hl (k := 4) rfl (iimz _) (by decide) rfl (fun ls hl => ?_)
          refine lv_goto (tgt := 17) hx hb dX8_isRefused_52 (by decide) ?_
          exact ih17 lk (q - 1) (by omega) (by omega) (by exact ldn_n (fun z => by first | exact (lkb_t.mp z).1 c29 | exact c39 ((bit_i (by omega)).mpr (lkb_t.mp z).2)) (by rw [show q - 1 + 1 = q by omega]; exact hl9)) _ _ hw _ (lv_sub hl [2, 3, 1, 4, 0] rfl)
        · refine lv_iload_n hx hb dX8_isRefused_32 rfl (lv_at hl 1 rfl) ?_
          refine lv_iload hx hb dX8_isRefused_33 (lv_at hl 4 rfl) ?_
          refine lv_ishr hx hb dX8_isRefused_35 ?_
          refine lv_iconst (v := nI 1) hx hb dX8_isRefused_36 (by decide) ?_
          refine lv_iand hx hb dX8_isRefused_37 ?_
          refine lv_iconst (v := nI 1) hx hb dX8_isRefused_38 (by decide) ?_
          refine lv_icmp_ne (tgt := 47) hx hb dX8_isRefused_39 (by decide) (fun c39 => ?_) (fun c39 => ?_)
          · refine lv_iload_n hx hb dX8_isRefused_47 rfl (lv_at hl 2 rfl) ?_
            refine lv_istore_n (lv' := [(2, .int lk), (0, .ref x), (1, .int (chs (un tL tC n mL mC nx) nc)), (3, .int (-1)), (4, .int (nI (q - 1)))]) hx hb dX8_isRefused_48 rfl hl (by decide) rfl (fun ls hl => ?_)
            refine lv_iinc (v := nI (q - 1) - nI 1) (lv' := [(4, .int (nI (q - 1) - nI 1)), (2, .int lk), (0, .ref x), (1, .int (chs (un tL tC n mL mC nx) nc)), (3, .int (-1))]) hx hb dX8_isRefused_49 hl (k := 4) rfl (iimz _) (by decide) rfl (fun ls hl => ?_)
            refine lv_goto (tgt := 17) hx hb dX8_isRefused_52 (by decide) ?_
            exact ih17 lk (q - 1) (by omega) (by omega) (by exact ldn_n (fun z => by first | exact (lkb_t.mp z).1 c29 | exact c39 ((bit_i (by omega)).mpr (lkb_t.mp z).2)) (by rw [show q - 1 + 1 = q by omega]; exact hl9)) _ _ hw _ (lv_sub hl [2, 3, 1, 4, 0] rfl)
          · refine lv_iload hx hb dX8_isRefused_42 (lv_at hl 4 rfl) ?_
            refine lv_goto (tgt := 48) hx hb dX8_isRefused_44 (by decide) ?_
            refine lv_istore_n (lv' := [(2, .int (nI (q - 1))), (0, .ref x), (1, .int (chs (un tL tC n mL mC nx) nc)), (3, .int (-1)), (4, .int (nI (q - 1)))]) hx hb dX8_isRefused_48 rfl hl (by decide) rfl (fun ls hl => ?_)
            refine lv_iinc (v := nI (q - 1) - nI 1) (lv' := [(4, .int (nI (q - 1) - nI 1)), (2, .int (nI (q - 1))), (0, .ref x), (1, .int (chs (un tL tC n mL mC nx) nc)), (3, .int (-1))]) hx hb dX8_isRefused_49 hl (k := 4) rfl (iimz _) (by decide) rfl (fun ls hl => ?_)
            refine lv_goto (tgt := 17) hx hb dX8_isRefused_52 (by decide) ?_
            exact ih17 (nI (q - 1)) (q - 1) (by omega) (by omega) (by exact ldn_y (by omega) (lkb_t.mpr ⟨c29, (bit_i (by omega)).mp c39⟩)) _ _ hw _ (lv_sub hl [2, 3, 1, 4, 0] rfl)
  exact K17_1 _ (-1) nc (Nat.lt_succ_self _) (by omega) (by exact ldn_0) _ _ hw _ (lv_sub hl [4, 3, 2, 1, 0] rfl)

theorem lkX8_amount_1 : Cond.fieldLink RX8 41 "SignedDocumentModel" "rate" "[I" ∈ wsX8_amount := List.mem_of_getElem? (i := 1) rfl
theorem inX8_amount_8 : ∀ w ∈ u_ws RX8 TX8 33, w ∈ wsX8_amount := fun _ h => List.mem_cons_of_mem _ (List.mem_append_left _ (List.mem_append_right _ h))
theorem lkX8_amount_2 : Cond.fieldLink RX8 38 "SignedDocumentModel" "scheme" "[I" ∈ wsX8_amount := List.mem_of_getElem? (i := 2) rfl
set_option maxRecDepth 100000 in
set_option maxHeartbeats 4000000 in
theorem mX8_amount (l : Launch) (D : va_G) (cC cI cJ cZ cD : ClassId) (x xa xb xc xd xe xf xg xh xi xj xk xl xm xn xo xp xq xr xs xt : Nat) (n nx nb no na nc ne ns fee : Nat) (sj th rs stc : Int32) (sS : Nat → Int32) (sR : Nat → Int32) (k i7 d7 m7 : Nat) (sz : Nat) (hk : k < 5) (hi7 : i7 ≤ 60) (hd7 : d7 ≤ 60) (hm7 : m7 ≤ 60) : MI l yX8_amount wsX8_amount ({ frames := 0, cells := 0, slots := 0, locals := 0 }) [.ref x, .int (nI k), .int (nI i7), .int (nI d7), .int (nI m7)] D (TY cC cI cJ cZ cD) [(x, .inr (10, [.ref xa, .ref xb, .ref xc, .ref xd, .ref xe, .ref xf, .ref xg, .ref xh, .ref xi, .ref xj, .ref xk, .ref xl, .ref xm, .ref xn, .ref xo, .ref xp, .ref xq, .ref xr, .ref xs, .ref xt, .int (nI n), .int (nI nx), .int (nI nb), .int (nI no), .int (nI na), .int (nI nc), .int (nI ne), .int (nI ns), .int (nI fee), .int sj, .int th, .int rs, .int stc])), (xj, .inl (cI, 5, .inl sS)), (xk, .inl (cI, 5, .inl sR))] sz (fun (r : Int32) => fun (_ : Unit) => r = amt (sR k) (sS k) i7 d7 m7) (fun (_ : Unit) => [(x, .inr (10, [.ref xa, .ref xb, .ref xc, .ref xd, .ref xe, .ref xf, .ref xg, .ref xh, .ref xi, .ref xj, .ref xk, .ref xl, .ref xm, .ref xn, .ref xo, .ref xp, .ref xq, .ref xr, .ref xs, .ref xt, .int (nI n), .int (nI nx), .int (nI nb), .int (nI no), .int (nI na), .int (nI nc), .int (nI ne), .int (nI ns), .int (nI fee), .int sj, .int th, .int rs, .int stc])), (xj, .inl (cI, 5, .inl sS)), (xk, .inl (cI, 5, .inl sR))]) 0 0 := by
  refine mk_MI (cc := cX8_amount) (maxL := 7) (ret := (some .int)) (by decide) rfl (Nat.le_of_ble_eq_true rfl) ?_
  intro p e s mI args below meth cO A cx hr hlk hnm hw ls hl
  have hx := cx.1
  have hb := cx.2.1
  have hw : ww D (TY cC cI cJ cZ cD) s A s.heap [(x, .inr (10, [.ref xa, .ref xb, .ref xc, .ref xd, .ref xe, .ref xf, .ref xg, .ref xh, .ref xi, .ref xj, .ref xk, .ref xl, .ref xm, .ref xn, .ref xo, .ref xp, .ref xq, .ref xr, .ref xs, .ref xt, .int (nI n), .int (nI nx), .int (nI nb), .int (nI no), .int (nI na), .int (nI nc), .int (nI ne), .int (nI ns), .int (nI fee), .int sj, .int th, .int rs, .int stc])), (xj, .inl (cI, 5, .inl sS)), (xk, .inl (cI, 5, .inl sR))] s.heap [] := hw
  have hl : lv_has ls 7 [(0, .ref x), (1, .int (nI k)), (2, .int (nI i7)), (3, .int (nI d7)), (4, .int (nI m7))] := hl
  generalize hQ : MQ _ _ _ _ _ _ _ = Q
  refine hp_start hw (fun H locs hw => ?_)
  refine lv_aload_n hx hb dX8_amount_0 rfl (lv_at hl 0 rfl) ?_
  refine r_get cx hw inX8_amount_8 0 10 rfl rfl (by decide) lkX8_amount_1 rfl dX8_amount_1 ?_
  refine lv_iload_n hx hb dX8_amount_4 rfl (lv_at hl 1 rfl) ?_
  refine r_iald cx hw 2 1 rfl rfl k rfl (by omega) (by omega) dX8_amount_5 ?_
  refine lv_istore (lv' := [(5, .int (sR k)), (0, .ref x), (1, .int (nI k)), (2, .int (nI i7)), (3, .int (nI d7)), (4, .int (nI m7))]) hx hb dX8_amount_6 hl (by decide) rfl (fun ls hl => ?_)
  refine lv_aload_n hx hb dX8_amount_8 rfl (lv_at hl 1 rfl) ?_
  refine r_get cx hw inX8_amount_8 0 9 rfl rfl (by decide) lkX8_amount_2 rfl dX8_amount_9 ?_
  refine lv_iload_n hx hb dX8_amount_12 rfl (lv_at hl 2 rfl) ?_
  refine r_iald cx hw 1 1 rfl rfl k rfl (by omega) (by omega) dX8_amount_13 ?_
  refine lv_istore (lv' := [(6, .int (sS k)), (5, .int (sR k)), (0, .ref x), (1, .int (nI k)), (2, .int (nI i7)), (3, .int (nI d7)), (4, .int (nI m7))]) hx hb dX8_amount_14 hl (by decide) rfl (fun ls hl => ?_)
  refine lv_iload hx hb dX8_amount_16 (lv_at hl 0 rfl) ?_
  refine lv_if_ne (tgt := 33) hx hb dX8_amount_18 (by decide) (fun c18 => ?_) (fun c18 => ?_)
  · refine lv_iload hx hb dX8_amount_33 (lv_at hl 0 rfl) ?_
    refine lv_iconst (v := nI 1) hx hb dX8_amount_35 (by decide) ?_
    refine lv_icmp_ne (tgt := 44) hx hb dX8_amount_36 (by decide) (fun c36 => ?_) (fun c36 => ?_)
    · refine lv_iload hx hb dX8_amount_44 (lv_at hl 0 rfl) ?_
      refine lv_iconst (v := nI 2) hx hb dX8_amount_46 (by decide) ?_
      refine lv_icmp_ne (tgt := 64) hx hb dX8_amount_47 (by decide) (fun c47 => ?_) (fun c47 => ?_)
      · refine lv_iload_n hx hb dX8_amount_64 rfl (lv_at hl 4 rfl) ?_
        refine lv_iload_n hx hb dX8_amount_65 rfl (lv_at hl 5 rfl) ?_
        refine r_iadd cx i7 d7 rfl rfl dX8_amount_66 ?_
        refine lv_iload hx hb dX8_amount_67 (lv_at hl 6 rfl) ?_
        refine r_iadd cx (i7 + d7) m7 rfl rfl dX8_amount_69 ?_
        refine lv_iconst (v := nI 2) hx hb dX8_amount_70 (by decide) ?_
        refine r_icmp_le cx 83 (i7 + d7 + m7) 2 rfl rfl (by omega) (by omega) dX8_amount_71 (by decide) (fun c71 => ?_) (fun c71 => ?_)
        · refine lv_iconst (v := nI 2) hx hb dX8_amount_83 (by decide) ?_
          refine lv_iload hx hb dX8_amount_84 (lv_at hl 1 rfl) ?_
          refine lv_imul hx hb dX8_amount_86 ?_
          subst hQ
          exact r_reti (v := (nI 2) * (sR k)) cx hr rfl hlk hw (Nat.le_of_ble_eq_true rfl) (Nat.le_of_ble_eq_true rfl) () (by first | exact (if_pos c18).symm | exact ((if_neg c18).trans (if_pos c36)).symm | exact ((if_neg c18).trans ((if_neg c36).trans (if_pos c47))).symm | exact ((if_neg c18).trans ((if_neg c36).trans ((if_neg c47).trans (by rw [show max (i7 + d7 + m7) 2 = 2 by omega])))).symm | exact ((if_neg c18).trans ((if_neg c36).trans ((if_neg c47).trans (by rw [show max (i7 + d7 + m7) 2 = i7 + d7 + m7 by omega])))).symm) [0, 1, 2] (by decide) rfl dX8_amount_87
        · refine lv_iload_n hx hb dX8_amount_74 rfl (lv_at hl 4 rfl) ?_
          refine lv_iload_n hx hb dX8_amount_75 rfl (lv_at hl 5 rfl) ?_
          refine r_iadd cx i7 d7 rfl rfl dX8_amount_76 ?_
          refine lv_iload hx hb dX8_amount_77 (lv_at hl 6 rfl) ?_
          refine r_iadd cx (i7 + d7) m7 rfl rfl dX8_amount_79 ?_
          refine lv_goto (tgt := 84) hx hb dX8_amount_80 (by decide) ?_
          refine lv_iload hx hb dX8_amount_84 (lv_at hl 1 rfl) ?_
          refine lv_imul hx hb dX8_amount_86 ?_
          subst hQ
          exact r_reti (v := (nI (i7 + d7 + m7)) * (sR k)) cx hr rfl hlk hw (Nat.le_of_ble_eq_true rfl) (Nat.le_of_ble_eq_true rfl) () (by first | exact (if_pos c18).symm | exact ((if_neg c18).trans (if_pos c36)).symm | exact ((if_neg c18).trans ((if_neg c36).trans (if_pos c47))).symm | exact ((if_neg c18).trans ((if_neg c36).trans ((if_neg c47).trans (by rw [show max (i7 + d7 + m7) 2 = 2 by omega])))).symm | exact ((if_neg c18).trans ((if_neg c36).trans ((if_neg c47).trans (by rw [show max (i7 + d7 + m7) 2 = i7 + d7 + m7 by omega])))).symm) [0, 1, 2] (by decide) rfl dX8_amount_87
      · refine lv_iload_n hx hb dX8_amount_50 rfl (lv_at hl 4 rfl) ?_
        refine lv_iload hx hb dX8_amount_51 (lv_at hl 1 rfl) ?_
        refine lv_imul hx hb dX8_amount_53 ?_
        refine lv_iload_n hx hb dX8_amount_54 rfl (lv_at hl 5 rfl) ?_
        refine lv_iload hx hb dX8_amount_55 (lv_at hl 1 rfl) ?_
        refine lv_imul hx hb dX8_amount_57 ?_
        refine lv_iconst (v := nI 2) hx hb dX8_amount_58 (by decide) ?_
        refine lv_idiv hx hb dX8_amount_59 (by decide) ?_
        refine lv_iadd hx hb dX8_amount_60 ?_
        refine lv_goto (tgt := 87) hx hb dX8_amount_61 (by decide) ?_
        subst hQ
        exact r_reti (v := ((nI i7) * (sR k)) + (((nI d7) * (sR k)) / (nI 2))) cx hr rfl hlk hw (Nat.le_of_ble_eq_true rfl) (Nat.le_of_ble_eq_true rfl) () (by first | exact (if_pos c18).symm | exact ((if_neg c18).trans (if_pos c36)).symm | exact ((if_neg c18).trans ((if_neg c36).trans (if_pos c47))).symm | exact ((if_neg c18).trans ((if_neg c36).trans ((if_neg c47).trans (by rw [show max (i7 + d7 + m7) 2 = 2 by omega])))).symm | exact ((if_neg c18).trans ((if_neg c36).trans ((if_neg c47).trans (by rw [show max (i7 + d7 + m7) 2 = i7 + d7 + m7 by omega])))).symm) [0, 1, 2] (by decide) rfl dX8_amount_87
    · refine lv_iload hx hb dX8_amount_39 (lv_at hl 1 rfl) ?_
      refine lv_goto (tgt := 87) hx hb dX8_amount_41 (by decide) ?_
      subst hQ
      exact r_reti (v := sR k) cx hr rfl hlk hw (Nat.le_of_ble_eq_true rfl) (Nat.le_of_ble_eq_true rfl) () (by first | exact (if_pos c18).symm | exact ((if_neg c18).trans (if_pos c36)).symm | exact ((if_neg c18).trans ((if_neg c36).trans (if_pos c47))).symm | exact ((if_neg c18).trans ((if_neg c36).trans ((if_neg c47).trans (by rw [show max (i7 + d7 + m7) 2 = 2 by omega])))).symm | exact ((if_neg c18).trans ((if_neg c36).trans ((if_neg c47).trans (by rw [show max (i7 + d7 + m7) 2 = i7 + d7 + m7 by omega])))).symm) [0, 1, 2] (by decide) rfl dX8_amount_87
  · refine lv_iload_n hx hb dX8_amount_21 rfl (lv_at hl 4 rfl) ?_
    refine lv_iload_n hx hb dX8_amount_22 rfl (lv_at hl 5 rfl) ?_
    refine r_iadd cx i7 d7 rfl rfl dX8_amount_23 ?_
    refine lv_iload hx hb dX8_amount_24 (lv_at hl 6 rfl) ?_
    refine r_iadd cx (i7 + d7) m7 rfl rfl dX8_amount_26 ?_
    refine lv_iload hx hb dX8_amount_27 (lv_at hl 1 rfl) ?_
    refine lv_imul hx hb dX8_amount_29 ?_
    refine lv_goto (tgt := 87) hx hb dX8_amount_30 (by decide) ?_
    subst hQ
    exact r_reti (v := (nI (i7 + d7 + m7)) * (sR k)) cx hr rfl hlk hw (Nat.le_of_ble_eq_true rfl) (Nat.le_of_ble_eq_true rfl) () (by first | exact (if_pos c18).symm | exact ((if_neg c18).trans (if_pos c36)).symm | exact ((if_neg c18).trans ((if_neg c36).trans (if_pos c47))).symm | exact ((if_neg c18).trans ((if_neg c36).trans ((if_neg c47).trans (by rw [show max (i7 + d7 + m7) 2 = 2 by omega])))).symm | exact ((if_neg c18).trans ((if_neg c36).trans ((if_neg c47).trans (by rw [show max (i7 + d7 + m7) 2 = i7 + d7 + m7 by omega])))).symm) [0, 1, 2] (by decide) rfl dX8_amount_87

