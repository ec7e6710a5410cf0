
set_option maxRecDepth 100000 in
set_option maxHeartbeats 4000000 in
theorem mX8_isIn (l : Launch) (D : va_G) (cC cI cJ cZ cD : ClassId) (v lo hi : Int32) (sz : Nat) : MI l yX8_isIn wsX8_isIn ({ frames := 0, cells := 0, slots := 0, locals := 0 }) [.int v, .int lo, .int hi] D (TY cC cI cJ cZ cD) [] sz (fun (r : Int32) => fun (_ : Unit) => ((r = nI 1 ∧ (lo.toInt ≤ v.toInt ∧ v.toInt ≤ hi.toInt)) ∨ (r = nI 0 ∧ ¬ (lo.toInt ≤ v.toInt ∧ v.toInt ≤ hi.toInt)))) (fun (_ : Unit) => []) 0 0 := by
  refine mk_MI (cc := cX8_isIn) (maxL := 3) (ret := (some .boolean)) (by decide) rfl (Nat.le_of_ble_eq_true rfl) ?_
  intro p e s mI args below meth cO A cx hr hlk hnm hw ls hl
  have hx := cx.1
  have hb := cx.2.1
  have hw : ww D (TY cC cI cJ cZ cD) s A s.heap [] s.heap [] := hw
  have hl : lv_has ls 3 [(0, .int v), (1, .int lo), (2, .int hi)] := hl
  generalize hQ : MQ _ _ _ _ _ _ _ = Q
  refine hp_start hw (fun H locs hw => ?_)
  refine lv_iload_n hx hb dX8_isIn_0 rfl (lv_at hl 0 rfl) ?_
  refine lv_iload_n hx hb dX8_isIn_1 rfl (lv_at hl 1 rfl) ?_
  refine lv_icmp_lt (tgt := 14) hx hb dX8_isIn_2 (by decide) (fun c2 => ?_) (fun c2 => ?_)
  · refine lv_iconst (v := nI 0) hx hb dX8_isIn_14 (by decide) ?_
    subst hQ
    exact r_reti (v := nI 0) cx hr (by decide) hlk hw (Nat.le_of_ble_eq_true rfl) (Nat.le_of_ble_eq_true rfl) () (by first | exact Or.inl ⟨rfl, isin_y c2 c7⟩ | exact Or.inr ⟨rfl, isin_l c2⟩ | exact Or.inr ⟨rfl, isin_h c7⟩) [] (by decide) rfl dX8_isIn_15
  · refine lv_iload_n hx hb dX8_isIn_5 rfl (lv_at hl 0 rfl) ?_
    refine lv_iload_n hx hb dX8_isIn_6 rfl (lv_at hl 2 rfl) ?_
    refine lv_icmp_gt (tgt := 14) hx hb dX8_isIn_7 (by decide) (fun c7 => ?_) (fun c7 => ?_)
    · refine lv_iconst (v := nI 0) hx hb dX8_isIn_14 (by decide) ?_
      subst hQ
      exact r_reti (v := nI 0) cx hr (by decide) hlk hw (Nat.le_of_ble_eq_true rfl) (Nat.le_of_ble_eq_true rfl) () (by first | exact Or.inl ⟨rfl, isin_y c2 c7⟩ | exact Or.inr ⟨rfl, isin_l c2⟩ | exact Or.inr ⟨rfl, isin_h c7⟩) [] (by decide) rfl dX8_isIn_15
    · refine lv_iconst (v := nI 1) hx hb dX8_isIn_10 (by decide) ?_
      refine lv_goto (tgt := 15) hx hb dX8_isIn_11 (by decide) ?_
      subst hQ
      exact r_reti (v := nI 1) cx hr (by decide) hlk hw (Nat.le_of_ble_eq_true rfl) (Nat.le_of_ble_eq_true rfl) () (by first | exact Or.inl ⟨rfl, isin_y c2 c7⟩ | exact Or.inr ⟨rfl, isin_l c2⟩ | exact Or.inr ⟨rfl, isin_h c7⟩) [] (by decide) rfl dX8_isIn_15

theorem lkX8_isThrown_1 : Cond.fieldLink RX8 77 "SignedDocumentModel" "thrown" "I" ∈ wsX8_isThrown := List.mem_of_getElem? (i := 1) rfl
theorem inX8_isThrown_8 : ∀ w ∈ u_ws RX8 TX8 33, w ∈ wsX8_isThrown := fun _ h => List.mem_cons_of_mem _ (List.mem_append_right _ h)
set_option maxRecDepth 100000 in
set_option maxHeartbeats 4000000 in
theorem mX8_isThrown (l : Launch) (D : va_G) (cC cI cJ cZ cD : ClassId) (x xa xb xc xd xe xf xg xh xi xj xk xl xm xn xo xp xq xr xs xt : Nat) (n nx nb no na nc ne ns fee : Nat) (sj th rs stc : Int32) (b t : Nat) (sz : Nat) (hb1 : b ≤ 1) : MI l yX8_isThrown wsX8_isThrown ({ frames := 0, cells := 0, slots := 0, locals := 0 }) [.ref x, .int (nI b), .int (nI t)] D (TY cC cI cJ cZ cD) [(x, .inr (10, [.ref xa, .ref xb, .ref xc, .ref xd, .ref xe, .ref xf, .ref xg, .ref xh, .ref xi, .ref xj, .ref xk, .ref xl, .ref xm, .ref xn, .ref xo, .ref xp, .ref xq, .ref xr, .ref xs, .ref xt, .int (nI n), .int (nI nx), .int (nI nb), .int (nI no), .int (nI na), .int (nI nc), .int (nI ne), .int (nI ns), .int (nI fee), .int sj, .int th, .int rs, .int stc]))] sz (fun (r : Int32) => fun (_ : Unit) => r = nI b) (fun (_ : Unit) => [(x, .inr (10, [.ref xa, .ref xb, .ref xc, .ref xd, .ref xe, .ref xf, .ref xg, .ref xh, .ref xi, .ref xj, .ref xk, .ref xl, .ref xm, .ref xn, .ref xo, .ref xp, .ref xq, .ref xr, .ref xs, .ref xt, .int (nI n), .int (nI nx), .int (nI nb), .int (nI no), .int (nI na), .int (nI nc), .int (nI ne), .int (nI ns), .int (nI fee), .int sj, .int (thv b t), .int rs, .int stc]))]) 0 0 := by
  refine mk_MI (cc := cX8_isThrown) (maxL := 3) (ret := (some .boolean)) (by decide) rfl (Nat.le_of_ble_eq_true rfl) ?_
  intro p e s mI args below meth cO A cx hr hlk hnm hw ls hl
  have hx := cx.1
  have hb := cx.2.1
  have hw : ww D (TY cC cI cJ cZ cD) s A s.heap [(x, .inr (10, [.ref xa, .ref xb, .ref xc, .ref xd, .ref xe, .ref xf, .ref xg, .ref xh, .ref xi, .ref xj, .ref xk, .ref xl, .ref xm, .ref xn, .ref xo, .ref xp, .ref xq, .ref xr, .ref xs, .ref xt, .int (nI n), .int (nI nx), .int (nI nb), .int (nI no), .int (nI na), .int (nI nc), .int (nI ne), .int (nI ns), .int (nI fee), .int sj, .int th, .int rs, .int stc]))] s.heap [] := hw
  have hl : lv_has ls 3 [(0, .ref x), (1, .int (nI b)), (2, .int (nI t))] := hl
  generalize hQ : MQ _ _ _ _ _ _ _ = Q
  refine hp_start hw (fun H locs hw => ?_)
  refine lv_aload_n hx hb dX8_isThrown_0 rfl (lv_at hl 0 rfl) ?_
  refine lv_iload_n hx hb dX8_isThrown_1 rfl (lv_at hl 1 rfl) ?_
  refine r_if_eq cx 9 b rfl (by omega) dX8_isThrown_2 (by decide) (fun c2 => ?_) (fun c2 => ?_)
  · refine lv_iconst (v := nI 0) hx hb dX8_isThrown_9 (by decide) ?_
    refine r_put cx hw inX8_isThrown_8 tyX8 tyX8_ok nmX8 0 30 rfl rfl (by decide) lkX8_isThrown_1 rfl rfl rfl (Nat.le_of_ble_eq_true rfl) dX8_isThrown_10 (fun H locs hw => ?_)
    have hw : ww D (TY cC cI cJ cZ cD) s A s.heap [(x, .inr (10, [.ref xa, .ref xb, .ref xc, .ref xd, .ref xe, .ref xf, .ref xg, .ref xh, .ref xi, .ref xj, .ref xk, .ref xl, .ref xm, .ref xn, .ref xo, .ref xp, .ref xq, .ref xr, .ref xs, .ref xt, .int (nI n), .int (nI nx), .int (nI nb), .int (nI no), .int (nI na), .int (nI nc), .int (nI ne), .int (nI ns), .int (nI fee), .int sj, .int (nI 0), .int rs, .int stc]))] H locs := hw
    have hw : ww D (TY cC cI cJ cZ cD) s A s.heap [(x, .inr (10, [.ref xa, .ref xb, .ref xc, .ref xd, .ref xe, .ref xf, .ref xg, .ref xh, .ref xi, .ref xj, .ref xk, .ref xl, .ref xm, .ref xn, .ref xo, .ref xp, .ref xq, .ref xr, .ref xs, .ref xt, .int (nI n), .int (nI nx), .int (nI nb), .int (nI no), .int (nI na), .int (nI nc), .int (nI ne), .int (nI ns), .int (nI fee), .int sj, .int (thv b t), .int rs, .int stc]))] H locs := by rw [thv_f c2]; exact hw
    refine lv_iload_n hx hb dX8_isThrown_13 rfl (lv_at hl 1 rfl) ?_
    subst hQ
    exact r_reti (v := nI b) cx hr (nrZ (nb1 hb1)) hlk hw (Nat.le_of_ble_eq_true rfl) (Nat.le_of_ble_eq_true rfl) () rfl [0] (by decide) rfl dX8_isThrown_14
  · refine lv_iload_n hx hb dX8_isThrown_5 rfl (lv_at hl 2 rfl) ?_
    refine lv_goto (tgt := 10) hx hb dX8_isThrown_6 (by decide) ?_
    refine r_put cx hw inX8_isThrown_8 tyX8 tyX8_ok nmX8 0 30 rfl rfl (by decide) lkX8_isThrown_1 rfl rfl rfl (Nat.le_of_ble_eq_true rfl) dX8_isThrown_10 (fun H locs hw => ?_)
    have hw : ww D (TY cC cI cJ cZ cD) s A s.heap [(x, .inr (10, [.ref xa, .ref xb, .ref xc, .ref xd, .ref xe, .ref xf, .ref xg, .ref xh, .ref xi, .ref xj, .ref xk, .ref xl, .ref xm, .ref xn, .ref xo, .ref xp, .ref xq, .ref xr, .ref xs, .ref xt, .int (nI n), .int (nI nx), .int (nI nb), .int (nI no), .int (nI na), .int (nI nc), .int (nI ne), .int (nI ns), .int (nI fee), .int sj, .int (nI t), .int rs, .int stc]))] H locs := hw
    have hw : ww D (TY cC cI cJ cZ cD) s A s.heap [(x, .inr (10, [.ref xa, .ref xb, .ref xc, .ref xd, .ref xe, .ref xf, .ref xg, .ref xh, .ref xi, .ref xj, .ref xk, .ref xl, .ref xm, .ref xn, .ref xo, .ref xp, .ref xq, .ref xr, .ref xs, .ref xt, .int (nI n), .int (nI nx), .int (nI nb), .int (nI no), .int (nI na), .int (nI nc), .int (nI ne), .int (nI ns), .int (nI fee), .int sj, .int (thv b t), .int rs, .int stc]))] H locs := by rw [thv_t c2]; exact hw
    refine lv_iload_n hx hb dX8_isThrown_13 rfl (lv_at hl 1 rfl) ?_
    subst hQ
    exact r_reti (v := nI b) cx hr (nrZ (nb1 hb1)) hlk hw (Nat.le_of_ble_eq_true rfl) (Nat.le_of_ble_eq_true rfl) () rfl [0] (by decide) rfl dX8_isThrown_14

theorem lkX8_isNoAuthor_1 : Cond.fieldLink RX8 89 "SignedDocumentModel" "authors" "I" ∈ wsX8_isNoAuthor := List.mem_of_getElem? (i := 1) rfl
theorem inX8_isNoAuthor_8 : ∀ w ∈ u_ws RX8 TX8 33, w ∈ wsX8_isNoAuthor := fun _ h => List.mem_cons_of_mem _ (List.mem_append_right _ h)
set_option maxRecDepth 100000 in
set_option maxHeartbeats 4000000 in
theorem mX8_isNoAuthor (l : Launch) (D : va_G) (cC cI cJ cZ cD : ClassId) (x xa xb xc xd xe xf xg xh xi xj xk xl xm xn xo xp xq xr xs xt : Nat) (n nx nb no na nc ne ns fee : Nat) (sj th rs stc : Int32) (v : Int32) (sz : Nat) (hna : na ≤ 5) : MI l yX8_isNoAuthor wsX8_isNoAuthor ({ frames := 1, cells := 0, slots := 0, locals := 22 }) [.ref x, .int v] D (TY cC cI cJ cZ cD) [(x, .inr (10, [.ref xa, .ref xb, .ref xc, .ref xd, .ref xe, .ref xf, .ref xg, .ref xh, .ref xi, .ref xj, .ref xk, .ref xl, .ref xm, .ref xn, .ref xo, .ref xp, .ref xq, .ref xr, .ref xs, .ref xt, .int (nI n), .int (nI nx), .int (nI nb), .int (nI no), .int (nI na), .int (nI nc), .int (nI ne), .int (nI ns), .int (nI fee), .int sj, .int th, .int rs, .int stc]))] sz (fun (r : Int32) => fun (_ : Unit) => ((r = nI 1 ∧ (¬ ix v na)) ∨ (r = nI 0 ∧ ¬ (¬ ix v na)))) (fun (_ : Unit) => [(x, .inr (10, [.ref xa, .ref xb, .ref xc, .ref xd, .ref xe, .ref xf, .ref xg, .ref xh, .ref xi, .ref xj, .ref xk, .ref xl, .ref xm, .ref xn, .ref xo, .ref xp, .ref xq, .ref xr, .ref xs, .ref xt, .int (nI n), .int (nI nx), .int (nI nb), .int (nI no), .int (nI na), .int (nI nc), .int (nI ne), .int (nI ns), .int (nI fee), .int sj, .int th, .int rs, .int stc]))]) 0 0 := by
  refine mk_MI (cc := cX8_isNoAuthor) (maxL := 2) (ret := (some .boolean)) (by decide) rfl (Nat.le_of_ble_eq_true rfl) ?_
  intro p e s mI args below meth cO A cx hr hlk hnm hw ls hl
  have hx := cx.1
  have hb := cx.2.1
  have hw : ww D (TY cC cI cJ cZ cD) s A s.heap [(x, .inr (10, [.ref xa, .ref xb, .ref xc, .ref xd, .ref xe, .ref xf, .ref xg, .ref xh, .ref xi, .ref xj, .ref xk, .ref xl, .ref xm, .ref xn, .ref xo, .ref xp, .ref xq, .ref xr, .ref xs, .ref xt, .int (nI n), .int (nI nx), .int (nI nb), .int (nI no), .int (nI na), .int (nI nc), .int (nI ne), .int (nI ns), .int (nI fee), .int sj, .int th, .int rs, .int stc]))] s.heap [] := hw
  have hl : lv_has ls 2 [(0, .ref x), (1, .int v)] := hl
  generalize hQ : MQ _ _ _ _ _ _ _ = Q
  refine hp_start hw (fun H locs hw => ?_)
  refine lv_iload_n hx hb dX8_isNoAuthor_0 rfl (lv_at hl 1 rfl) ?_
  refine lv_iconst (v := nI 0) hx hb dX8_isNoAuthor_1 (by decide) ?_
  refine lv_aload_n hx hb dX8_isNoAuthor_2 rfl (lv_at hl 0 rfl) ?_
  refine r_get cx hw inX8_isNoAuthor_8 0 24 rfl rfl (by decide) lkX8_isNoAuthor_1 rfl dX8_isNoAuthor_3 ?_
  refine lv_iconst (v := nI 1) hx hb dX8_isNoAuthor_6 (by decide) ?_
  refine lv_isub hx hb dX8_isNoAuthor_7 ?_
  refine r_callSi (n := 3) (wr := [(x, .inr (10, [.ref xa, .ref xb, .ref xc, .ref xd, .ref xe, .ref xf, .ref xg, .ref xh, .ref xi, .ref xj, .ref xk, .ref xl, .ref xm, .ref xn, .ref xo, .ref xp, .ref xq, .ref xr, .ref xs, .ref xt, .int (nI n), .int (nI nx), .int (nI nb), .int (nI no), .int (nI na), .int (nI nc), .int (nI ne), .int (nI ns), .int (nI fee), .int sj, .int th, .int rs, .int stc]))]) cx hw (mX8_isIn l D cC cI cJ cZ cD v (nI 0) ((nI na) - (nI 1)) H.size) [] [0] gX8_isNoAuthor_X8_isIn rfl rfl rfl (by decide +kernel) ⟨Nat.le_of_ble_eq_true rfl, Nat.le_of_ble_eq_true rfl⟩ rfl rfl (by decide) (by decide) (by decide) rfl rfl hl.1 (Nat.le_of_ble_eq_true rfl) dX8_isNoAuthor_8 ⟨Nat.le_of_ble_eq_true rfl, Nat.le_of_ble_eq_true rfl⟩ (fun r_1 u H locs hp hw => ?_)
  have hw : ww D (TY cC cI cJ cZ cD) s A s.heap [(x, .inr (10, [.ref xa, .ref xb, .ref xc, .ref xd, .ref xe, .ref xf, .ref xg, .ref xh, .ref xi, .ref xj, .ref xk, .ref xl, .ref xm, .ref xn, .ref xo, .ref xp, .ref xq, .ref xr, .ref xs, .ref xt, .int (nI n), .int (nI nx), .int (nI nb), .int (nI no), .int (nI na), .int (nI nc), .int (nI ne), .int (nI ns), .int (nI fee), .int sj, .int th, .int rs, .int stc]))] H locs := hw
  try dsimp only at hp
  have hb9 := hp
  rcases hb9 with ⟨rfl, b8⟩ | ⟨rfl, b8⟩
  · refine r_if_ne cx 18 1 rfl (by omega) dX8_isNoAuthor_11 (by decide) (fun c11 => ?_) (fun c11 => by exact absurd c11 (by decide))
    refine lv_iconst (v := nI 0) hx hb dX8_isNoAuthor_18 (by decide) ?_
    subst hQ
    exact r_reti (v := nI 0) cx hr (by decide) hlk hw (Nat.le_of_ble_eq_true rfl) (Nat.le_of_ble_eq_true rfl) () (by first | exact Or.inl ⟨rfl, fun z => b8 ((in_ix (by omega)).mpr z)⟩ | exact Or.inr ⟨rfl, not_not_intro ((in_ix (by omega)).mp b8)⟩) [0] (by decide) rfl dX8_isNoAuthor_19
  · refine r_if_ne cx 18 0 rfl (by omega) dX8_isNoAuthor_11 (by decide) (fun c11 => by exact absurd c11 (by decide)) (fun c11 => ?_)
    refine lv_iconst (v := nI 1) hx hb dX8_isNoAuthor_14 (by decide) ?_
    refine lv_goto (tgt := 19) hx hb dX8_isNoAuthor_15 (by decide) ?_
    subst hQ
    exact r_reti (v := nI 1) cx hr (by decide) hlk hw (Nat.le_of_ble_eq_true rfl) (Nat.le_of_ble_eq_true rfl) () (by first | exact Or.inl ⟨rfl, fun z => b8 ((in_ix (by omega)).mpr z)⟩ | exact Or.inr ⟨rfl, not_not_intro ((in_ix (by omega)).mp b8)⟩) [0] (by decide) rfl dX8_isNoAuthor_19

theorem lkX8_isNoEdit_1 : Cond.fieldLink RX8 134 "SignedDocumentModel" "edits" "I" ∈ wsX8_isNoEdit := List.mem_of_getElem? (i := 1) rfl
theorem inX8_isNoEdit_8 : ∀ w ∈ u_ws RX8 TX8 33, w ∈ wsX8_isNoEdit := fun _ h => List.mem_cons_of_mem _ (List.mem_append_right _ h)
set_option maxRecDepth 100000 in
set_option maxHeartbeats 4000000 in
theorem mX8_isNoEdit (l : Launch) (D : va_G) (cC cI cJ cZ cD : ClassId) (x xa xb xc xd xe xf xg xh xi xj xk xl xm xn xo xp xq xr xs xt : Nat) (n nx nb no na nc ne ns fee : Nat) (sj th rs stc : Int32) (v : Int32) (sz : Nat) (hne : ne ≤ 40) : MI l yX8_isNoEdit wsX8_isNoEdit ({ frames := 1, cells := 0, slots := 0, locals := 22 }) [.ref x, .int v] D (TY cC cI cJ cZ cD) [(x, .inr (10, [.ref xa, .ref xb, .ref xc, .ref xd, .ref xe, .ref xf, .ref xg, .ref xh, .ref xi, .ref xj, .ref xk, .ref xl, .ref xm, .ref xn, .ref xo, .ref xp, .ref xq, .ref xr, .ref xs, .ref xt, .int (nI n), .int (nI nx), .int (nI nb), .int (nI no), .int (nI na), .int (nI nc), .int (nI ne), .int (nI ns), .int (nI fee), .int sj, .int th, .int rs, .int stc]))] sz (fun (r : Int32) => fun (_ : Unit) => ((r = nI 1 ∧ (¬ ix v ne)) ∨ (r = nI 0 ∧ ¬ (¬ ix v ne)))) (fun (_ : Unit) => [(x, .inr (10, [.ref xa, .ref xb, .ref xc, .ref xd, .ref xe, .ref xf, .ref xg, .ref xh, .ref xi, .ref xj, .ref xk, .ref xl, .ref xm, .ref xn, .ref xo, .ref xp, .ref xq, .ref xr, .ref xs, .ref xt, .int (nI n), .int (nI nx), .int (nI nb), .int (nI no), .int (nI na), .int (nI nc), .int (nI ne), .int (nI ns), .int (nI fee), .int sj, .int (tx v ne), .int rs, .int stc]))]) 0 0 := by
  refine mk_MI (cc := cX8_isNoEdit) (maxL := 2) (ret := (some .boolean)) (by decide) rfl (Nat.le_of_ble_eq_true rfl) ?_
  intro p e s mI args below meth cO A cx hr hlk hnm hw ls hl
  have hx := cx.1
  have hb := cx.2.1
  have hw : ww D (TY cC cI cJ cZ cD) s A s.heap [(x, .inr (10, [.ref xa, .ref xb, .ref xc, .ref xd, .ref xe, .ref xf, .ref xg, .ref xh, .ref xi, .ref xj, .ref xk, .ref xl, .ref xm, .ref xn, .ref xo, .ref xp, .ref xq, .ref xr, .ref xs, .ref xt, .int (nI n), .int (nI nx), .int (nI nb), .int (nI no), .int (nI na), .int (nI nc), .int (nI ne), .int (nI ns), .int (nI fee), .int sj, .int th, .int rs, .int stc]))] s.heap [] := hw
  have hl : lv_has ls 2 [(0, .ref x), (1, .int v)] := hl
  generalize hQ : MQ _ _ _ _ _ _ _ = Q
  refine hp_start hw (fun H locs hw => ?_)
  refine lv_aload_n hx hb dX8_isNoEdit_0 rfl (lv_at hl 0 rfl) ?_
  refine lv_iload_n hx hb dX8_isNoEdit_1 rfl (lv_at hl 1 rfl) ?_
  refine lv_iconst (v := nI 0) hx hb dX8_isNoEdit_2 (by decide) ?_
  refine lv_aload_n hx hb dX8_isNoEdit_3 rfl (lv_at hl 0 rfl) ?_
  refine r_get cx hw inX8_isNoEdit_8 0 26 rfl rfl (by decide) lkX8_isNoEdit_1 rfl dX8_isNoEdit_4 ?_
  refine lv_iconst (v := nI 1) hx hb dX8_isNoEdit_7 (by decide) ?_
  refine lv_isub hx hb dX8_isNoEdit_8 ?_
  refine r_callSi (n := 3) (wr := [(x, .inr (10, [.ref xa, .ref xb, .ref xc, .ref xd, .ref xe, .ref xf, .ref xg, .ref xh, .ref xi, .ref xj, .ref xk, .ref xl, .ref xm, .ref xn, .ref xo, .ref xp, .ref xq, .ref xr, .ref xs, .ref xt, .int (nI n), .int (nI nx), .int (nI nb), .int (nI no), .int (nI na), .int (nI nc), .int (nI ne), .int (nI ns), .int (nI fee), .int sj, .int th, .int rs, .int stc]))]) cx hw (mX8_isIn l D cC cI cJ cZ cD v (nI 0) ((nI ne) - (nI 1)) H.size) [] [0] gX8_isNoEdit_X8_isIn rfl rfl rfl (by decide +kernel) ⟨Nat.le_of_ble_eq_true rfl, Nat.le_of_ble_eq_true rfl⟩ rfl rfl (by decide) (by decide) (by decide) rfl rfl hl.1 (Nat.le_of_ble_eq_true rfl) dX8_isNoEdit_9 ⟨Nat.le_of_ble_eq_true rfl, Nat.le_of_ble_eq_true rfl⟩ (fun r_1 u H locs hp hw => ?_)
  have hw : ww D (TY cC cI cJ cZ cD) s A s.heap [(x, .inr (10, [.ref xa, .ref xb, .ref xc, .ref xd, .ref xe, .ref xf, .ref xg, .ref xh, .ref xi, .ref xj, .ref xk, .ref xl, .ref xm, .ref xn, .ref xo, .ref xp, .ref xq, .ref xr, .ref xs, .ref xt, .int (nI n), .int (nI nx), .int (nI nb), .int (nI no), .int (nI na), .int (nI nc), .int (nI ne), .int (nI ns), .int (nI fee), .int sj, .int th, .int rs, .int stc]))] H locs := hw
  try dsimp only at hp
  have hb9 := hp
  rcases hb9 with ⟨rfl, b9⟩ | ⟨rfl, b9⟩
  · refine r_if_ne cx 19 1 rfl (by omega) dX8_isNoEdit_12 (by decide) (fun c12 => ?_) (fun c12 => by exact absurd c12 (by decide))
    refine lv_iconst (v := nI 0) hx hb dX8_isNoEdit_19 (by decide) ?_
    refine lv_iconst (v := nI 1) hx hb dX8_isNoEdit_20 (by decide) ?_
    refine r_callVi (n := 2) (wr := []) cx hw (mX8_isThrown l D cC cI cJ cZ cD x xa xb xc xd xe xf xg xh xi xj xk xl xm xn xo xp xq xr xs xt n nx nb no na nc ne ns fee sj th rs stc 0 1 H.size (by omega)) [0] [] gX8_isNoEdit_X8_isThrown rfl rfl rfl (by decide +kernel) ⟨Nat.le_of_ble_eq_true rfl, Nat.le_of_ble_eq_true rfl⟩ (q0 := 0) rfl rfl rfl rfl (by decide) (by decide) (by decide) rfl rfl hl.1 (Nat.le_of_ble_eq_true rfl) dX8_isNoEdit_21 ⟨Nat.le_of_ble_eq_true rfl, Nat.le_of_ble_eq_true rfl⟩ (fun r_2 u H locs hp hw => ?_)
    have hw : ww D (TY cC cI cJ cZ cD) s A s.heap [(x, .inr (10, [.ref xa, .ref xb, .ref xc, .ref xd, .ref xe, .ref xf, .ref xg, .ref xh, .ref xi, .ref xj, .ref xk, .ref xl, .ref xm, .ref xn, .ref xo, .ref xp, .ref xq, .ref xr, .ref xs, .ref xt, .int (nI n), .int (nI nx), .int (nI nb), .int (nI no), .int (nI na), .int (nI nc), .int (nI ne), .int (nI ns), .int (nI fee), .int sj, .int (thv 0 1), .int rs, .int stc]))] H locs := hw
    try dsimp only at hp
    subst hp
    have e8 : ix v ne := (in_ix (by omega)).mp b9
    have hw : ww D (TY cC cI cJ cZ cD) s A s.heap [(x, .inr (10, [.ref xa, .ref xb, .ref xc, .ref xd, .ref xe, .ref xf, .ref xg, .ref xh, .ref xi, .ref xj, .ref xk, .ref xl, .ref xm, .ref xn, .ref xo, .ref xp, .ref xq, .ref xr, .ref xs, .ref xt, .int (nI n), .int (nI nx), .int (nI nb), .int (nI no), .int (nI na), .int (nI nc), .int (nI ne), .int (nI ns), .int (nI fee), .int sj, .int (tx v ne), .int rs, .int stc]))] H locs := by rw [tx_y e8]; exact hw
    subst hQ
    exact r_reti (v := nI 0) cx hr (by decide) hlk hw (Nat.le_of_ble_eq_true rfl) (Nat.le_of_ble_eq_true rfl) () (by first | exact Or.inl ⟨rfl, e8⟩ | exact Or.inr ⟨rfl, not_not_intro e8⟩) [0] (by decide) rfl dX8_isNoEdit_24
  · refine r_if_ne cx 19 0 rfl (by omega) dX8_isNoEdit_12 (by decide) (fun c12 => by exact absurd c12 (by decide)) (fun c12 => ?_)
    refine lv_iconst (v := nI 1) hx hb dX8_isNoEdit_15 (by decide) ?_
    refine lv_goto (tgt := 20) hx hb dX8_isNoEdit_16 (by decide) ?_
    refine lv_iconst (v := nI 1) hx hb dX8_isNoEdit_20 (by decide) ?_
    refine r_callVi (n := 2) (wr := []) cx hw (mX8_isThrown l D cC cI cJ cZ cD x xa xb xc xd xe xf xg xh xi xj xk xl xm xn xo xp xq xr xs xt n nx nb no na nc ne ns fee sj th rs stc 1 1 H.size (by omega)) [0] [] gX8_isNoEdit_X8_isThrown rfl rfl rfl (by decide +kernel) ⟨Nat.le_of_ble_eq_true rfl, Nat.le_of_ble_eq_true rfl⟩ (q0 := 0) rfl rfl rfl rfl (by decide) (by decide) (by decide) rfl rfl hl.1 (Nat.le_of_ble_eq_true rfl) dX8_isNoEdit_21 ⟨Nat.le_of_ble_eq_true rfl, Nat.le_of_ble_eq_true rfl⟩ (fun r_3 u H locs hp hw => ?_)
    have hw : ww D (TY cC cI cJ cZ cD) s A s.heap [(x, .inr (10, [.ref xa, .ref xb, .ref xc, .ref xd, .ref xe, .ref xf, .ref xg, .ref xh, .ref xi, .ref xj, .ref xk, .ref xl, .ref xm, .ref xn, .ref xo, .ref xp, .ref xq, .ref xr, .ref xs, .ref xt, .int (nI n), .int (nI nx), .int (nI nb), .int (nI no), .int (nI na), .int (nI nc), .int (nI ne), .int (nI ns), .int (nI fee), .int sj, .int (thv 1 1), .int rs, .int stc]))] H locs := hw
    try dsimp only at hp
    subst hp
    have e8 : ¬ ix v ne := fun z => b9 ((in_ix (by omega)).mpr z)
    have hw : ww D (TY cC cI cJ cZ cD) s A s.heap [(x, .inr (10, [.ref xa, .ref xb, .ref xc, .ref xd, .ref xe, .ref xf, .ref xg, .ref xh, .ref xi, .ref xj, .ref xk, .ref xl, .ref xm, .ref xn, .ref xo, .ref xp, .ref xq, .ref xr, .ref xs, .ref xt, .int (nI n), .int (nI nx), .int (nI nb), .int (nI no), .int (nI na), .int (nI nc), .int (nI ne), .int (nI ns), .int (nI fee), .int sj, .int (tx v ne), .int rs, .int stc]))] H locs := by rw [tx_n e8]; exact hw
    subst hQ
    exact r_reti (v := nI 1) cx hr (by decide) hlk hw (Nat.le_of_ble_eq_true rfl) (Nat.le_of_ble_eq_true rfl) () (by first | exact Or.inl ⟨rfl, e8⟩ | exact Or.inr ⟨rfl, not_not_intro e8⟩) [0] (by decide) rfl dX8_isNoEdit_24

theorem lkX8_isNoPlace_1 : Cond.fieldLink RX8 98 "SignedDocumentModel" "length" "I" ∈ wsX8_isNoPlace := List.mem_of_getElem? (i := 1) rfl
theorem inX8_isNoPlace_8 : ∀ w ∈ u_ws RX8 TX8 33, w ∈ wsX8_isNoPlace := fun _ h => List.mem_cons_of_mem _ (List.mem_append_right _ h)
set_option maxRecDepth 100000 in
set_option maxHeartbeats 4000000 in
theorem mX8_isNoPlace (l : Launch) (D : va_G) (cC cI cJ cZ cD : ClassId) (x xa xb xc xd xe xf xg xh xi xj xk xl xm xn xo xp xq xr xs xt : Nat) (n nx nb no na nc ne ns fee : Nat) (sj th rs stc : Int32) (v : Int32) (sz : Nat) (hn : n ≤ 60) : MI l yX8_isNoPlace wsX8_isNoPlace ({ frames := 1, cells := 0, slots := 0, locals := 22 }) [.ref x, .int v] D (TY cC cI cJ cZ cD) [(x, .inr (10, [.ref xa, .ref xb, .ref xc, .ref xd, .ref xe, .ref xf, .ref xg, .ref xh, .ref xi, .ref xj, .ref xk, .ref xl, .ref xm, .ref xn, .ref xo, .ref xp, .ref xq, .ref xr, .ref xs, .ref xt, .int (nI n), .int (nI nx), .int (nI nb), .int (nI no), .int (nI na), .int (nI nc), .int (nI ne), .int (nI ns), .int (nI fee), .int sj, .int th, .int rs, .int stc]))] sz (fun (r : Int32) => fun (_ : Unit) => ((r = nI 1 ∧ (¬ ix v n)) ∨ (r = nI 0 ∧ ¬ (¬ ix v n)))) (fun (_ : Unit) => [(x, .inr (10, [.ref xa, .ref xb, .ref xc, .ref xd, .ref xe, .ref xf, .ref xg, .ref xh, .ref xi, .ref xj, .ref xk, .ref xl, .ref xm, .ref xn, .ref xo, .ref xp, .ref xq, .ref xr, .ref xs, .ref xt, .int (nI n), .int (nI nx), .int (nI nb), .int (nI no), .int (nI na), .int (nI nc), .int (nI ne), .int (nI ns), .int (nI fee), .int sj, .int (tx v n), .int rs, .int stc]))]) 0 0 := by
  refine mk_MI (cc := cX8_isNoPlace) (maxL := 2) (ret := (some .boolean)) (by decide) rfl (Nat.le_of_ble_eq_true rfl) ?_
  intro p e s mI args below meth cO A cx hr hlk hnm hw ls hl
  have hx := cx.1
  have hb := cx.2.1
  have hw : ww D (TY cC cI cJ cZ cD) s A s.heap [(x, .inr (10, [.ref xa, .ref xb, .ref xc, .ref xd, .ref xe, .ref xf, .ref xg, .ref xh, .ref xi, .ref xj, .ref xk, .ref xl, .ref xm, .ref xn, .ref xo, .ref xp, .ref xq, .ref xr, .ref xs, .ref xt, .int (nI n), .int (nI nx), .int (nI nb), .int (nI no), .int (nI na), .int (nI nc), .int (nI ne), .int (nI ns), .int (nI fee), .int sj, .int th, .int rs, .int stc]))] s.heap [] := hw
  have hl : lv_has ls 2 [(0, .ref x), (1, .int v)] := hl
  generalize hQ : MQ _ _ _ _ _ _ _ = Q
  refine hp_start hw (fun H locs hw => ?_)
  refine lv_aload_n hx hb dX8_isNoPlace_0 rfl (lv_at hl 0 rfl) ?_
  refine lv_iload_n hx hb dX8_isNoPlace_1 rfl (lv_at hl 1 rfl) ?_
  refine lv_iconst (v := nI 0) hx hb dX8_isNoPlace_2 (by decide) ?_
  refine lv_aload_n hx hb dX8_isNoPlace_3 rfl (lv_at hl 0 rfl) ?_
  refine r_get cx hw inX8_isNoPlace_8 0 20 rfl rfl (by decide) lkX8_isNoPlace_1 rfl dX8_isNoPlace_4 ?_
  refine lv_iconst (v := nI 1) hx hb dX8_isNoPlace_7 (by decide) ?_
  refine lv_isub hx hb dX8_isNoPlace_8 ?_
  refine r_callSi (n := 3) (wr := [(x, .inr (10, [.ref xa, .ref xb, .ref xc, .ref xd, .ref xe, .ref xf, .ref xg, .ref xh, .ref xi, .ref xj, .ref xk, .ref xl, .ref xm, .ref xn, .ref xo, .ref xp, .ref xq, .ref xr, .ref xs, .ref xt, .int (nI n), .int (nI nx), .int (nI nb), .int (nI no), .int (nI na), .int (nI nc), .int (nI ne), .int (nI ns), .int (nI fee), .int sj, .int th, .int rs, .int stc]))]) cx hw (mX8_isIn l D cC cI cJ cZ cD v (nI 0) ((nI n) - (nI 1)) H.size) [] [0] gX8_isNoPlace_X8_isIn rfl rfl rfl (by decide +kernel) ⟨Nat.le_of_ble_eq_true rfl, Nat.le_of_ble_eq_true rfl⟩ rfl rfl (by decide) (by decide) (by decide) rfl rfl hl.1 (Nat.le_of_ble_eq_true rfl) dX8_isNoPlace_9 ⟨Nat.le_of_ble_eq_true rfl, Nat.le_of_ble_eq_true rfl⟩ (fun r_1 u H locs hp hw => ?_)
  have hw : ww D (TY cC cI cJ cZ cD) s A s.heap [(x, .inr (10, [.ref xa, .ref xb, .ref xc, .ref xd, .ref xe, .ref xf, .ref xg, .ref xh, .ref xi, .ref xj, .ref xk, .ref xl, .ref xm, .ref xn, .ref xo, .ref xp, .ref xq, .ref xr, .ref xs, .ref xt, .int (nI n), .int (nI nx), .int (nI nb), .int (nI no), .int (nI na), .int (nI nc), .int (nI ne), .int (nI ns), .int (nI fee), .int sj, .int th, .int rs, .int stc]))] H locs := hw
  try dsimp only at hp
  have hb9 := hp
  rcases hb9 with ⟨rfl, b9⟩ | ⟨rfl, b9⟩
  · refine r_if_ne cx 19 1 rfl (by omega) dX8_isNoPlace_12 (by decide) (fun c12 => ?_) (fun c12 => by exact absurd c12 (by decide))
    refine lv_iconst (v := nI 0) hx hb dX8_isNoPlace_19 (by decide) ?_
    refine lv_iconst (v := nI 1) hx hb dX8_isNoPlace_20 (by decide) ?_
    refine r_callVi (n := 2) (wr := []) cx hw (mX8_isThrown l D cC cI cJ cZ cD x xa xb xc xd xe xf xg xh xi xj xk xl xm xn xo xp xq xr xs xt n nx nb no na nc ne ns fee sj th rs stc 0 1 H.size (by omega)) [0] [] gX8_isNoPlace_X8_isThrown rfl rfl rfl (by decide +kernel) ⟨Nat.le_of_ble_eq_true rfl, Nat.le_of_ble_eq_true rfl⟩ (q0 := 0) rfl rfl rfl rfl (by decide) (by decide) (by decide) rfl rfl hl.1 (Nat.le_of_ble_eq_true rfl) dX8_isNoPlace_21 ⟨Nat.le_of_ble_eq_true rfl, Nat.le_of_ble_eq_true rfl⟩ (fun r_2 u H locs hp hw => ?_)
    have hw : ww D (TY cC cI cJ cZ cD) s A s.heap [(x, .inr (10, [.ref xa, .ref xb, .ref xc, .ref xd, .ref xe, .ref xf, .ref xg, .ref xh, .ref xi, .ref xj, .ref xk, .ref xl, .ref xm, .ref xn, .ref xo, .ref xp, .ref xq, .ref xr, .ref xs, .ref xt, .int (nI n), .int (nI nx), .int (nI nb), .int (nI no), .int (nI na), .int (nI nc), .int (nI ne), .int (nI ns), .int (nI fee), .int sj, .int (thv 0 1), .int rs, .int stc]))] H locs := hw
    try dsimp only at hp
    subst hp
    have e8 : ix v n := (in_ix (by omega)).mp b9
    have hw : ww D (TY cC cI cJ cZ cD) s A s.heap [(x, .inr (10, [.ref xa, .ref xb, .ref xc, .ref xd, .ref xe, .ref xf, .ref xg, .ref xh, .ref xi, .ref xj, .ref xk, .ref xl, .ref xm, .ref xn, .ref xo, .ref xp, .ref xq, .ref xr, .ref xs, .ref xt, .int (nI n), .int (nI nx), .int (nI nb), .int (nI no), .int (nI na), .int (nI nc), .int (nI ne), .int (nI ns), .int (nI fee), .int sj, .int (tx v n), .int rs, .int stc]))] H locs := by rw [tx_y e8]; exact hw
    subst hQ
    exact r_reti (v := nI 0) cx hr (by decide) hlk hw (Nat.le_of_ble_eq_true rfl) (Nat.le_of_ble_eq_true rfl) () (by first | exact Or.inl ⟨rfl, e8⟩ | exact Or.inr ⟨rfl, not_not_intro e8⟩) [0] (by decide) rfl dX8_isNoPlace_24
  · refine r_if_ne cx 19 0 rfl (by omega) dX8_isNoPlace_12 (by decide) (fun c12 => by exact absurd c12 (by decide)) (fun c12 => ?_)
    refine lv_iconst (v := nI 1) hx hb dX8_isNoPlace_15 (by decide) ?_
    refine lv_goto (tgt := 20) hx hb dX8_isNoPlace_16 (by decide) ?_
    refine lv_iconst (v := nI 1) hx hb dX8_isNoPlace_20 (by decide) ?_
    refine r_callVi (n := 2) (wr := []) cx hw (mX8_isThrown l D cC cI cJ cZ cD x xa xb xc xd xe xf xg xh xi xj xk xl xm xn xo xp xq xr xs xt n nx nb no na nc ne ns fee sj th rs stc 1 1 H.size (by omega)) [0] [] gX8_isNoPlace_X8_isThrown rfl rfl rfl (by decide +kernel) ⟨Nat.le_of_ble_eq_true rfl, Nat.le_of_ble_eq_true rfl⟩ (q0 := 0) rfl rfl rfl rfl (by decide) (by decide) (by decide) rfl rfl hl.1 (Nat.le_of_ble_eq_true rfl) dX8_isNoPlace_21 ⟨Nat.le_of_ble_eq_true rfl, Nat.le_of_ble_eq_true rfl⟩ (fun r_3 u H locs hp hw => ?_)
    have hw : ww D (TY cC cI cJ cZ cD) s A s.heap [(x, .inr (10, [.ref xa, .ref xb, .ref xc, .ref xd, .ref xe, .ref xf, .ref xg, .ref xh, .ref xi, .ref xj, .ref xk, .ref xl, .ref xm, .ref xn, .ref xo, .ref xp, .ref xq, .ref xr, .ref xs, .ref xt, .int (nI n), .int (nI nx), .int (nI nb), .int (nI no), .int (nI na), .int (nI nc), .int (nI ne), .int (nI ns), .int (nI fee), .int sj, .int (thv 1 1), .int rs, .int stc]))] H locs := hw
    try dsimp only at hp
    subst hp
    have e8 : ¬ ix v n := fun z => b9 ((in_ix (by omega)).mpr z)
    have hw : ww D (TY cC cI cJ cZ cD) s A s.heap [(x, .inr (10, [.ref xa, .ref xb, .ref xc, .ref xd, .ref xe, .ref xf, .ref xg, .ref xh, .ref xi, .ref xj, .ref xk, .ref xl, .ref xm, .ref xn, .ref xo, .ref xp, .ref xq, .ref xr, .ref xs, .ref xt, .int (nI n), .int (nI nx), .int (nI nb), .int (nI no), .int (nI na), .int (nI nc), .int (nI ne), .int (nI ns), .int (nI fee), .int sj, .int (tx v n), .int rs, .int stc]))] H locs := by rw [tx_n e8]; exact hw
    subst hQ
    exact r_reti (v := nI 1) cx hr (by decide) hlk hw (Nat.le_of_ble_eq_true rfl) (Nat.le_of_ble_eq_true rfl) () (by first | exact Or.inl ⟨rfl, e8⟩ | exact Or.inr ⟨rfl, not_not_intro e8⟩) [0] (by decide) rfl dX8_isNoPlace_24

theorem lkX8_isNoClause_1 : Cond.fieldLink RX8 109 "SignedDocumentModel" "clauses" "I" ∈ wsX8_isNoClause := List.mem_of_getElem? (i := 1) rfl
theorem inX8_isNoClause_8 : ∀ w ∈ u_ws RX8 TX8 33, w ∈ wsX8_isNoClause := fun _ h => List.mem_cons_of_mem _ (List.mem_append_right _ h)
set_option maxRecDepth 100000 in
set_option maxHeartbeats 4000000 in
theorem mX8_isNoClause (l : Launch) (D : va_G) (cC cI cJ cZ cD : ClassId) (x xa xb xc xd xe xf xg xh xi xj xk xl xm xn xo xp xq xr xs xt : Nat) (n nx nb no na nc ne ns fee : Nat) (sj th rs stc : Int32) (v : Int32) (sz : Nat) (hnc : nc ≤ 6) : MI l yX8_isNoClause wsX8_isNoClause ({ frames := 1, cells := 0, slots := 0, locals := 22 }) [.ref x, .int v] D (TY cC cI cJ cZ cD) [(x, .inr (10, [.ref xa, .ref xb, .ref xc, .ref xd, .ref xe, .ref xf, .ref xg, .ref xh, .ref xi, .ref xj, .ref xk, .ref xl, .ref xm, .ref xn, .ref xo, .ref xp, .ref xq, .ref xr, .ref xs, .ref xt, .int (nI n), .int (nI nx), .int (nI nb), .int (nI no), .int (nI na), .int (nI nc), .int (nI ne), .int (nI ns), .int (nI fee), .int sj, .int th, .int rs, .int stc]))] sz (fun (r : Int32) => fun (_ : Unit) => ((r = nI 1 ∧ (¬ ix v nc)) ∨ (r = nI 0 ∧ ¬ (¬ ix v nc)))) (fun (_ : Unit) => [(x, .inr (10, [.ref xa, .ref xb, .ref xc, .ref xd, .ref xe, .ref xf, .ref xg, .ref xh, .ref xi, .ref xj, .ref xk, .ref xl, .ref xm, .ref xn, .ref xo, .ref xp, .ref xq, .ref xr, .ref xs, .ref xt, .int (nI n), .int (nI nx), .int (nI nb), .int (nI no), .int (nI na), .int (nI nc), .int (nI ne), .int (nI ns), .int (nI fee), .int sj, .int (tx v nc), .int rs, .int stc]))]) 0 0 := by
  refine mk_MI (cc := cX8_isNoClause) (maxL := 2) (ret := (some .boolean)) (by decide) rfl (Nat.le_of_ble_eq_true rfl) ?_
  intro p e s mI args below meth cO A cx hr hlk hnm hw ls hl
  have hx := cx.1
  have hb := cx.2.1
  have hw : ww D (TY cC cI cJ cZ cD) s A s.heap [(x, .inr (10, [.ref xa, .ref xb, .ref xc, .ref xd, .ref xe, .ref xf, .ref xg, .ref xh, .ref xi, .ref xj, .ref xk, .ref xl, .ref xm, .ref xn, .ref xo, .ref xp, .ref xq, .ref xr, .ref xs, .ref xt, .int (nI n), .int (nI nx), .int (nI nb), .int (nI no), .int (nI na), .int (nI nc), .int (nI ne), .int (nI ns), .int (nI fee), .int sj, .int th, .int rs, .int stc]))] s.heap [] := hw
  have hl : lv_has ls 2 [(0, .ref x), (1, .int v)] := hl
  generalize hQ : MQ _ _ _ _ _ _ _ = Q
  refine hp_start hw (fun H locs hw => ?_)
  refine lv_aload_n hx hb dX8_isNoClause_0 rfl (lv_at hl 0 rfl) ?_
  refine lv_iload_n hx hb dX8_isNoClause_1 rfl (lv_at hl 1 rfl) ?_
  refine lv_iconst (v := nI 0) hx hb dX8_isNoClause_2 (by decide) ?_
  refine lv_aload_n hx hb dX8_isNoClause_3 rfl (lv_at hl 0 rfl) ?_
  refine r_get cx hw inX8_isNoClause_8 0 25 rfl rfl (by decide) lkX8_isNoClause_1 rfl dX8_isNoClause_4 ?_
  refine lv_iconst (v := nI 1) hx hb dX8_isNoClause_7 (by decide) ?_
  refine lv_isub hx hb dX8_isNoClause_8 ?_
  refine r_callSi (n := 3) (wr := [(x, .inr (10, [.ref xa, .ref xb, .ref xc, .ref xd, .ref xe, .ref xf, .ref xg, .ref xh, .ref xi, .ref xj, .ref xk, .ref xl, .ref xm, .ref xn, .ref xo, .ref xp, .ref xq, .ref xr, .ref xs, .ref xt, .int (nI n), .int (nI nx), .int (nI nb), .int (nI no), .int (nI na), .int (nI nc), .int (nI ne), .int (nI ns), .int (nI fee), .int sj, .int th, .int rs, .int stc]))]) cx hw (mX8_isIn l D cC cI cJ cZ cD v (nI 0) ((nI nc) - (nI 1)) H.size) [] [0] gX8_isNoClause_X8_isIn rfl rfl rfl (by decide +kernel) ⟨Nat.le_of_ble_eq_true rfl, Nat.le_of_ble_eq_true rfl⟩ rfl rfl (by decide) (by decide) (by decide) rfl rfl hl.1 (Nat.le_of_ble_eq_true rfl) dX8_isNoClause_9 ⟨Nat.le_of_ble_eq_true rfl, Nat.le_of_ble_eq_true rfl⟩ (fun r_1 u H locs hp hw => ?_)
  have hw : ww D (TY cC cI cJ cZ cD) s A s.heap [(x, .inr (10, [.ref xa, .ref xb, .ref xc, .ref xd, .ref xe, .ref xf, .ref xg, .ref xh, .ref xi, .ref xj, .ref xk, .ref xl, .ref xm, .ref xn, .ref xo, .ref xp, .ref xq, .ref xr, .ref xs, .ref xt, .int (nI n), .int (nI nx), .int (nI nb), .int (nI no), .int (nI na), .int (nI nc), .int (nI ne), .int (nI ns), .int (nI fee), .int sj, .int th, .int rs, .int stc]))] H locs := hw
  try dsimp only at hp
  have hb9 := hp
  rcases hb9 with ⟨rfl, b9⟩ | ⟨rfl, b9⟩
  · refine r_if_ne cx 19 1 rfl (by omega) dX8_isNoClause_12 (by decide) (fun c12 => ?_) (fun c12 => by exact absurd c12 (by decide))
    refine lv_iconst (v := nI 0) hx hb dX8_isNoClause_19 (by decide) ?_
    refine lv_iconst (v := nI 1) hx hb dX8_isNoClause_20 (by decide) ?_
    refine r_callVi (n := 2) (wr := []) cx hw (mX8_isThrown l D cC cI cJ cZ cD x xa xb xc xd xe xf xg xh xi xj xk xl xm xn xo xp xq xr xs xt n nx nb no na nc ne ns fee sj th rs stc 0 1 H.size (by omega)) [0] [] gX8_isNoClause_X8_isThrown rfl rfl rfl (by decide +kernel) ⟨Nat.le_of_ble_eq_true rfl, Nat.le_of_ble_eq_true rfl⟩ (q0 := 0) rfl rfl rfl rfl (by decide) (by decide) (by decide) rfl rfl hl.1 (Nat.le_of_ble_eq_true rfl) dX8_isNoClause_21 ⟨Nat.le_of_ble_eq_true rfl, Nat.le_of_ble_eq_true rfl⟩ (fun r_2 u H locs hp hw => ?_)
    have hw : ww D (TY cC cI cJ cZ cD) s A s.heap [(x, .inr (10, [.ref xa, .ref xb, .ref xc, .ref xd, .ref xe, .ref xf, .ref xg, .ref xh, .ref xi, .ref xj, .ref xk, .ref xl, .ref xm, .ref xn, .ref xo, .ref xp, .ref xq, .ref xr, .ref xs, .ref xt, .int (nI n), .int (nI nx), .int (nI nb), .int (nI no), .int (nI na), .int (nI nc), .int (nI ne), .int (nI ns), .int (nI fee), .int sj, .int (thv 0 1), .int rs, .int stc]))] H locs := hw
    try dsimp only at hp
    subst hp
    have e8 : ix v nc := (in_ix (by omega)).mp b9
    have hw : ww D (TY cC cI cJ cZ cD) s A s.heap [(x, .inr (10, [.ref xa, .ref xb, .ref xc, .ref xd, .ref xe, .ref xf, .ref xg, .ref xh, .ref xi, .ref xj, .ref xk, .ref xl, .ref xm, .ref xn, .ref xo, .ref xp, .ref xq, .ref xr, .ref xs, .ref xt, .int (nI n), .int (nI nx), .int (nI nb), .int (nI no), .int (nI na), .int (nI nc), .int (nI ne), .int (nI ns), .int (nI fee), .int sj, .int (tx v nc), .int rs, .int stc]))] H locs := by rw [tx_y e8]; exact hw
    subst hQ
    exact r_reti (v := nI 0) cx hr (by decide) hlk hw (Nat.le_of_ble_eq_true rfl) (Nat.le_of_ble_eq_true rfl) () (by first | exact Or.inl ⟨rfl, e8⟩ | exact Or.inr ⟨rfl, not_not_intro e8⟩) [0] (by decide) rfl dX8_isNoClause_24
  · refine r_if_ne cx 19 0 rfl (by omega) dX8_isNoClause_12 (by decide) (fun c12 => by exact absurd c12 (by decide)) (fun c12 => ?_)
    refine lv_iconst (v := nI 1) hx hb dX8_isNoClause_15 (by decide) ?_
    refine lv_goto (tgt := 20) hx hb dX8_isNoClause_16 (by decide) ?_
    refine lv_iconst (v := nI 1) hx hb dX8_isNoClause_20 (by decide) ?_
    refine r_callVi (n := 2) (wr := []) cx hw (mX8_isThrown l D cC cI cJ cZ cD x xa xb xc xd xe xf xg xh xi xj xk xl xm xn xo xp xq xr xs xt n nx nb no na nc ne ns fee sj th rs stc 1 1 H.size (by omega)) [0] [] gX8_isNoClause_X8_isThrown rfl rfl rfl (by decide +kernel) ⟨Nat.le_of_ble_eq_true rfl, Nat.le_of_ble_eq_true rfl⟩ (q0 := 0) rfl rfl rfl rfl (by decide) (by decide) (by decide) rfl rfl hl.1 (Nat.le_of_ble_eq_true rfl) dX8_isNoClause_21 ⟨Nat.le_of_ble_eq_true rfl, Nat.le_of_ble_eq_true rfl⟩ (fun r_3 u H locs hp hw => ?_)
    have hw : ww D (TY cC cI cJ cZ cD) s A s.heap [(x, .inr (10, [.ref xa, .ref xb, .ref xc, .ref xd, .ref xe, .ref xf, .ref xg, .ref xh, .ref xi, .ref xj, .ref xk, .ref xl, .ref xm, .ref xn, .ref xo, .ref xp, .ref xq, .ref xr, .ref xs, .ref xt, .int (nI n), .int (nI nx), .int (nI nb), .int (nI no), .int (nI na), .int (nI nc), .int (nI ne), .int (nI ns), .int (nI fee), .int sj, .int (thv 1 1), .int rs, .int stc]))] H locs := hw
    try dsimp only at hp
    subst hp
    have e8 : ¬ ix v nc := fun z => b9 ((in_ix (by omega)).mpr z)
    have hw : ww D (TY cC cI cJ cZ cD) s A s.heap [(x, .inr (10, [.ref xa, .ref xb, .ref xc, .ref xd, .ref xe, .ref xf, .ref xg, .ref xh, .ref xi, .ref xj, .ref xk, .ref xl, .ref xm, .ref xn, .ref xo, .ref xp, .ref xq, .ref xr, .ref xs, .ref xt, .int (nI n), .int (nI nx), .int (nI nb), .int (nI no), .int (nI na), .int (nI nc), .int (nI ne), .int (nI ns), .int (nI fee), .int sj, .int (tx v nc), .int rs, .int stc]))] H locs := by rw [tx_n e8]; exact hw
    subst hQ
    exact r_reti (v := nI 1) cx hr (by decide) hlk hw (Nat.le_of_ble_eq_true rfl) (Nat.le_of_ble_eq_true rfl) () (by first | exact Or.inl ⟨rfl, e8⟩ | exact Or.inr ⟨rfl, not_not_intro e8⟩) [0] (by decide) rfl dX8_isNoClause_24

theorem lkX8_isNoSignature_1 : Cond.fieldLink RX8 120 "SignedDocumentModel" "signatures" "I" ∈ wsX8_isNoSignature := List.mem_of_getElem? (i := 1) rfl
theorem inX8_isNoSignature_8 : ∀ w ∈ u_ws RX8 TX8 33, w ∈ wsX8_isNoSignature := fun _ h => List.mem_cons_of_mem _ (List.mem_append_right _ h)
set_option maxRecDepth 100000 in
set_option maxHeartbeats 4000000 in
theorem mX8_isNoSignature (l : Launch) (D : va_G) (cC cI cJ cZ cD : ClassId) (x xa xb xc xd xe xf xg xh xi xj xk xl xm xn xo xp xq xr xs xt : Nat) (n nx nb no na nc ne ns fee : Nat) (sj th rs stc : Int32) (v : Int32) (sz : Nat) (hns : ns ≤ 12) : MI l yX8_isNoSignature wsX8_isNoSignature ({ frames := 1, cells := 0, slots := 0, locals := 22 }) [.ref x, .int v] D (TY cC cI cJ cZ cD) [(x, .inr (10, [.ref xa, .ref xb, .ref xc, .ref xd, .ref xe, .ref xf, .ref xg, .ref xh, .ref xi, .ref xj, .ref xk, .ref xl, .ref xm, .ref xn, .ref xo, .ref xp, .ref xq, .ref xr, .ref xs, .ref xt, .int (nI n), .int (nI nx), .int (nI nb), .int (nI no), .int (nI na), .int (nI nc), .int (nI ne), .int (nI ns), .int (nI fee), .int sj, .int th, .int rs, .int stc]))] sz (fun (r : Int32) => fun (_ : Unit) => ((r = nI 1 ∧ (¬ ix v ns)) ∨ (r = nI 0 ∧ ¬ (¬ ix v ns)))) (fun (_ : Unit) => [(x, .inr (10, [.ref xa, .ref xb, .ref xc, .ref xd, .ref xe, .ref xf, .ref xg, .ref xh, .ref xi, .ref xj, .ref xk, .ref xl, .ref xm, .ref xn, .ref xo, .ref xp, .ref xq, .ref xr, .ref xs, .ref xt, .int (nI n), .int (nI nx), .int (nI nb), .int (nI no), .int (nI na), .int (nI nc), .int (nI ne), .int (nI ns), .int (nI fee), .int sj, .int (tx v ns), .int rs, .int stc]))]) 0 0 := by
  refine mk_MI (cc := cX8_isNoSignature) (maxL := 2) (ret := (some .boolean)) (by decide) rfl (Nat.le_of_ble_eq_true rfl) ?_
  intro p e s mI args below meth cO A cx hr hlk hnm hw ls hl
  have hx := cx.1
  have hb := cx.2.1
  have hw : ww D (TY cC cI cJ cZ cD) s A s.heap [(x, .inr (10, [.ref xa, .ref xb, .ref xc, .ref xd, .ref xe, .ref xf, .ref xg, .ref xh, .ref xi, .ref xj, .ref xk, .ref xl, .ref xm, .ref xn, .ref xo, .ref xp, .ref xq, .ref xr, .ref xs, .ref xt, .int (nI n), .int (nI nx), .int (nI nb), .int (nI no), .int (nI na), .int (nI nc), .int (nI ne), .int (nI ns), .int (nI fee), .int sj, .int th, .int rs, .int stc]))] s.heap [] := hw
  have hl : lv_has ls 2 [(0, .ref x), (1, .int v)] := hl
  generalize hQ : MQ _ _ _ _ _ _ _ = Q
  refine hp_start hw (fun H locs hw => ?_)
  refine lv_aload_n hx hb dX8_isNoSignature_0 rfl (lv_at hl 0 rfl) ?_
  refine lv_iload_n hx hb dX8_isNoSignature_1 rfl (lv_at hl 1 rfl) ?_
  refine lv_iconst (v := nI 0) hx hb dX8_isNoSignature_2 (by decide) ?_
  refine lv_aload_n hx hb dX8_isNoSignature_3 rfl (lv_at hl 0 rfl) ?_
  refine r_get cx hw inX8_isNoSignature_8 0 27 rfl rfl (by decide) lkX8_isNoSignature_1 rfl dX8_isNoSignature_4 ?_
  refine lv_iconst (v := nI 1) hx hb dX8_isNoSignature_7 (by decide) ?_
  refine lv_isub hx hb dX8_isNoSignature_8 ?_
  refine r_callSi (n := 3) (wr := [(x, .inr (10, [.ref xa, .ref xb, .ref xc, .ref xd, .ref xe, .ref xf, .ref xg, .ref xh, .ref xi, .ref xj, .ref xk, .ref xl, .ref xm, .ref xn, .ref xo, .ref xp, .ref xq, .ref xr, .ref xs, .ref xt, .int (nI n), .int (nI nx), .int (nI nb), .int (nI no), .int (nI na), .int (nI nc), .int (nI ne), .int (nI ns), .int (nI fee), .int sj, .int th, .int rs, .int stc]))]) cx hw (mX8_isIn l D cC cI cJ cZ cD v (nI 0) ((nI ns) - (nI 1)) H.size) [] [0] gX8_isNoSignature_X8_isIn rfl rfl rfl (by decide +kernel) ⟨Nat.le_of_ble_eq_true rfl, Nat.le_of_ble_eq_true rfl⟩ rfl rfl (by decide) (by decide) (by decide) rfl rfl hl.1 (Nat.le_of_ble_eq_true rfl) dX8_isNoSignature_9 ⟨Nat.le_of_ble_eq_true rfl, Nat.le_of_ble_eq_true rfl⟩ (fun r_1 u H locs hp hw => ?_)
  have hw : ww D (TY cC cI cJ cZ cD) s A s.heap [(x, .inr (10, [.ref xa, .ref xb, .ref xc, .ref xd, .ref xe, .ref xf, .ref xg, .ref xh, .ref xi, .ref xj, .ref xk, .ref xl, .ref xm, .ref xn, .ref xo, .ref xp, .ref xq, .ref xr, .ref xs, .ref xt, .int (nI n), .int (nI nx), .int (nI nb), .int (nI no), .int (nI na), .int (nI nc), .int (nI ne), .int (nI ns), .int (nI fee), .int sj, .int th, .int rs, .int stc]))] H locs := hw
  try dsimp only at hp
  have hb9 := hp
  rcases hb9 with ⟨rfl, b9⟩ | ⟨rfl, b9⟩
  · refine r_if_ne cx 19 1 rfl (by omega) dX8_isNoSignature_12 (by decide) (fun c12 => ?_) (fun c12 => by exact absurd c12 (by decide))
    refine lv_iconst (v := nI 0) hx hb dX8_isNoSignature_19 (by decide) ?_
    refine lv_iconst (v := nI 1) hx hb dX8_isNoSignature_20 (by decide) ?_
    refine r_callVi (n := 2) (wr := []) cx hw (mX8_isThrown l D cC cI cJ cZ cD x xa xb xc xd xe xf xg xh xi xj xk xl xm xn xo xp xq xr xs xt n nx nb no na nc ne ns fee sj th rs stc 0 1 H.size (by omega)) [0] [] gX8_isNoSignature_X8_isThrown rfl rfl rfl (by decide +kernel) ⟨Nat.le_of_ble_eq_true rfl, Nat.le_of_ble_eq_true rfl⟩ (q0 := 0) rfl rfl rfl rfl (by decide) (by decide) (by decide) rfl rfl hl.1 (Nat.le_of_ble_eq_true rfl) dX8_isNoSignature_21 ⟨Nat.le_of_ble_eq_true rfl, Nat.le_of_ble_eq_true rfl⟩ (fun r_2 u H locs hp hw => ?_)
    have hw : ww D (TY cC cI cJ cZ cD) s A s.heap [(x, .inr (10, [.ref xa, .ref xb, .ref xc, .ref xd, .ref xe, .ref xf, .ref xg, .ref xh, .ref xi, .ref xj, .ref xk, .ref xl, .ref xm, .ref xn, .ref xo, .ref xp, .ref xq, .ref xr, .ref xs, .ref xt, .int (nI n), .int (nI nx), .int (nI nb), .int (nI no), .int (nI na), .int (nI nc), .int (nI ne), .int (nI ns), .int (nI fee), .int sj, .int (thv 0 1), .int rs, .int stc]))] H locs := hw
    try dsimp only at hp
    subst hp
    have e8 : ix v ns := (in_ix (by omega)).mp b9
    have hw : ww D (TY cC cI cJ cZ cD) s A s.heap [(x, .inr (10, [.ref xa, .ref xb, .ref xc, .ref xd, .ref xe, .ref xf, .ref xg, .ref xh, .ref xi, .ref xj, .ref xk, .ref xl, .ref xm, .ref xn, .ref xo, .ref xp, .ref xq, .ref xr, .ref xs, .ref xt, .int (nI n), .int (nI nx), .int (nI nb), .int (nI no), .int (nI na), .int (nI nc), .int (nI ne), .int (nI ns), .int (nI fee), .int sj, .int (tx v ns), .int rs, .int stc]))] H locs := by rw [tx_y e8]; exact hw
    subst hQ
    exact r_reti (v := nI 0) cx hr (by decide) hlk hw (Nat.le_of_ble_eq_true rfl) (Nat.le_of_ble_eq_true rfl) () (by first | exact Or.inl ⟨rfl, e8⟩ | exact Or.inr ⟨rfl, not_not_intro e8⟩) [0] (by decide) rfl dX8_isNoSignature_24
  · refine r_if_ne cx 19 0 rfl (by omega) dX8_isNoSignature_12 (by decide) (fun c12 => by exact absurd c12 (by decide)) (fun c12 => ?_)
    refine lv_iconst (v := nI 1) hx hb dX8_isNoSignature_15 (by decide) ?_
    refine lv_goto (tgt := 20) hx hb dX8_isNoSignature_16 (by decide) ?_
    refine lv_iconst (v := nI 1) hx hb dX8_isNoSignature_20 (by decide) ?_
    refine r_callVi (n := 2) (wr := []) cx hw (mX8_isThrown l D cC cI cJ cZ cD x xa xb xc xd xe xf xg xh xi xj xk xl xm xn xo xp xq xr xs xt n nx nb no na nc ne ns fee sj th rs stc 1 1 H.size (by omega)) [0] [] gX8_isNoSignature_X8_isThrown rfl rfl rfl (by decide +kernel) ⟨Nat.le_of_ble_eq_true rfl, Nat.le_of_ble_eq_true rfl⟩ (q0 := 0) rfl rfl rfl rfl (by decide) (by decide) (by decide) rfl rfl hl.1 (Nat.le_of_ble_eq_true rfl) dX8_isNoSignature_21 ⟨Nat.le_of_ble_eq_true rfl, Nat.le_of_ble_eq_true rfl⟩ (fun r_3 u H locs hp hw => ?_)
    have hw : ww D (TY cC cI cJ cZ cD) s A s.heap [(x, .inr (10, [.ref xa, .ref xb, .ref xc, .ref xd, .ref xe, .ref xf, .ref xg, .ref xh, .ref xi, .ref xj, .ref xk, .ref xl, .ref xm, .ref xn, .ref xo, .ref xp, .ref xq, .ref xr, .ref xs, .ref xt, .int (nI n), .int (nI nx), .int (nI nb), .int (nI no), .int (nI na), .int (nI nc), .int (nI ne), .int (nI ns), .int (nI fee), .int sj, .int (thv 1 1), .int rs, .int stc]))] H locs := hw
    try dsimp only at hp
    subst hp
    have e8 : ¬ ix v ns := fun z => b9 ((in_ix (by omega)).mpr z)
    have hw : ww D (TY cC cI cJ cZ cD) s A s.heap [(x, .inr (10, [.ref xa, .ref xb, .ref xc, .ref xd, .ref xe, .ref xf, .ref xg, .ref xh, .ref xi, .ref xj, .ref xk, .ref xl, .ref xm, .ref xn, .ref xo, .ref xp, .ref xq, .ref xr, .ref xs, .ref xt, .int (nI n), .int (nI nx), .int (nI nb), .int (nI no), .int (nI na), .int (nI nc), .int (nI ne), .int (nI ns), .int (nI fee), .int sj, .int (tx v ns), .int rs, .int stc]))] H locs := by rw [tx_n e8]; exact hw
    subst hQ
    exact r_reti (v := nI 1) cx hr (by decide) hlk hw (Nat.le_of_ble_eq_true rfl) (Nat.le_of_ble_eq_true rfl) () (by first | exact Or.inl ⟨rfl, e8⟩ | exact Or.inr ⟨rfl, not_not_intro e8⟩) [0] (by decide) rfl dX8_isNoSignature_24

theorem lkX8_isNoStretch_1 : Cond.fieldLink RX8 98 "SignedDocumentModel" "length" "I" ∈ wsX8_isNoStretch := List.mem_of_getElem? (i := 1) rfl
theorem inX8_isNoStretch_8 : ∀ w ∈ u_ws RX8 TX8 33, w ∈ wsX8_isNoStretch := fun _ h => List.mem_cons_of_mem _ (List.mem_append_right _ h)
set_option maxRecDepth 100000 in
set_option maxHeartbeats 4000000 in
theorem mX8_isNoStretch (l : Launch) (D : va_G) (cC cI cJ cZ cD : ClassId) (x xa xb xc xd xe xf xg xh xi xj xk xl xm xn xo xp xq xr xs xt : Nat) (n nx nb no na nc ne ns fee : Nat) (sj th rs stc : Int32) (v k9 : Int32) (sz : Nat) (hn : n ≤ 60) : MI l yX8_isNoStretch wsX8_isNoStretch ({ frames := 0, cells := 0, slots := 0, locals := 0 }) [.ref x, .int v, .int k9] D (TY cC cI cJ cZ cD) [(x, .inr (10, [.ref xa, .ref xb, .ref xc, .ref xd, .ref xe, .ref xf, .ref xg, .ref xh, .ref xi, .ref xj, .ref xk, .ref xl, .ref xm, .ref xn, .ref xo, .ref xp, .ref xq, .ref xr, .ref xs, .ref xt, .int (nI n), .int (nI nx), .int (nI nb), .int (nI no), .int (nI na), .int (nI nc), .int (nI ne), .int (nI ns), .int (nI fee), .int sj, .int th, .int rs, .int stc]))] sz (fun (r : Int32) => fun (_ : Unit) => ((r = nI 1 ∧ (¬ rng v k9 n)) ∨ (r = nI 0 ∧ ¬ (¬ rng v k9 n)))) (fun (_ : Unit) => [(x, .inr (10, [.ref xa, .ref xb, .ref xc, .ref xd, .ref xe, .ref xf, .ref xg, .ref xh, .ref xi, .ref xj, .ref xk, .ref xl, .ref xm, .ref xn, .ref xo, .ref xp, .ref xq, .ref xr, .ref xs, .ref xt, .int (nI n), .int (nI nx), .int (nI nb), .int (nI no), .int (nI na), .int (nI nc), .int (nI ne), .int (nI ns), .int (nI fee), .int sj, .int th, .int rs, .int stc]))]) 0 0 := by
  refine mk_MI (cc := cX8_isNoStretch) (maxL := 3) (ret := (some .boolean)) (by decide) rfl (Nat.le_of_ble_eq_true rfl) ?_
  intro p e s mI args below meth cO A cx hr hlk hnm hw ls hl
  have hx := cx.1
  have hb := cx.2.1
  have hw : ww D (TY cC cI cJ cZ cD) s A s.heap [(x, .inr (10, [.ref xa, .ref xb, .ref xc, .ref xd, .ref xe, .ref xf, .ref xg, .ref xh, .ref xi, .ref xj, .ref xk, .ref xl, .ref xm, .ref xn, .ref xo, .ref xp, .ref xq, .ref xr, .ref xs, .ref xt, .int (nI n), .int (nI nx), .int (nI nb), .int (nI no), .int (nI na), .int (nI nc), .int (nI ne), .int (nI ns), .int (nI fee), .int sj, .int th, .int rs, .int stc]))] s.heap [] := hw
  have hl : lv_has ls 3 [(0, .ref x), (1, .int v), (2, .int k9)] := hl
  generalize hQ : MQ _ _ _ _ _ _ _ = Q
  refine hp_start hw (fun H locs hw => ?_)
  refine lv_iload_n hx hb dX8_isNoStretch_0 rfl (lv_at hl 1 rfl) ?_
  refine lv_if_lt (tgt := 27) hx hb dX8_isNoStretch_1 (by decide) (fun c1 => ?_) (fun c1 => ?_)
  · refine lv_iconst (v := nI 1) hx hb dX8_isNoStretch_27 (by decide) ?_
    refine lv_goto (tgt := 32) hx hb dX8_isNoStretch_28 (by decide) ?_
    subst hQ
    exact r_reti (v := nI 1) cx hr (by decide) hlk hw (Nat.le_of_ble_eq_true rfl) (Nat.le_of_ble_eq_true rfl) () (by first | exact Or.inr ⟨rfl, not_not_intro (rng_y (by omega) c1 c6 c14 c24)⟩ | exact Or.inl ⟨rfl, rng_no1 (ixl_neg c1)⟩ | exact Or.inl ⟨rfl, rng_no2 c6⟩ | exact Or.inl ⟨rfl, rng_no1 (ixl_big (by omega) c14)⟩ | exact Or.inl ⟨rfl, rng_z (by omega) c1 c14 c24⟩) [0] (by decide) rfl dX8_isNoStretch_32
  · refine lv_iload_n hx hb dX8_isNoStretch_4 rfl (lv_at hl 2 rfl) ?_
    refine lv_iconst (v := nI 1) hx hb dX8_isNoStretch_5 (by decide) ?_
    refine lv_icmp_lt (tgt := 27) hx hb dX8_isNoStretch_6 (by decide) (fun c6 => ?_) (fun c6 => ?_)
    · refine lv_iconst (v := nI 1) hx hb dX8_isNoStretch_27 (by decide) ?_
      refine lv_goto (tgt := 32) hx hb dX8_isNoStretch_28 (by decide) ?_
      subst hQ
      exact r_reti (v := nI 1) cx hr (by decide) hlk hw (Nat.le_of_ble_eq_true rfl) (Nat.le_of_ble_eq_true rfl) () (by first | exact Or.inr ⟨rfl, not_not_intro (rng_y (by omega) c1 c6 c14 c24)⟩ | exact Or.inl ⟨rfl, rng_no1 (ixl_neg c1)⟩ | exact Or.inl ⟨rfl, rng_no2 c6⟩ | exact Or.inl ⟨rfl, rng_no1 (ixl_big (by omega) c14)⟩ | exact Or.inl ⟨rfl, rng_z (by omega) c1 c14 c24⟩) [0] (by decide) rfl dX8_isNoStretch_32
    · refine lv_iload_n hx hb dX8_isNoStretch_9 rfl (lv_at hl 1 rfl) ?_
      refine lv_aload_n hx hb dX8_isNoStretch_10 rfl (lv_at hl 0 rfl) ?_
      refine r_get cx hw inX8_isNoStretch_8 0 20 rfl rfl (by decide) lkX8_isNoStretch_1 rfl dX8_isNoStretch_11 ?_
      refine lv_icmp_gt (tgt := 27) hx hb dX8_isNoStretch_14 (by decide) (fun c14 => ?_) (fun c14 => ?_)
      · refine lv_iconst (v := nI 1) hx hb dX8_isNoStretch_27 (by decide) ?_
        refine lv_goto (tgt := 32) hx hb dX8_isNoStretch_28 (by decide) ?_
        subst hQ
        exact r_reti (v := nI 1) cx hr (by decide) hlk hw (Nat.le_of_ble_eq_true rfl) (Nat.le_of_ble_eq_true rfl) () (by first | exact Or.inr ⟨rfl, not_not_intro (rng_y (by omega) c1 c6 c14 c24)⟩ | exact Or.inl ⟨rfl, rng_no1 (ixl_neg c1)⟩ | exact Or.inl ⟨rfl, rng_no2 c6⟩ | exact Or.inl ⟨rfl, rng_no1 (ixl_big (by omega) c14)⟩ | exact Or.inl ⟨rfl, rng_z (by omega) c1 c14 c24⟩) [0] (by decide) rfl dX8_isNoStretch_32
      · refine lv_iload_n hx hb dX8_isNoStretch_17 rfl (lv_at hl 2 rfl) ?_
        refine lv_aload_n hx hb dX8_isNoStretch_18 rfl (lv_at hl 0 rfl) ?_
        refine r_get cx hw inX8_isNoStretch_8 0 20 rfl rfl (by decide) lkX8_isNoStretch_1 rfl dX8_isNoStretch_19 ?_
        refine lv_iload_n hx hb dX8_isNoStretch_22 rfl (lv_at hl 1 rfl) ?_
        refine lv_isub hx hb dX8_isNoStretch_23 ?_
        refine lv_icmp_le (tgt := 31) hx hb dX8_isNoStretch_24 (by decide) (fun c24 => ?_) (fun c24 => ?_)
        · refine lv_iconst (v := nI 0) hx hb dX8_isNoStretch_31 (by decide) ?_
          subst hQ
          exact r_reti (v := nI 0) cx hr (by decide) hlk hw (Nat.le_of_ble_eq_true rfl) (Nat.le_of_ble_eq_true rfl) () (by first | exact Or.inr ⟨rfl, not_not_intro (rng_y (by omega) c1 c6 c14 c24)⟩ | exact Or.inl ⟨rfl, rng_no1 (ixl_neg c1)⟩ | exact Or.inl ⟨rfl, rng_no2 c6⟩ | exact Or.inl ⟨rfl, rng_no1 (ixl_big (by omega) c14)⟩ | exact Or.inl ⟨rfl, rng_z (by omega) c1 c14 c24⟩) [0] (by decide) rfl dX8_isNoStretch_32
        · refine lv_iconst (v := nI 1) hx hb dX8_isNoStretch_27 (by decide) ?_
          refine lv_goto (tgt := 32) hx hb dX8_isNoStretch_28 (by decide) ?_
          subst hQ
          exact r_reti (v := nI 1) cx hr (by decide) hlk hw (Nat.le_of_ble_eq_true rfl) (Nat.le_of_ble_eq_true rfl) () (by first | exact Or.inr ⟨rfl, not_not_intro (rng_y (by omega) c1 c6 c14 c24)⟩ | exact Or.inl ⟨rfl, rng_no1 (ixl_neg c1)⟩ | exact Or.inl ⟨rfl, rng_no2 c6⟩ | exact Or.inl ⟨rfl, rng_no1 (ixl_big (by omega) c14)⟩ | exact Or.inl ⟨rfl, rng_z (by omega) c1 c14 c24⟩) [0] (by decide) rfl dX8_isNoStretch_32

theorem lkX8_editKind_1 : Cond.fieldLink RX8 35 "SignedDocumentModel" "kind" "[C" ∈ wsX8_editKind := List.mem_of_getElem? (i := 1) rfl
theorem inX8_editKind_8 : ∀ w ∈ u_ws RX8 TX8 33, w ∈ wsX8_editKind := fun _ h => List.mem_cons_of_mem _ (List.mem_append_left _ (List.mem_append_right _ h))
set_option maxRecDepth 100000 in
set_option maxHeartbeats 4000000 in
theorem mX8_editKind (l : Launch) (D : va_G) (cC cI cJ cZ cD : ClassId) (x xa xb xc xd xe xf xg xh xi xj xk xl xm xn xo xp xq xr xs xt : Nat) (n nx nb no na nc ne ns fee : Nat) (sj th rs stc : Int32) (kF : Nat → Int32) (v : Int32) (sz : Nat) (hne : ne ≤ 40) (hkF : ∀ j, vp_nar .char (kF j) = kF j) : MI l yX8_editKind wsX8_editKind ({ frames := 2, cells := 0, slots := 0, locals := 43 }) [.ref x, .int v] D (TY cC cI cJ cZ cD) [(x, .inr (10, [.ref xa, .ref xb, .ref xc, .ref xd, .ref xe, .ref xf, .ref xg, .ref xh, .ref xi, .ref xj, .ref xk, .ref xl, .ref xm, .ref xn, .ref xo, .ref xp, .ref xq, .ref xr, .ref xs, .ref xt, .int (nI n), .int (nI nx), .int (nI nb), .int (nI no), .int (nI na), .int (nI nc), .int (nI ne), .int (nI ns), .int (nI fee), .int sj, .int th, .int rs, .int stc])), (xi, .inl (cC, 40, .inl kF))] sz (fun (r : Int32) => fun (k : Nat) => ((k < ne ∧ v = nI k ∧ r = kF k) ∨ (¬ ix v ne ∧ r = (nI 45)))) (fun (k : Nat) => [(x, .inr (10, [.ref xa, .ref xb, .ref xc, .ref xd, .ref xe, .ref xf, .ref xg, .ref xh, .ref xi, .ref xj, .ref xk, .ref xl, .ref xm, .ref xn, .ref xo, .ref xp, .ref xq, .ref xr, .ref xs, .ref xt, .int (nI n), .int (nI nx), .int (nI nb), .int (nI no), .int (nI na), .int (nI nc), .int (nI ne), .int (nI ns), .int (nI fee), .int sj, .int (tx v ne), .int rs, .int stc])), (xi, .inl (cC, 40, .inl kF))]) 0 0 := by
  refine mk_MI (cc := cX8_editKind) (maxL := 2) (ret := (some .char)) (by decide) rfl (Nat.le_of_ble_eq_true rfl) ?_
  intro p e s mI args below meth cO A cx hr hlk hnm hw ls hl
  have hx := cx.1
  have hb := cx.2.1
  have hw : ww D (TY cC cI cJ cZ cD) s A s.heap [(x, .inr (10, [.ref xa, .ref xb, .ref xc, .ref xd, .ref xe, .ref xf, .ref xg, .ref xh, .ref xi, .ref xj, .ref xk, .ref xl, .ref xm, .ref xn, .ref xo, .ref xp, .ref xq, .ref xr, .ref xs, .ref xt, .int (nI n), .int (nI nx), .int (nI nb), .int (nI no), .int (nI na), .int (nI nc), .int (nI ne), .int (nI ns), .int (nI fee), .int sj, .int th, .int rs, .int stc])), (xi, .inl (cC, 40, .inl kF))] s.heap [] := hw
  have hl : lv_has ls 2 [(0, .ref x), (1, .int v)] := hl
  generalize hQ : MQ _ _ _ _ _ _ _ = Q
  refine hp_start hw (fun H locs hw => ?_)
  refine lv_aload_n hx hb dX8_editKind_0 rfl (lv_at hl 0 rfl) ?_
  refine lv_iload_n hx hb dX8_editKind_1 rfl (lv_at hl 1 rfl) ?_
  refine r_callVi (n := 1) (wr := [(xi, .inl (cC, 40, .inl kF))]) cx hw (mX8_isNoEdit l D cC cI cJ cZ cD x xa xb xc xd xe xf xg xh xi xj xk xl xm xn xo xp xq xr xs xt n nx nb no na nc ne ns fee sj th rs stc v H.size hne) [0] [1] gX8_editKind_X8_isNoEdit rfl rfl rfl (by decide +kernel) ⟨Nat.le_of_ble_eq_true rfl, Nat.le_of_ble_eq_true rfl⟩ (q0 := 0) rfl rfl rfl rfl (by decide) (by decide) (by decide) rfl rfl hl.1 (Nat.le_of_ble_eq_true rfl) dX8_editKind_2 ⟨Nat.le_of_ble_eq_true rfl, Nat.le_of_ble_eq_true rfl⟩ (fun r_1 u H locs hp hw => ?_)
  have hw : ww D (TY cC cI cJ cZ cD) s A s.heap [(xi, .inl (cC, 40, .inl kF)), (x, .inr (10, [.ref xa, .ref xb, .ref xc, .ref xd, .ref xe, .ref xf, .ref xg, .ref xh, .ref xi, .ref xj, .ref xk, .ref xl, .ref xm, .ref xn, .ref xo, .ref xp, .ref xq, .ref xr, .ref xs, .ref xt, .int (nI n), .int (nI nx), .int (nI nb), .int (nI no), .int (nI na), .int (nI nc), .int (nI ne), .int (nI ns), .int (nI fee), .int sj, .int (tx v ne), .int rs, .int stc]))] H locs := hw
  try dsimp only at hp
  have hb9 := hp
  rcases hb9 with ⟨rfl, b2⟩ | ⟨rfl, b2⟩
  · refine r_if_eq cx 13 1 rfl (by omega) dX8_editKind_5 (by decide) (fun c5 => by exact absurd c5 (by decide)) (fun c5 => ?_)
    refine lv_bipush (v := nI 45) hx hb dX8_editKind_8 (by decide) ?_
    refine lv_goto (tgt := 19) hx hb dX8_editKind_10 (by decide) ?_
    subst hQ
    exact r_reti (v := nI 45) cx hr (by decide) hlk hw (Nat.le_of_ble_eq_true rfl) (Nat.le_of_ble_eq_true rfl) 0 (Or.inr ⟨b2, rfl⟩) [1, 0] (by decide) rfl dX8_editKind_19
  · obtain ⟨k9, hk9, rfl⟩ := nI_of_ix (Decidable.of_not_not b2)
    refine r_if_eq cx 13 0 rfl (by omega) dX8_editKind_5 (by decide) (fun c5 => ?_) (fun c5 => by exact absurd c5 (by decide))
    refine lv_aload_n hx hb dX8_editKind_13 rfl (lv_at hl 0 rfl) ?_
    refine r_get cx hw inX8_editKind_8 1 8 rfl rfl (by decide) lkX8_editKind_1 rfl dX8_editKind_14 ?_
    refine lv_iload_n hx hb dX8_editKind_17 rfl (lv_at hl 1 rfl) ?_
    refine r_cald cx hw 0 0 rfl rfl k9 rfl (by omega) (by omega) dX8_editKind_18 ?_
    subst hQ
    exact r_reti (v := kF k9) cx hr (nrC (hkF k9)) hlk hw (Nat.le_of_ble_eq_true rfl) (Nat.le_of_ble_eq_true rfl) k9 (Or.inl ⟨hk9, rfl, rfl⟩) [1, 0] (by decide) rfl dX8_editKind_19

theorem lkX8_editAuthor_1 : Cond.fieldLink RX8 44 "SignedDocumentModel" "editAuthor" "[I" ∈ wsX8_editAuthor := List.mem_of_getElem? (i := 1) rfl
theorem inX8_editAuthor_8 : ∀ w ∈ u_ws RX8 TX8 33, w ∈ wsX8_editAuthor := fun _ h => List.mem_cons_of_mem _ (List.mem_append_left _ (List.mem_append_right _ h))
set_option maxRecDepth 100000 in
set_option maxHeartbeats 4000000 in
theorem mX8_editAuthor (l : Launch) (D : va_G) (cC cI cJ cZ cD : ClassId) (x xa xb xc xd xe xf xg xh xi xj xk xl xm xn xo xp xq xr xs xt : Nat) (n nx nb no na nc ne ns fee : Nat) (sj th rs stc : Int32) (eA : Nat → Int32) (v : Int32) (sz : Nat) (hne : ne ≤ 40) : MI l yX8_editAuthor wsX8_editAuthor ({ frames := 2, cells := 0, slots := 0, locals := 43 }) [.ref x, .int v] D (TY cC cI cJ cZ cD) [(x, .inr (10, [.ref xa, .ref xb, .ref xc, .ref xd, .ref xe, .ref xf, .ref xg, .ref xh, .ref xi, .ref xj, .ref xk, .ref xl, .ref xm, .ref xn, .ref xo, .ref xp, .ref xq, .ref xr, .ref xs, .ref xt, .int (nI n), .int (nI nx), .int (nI nb), .int (nI no), .int (nI na), .int (nI nc), .int (nI ne), .int (nI ns), .int (nI fee), .int sj, .int th, .int rs, .int stc])), (xl, .inl (cI, 40, .inl eA))] sz (fun (r : Int32) => fun (k : Nat) => ((k < ne ∧ v = nI k ∧ r = eA k) ∨ (¬ ix v ne ∧ r = nI 0))) (fun (k : Nat) => [(x, .inr (10, [.ref xa, .ref xb, .ref xc, .ref xd, .ref xe, .ref xf, .ref xg, .ref xh, .ref xi, .ref xj, .ref xk, .ref xl, .ref xm, .ref xn, .ref xo, .ref xp, .ref xq, .ref xr, .ref xs, .ref xt, .int (nI n), .int (nI nx), .int (nI nb), .int (nI no), .int (nI na), .int (nI nc), .int (nI ne), .int (nI ns), .int (nI fee), .int sj, .int (tx v ne), .int rs, .int stc])), (xl, .inl (cI, 40, .inl eA))]) 0 0 := by
  refine mk_MI (cc := cX8_editAuthor) (maxL := 2) (ret := (some .int)) (by decide) rfl (Nat.le_of_ble_eq_true rfl) ?_
  intro p e s mI args below meth cO A cx hr hlk hnm hw ls hl
  have hx := cx.1
  have hb := cx.2.1
  have hw : ww D (TY cC cI cJ cZ cD) s A s.heap [(x, .inr (10, [.ref xa, .ref xb, .ref xc, .ref xd, .ref xe, .ref xf, .ref xg, .ref xh, .ref xi, .ref xj, .ref xk, .ref xl, .ref xm, .ref xn, .ref xo, .ref xp, .ref xq, .ref xr, .ref xs, .ref xt, .int (nI n), .int (nI nx), .int (nI nb), .int (nI no), .int (nI na), .int (nI nc), .int (nI ne), .int (nI ns), .int (nI fee), .int sj, .int th, .int rs, .int stc])), (xl, .inl (cI, 40, .inl eA))] s.heap [] := hw
  have hl : lv_has ls 2 [(0, .ref x), (1, .int v)] := hl
  generalize hQ : MQ _ _ _ _ _ _ _ = Q
  refine hp_start hw (fun H locs hw => ?_)
  refine lv_aload_n hx hb dX8_editAuthor_0 rfl (lv_at hl 0 rfl) ?_
  refine lv_iload_n hx hb dX8_editAuthor_1 rfl (lv_at hl 1 rfl) ?_
  refine r_callVi (n := 1) (wr := [(xl, .inl (cI, 40, .inl eA))]) cx hw (mX8_isNoEdit l D cC cI cJ cZ cD x xa xb xc xd xe xf xg xh xi xj xk xl xm xn xo xp xq xr xs xt n nx nb no na nc ne ns fee sj th rs stc v H.size hne) [0] [1] gX8_editAuthor_X8_isNoEdit rfl rfl rfl (by decide +kernel) ⟨Nat.le_of_ble_eq_true rfl, Nat.le_of_ble_eq_true rfl⟩ (q0 := 0) rfl rfl rfl rfl (by decide) (by decide) (by decide) rfl rfl hl.1 (Nat.le_of_ble_eq_true rfl) dX8_editAuthor_2 ⟨Nat.le_of_ble_eq_true rfl, Nat.le_of_ble_eq_true rfl⟩ (fun r_1 u H locs hp hw => ?_)
  have hw : ww D (TY cC cI cJ cZ cD) s A s.heap [(xl, .inl (cI, 40, .inl eA)), (x, .inr (10, [.ref xa, .ref xb, .ref xc, .ref xd, .ref xe, .ref xf, .ref xg, .ref xh, .ref xi, .ref xj, .ref xk, .ref xl, .ref xm, .ref xn, .ref xo, .ref xp, .ref xq, .ref xr, .ref xs, .ref xt, .int (nI n), .int (nI nx), .int (nI nb), .int (nI no), .int (nI na), .int (nI nc), .int (nI ne), .int (nI ns), .int (nI fee), .int sj, .int (tx v ne), .int rs, .int stc]))] H locs := hw
  try dsimp only at hp
  have hb9 := hp
  rcases hb9 with ⟨rfl, b2⟩ | ⟨rfl, b2⟩
  · refine r_if_eq cx 12 1 rfl (by omega) dX8_editAuthor_5 (by decide) (fun c5 => by exact absurd c5 (by decide)) (fun c5 => ?_)
    refine lv_iconst (v := nI 0) hx hb dX8_editAuthor_8 (by decide) ?_
    refine lv_goto (tgt := 18) hx hb dX8_editAuthor_9 (by decide) ?_
    subst hQ
    exact r_reti (v := nI 0) cx hr rfl hlk hw (Nat.le_of_ble_eq_true rfl) (Nat.le_of_ble_eq_true rfl) 0 (Or.inr ⟨b2, rfl⟩) [1, 0] (by decide) rfl dX8_editAuthor_18
  · obtain ⟨k9, hk9, rfl⟩ := nI_of_ix (Decidable.of_not_not b2)
    refine r_if_eq cx 12 0 rfl (by omega) dX8_editAuthor_5 (by decide) (fun c5 => ?_) (fun c5 => by exact absurd c5 (by decide))
    refine lv_aload_n hx hb dX8_editAuthor_12 rfl (lv_at hl 0 rfl) ?_
    refine r_get cx hw inX8_editAuthor_8 1 11 rfl rfl (by decide) lkX8_editAuthor_1 rfl dX8_editAuthor_13 ?_
    refine lv_iload_n hx hb dX8_editAuthor_16 rfl (lv_at hl 1 rfl) ?_
    refine r_iald cx hw 0 1 rfl rfl k9 rfl (by omega) (by omega) dX8_editAuthor_17 ?_
    subst hQ
    exact r_reti (v := eA k9) cx hr rfl hlk hw (Nat.le_of_ble_eq_true rfl) (Nat.le_of_ble_eq_true rfl) k9 (Or.inl ⟨hk9, rfl, rfl⟩) [1, 0] (by decide) rfl dX8_editAuthor_18

theorem lkX8_editCost_1 : Cond.fieldLink RX8 47 "SignedDocumentModel" "editCost" "[I" ∈ wsX8_editCost := List.mem_of_getElem? (i := 1) rfl
theorem inX8_editCost_8 : ∀ w ∈ u_ws RX8 TX8 33, w ∈ wsX8_editCost := fun _ h => List.mem_cons_of_mem _ (List.mem_append_left _ (List.mem_append_right _ h))
set_option maxRecDepth 100000 in
set_option maxHeartbeats 4000000 in
theorem mX8_editCost (l : Launch) (D : va_G) (cC cI cJ cZ cD : ClassId) (x xa xb xc xd xe xf xg xh xi xj xk xl xm xn xo xp xq xr xs xt : Nat) (n nx nb no na nc ne ns fee : Nat) (sj th rs stc : Int32) (eO : Nat → Int32) (v : Int32) (sz : Nat) (hne : ne ≤ 40) : MI l yX8_editCost wsX8_editCost ({ frames := 2, cells := 0, slots := 0, locals := 43 }) [.ref x, .int v] D (TY cC cI cJ cZ cD) [(x, .inr (10, [.ref xa, .ref xb, .ref xc, .ref xd, .ref xe, .ref xf, .ref xg, .ref xh, .ref xi, .ref xj, .ref xk, .ref xl, .ref xm, .ref xn, .ref xo, .ref xp, .ref xq, .ref xr, .ref xs, .ref xt, .int (nI n), .int (nI nx), .int (nI nb), .int (nI no), .int (nI na), .int (nI nc), .int (nI ne), .int (nI ns), .int (nI fee), .int sj, .int th, .int rs, .int stc])), (xm, .inl (cI, 40, .inl eO))] sz (fun (r : Int32) => fun (k : Nat) => ((k < ne ∧ v = nI k ∧ r = eO k) ∨ (¬ ix v ne ∧ r = nI 0))) (fun (k : Nat) => [(x, .inr (10, [.ref xa, .ref xb, .ref xc, .ref xd, .ref xe, .ref xf, .ref xg, .ref xh, .ref xi, .ref xj, .ref xk, .ref xl, .ref xm, .ref xn, .ref xo, .ref xp, .ref xq, .ref xr, .ref xs, .ref xt, .int (nI n), .int (nI nx), .int (nI nb), .int (nI no), .int (nI na), .int (nI nc), .int (nI ne), .int (nI ns), .int (nI fee), .int sj, .int (tx v ne), .int rs, .int stc])), (xm, .inl (cI, 40, .inl eO))]) 0 0 := by
  refine mk_MI (cc := cX8_editCost) (maxL := 2) (ret := (some .int)) (by decide) rfl (Nat.le_of_ble_eq_true rfl) ?_
  intro p e s mI args below meth cO A cx hr hlk hnm hw ls hl
  have hx := cx.1
  have hb := cx.2.1
  have hw : ww D (TY cC cI cJ cZ cD) s A s.heap [(x, .inr (10, [.ref xa, .ref xb, .ref xc, .ref xd, .ref xe, .ref xf, .ref xg, .ref xh, .ref xi, .ref xj, .ref xk, .ref xl, .ref xm, .ref xn, .ref xo, .ref xp, .ref xq, .ref xr, .ref xs, .ref xt, .int (nI n), .int (nI nx), .int (nI nb), .int (nI no), .int (nI na), .int (nI nc), .int (nI ne), .int (nI ns), .int (nI fee), .int sj, .int th, .int rs, .int stc])), (xm, .inl (cI, 40, .inl eO))] s.heap [] := hw
  have hl : lv_has ls 2 [(0, .ref x), (1, .int v)] := hl
  generalize hQ : MQ _ _ _ _ _ _ _ = Q
  refine hp_start hw (fun H locs hw => ?_)
  refine lv_aload_n hx hb dX8_editCost_0 rfl (lv_at hl 0 rfl) ?_
  refine lv_iload_n hx hb dX8_editCost_1 rfl (lv_at hl 1 rfl) ?_
  refine r_callVi (n := 1) (wr := [(xm, .inl (cI, 40, .inl eO))]) cx hw (mX8_isNoEdit l D cC cI cJ cZ cD x xa xb xc xd xe xf xg xh xi xj xk xl xm xn xo xp xq xr xs xt n nx nb no na nc ne ns fee sj th rs stc v H.size hne) [0] [1] gX8_editCost_X8_isNoEdit rfl rfl rfl (by decide +kernel) ⟨Nat.le_of_ble_eq_true rfl, Nat.le_of_ble_eq_true rfl⟩ (q0 := 0) rfl rfl rfl rfl (by decide) (by decide) (by decide) rfl rfl hl.1 (Nat.le_of_ble_eq_true rfl) dX8_editCost_2 ⟨Nat.le_of_ble_eq_true rfl, Nat.le_of_ble_eq_true rfl⟩ (fun r_1 u H locs hp hw => ?_)
  have hw : ww D (TY cC cI cJ cZ cD) s A s.heap [(xm, .inl (cI, 40, .inl eO)), (x, .inr (10, [.ref xa, .ref xb, .ref xc, .ref xd, .ref xe, .ref xf, .ref xg, .ref xh, .ref xi, .ref xj, .ref xk, .ref xl, .ref xm, .ref xn, .ref xo, .ref xp, .ref xq, .ref xr, .ref xs, .ref xt, .int (nI n), .int (nI nx), .int (nI nb), .int (nI no), .int (nI na), .int (nI nc), .int (nI ne), .int (nI ns), .int (nI fee), .int sj, .int (tx v ne), .int rs, .int stc]))] H locs := hw
  try dsimp only at hp
  have hb9 := hp
  rcases hb9 with ⟨rfl, b2⟩ | ⟨rfl, b2⟩
  · refine r_if_eq cx 12 1 rfl (by omega) dX8_editCost_5 (by decide) (fun c5 => by exact absurd c5 (by decide)) (fun c5 => ?_)
    refine lv_iconst (v := nI 0) hx hb dX8_editCost_8 (by decide) ?_
    refine lv_goto (tgt := 18) hx hb dX8_editCost_9 (by decide) ?_
    subst hQ
    exact r_reti (v := nI 0) cx hr rfl hlk hw (Nat.le_of_ble_eq_true rfl) (Nat.le_of_ble_eq_true rfl) 0 (Or.inr ⟨b2, rfl⟩) [1, 0] (by decide) rfl dX8_editCost_18
  · obtain ⟨k9, hk9, rfl⟩ := nI_of_ix (Decidable.of_not_not b2)
    refine r_if_eq cx 12 0 rfl (by omega) dX8_editCost_5 (by decide) (fun c5 => ?_) (fun c5 => by exact absurd c5 (by decide))
    refine lv_aload_n hx hb dX8_editCost_12 rfl (lv_at hl 0 rfl) ?_
    refine r_get cx hw inX8_editCost_8 1 12 rfl rfl (by decide) lkX8_editCost_1 rfl dX8_editCost_13 ?_
    refine lv_iload_n hx hb dX8_editCost_16 rfl (lv_at hl 1 rfl) ?_
    refine r_iald cx hw 0 1 rfl rfl k9 rfl (by omega) (by omega) dX8_editCost_17 ?_
    subst hQ
    exact r_reti (v := eO k9) cx hr rfl hlk hw (Nat.le_of_ble_eq_true rfl) (Nat.le_of_ble_eq_true rfl) k9 (Or.inl ⟨hk9, rfl, rfl⟩) [1, 0] (by decide) rfl dX8_editCost_18

theorem lkX8_charAt_1 : Cond.fieldLink RX8 7 "SignedDocumentModel" "ch" "[C" ∈ wsX8_charAt := List.mem_of_getElem? (i := 1) rfl
theorem inX8_charAt_8 : ∀ w ∈ u_ws RX8 TX8 33, w ∈ wsX8_charAt := fun _ h => List.mem_cons_of_mem _ (List.mem_append_left _ (List.mem_append_right _ h))
set_option maxRecDepth 100000 in
set_option maxHeartbeats 4000000 in
theorem mX8_charAt (l : Launch) (D : va_G) (cC cI cJ cZ cD : ClassId) (x xa xb xc xd xe xf xg xh xi xj xk xl xm xn xo xp xq xr xs xt : Nat) (n nx nb no na nc ne ns fee : Nat) (sj th rs stc : Int32) (tL : Nat → Int32) (v : Int32) (sz : Nat) (hn : n ≤ 60) (htL : ∀ j, vp_nar .char (tL j) = tL j) : MI l yX8_charAt wsX8_charAt ({ frames := 2, cells := 0, slots := 0, locals := 43 }) [.ref x, .int v] D (TY cC cI cJ cZ cD) [(x, .inr (10, [.ref xa, .ref xb, .ref xc, .ref xd, .ref xe, .ref xf, .ref xg, .ref xh, .ref xi, .ref xj, .ref xk, .ref xl, .ref xm, .ref xn, .ref xo, .ref xp, .ref xq, .ref xr, .ref xs, .ref xt, .int (nI n), .int (nI nx), .int (nI nb), .int (nI no), .int (nI na), .int (nI nc), .int (nI ne), .int (nI ns), .int (nI fee), .int sj, .int th, .int rs, .int stc])), (xa, .inl (cC, 60, .inl tL))] sz (fun (r : Int32) => fun (k : Nat) => ((k < n ∧ v = nI k ∧ r = tL k) ∨ (¬ ix v n ∧ r = (nI 45)))) (fun (k : Nat) => [(x, .inr (10, [.ref xa, .ref xb, .ref xc, .ref xd, .ref xe, .ref xf, .ref xg, .ref xh, .ref xi, .ref xj, .ref xk, .ref xl, .ref xm, .ref xn, .ref xo, .ref xp, .ref xq, .ref xr, .ref xs, .ref xt, .int (nI n), .int (nI nx), .int (nI nb), .int (nI no), .int (nI na), .int (nI nc), .int (nI ne), .int (nI ns), .int (nI fee), .int sj, .int (tx v n), .int rs, .int stc])), (xa, .inl (cC, 60, .inl tL))]) 0 0 := by
  refine mk_MI (cc := cX8_charAt) (maxL := 2) (ret := (some .char)) (by decide) rfl (Nat.le_of_ble_eq_true rfl) ?_
  intro p e s mI args below meth cO A cx hr hlk hnm hw ls hl
  have hx := cx.1
  have hb := cx.2.1
  have hw : ww D (TY cC cI cJ cZ cD) s A s.heap [(x, .inr (10, [.ref xa, .ref xb, .ref xc, .ref xd, .ref xe, .ref xf, .ref xg, .ref xh, .ref xi, .ref xj, .ref xk, .ref xl, .ref xm, .ref xn, .ref xo, .ref xp, .ref xq, .ref xr, .ref xs, .ref xt, .int (nI n), .int (nI nx), .int (nI nb), .int (nI no), .int (nI na), .int (nI nc), .int (nI ne), .int (nI ns), .int (nI fee), .int sj, .int th, .int rs, .int stc])), (xa, .inl (cC, 60, .inl tL))] s.heap [] := hw
  have hl : lv_has ls 2 [(0, .ref x), (1, .int v)] := hl
  generalize hQ : MQ _ _ _ _ _ _ _ = Q
  refine hp_start hw (fun H locs hw => ?_)
  refine lv_aload_n hx hb dX8_charAt_0 rfl (lv_at hl 0 rfl) ?_
  refine lv_iload_n hx hb dX8_charAt_1 rfl (lv_at hl 1 rfl) ?_
  refine r_callVi (n := 1) (wr := [(xa, .inl (cC, 60, .inl tL))]) cx hw (mX8_isNoPlace l D cC cI cJ cZ cD x xa xb xc xd xe xf xg xh xi xj xk xl xm xn xo xp xq xr xs xt n nx nb no na nc ne ns fee sj th rs stc v H.size hn) [0] [1] gX8_charAt_X8_isNoPlace rfl rfl rfl (by decide +kernel) ⟨Nat.le_of_ble_eq_true rfl, Nat.le_of_ble_eq_true rfl⟩ (q0 := 0) rfl rfl rfl rfl (by decide) (by decide) (by decide) rfl rfl hl.1 (Nat.le_of_ble_eq_true rfl) dX8_charAt_2 ⟨Nat.le_of_ble_eq_true rfl, Nat.le_of_ble_eq_true rfl⟩ (fun r_1 u H locs hp hw => ?_)
  have hw : ww D (TY cC cI cJ cZ cD) s A s.heap [(xa, .inl (cC, 60, .inl tL)), (x, .inr (10, [.ref xa, .ref xb, .ref xc, .ref xd, .ref xe, .ref xf, .ref xg, .ref xh, .ref xi, .ref xj, .ref xk, .ref xl, .ref xm, .ref xn, .ref xo, .ref xp, .ref xq, .ref xr, .ref xs, .ref xt, .int (nI n), .int (nI nx), .int (nI nb), .int (nI no), .int (nI na), .int (nI nc), .int (nI ne), .int (nI ns), .int (nI fee), .int sj, .int (tx v n), .int rs, .int stc]))] H locs := hw
  try dsimp only at hp
  have hb9 := hp
  rcases hb9 with ⟨rfl, b2⟩ | ⟨rfl, b2⟩
  · refine r_if_eq cx 13 1 rfl (by omega) dX8_charAt_5 (by decide) (fun c5 => by exact absurd c5 (by decide)) (fun c5 => ?_)
    refine lv_bipush (v := nI 45) hx hb dX8_charAt_8 (by decide) ?_
    refine lv_goto (tgt := 19) hx hb dX8_charAt_10 (by decide) ?_
    subst hQ
    exact r_reti (v := nI 45) cx hr (by decide) hlk hw (Nat.le_of_ble_eq_true rfl) (Nat.le_of_ble_eq_true rfl) 0 (Or.inr ⟨b2, rfl⟩) [1, 0] (by decide) rfl dX8_charAt_19
  · obtain ⟨k9, hk9, rfl⟩ := nI_of_ix (Decidable.of_not_not b2)
    refine r_if_eq cx 13 0 rfl (by omega) dX8_charAt_5 (by decide) (fun c5 => ?_) (fun c5 => by exact absurd c5 (by decide))
    refine lv_aload_n hx hb dX8_charAt_13 rfl (lv_at hl 0 rfl) ?_
    refine r_get cx hw inX8_charAt_8 1 0 rfl rfl (by decide) lkX8_charAt_1 rfl dX8_charAt_14 ?_
    refine lv_iload_n hx hb dX8_charAt_17 rfl (lv_at hl 1 rfl) ?_
    refine r_cald cx hw 0 0 rfl rfl k9 rfl (by omega) (by omega) dX8_charAt_18 ?_
    subst hQ
    exact r_reti (v := tL k9) cx hr (nrC (htL k9)) hlk hw (Nat.le_of_ble_eq_true rfl) (Nat.le_of_ble_eq_true rfl) k9 (Or.inl ⟨hk9, rfl, rfl⟩) [1, 0] (by decide) rfl dX8_charAt_19

theorem lkX8_authorOf_1 : Cond.fieldLink RX8 16 "SignedDocumentModel" "who" "[I" ∈ wsX8_authorOf := List.mem_of_getElem? (i := 1) rfl
theorem inX8_authorOf_8 : ∀ w ∈ u_ws RX8 TX8 33, w ∈ wsX8_authorOf := fun _ h => List.mem_cons_of_mem _ (List.mem_append_left _ (List.mem_append_right _ h))
set_option maxRecDepth 100000 in
set_option maxHeartbeats 4000000 in
theorem mX8_authorOf (l : Launch) (D : va_G) (cC cI cJ cZ cD : ClassId) (x xa xb xc xd xe xf xg xh xi xj xk xl xm xn xo xp xq xr xs xt : Nat) (n nx nb no na nc ne ns fee : Nat) (sj th rs stc : Int32) (tA : Nat → Int32) (v : Int32) (sz : Nat) (hn : n ≤ 60) : MI l yX8_authorOf wsX8_authorOf ({ frames := 2, cells := 0, slots := 0, locals := 43 }) [.ref x, .int v] D (TY cC cI cJ cZ cD) [(x, .inr (10, [.ref xa, .ref xb, .ref xc, .ref xd, .ref xe, .ref xf, .ref xg, .ref xh, .ref xi, .ref xj, .ref xk, .ref xl, .ref xm, .ref xn, .ref xo, .ref xp, .ref xq, .ref xr, .ref xs, .ref xt, .int (nI n), .int (nI nx), .int (nI nb), .int (nI no), .int (nI na), .int (nI nc), .int (nI ne), .int (nI ns), .int (nI fee), .int sj, .int th, .int rs, .int stc])), (xc, .inl (cI, 60, .inl tA))] sz (fun (r : Int32) => fun (k : Nat) => ((k < n ∧ v = nI k ∧ r = tA k) ∨ (¬ ix v n ∧ r = nI 0))) (fun (k : Nat) => [(x, .inr (10, [.ref xa, .ref xb, .ref xc, .ref xd, .ref xe, .ref xf, .ref xg, .ref xh, .ref xi, .ref xj, .ref xk, .ref xl, .ref xm, .ref xn, .ref xo, .ref xp, .ref xq, .ref xr, .ref xs, .ref xt, .int (nI n), .int (nI nx), .int (nI nb), .int (nI no), .int (nI na), .int (nI nc), .int (nI ne), .int (nI ns), .int (nI fee), .int sj, .int (tx v n), .int rs, .int stc])), (xc, .inl (cI, 60, .inl tA))]) 0 0 := by
  refine mk_MI (cc := cX8_authorOf) (maxL := 2) (ret := (some .int)) (by decide) rfl (Nat.le_of_ble_eq_true rfl) ?_
  intro p e s mI args below meth cO A cx hr hlk hnm hw ls hl
  have hx := cx.1
  have hb := cx.2.1
  have hw : ww D (TY cC cI cJ cZ cD) s A s.heap [(x, .inr (10, [.ref xa, .ref xb, .ref xc, .ref xd, .ref xe, .ref xf, .ref xg, .ref xh, .ref xi, .ref xj, .ref xk, .ref xl, .ref xm, .ref xn, .ref xo, .ref xp, .ref xq, .ref xr, .ref xs, .ref xt, .int (nI n), .int (nI nx), .int (nI nb), .int (nI no), .int (nI na), .int (nI nc), .int (nI ne), .int (nI ns), .int (nI fee), .int sj, .int th, .int rs, .int stc])), (xc, .inl (cI, 60, .inl tA))] s.heap [] := hw
  have hl : lv_has ls 2 [(0, .ref x), (1, .int v)] := hl
  generalize hQ : MQ _ _ _ _ _ _ _ = Q
  refine hp_start hw (fun H locs hw => ?_)
  refine lv_aload_n hx hb dX8_authorOf_0 rfl (lv_at hl 0 rfl) ?_
  refine lv_iload_n hx hb dX8_authorOf_1 rfl (lv_at hl 1 rfl) ?_
  refine r_callVi (n := 1) (wr := [(xc, .inl (cI, 60, .inl tA))]) cx hw (mX8_isNoPlace l D cC cI cJ cZ cD x xa xb xc xd xe xf xg xh xi xj xk xl xm xn xo xp xq xr xs xt n nx nb no na nc ne ns fee sj th rs stc v H.size hn) [0] [1] gX8_authorOf_X8_isNoPlace rfl rfl rfl (by decide +kernel) ⟨Nat.le_of_ble_eq_true rfl, Nat.le_of_ble_eq_true rfl⟩ (q0 := 0) rfl rfl rfl rfl (by decide) (by decide) (by decide) rfl rfl hl.1 (Nat.le_of_ble_eq_true rfl) dX8_authorOf_2 ⟨Nat.le_of_ble_eq_true rfl, Nat.le_of_ble_eq_true rfl⟩ (fun r_1 u H locs hp hw => ?_)
  have hw : ww D (TY cC cI cJ cZ cD) s A s.heap [(xc, .inl (cI, 60, .inl tA)), (x, .inr (10, [.ref xa, .ref xb, .ref xc, .ref xd, .ref xe, .ref xf, .ref xg, .ref xh, .ref xi, .ref xj, .ref xk, .ref xl, .ref xm, .ref xn, .ref xo, .ref xp, .ref xq, .ref xr, .ref xs, .ref xt, .int (nI n), .int (nI nx), .int (nI nb), .int (nI no), .int (nI na), .int (nI nc), .int (nI ne), .int (nI ns), .int (nI fee), .int sj, .int (tx v n), .int rs, .int stc]))] H locs := hw
  try dsimp only at hp
  have hb9 := hp
  rcases hb9 with ⟨rfl, b2⟩ | ⟨rfl, b2⟩
  · refine r_if_eq cx 12 1 rfl (by omega) dX8_authorOf_5 (by decide) (fun c5 => by exact absurd c5 (by decide)) (fun c5 => ?_)
    refine lv_iconst (v := nI 0) hx hb dX8_authorOf_8 (by decide) ?_
    refine lv_goto (tgt := 18) hx hb dX8_authorOf_9 (by decide) ?_
    subst hQ
    exact r_reti (v := nI 0) cx hr rfl hlk hw (Nat.le_of_ble_eq_true rfl) (Nat.le_of_ble_eq_true rfl) 0 (Or.inr ⟨b2, rfl⟩) [1, 0] (by decide) rfl dX8_authorOf_18
  · obtain ⟨k9, hk9, rfl⟩ := nI_of_ix (Decidable.of_not_not b2)
    refine r_if_eq cx 12 0 rfl (by omega) dX8_authorOf_5 (by decide) (fun c5 => ?_) (fun c5 => by exact absurd c5 (by decide))
    refine lv_aload_n hx hb dX8_authorOf_12 rfl (lv_at hl 0 rfl) ?_
    refine r_get cx hw inX8_authorOf_8 1 2 rfl rfl (by decide) lkX8_authorOf_1 rfl dX8_authorOf_13 ?_
    refine lv_iload_n hx hb dX8_authorOf_16 rfl (lv_at hl 1 rfl) ?_
    refine r_iald cx hw 0 1 rfl rfl k9 rfl (by omega) (by omega) dX8_authorOf_17 ?_
    subst hQ
    exact r_reti (v := tA k9) cx hr rfl hlk hw (Nat.le_of_ble_eq_true rfl) (Nat.le_of_ble_eq_true rfl) k9 (Or.inl ⟨hk9, rfl, rfl⟩) [1, 0] (by decide) rfl dX8_authorOf_18

theorem lkX8_clauseOf_1 : Cond.fieldLink RX8 20 "SignedDocumentModel" "clause" "[I" ∈ wsX8_clauseOf := List.mem_of_getElem? (i := 1) rfl
theorem inX8_clauseOf_8 : ∀ w ∈ u_ws RX8 TX8 33, w ∈ wsX8_clauseOf := fun _ h => List.mem_cons_of_mem _ (List.mem_append_left _ (List.mem_append_right _ h))
set_option maxRecDepth 100000 in
set_option maxHeartbeats 4000000 in
theorem mX8_clauseOf (l : Launch) (D : va_G) (cC cI cJ cZ cD : ClassId) (x xa xb xc xd xe xf xg xh xi xj xk xl xm xn xo xp xq xr xs xt : Nat) (n nx nb no na nc ne ns fee : Nat) (sj th rs stc : Int32) (tC : Nat → Int32) (v : Int32) (sz : Nat) (hn : n ≤ 60) : MI l yX8_clauseOf wsX8_clauseOf ({ frames := 2, cells := 0, slots := 0, locals := 43 }) [.ref x, .int v] D (TY cC cI cJ cZ cD) [(x, .inr (10, [.ref xa, .ref xb, .ref xc, .ref xd, .ref xe, .ref xf, .ref xg, .ref xh, .ref xi, .ref xj, .ref xk, .ref xl, .ref xm, .ref xn, .ref xo, .ref xp, .ref xq, .ref xr, .ref xs, .ref xt, .int (nI n), .int (nI nx), .int (nI nb), .int (nI no), .int (nI na), .int (nI nc), .int (nI ne), .int (nI ns), .int (nI fee), .int sj, .int th, .int rs, .int stc])), (xd, .inl (cI, 60, .inl tC))] sz (fun (r : Int32) => fun (k : Nat) => ((k < n ∧ v = nI k ∧ r = tC k) ∨ (¬ ix v n ∧ r = nI 0))) (fun (k : Nat) => [(x, .inr (10, [.ref xa, .ref xb, .ref xc, .ref xd, .ref xe, .ref xf, .ref xg, .ref xh, .ref xi, .ref xj, .ref xk, .ref xl, .ref xm, .ref xn, .ref xo, .ref xp, .ref xq, .ref xr, .ref xs, .ref xt, .int (nI n), .int (nI nx), .int (nI nb), .int (nI no), .int (nI na), .int (nI nc), .int (nI ne), .int (nI ns), .int (nI fee), .int sj, .int (tx v n), .int rs, .int stc])), (xd, .inl (cI, 60, .inl tC))]) 0 0 := by
  refine mk_MI (cc := cX8_clauseOf) (maxL := 2) (ret := (some .int)) (by decide) rfl (Nat.le_of_ble_eq_true rfl) ?_
  intro p e s mI args below meth cO A cx hr hlk hnm hw ls hl
  have hx := cx.1
  have hb := cx.2.1
  have hw : ww D (TY cC cI cJ cZ cD) s A s.heap [(x, .inr (10, [.ref xa, .ref xb, .ref xc, .ref xd, .ref xe, .ref xf, .ref xg, .ref xh, .ref xi, .ref xj, .ref xk, .ref xl, .ref xm, .ref xn, .ref xo, .ref xp, .ref xq, .ref xr, .ref xs, .ref xt, .int (nI n), .int (nI nx), .int (nI nb), .int (nI no), .int (nI na), .int (nI nc), .int (nI ne), .int (nI ns), .int (nI fee), .int sj, .int th, .int rs, .int stc])), (xd, .inl (cI, 60, .inl tC))] s.heap [] := hw
  have hl : lv_has ls 2 [(0, .ref x), (1, .int v)] := hl
  generalize hQ : MQ _ _ _ _ _ _ _ = Q
  refine hp_start hw (fun H locs hw => ?_)
  refine lv_aload_n hx hb dX8_clauseOf_0 rfl (lv_at hl 0 rfl) ?_
  refine lv_iload_n hx hb dX8_clauseOf_1 rfl (lv_at hl 1 rfl) ?_
  refine r_callVi (n := 1) (wr := [(xd, .inl (cI, 60, .inl tC))]) cx hw (mX8_isNoPlace l D cC cI cJ cZ cD x xa xb xc xd xe xf xg xh xi xj xk xl xm xn xo xp xq xr xs xt n nx nb no na nc ne ns fee sj th rs stc v H.size hn) [0] [1] gX8_clauseOf_X8_isNoPlace rfl rfl rfl (by decide +kernel) ⟨Nat.le_of_ble_eq_true rfl, Nat.le_of_ble_eq_true rfl⟩ (q0 := 0) rfl rfl rfl rfl (by decide) (by decide) (by decide) rfl rfl hl.1 (Nat.le_of_ble_eq_true rfl) dX8_clauseOf_2 ⟨Nat.le_of_ble_eq_true rfl, Nat.le_of_ble_eq_true rfl⟩ (fun r_1 u H locs hp hw => ?_)
  have hw : ww D (TY cC cI cJ cZ cD) s A s.heap [(xd, .inl (cI, 60, .inl tC)), (x, .inr (10, [.ref xa, .ref xb, .ref xc, .ref xd, .ref xe, .ref xf, .ref xg, .ref xh, .ref xi, .ref xj, .ref xk, .ref xl, .ref xm, .ref xn, .ref xo, .ref xp, .ref xq, .ref xr, .ref xs, .ref xt, .int (nI n), .int (nI nx), .int (nI nb), .int (nI no), .int (nI na), .int (nI nc), .int (nI ne), .int (nI ns), .int (nI fee), .int sj, .int (tx v n), .int rs, .int stc]))] H locs := hw
  try dsimp only at hp
  have hb9 := hp
  rcases hb9 with ⟨rfl, b2⟩ | ⟨rfl, b2⟩
  · refine r_if_eq cx 12 1 rfl (by omega) dX8_clauseOf_5 (by decide) (fun c5 => by exact absurd c5 (by decide)) (fun c5 => ?_)
    refine lv_iconst (v := nI 0) hx hb dX8_clauseOf_8 (by decide) ?_
    refine lv_goto (tgt := 18) hx hb dX8_clauseOf_9 (by decide) ?_
    subst hQ
    exact r_reti (v := nI 0) cx hr rfl hlk hw (Nat.le_of_ble_eq_true rfl) (Nat.le_of_ble_eq_true rfl) 0 (Or.inr ⟨b2, rfl⟩) [1, 0] (by decide) rfl dX8_clauseOf_18
  · obtain ⟨k9, hk9, rfl⟩ := nI_of_ix (Decidable.of_not_not b2)
    refine r_if_eq cx 12 0 rfl (by omega) dX8_clauseOf_5 (by decide) (fun c5 => ?_) (fun c5 => by exact absurd c5 (by decide))
    refine lv_aload_n hx hb dX8_clauseOf_12 rfl (lv_at hl 0 rfl) ?_
    refine r_get cx hw inX8_clauseOf_8 1 3 rfl rfl (by decide) lkX8_clauseOf_1 rfl dX8_clauseOf_13 ?_
    refine lv_iload_n hx hb dX8_clauseOf_16 rfl (lv_at hl 1 rfl) ?_
    refine r_iald cx hw 0 1 rfl rfl k9 rfl (by omega) (by omega) dX8_clauseOf_17 ?_
    subst hQ
    exact r_reti (v := tC k9) cx hr rfl hlk hw (Nat.le_of_ble_eq_true rfl) (Nat.le_of_ble_eq_true rfl) k9 (Or.inl ⟨hk9, rfl, rfl⟩) [1, 0] (by decide) rfl dX8_clauseOf_18

theorem lkX8_state_1 : Cond.fieldLink RX8 70 "SignedDocumentModel" "state" "[C" ∈ wsX8_state := List.mem_of_getElem? (i := 1) rfl
theorem inX8_state_8 : ∀ w ∈ u_ws RX8 TX8 33, w ∈ wsX8_state := fun _ h => List.mem_cons_of_mem _ (List.mem_append_left _ (List.mem_append_right _ h))
set_option maxRecDepth 100000 in
set_option maxHeartbeats 4000000 in
theorem mX8_state (l : Launch) (D : va_G) (cC cI cJ cZ cD : ClassId) (x xa xb xc xd xe xf xg xh xi xj xk xl xm xn xo xp xq xr xs xt : Nat) (n nx nb no na nc ne ns fee : Nat) (sj th rs stc : Int32) (gT : Nat → Int32) (v : Int32) (sz : Nat) (hns : ns ≤ 12) (hgT : ∀ j, vp_nar .char (gT j) = gT j) : MI l yX8_state wsX8_state ({ frames := 2, cells := 0, slots := 0, locals := 43 }) [.ref x, .int v] D (TY cC cI cJ cZ cD) [(x, .inr (10, [.ref xa, .ref xb, .ref xc, .ref xd, .ref xe, .ref xf, .ref xg, .ref xh, .ref xi, .ref xj, .ref xk, .ref xl, .ref xm, .ref xn, .ref xo, .ref xp, .ref xq, .ref xr, .ref xs, .ref xt, .int (nI n), .int (nI nx), .int (nI nb), .int (nI no), .int (nI na), .int (nI nc), .int (nI ne), .int (nI ns), .int (nI fee), .int sj, .int th, .int rs, .int stc])), (xt, .inl (cC, 12, .inl gT))] sz (fun (r : Int32) => fun (k : Nat) => ((k < ns ∧ v = nI k ∧ r = gT k) ∨ (¬ ix v ns ∧ r = (nI 45)))) (fun (k : Nat) => [(x, .inr (10, [.ref xa, .ref xb, .ref xc, .ref xd, .ref xe, .ref xf, .ref xg, .ref xh, .ref xi, .ref xj, .ref xk, .ref xl, .ref xm, .ref xn, .ref xo, .ref xp, .ref xq, .ref xr, .ref xs, .ref xt, .int (nI n), .int (nI nx), .int (nI nb), .int (nI no), .int (nI na), .int (nI nc), .int (nI ne), .int (nI ns), .int (nI fee), .int sj, .int (tx v ns), .int rs, .int stc])), (xt, .inl (cC, 12, .inl gT))]) 0 0 := by
  refine mk_MI (cc := cX8_state) (maxL := 2) (ret := (some .char)) (by decide) rfl (Nat.le_of_ble_eq_true rfl) ?_
  intro p e s mI args below meth cO A cx hr hlk hnm hw ls hl
  have hx := cx.1
  have hb := cx.2.1
  have hw : ww D (TY cC cI cJ cZ cD) s A s.heap [(x, .inr (10, [.ref xa, .ref xb, .ref xc, .ref xd, .ref xe, .ref xf, .ref xg, .ref xh, .ref xi, .ref xj, .ref xk, .ref xl, .ref xm, .ref xn, .ref xo, .ref xp, .ref xq, .ref xr, .ref xs, .ref xt, .int (nI n), .int (nI nx), .int (nI nb), .int (nI no), .int (nI na), .int (nI nc), .int (nI ne), .int (nI ns), .int (nI fee), .int sj, .int th, .int rs, .int stc])), (xt, .inl (cC, 12, .inl gT))] s.heap [] := hw
  have hl : lv_has ls 2 [(0, .ref x), (1, .int v)] := hl
  generalize hQ : MQ _ _ _ _ _ _ _ = Q
  refine hp_start hw (fun H locs hw => ?_)
  refine lv_aload_n hx hb dX8_state_0 rfl (lv_at hl 0 rfl) ?_
  refine lv_iload_n hx hb dX8_state_1 rfl (lv_at hl 1 rfl) ?_
  refine r_callVi (n := 1) (wr := [(xt, .inl (cC, 12, .inl gT))]) cx hw (mX8_isNoSignature l D cC cI cJ cZ cD x xa xb xc xd xe xf xg xh xi xj xk xl xm xn xo xp xq xr xs xt n nx nb no na nc ne ns fee sj th rs stc v H.size hns) [0] [1] gX8_state_X8_isNoSignature rfl rfl rfl (by decide +kernel) ⟨Nat.le_of_ble_eq_true rfl, Nat.le_of_ble_eq_true rfl⟩ (q0 := 0) rfl rfl rfl rfl (by decide) (by decide) (by decide) rfl rfl hl.1 (Nat.le_of_ble_eq_true rfl) dX8_state_2 ⟨Nat.le_of_ble_eq_true rfl, Nat.le_of_ble_eq_true rfl⟩ (fun r_1 u H locs hp hw => ?_)
  have hw : ww D (TY cC cI cJ cZ cD) s A s.heap [(xt, .inl (cC, 12, .inl gT)), (x, .inr (10, [.ref xa, .ref xb, .ref xc, .ref xd, .ref xe, .ref xf, .ref xg, .ref xh, .ref xi, .ref xj, .ref xk, .ref xl, .ref xm, .ref xn, .ref xo, .ref xp, .ref xq, .ref xr, .ref xs, .ref xt, .int (nI n), .int (nI nx), .int (nI nb), .int (nI no), .int (nI na), .int (nI nc), .int (nI ne), .int (nI ns), .int (nI fee), .int sj, .int (tx v ns), .int rs, .int stc]))] H locs := hw
  try dsimp only at hp
  have hb9 := hp
  rcases hb9 with ⟨rfl, b2⟩ | ⟨rfl, b2⟩
  · refine r_if_eq cx 13 1 rfl (by omega) dX8_state_5 (by decide) (fun c5 => by exact absurd c5 (by decide)) (fun c5 => ?_)
    refine lv_bipush (v := nI 45) hx hb dX8_state_8 (by decide) ?_
    refine lv_goto (tgt := 19) hx hb dX8_state_10 (by decide) ?_
    subst hQ
    exact r_reti (v := nI 45) cx hr (by decide) hlk hw (Nat.le_of_ble_eq_true rfl) (Nat.le_of_ble_eq_true rfl) 0 (Or.inr ⟨b2, rfl⟩) [1, 0] (by decide) rfl dX8_state_19
  · obtain ⟨k9, hk9, rfl⟩ := nI_of_ix (Decidable.of_not_not b2)
    refine r_if_eq cx 13 0 rfl (by omega) dX8_state_5 (by decide) (fun c5 => ?_) (fun c5 => by exact absurd c5 (by decide))
    refine lv_aload_n hx hb dX8_state_13 rfl (lv_at hl 0 rfl) ?_
    refine r_get cx hw inX8_state_8 1 19 rfl rfl (by decide) lkX8_state_1 rfl dX8_state_14 ?_
    refine lv_iload_n hx hb dX8_state_17 rfl (lv_at hl 1 rfl) ?_
    refine r_cald cx hw 0 0 rfl rfl k9 rfl (by omega) (by omega) dX8_state_18 ?_
    subst hQ
    exact r_reti (v := gT k9) cx hr (nrC (hgT k9)) hlk hw (Nat.le_of_ble_eq_true rfl) (Nat.le_of_ble_eq_true rfl) k9 (Or.inl ⟨hk9, rfl, rfl⟩) [1, 0] (by decide) rfl dX8_state_19

theorem lkX8_edits_1 : Cond.fieldLink RX8 77 "SignedDocumentModel" "thrown" "I" ∈ wsX8_edits := List.mem_of_getElem? (i := 1) rfl
theorem inX8_edits_8 : ∀ w ∈ u_ws RX8 TX8 33, w ∈ wsX8_edits := fun _ h => List.mem_cons_of_mem _ (List.mem_append_right _ h)
theorem lkX8_edits_2 : Cond.fieldLink RX8 134 "SignedDocumentModel" "edits" "I" ∈ wsX8_edits := List.mem_of_getElem? (i := 2) rfl
set_option maxRecDepth 100000 in
set_option maxHeartbeats 4000000 in
theorem mX8_edits (l : Launch) (D : va_G) (cC cI cJ cZ cD : ClassId) (x xa xb xc xd xe xf xg xh xi xj xk xl xm xn xo xp xq xr xs xt : Nat) (n nx nb no na nc ne ns fee : Nat) (sj th rs stc : Int32) (sz : Nat) : MI l yX8_edits wsX8_edits ({ frames := 0, cells := 0, slots := 0, locals := 0 }) [.ref x] D (TY cC cI cJ cZ cD) [(x, .inr (10, [.ref xa, .ref xb, .ref xc, .ref xd, .ref xe, .ref xf, .ref xg, .ref xh, .ref xi, .ref xj, .ref xk, .ref xl, .ref xm, .ref xn, .ref xo, .ref xp, .ref xq, .ref xr, .ref xs, .ref xt, .int (nI n), .int (nI nx), .int (nI nb), .int (nI no), .int (nI na), .int (nI nc), .int (nI ne), .int (nI ns), .int (nI fee), .int sj, .int th, .int rs, .int stc]))] sz (fun (r : Int32) => fun (_ : Unit) => r = nI ne) (fun (_ : Unit) => [(x, .inr (10, [.ref xa, .ref xb, .ref xc, .ref xd, .ref xe, .ref xf, .ref xg, .ref xh, .ref xi, .ref xj, .ref xk, .ref xl, .ref xm, .ref xn, .ref xo, .ref xp, .ref xq, .ref xr, .ref xs, .ref xt, .int (nI n), .int (nI nx), .int (nI nb), .int (nI no), .int (nI na), .int (nI nc), .int (nI ne), .int (nI ns), .int (nI fee), .int sj, .int (nI 0), .int rs, .int stc]))]) 0 0 := by
  refine mk_MI (cc := cX8_edits) (maxL := 1) (ret := (some .int)) (by decide) rfl (Nat.le_of_ble_eq_true rfl) ?_
  intro p e s mI args below meth cO A cx hr hlk hnm hw ls hl
  have hx := cx.1
  have hb := cx.2.1
  have hw : ww D (TY cC cI cJ cZ cD) s A s.heap [(x, .inr (10, [.ref xa, .ref xb, .ref xc, .ref xd, .ref xe, .ref xf, .ref xg, .ref xh, .ref xi, .ref xj, .ref xk, .ref xl, .ref xm, .ref xn, .ref xo, .ref xp, .ref xq, .ref xr, .ref xs, .ref xt, .int (nI n), .int (nI nx), .int (nI nb), .int (nI no), .int (nI na), .int (nI nc), .int (nI ne), .int (nI ns), .int (nI fee), .int sj, .int th, .int rs, .int stc]))] s.heap [] := hw
  have hl : lv_has ls 1 [(0, .ref x)] := hl
  generalize hQ : MQ _ _ _ _ _ _ _ = Q
  refine hp_start hw (fun H locs hw => ?_)
  refine lv_aload_n hx hb dX8_edits_0 rfl (lv_at hl 0 rfl) ?_
  refine lv_iconst (v := nI 0) hx hb dX8_edits_1 (by decide) ?_
  refine r_put cx hw inX8_edits_8 tyX8 tyX8_ok nmX8 0 30 rfl rfl (by decide) lkX8_edits_1 rfl rfl rfl (Nat.le_of_ble_eq_true rfl) dX8_edits_2 (fun H locs hw => ?_)
  have hw : ww D (TY cC cI cJ cZ cD) s A s.heap [(x, .inr (10, [.ref xa, .ref xb, .ref xc, .ref xd, .ref xe, .ref xf, .ref xg, .ref xh, .ref xi, .ref xj, .ref xk, .ref xl, .ref xm, .ref xn, .ref xo, .ref xp, .ref xq, .ref xr, .ref xs, .ref xt, .int (nI n), .int (nI nx), .int (nI nb), .int (nI no), .int (nI na), .int (nI nc), .int (nI ne), .int (nI ns), .int (nI fee), .int sj, .int (nI 0), .int rs, .int stc]))] H locs := hw
  refine lv_aload_n hx hb dX8_edits_5 rfl (lv_at hl 0 rfl) ?_
  refine r_get cx hw inX8_edits_8 0 26 rfl rfl (by decide) lkX8_edits_2 rfl dX8_edits_6 ?_
  subst hQ
  exact r_reti (v := nI ne) cx hr rfl hlk hw (Nat.le_of_ble_eq_true rfl) (Nat.le_of_ble_eq_true rfl) () rfl [0] (by decide) rfl dX8_edits_9

theorem lkX8_length_1 : Cond.fieldLink RX8 77 "SignedDocumentModel" "thrown" "I" ∈ wsX8_length := List.mem_of_getElem? (i := 1) rfl
theorem inX8_length_8 : ∀ w ∈ u_ws RX8 TX8 33, w ∈ wsX8_length := fun _ h => List.mem_cons_of_mem _ (List.mem_append_right _ h)
theorem lkX8_length_2 : Cond.fieldLink RX8 98 "SignedDocumentModel" "length" "I" ∈ wsX8_length := List.mem_of_getElem? (i := 2) rfl
set_option maxRecDepth 100000 in
set_option maxHeartbeats 4000000 in
theorem mX8_length (l : Launch) (D : va_G) (cC cI cJ cZ cD : ClassId) (x xa xb xc xd xe xf xg xh xi xj xk xl xm xn xo xp xq xr xs xt : Nat) (n nx nb no na nc ne ns fee : Nat) (sj th rs stc : Int32) (sz : Nat) : MI l yX8_length wsX8_length ({ frames := 0, cells := 0, slots := 0, locals := 0 }) [.ref x] D (TY cC cI cJ cZ cD) [(x, .inr (10, [.ref xa, .ref xb, .ref xc, .ref xd, .ref xe, .ref xf, .ref xg, .ref xh, .ref xi, .ref xj, .ref xk, .ref xl, .ref xm, .ref xn, .ref xo, .ref xp, .ref xq, .ref xr, .ref xs, .ref xt, .int (nI n), .int (nI nx), .int (nI nb), .int (nI no), .int (nI na), .int (nI nc), .int (nI ne), .int (nI ns), .int (nI fee), .int sj, .int th, .int rs, .int stc]))] sz (fun (r : Int32) => fun (_ : Unit) => r = nI n) (fun (_ : Unit) => [(x, .inr (10, [.ref xa, .ref xb, .ref xc, .ref xd, .ref xe, .ref xf, .ref xg, .ref xh, .ref xi, .ref xj, .ref xk, .ref xl, .ref xm, .ref xn, .ref xo, .ref xp, .ref xq, .ref xr, .ref xs, .ref xt, .int (nI n), .int (nI nx), .int (nI nb), .int (nI no), .int (nI na), .int (nI nc), .int (nI ne), .int (nI ns), .int (nI fee), .int sj, .int (nI 0), .int rs, .int stc]))]) 0 0 := by
  refine mk_MI (cc := cX8_length) (maxL := 1) (ret := (some .int)) (by decide) rfl (Nat.le_of_ble_eq_true rfl) ?_
  intro p e s mI args below meth cO A cx hr hlk hnm hw ls hl
  have hx := cx.1
  have hb := cx.2.1
  have hw : ww D (TY cC cI cJ cZ cD) s A s.heap [(x, .inr (10, [.ref xa, .ref xb, .ref xc, .ref xd, .ref xe, .ref xf, .ref xg, .ref xh, .ref xi, .ref xj, .ref xk, .ref xl, .ref xm, .ref xn, .ref xo, .ref xp, .ref xq, .ref xr, .ref xs, .ref xt, .int (nI n), .int (nI nx), .int (nI nb), .int (nI no), .int (nI na), .int (nI nc), .int (nI ne), .int (nI ns), .int (nI fee), .int sj, .int th, .int rs, .int stc]))] s.heap [] := hw
  have hl : lv_has ls 1 [(0, .ref x)] := hl
  generalize hQ : MQ _ _ _ _ _ _ _ = Q
  refine hp_start hw (fun H locs hw => ?_)
  refine lv_aload_n hx hb dX8_length_0 rfl (lv_at hl 0 rfl) ?_
  refine lv_iconst (v := nI 0) hx hb dX8_length_1 (by decide) ?_
  refine r_put cx hw inX8_length_8 tyX8 tyX8_ok nmX8 0 30 rfl rfl (by decide) lkX8_length_1 rfl rfl rfl (Nat.le_of_ble_eq_true rfl) dX8_length_2 (fun H locs hw => ?_)
  have hw : ww D (TY cC cI cJ cZ cD) s A s.heap [(x, .inr (10, [.ref xa, .ref xb, .ref xc, .ref xd, .ref xe, .ref xf, .ref xg, .ref xh, .ref xi, .ref xj, .ref xk, .ref xl, .ref xm, .ref xn, .ref xo, .ref xp, .ref xq, .ref xr, .ref xs, .ref xt, .int (nI n), .int (nI nx), .int (nI nb), .int (nI no), .int (nI na), .int (nI nc), .int (nI ne), .int (nI ns), .int (nI fee), .int sj, .int (nI 0), .int rs, .int stc]))] H locs := hw
  refine lv_aload_n hx hb dX8_length_5 rfl (lv_at hl 0 rfl) ?_
  refine r_get cx hw inX8_length_8 0 20 rfl rfl (by decide) lkX8_length_2 rfl dX8_length_6 ?_
  subst hQ
  exact r_reti (v := nI n) cx hr rfl hlk hw (Nat.le_of_ble_eq_true rfl) (Nat.le_of_ble_eq_true rfl) () rfl [0] (by decide) rfl dX8_length_9

theorem lkX8_clauses_1 : Cond.fieldLink RX8 77 "SignedDocumentModel" "thrown" "I" ∈ wsX8_clauses := List.mem_of_getElem? (i := 1) rfl
theorem inX8_clauses_8 : ∀ w ∈ u_ws RX8 TX8 33, w ∈ wsX8_clauses := fun _ h => List.mem_cons_of_mem _ (List.mem_append_right _ h)
theorem lkX8_clauses_2 : Cond.fieldLink RX8 109 "SignedDocumentModel" "clauses" "I" ∈ wsX8_clauses := List.mem_of_getElem? (i := 2) rfl
set_option maxRecDepth 100000 in
set_option maxHeartbeats 4000000 in
theorem mX8_clauses (l : Launch) (D : va_G) (cC cI cJ cZ cD : ClassId) (x xa xb xc xd xe xf xg xh xi xj xk xl xm xn xo xp xq xr xs xt : Nat) (n nx nb no na nc ne ns fee : Nat) (sj th rs stc : Int32) (sz : Nat) : MI l yX8_clauses wsX8_clauses ({ frames := 0, cells := 0, slots := 0, locals := 0 }) [.ref x] D (TY cC cI cJ cZ cD) [(x, .inr (10, [.ref xa, .ref xb, .ref xc, .ref xd, .ref xe, .ref xf, .ref xg, .ref xh, .ref xi, .ref xj, .ref xk, .ref xl, .ref xm, .ref xn, .ref xo, .ref xp, .ref xq, .ref xr, .ref xs, .ref xt, .int (nI n), .int (nI nx), .int (nI nb), .int (nI no), .int (nI na), .int (nI nc), .int (nI ne), .int (nI ns), .int (nI fee), .int sj, .int th, .int rs, .int stc]))] sz (fun (r : Int32) => fun (_ : Unit) => r = nI nc) (fun (_ : Unit) => [(x, .inr (10, [.ref xa, .ref xb, .ref xc, .ref xd, .ref xe, .ref xf, .ref xg, .ref xh, .ref xi, .ref xj, .ref xk, .ref xl, .ref xm, .ref xn, .ref xo, .ref xp, .ref xq, .ref xr, .ref xs, .ref xt, .int (nI n), .int (nI nx), .int (nI nb), .int (nI no), .int (nI na), .int (nI nc), .int (nI ne), .int (nI ns), .int (nI fee), .int sj, .int (nI 0), .int rs, .int stc]))]) 0 0 := by
  refine mk_MI (cc := cX8_clauses) (maxL := 1) (ret := (some .int)) (by decide) rfl (Nat.le_of_ble_eq_true rfl) ?_
  intro p e s mI args below meth cO A cx hr hlk hnm hw ls hl
  have hx := cx.1
  have hb := cx.2.1
  have hw : ww D (TY cC cI cJ cZ cD) s A s.heap [(x, .inr (10, [.ref xa, .ref xb, .ref xc, .ref xd, .ref xe, .ref xf, .ref xg, .ref xh, .ref xi, .ref xj, .ref xk, .ref xl, .ref xm, .ref xn, .ref xo, .ref xp, .ref xq, .ref xr, .ref xs, .ref xt, .int (nI n), .int (nI nx), .int (nI nb), .int (nI no), .int (nI na), .int (nI nc), .int (nI ne), .int (nI ns), .int (nI fee), .int sj, .int th, .int rs, .int stc]))] s.heap [] := hw
  have hl : lv_has ls 1 [(0, .ref x)] := hl
  generalize hQ : MQ _ _ _ _ _ _ _ = Q
  refine hp_start hw (fun H locs hw => ?_)
  refine lv_aload_n hx hb dX8_clauses_0 rfl (lv_at hl 0 rfl) ?_
  refine lv_iconst (v := nI 0) hx hb dX8_clauses_1 (by decide) ?_
  refine r_put cx hw inX8_clauses_8 tyX8 tyX8_ok nmX8 0 30 rfl rfl (by decide) lkX8_clauses_1 rfl rfl rfl (Nat.le_of_ble_eq_true rfl) dX8_clauses_2 (fun H locs hw => ?_)
  have hw : ww D (TY cC cI cJ cZ cD) s A s.heap [(x, .inr (10, [.ref xa, .ref xb, .ref xc, .ref xd, .ref xe, .ref xf, .ref xg, .ref xh, .ref xi, .ref xj, .ref xk, .ref xl, .ref xm, .ref xn, .ref xo, .ref xp, .ref xq, .ref xr, .ref xs, .ref xt, .int (nI n), .int (nI nx), .int (nI nb), .int (nI no), .int (nI na), .int (nI nc), .int (nI ne), .int (nI ns), .int (nI fee), .int sj, .int (nI 0), .int rs, .int stc]))] H locs := hw
  refine lv_aload_n hx hb dX8_clauses_5 rfl (lv_at hl 0 rfl) ?_
  refine r_get cx hw inX8_clauses_8 0 25 rfl rfl (by decide) lkX8_clauses_2 rfl dX8_clauses_6 ?_
  subst hQ
  exact r_reti (v := nI nc) cx hr rfl hlk hw (Nat.le_of_ble_eq_true rfl) (Nat.le_of_ble_eq_true rfl) () rfl [0] (by decide) rfl dX8_clauses_9

theorem lkX8_signatures_1 : Cond.fieldLink RX8 77 "SignedDocumentModel" "thrown" "I" ∈ wsX8_signatures := List.mem_of_getElem? (i := 1) rfl
theorem inX8_signatures_8 : ∀ w ∈ u_ws RX8 TX8 33, w ∈ wsX8_signatures := fun _ h => List.mem_cons_of_mem _ (List.mem_append_right _ h)
theorem lkX8_signatures_2 : Cond.fieldLink RX8 120 "SignedDocumentModel" "signatures" "I" ∈ wsX8_signatures := List.mem_of_getElem? (i := 2) rfl
set_option maxRecDepth 100000 in
set_option maxHeartbeats 4000000 in
theorem mX8_signatures (l : Launch) (D : va_G) (cC cI cJ cZ cD : ClassId) (x xa xb xc xd xe xf xg xh xi xj xk xl xm xn xo xp xq xr xs xt : Nat) (n nx nb no na nc ne ns fee : Nat) (sj th rs stc : Int32) (sz : Nat) : MI l yX8_signatures wsX8_signatures ({ frames := 0, cells := 0, slots := 0, locals := 0 }) [.ref x] D (TY cC cI cJ cZ cD) [(x, .inr (10, [.ref xa, .ref xb, .ref xc, .ref xd, .ref xe, .ref xf, .ref xg, .ref xh, .ref xi, .ref xj, .ref xk, .ref xl, .ref xm, .ref xn, .ref xo, .ref xp, .ref xq, .ref xr, .ref xs, .ref xt, .int (nI n), .int (nI nx), .int (nI nb), .int (nI no), .int (nI na), .int (nI nc), .int (nI ne), .int (nI ns), .int (nI fee), .int sj, .int th, .int rs, .int stc]))] sz (fun (r : Int32) => fun (_ : Unit) => r = nI ns) (fun (_ : Unit) => [(x, .inr (10, [.ref xa, .ref xb, .ref xc, .ref xd, .ref xe, .ref xf, .ref xg, .ref xh, .ref xi, .ref xj, .ref xk, .ref xl, .ref xm, .ref xn, .ref xo, .ref xp, .ref xq, .ref xr, .ref xs, .ref xt, .int (nI n), .int (nI nx), .int (nI nb), .int (nI no), .int (nI na), .int (nI nc), .int (nI ne), .int (nI ns), .int (nI fee), .int sj, .int (nI 0), .int rs, .int stc]))]) 0 0 := by
  refine mk_MI (cc := cX8_signatures) (maxL := 1) (ret := (some .int)) (by decide) rfl (Nat.le_of_ble_eq_true rfl) ?_
  intro p e s mI args below meth cO A cx hr hlk hnm hw ls hl
  have hx := cx.1
  have hb := cx.2.1
  have hw : ww D (TY cC cI cJ cZ cD) s A s.heap [(x, .inr (10, [.ref xa, .ref xb, .ref xc, .ref xd, .ref xe, .ref xf, .ref xg, .ref xh, .ref xi, .ref xj, .ref xk, .ref xl, .ref xm, .ref xn, .ref xo, .ref xp, .ref xq, .ref xr, .ref xs, .ref xt, .int (nI n), .int (nI nx), .int (nI nb), .int (nI no), .int (nI na), .int (nI nc), .int (nI ne), .int (nI ns), .int (nI fee), .int sj, .int th, .int rs, .int stc]))] s.heap [] := hw
  have hl : lv_has ls 1 [(0, .ref x)] := hl
  generalize hQ : MQ _ _ _ _ _ _ _ = Q
  refine hp_start hw (fun H locs hw => ?_)
  refine lv_aload_n hx hb dX8_signatures_0 rfl (lv_at hl 0 rfl) ?_
  refine lv_iconst (v := nI 0) hx hb dX8_signatures_1 (by decide) ?_
  refine r_put cx hw inX8_signatures_8 tyX8 tyX8_ok nmX8 0 30 rfl rfl (by decide) lkX8_signatures_1 rfl rfl rfl (Nat.le_of_ble_eq_true rfl) dX8_signatures_2 (fun H locs hw => ?_)
  have hw : ww D (TY cC cI cJ cZ cD) s A s.heap [(x, .inr (10, [.ref xa, .ref xb, .ref xc, .ref xd, .ref xe, .ref xf, .ref xg, .ref xh, .ref xi, .ref xj, .ref xk, .ref xl, .ref xm, .ref xn, .ref xo, .ref xp, .ref xq, .ref xr, .ref xs, .ref xt, .int (nI n), .int (nI nx), .int (nI nb), .int (nI no), .int (nI na), .int (nI nc), .int (nI ne), .int (nI ns), .int (nI fee), .int sj, .int (nI 0), .int rs, .int stc]))] H locs := hw
  refine lv_aload_n hx hb dX8_signatures_5 rfl (lv_at hl 0 rfl) ?_
  refine r_get cx hw inX8_signatures_8 0 27 rfl rfl (by decide) lkX8_signatures_2 rfl dX8_signatures_6 ?_
  subst hQ
  exact r_reti (v := nI ns) cx hr rfl hlk hw (Nat.le_of_ble_eq_true rfl) (Nat.le_of_ble_eq_true rfl) () rfl [0] (by decide) rfl dX8_signatures_9

theorem lkX8_thrown_1 : Cond.fieldLink RX8 77 "SignedDocumentModel" "thrown" "I" ∈ wsX8_thrown := List.mem_of_getElem? (i := 1) rfl
theorem inX8_thrown_8 : ∀ w ∈ u_ws RX8 TX8 33, w ∈ wsX8_thrown := fun _ h => List.mem_cons_of_mem _ (List.mem_append_right _ h)
set_option maxRecDepth 100000 in
set_option maxHeartbeats 4000000 in
theorem mX8_thrown (l : Launch) (D : va_G) (cC cI cJ cZ cD : ClassId) (x xa xb xc xd xe xf xg xh xi xj xk xl xm xn xo xp xq xr xs xt : Nat) (n nx nb no na nc ne ns fee : Nat) (sj th rs stc : Int32) (sz : Nat) : MI l yX8_thrown wsX8_thrown ({ frames := 0, cells := 0, slots := 0, locals := 0 }) [.ref x] D (TY cC cI cJ cZ cD) [(x, .inr (10, [.ref xa, .ref xb, .ref xc, .ref xd, .ref xe, .ref xf, .ref xg, .ref xh, .ref xi, .ref xj, .ref xk, .ref xl, .ref xm, .ref xn, .ref xo, .ref xp, .ref xq, .ref xr, .ref xs, .ref xt, .int (nI n), .int (nI nx), .int (nI nb), .int (nI no), .int (nI na), .int (nI nc), .int (nI ne), .int (nI ns), .int (nI fee), .int sj, .int th, .int rs, .int stc]))] sz (fun (r : Int32) => fun (_ : Unit) => r = th) (fun (_ : Unit) => [(x, .inr (10, [.ref xa, .ref xb, .ref xc, .ref xd, .ref xe, .ref xf, .ref xg, .ref xh, .ref xi, .ref xj, .ref xk, .ref xl, .ref xm, .ref xn, .ref xo, .ref xp, .ref xq, .ref xr, .ref xs, .ref xt, .int (nI n), .int (nI nx), .int (nI nb), .int (nI no), .int (nI na), .int (nI nc), .int (nI ne), .int (nI ns), .int (nI fee), .int sj, .int th, .int rs, .int stc]))]) 0 0 := by
  refine mk_MI (cc := cX8_thrown) (maxL := 1) (ret := (some .int)) (by decide) rfl (Nat.le_of_ble_eq_true rfl) ?_
  intro p e s mI args below meth cO A cx hr hlk hnm hw ls hl
  have hx := cx.1
  have hb := cx.2.1
  have hw : ww D (TY cC cI cJ cZ cD) s A s.heap [(x, .inr (10, [.ref xa, .ref xb, .ref xc, .ref xd, .ref xe, .ref xf, .ref xg, .ref xh, .ref xi, .ref xj, .ref xk, .ref xl, .ref xm, .ref xn, .ref xo, .ref xp, .ref xq, .ref xr, .ref xs, .ref xt, .int (nI n), .int (nI nx), .int (nI nb), .int (nI no), .int (nI na), .int (nI nc), .int (nI ne), .int (nI ns), .int (nI fee), .int sj, .int th, .int rs, .int stc]))] s.heap [] := hw
  have hl : lv_has ls 1 [(0, .ref x)] := hl
  generalize hQ : MQ _ _ _ _ _ _ _ = Q
  refine hp_start hw (fun H locs hw => ?_)
  refine lv_aload_n hx hb dX8_thrown_0 rfl (lv_at hl 0 rfl) ?_
  refine r_get cx hw inX8_thrown_8 0 30 rfl rfl (by decide) lkX8_thrown_1 rfl dX8_thrown_1 ?_
  subst hQ
  exact r_reti (v := th) cx hr rfl hlk hw (Nat.le_of_ble_eq_true rfl) (Nat.le_of_ble_eq_true rfl) () rfl [0] (by decide) rfl dX8_thrown_4

theorem lkX8_isConsistent_1 : Cond.fieldLink RX8 77 "SignedDocumentModel" "thrown" "I" ∈ wsX8_isConsistent := List.mem_of_getElem? (i := 1) rfl
theorem inX8_isConsistent_8 : ∀ w ∈ u_ws RX8 TX8 33, w ∈ wsX8_isConsistent := fun _ h => List.mem_cons_of_mem _ (List.mem_append_right _ h)
set_option maxRecDepth 100000 in
set_option maxHeartbeats 4000000 in
theorem mX8_isConsistent (l : Launch) (D : va_G) (cC cI cJ cZ cD : ClassId) (x xa xb xc xd xe xf xg xh xi xj xk xl xm xn xo xp xq xr xs xt : Nat) (n nx nb no na nc ne ns fee : Nat) (sj th rs stc : Int32) (sz : Nat) : MI l yX8_isConsistent wsX8_isConsistent ({ frames := 0, cells := 0, slots := 0, locals := 0 }) [.ref x] D (TY cC cI cJ cZ cD) [(x, .inr (10, [.ref xa, .ref xb, .ref xc, .ref xd, .ref xe, .ref xf, .ref xg, .ref xh, .ref xi, .ref xj, .ref xk, .ref xl, .ref xm, .ref xn, .ref xo, .ref xp, .ref xq, .ref xr, .ref xs, .ref xt, .int (nI n), .int (nI nx), .int (nI nb), .int (nI no), .int (nI na), .int (nI nc), .int (nI ne), .int (nI ns), .int (nI fee), .int sj, .int th, .int rs, .int stc]))] sz (fun (r : Int32) => fun (_ : Unit) => r = nI 1) (fun (_ : Unit) => [(x, .inr (10, [.ref xa, .ref xb, .ref xc, .ref xd, .ref xe, .ref xf, .ref xg, .ref xh, .ref xi, .ref xj, .ref xk, .ref xl, .ref xm, .ref xn, .ref xo, .ref xp, .ref xq, .ref xr, .ref xs, .ref xt, .int (nI n), .int (nI nx), .int (nI nb), .int (nI no), .int (nI na), .int (nI nc), .int (nI ne), .int (nI ns), .int (nI fee), .int sj, .int (nI 0), .int rs, .int stc]))]) 0 0 := by
  refine mk_MI (cc := cX8_isConsistent) (maxL := 1) (ret := (some .boolean)) (by decide) rfl (Nat.le_of_ble_eq_true rfl) ?_
  intro p e s mI args below meth cO A cx hr hlk hnm hw ls hl
  have hx := cx.1
  have hb := cx.2.1
  have hw : ww D (TY cC cI cJ cZ cD) s A s.heap [(x, .inr (10, [.ref xa, .ref xb, .ref xc, .ref xd, .ref xe, .ref xf, .ref xg, .ref xh, .ref xi, .ref xj, .ref xk, .ref xl, .ref xm, .ref xn, .ref xo, .ref xp, .ref xq, .ref xr, .ref xs, .ref xt, .int (nI n), .int (nI nx), .int (nI nb), .int (nI no), .int (nI na), .int (nI nc), .int (nI ne), .int (nI ns), .int (nI fee), .int sj, .int th, .int rs, .int stc]))] s.heap [] := hw
  have hl : lv_has ls 1 [(0, .ref x)] := hl
  generalize hQ : MQ _ _ _ _ _ _ _ = Q
  refine hp_start hw (fun H locs hw => ?_)
  refine lv_aload_n hx hb dX8_isConsistent_0 rfl (lv_at hl 0 rfl) ?_
  refine lv_iconst (v := nI 0) hx hb dX8_isConsistent_1 (by decide) ?_
  refine r_put cx hw inX8_isConsistent_8 tyX8 tyX8_ok nmX8 0 30 rfl rfl (by decide) lkX8_isConsistent_1 rfl rfl rfl (Nat.le_of_ble_eq_true rfl) dX8_isConsistent_2 (fun H locs hw => ?_)
  have hw : ww D (TY cC cI cJ cZ cD) s A s.heap [(x, .inr (10, [.ref xa, .ref xb, .ref xc, .ref xd, .ref xe, .ref xf, .ref xg, .ref xh, .ref xi, .ref xj, .ref xk, .ref xl, .ref xm, .ref xn, .ref xo, .ref xp, .ref xq, .ref xr, .ref xs, .ref xt, .int (nI n), .int (nI nx), .int (nI nb), .int (nI no), .int (nI na), .int (nI nc), .int (nI ne), .int (nI ns), .int (nI fee), .int sj, .int (nI 0), .int rs, .int stc]))] H locs := hw
  refine lv_iconst (v := nI 1) hx hb dX8_isConsistent_5 (by decide) ?_
  subst hQ
  exact r_reti (v := nI 1) cx hr (by decide) hlk hw (Nat.le_of_ble_eq_true rfl) (Nat.le_of_ble_eq_true rfl) () rfl [0] (by decide) rfl dX8_isConsistent_6


set_option maxRecDepth 100000 in
set_option maxHeartbeats 4000000 in
theorem mX8_lengthAgain (l : Launch) (D : va_G) (cC cI cJ cZ cD : ClassId) (x xa xb xc xd xe xf xg xh xi xj xk xl xm xn xo xp xq xr xs xt : Nat) (n nx nb no na nc ne ns fee : Nat) (sj th rs stc : Int32) (sz : Nat) : MI l yX8_lengthAgain wsX8_lengthAgain ({ frames := 1, cells := 0, slots := 0, locals := 20 }) [.ref x] D (TY cC cI cJ cZ cD) [(x, .inr (10, [.ref xa, .ref xb, .ref xc, .ref xd, .ref xe, .ref xf, .ref xg, .ref xh, .ref xi, .ref xj, .ref xk, .ref xl, .ref xm, .ref xn, .ref xo, .ref xp, .ref xq, .ref xr, .ref xs, .ref xt, .int (nI n), .int (nI nx), .int (nI nb), .int (nI no), .int (nI na), .int (nI nc), .int (nI ne), .int (nI ns), .int (nI fee), .int sj, .int th, .int rs, .int stc]))] sz (fun (r : Int32) => fun (_ : Unit) => r = nI n) (fun (_ : Unit) => [(x, .inr (10, [.ref xa, .ref xb, .ref xc, .ref xd, .ref xe, .ref xf, .ref xg, .ref xh, .ref xi, .ref xj, .ref xk, .ref xl, .ref xm, .ref xn, .ref xo, .ref xp, .ref xq, .ref xr, .ref xs, .ref xt, .int (nI n), .int (nI nx), .int (nI nb), .int (nI no), .int (nI na), .int (nI nc), .int (nI ne), .int (nI ns), .int (nI fee), .int sj, .int (nI 0), .int rs, .int stc]))]) 0 0 := by
  refine mk_MI (cc := cX8_lengthAgain) (maxL := 1) (ret := (some .int)) (by decide) rfl (Nat.le_of_ble_eq_true rfl) ?_
  intro p e s mI args below meth cO A cx hr hlk hnm hw ls hl
  have hx := cx.1
  have hb := cx.2.1
  have hw : ww D (TY cC cI cJ cZ cD) s A s.heap [(x, .inr (10, [.ref xa, .ref xb, .ref xc, .ref xd, .ref xe, .ref xf, .ref xg, .ref xh, .ref xi, .ref xj, .ref xk, .ref xl, .ref xm, .ref xn, .ref xo, .ref xp, .ref xq, .ref xr, .ref xs, .ref xt, .int (nI n), .int (nI nx), .int (nI nb), .int (nI no), .int (nI na), .int (nI nc), .int (nI ne), .int (nI ns), .int (nI fee), .int sj, .int th, .int rs, .int stc]))] s.heap [] := hw
  have hl : lv_has ls 1 [(0, .ref x)] := hl
  generalize hQ : MQ _ _ _ _ _ _ _ = Q
  refine hp_start hw (fun H locs hw => ?_)
  refine lv_aload_n hx hb dX8_lengthAgain_0 rfl (lv_at hl 0 rfl) ?_
  refine r_callVi (n := 0) (wr := []) cx hw (mX8_length l D cC cI cJ cZ cD x xa xb xc xd xe xf xg xh xi xj xk xl xm xn xo xp xq xr xs xt n nx nb no na nc ne ns fee sj th rs stc H.size) [0] [] gX8_lengthAgain_X8_length rfl rfl rfl (by decide +kernel) ⟨Nat.le_of_ble_eq_true rfl, Nat.le_of_ble_eq_true rfl⟩ (q0 := 0) rfl rfl rfl rfl (by decide) (by decide) (by decide) rfl rfl hl.1 (Nat.le_of_ble_eq_true rfl) dX8_lengthAgain_1 ⟨Nat.le_of_ble_eq_true rfl, Nat.le_of_ble_eq_true rfl⟩ (fun r_1 u H locs hp hw => ?_)
  have hw : ww D (TY cC cI cJ cZ cD) s A s.heap [(x, .inr (10, [.ref xa, .ref xb, .ref xc, .ref xd, .ref xe, .ref xf, .ref xg, .ref xh, .ref xi, .ref xj, .ref xk, .ref xl, .ref xm, .ref xn, .ref xo, .ref xp, .ref xq, .ref xr, .ref xs, .ref xt, .int (nI n), .int (nI nx), .int (nI nb), .int (nI no), .int (nI na), .int (nI nc), .int (nI ne), .int (nI ns), .int (nI fee), .int sj, .int (nI 0), .int rs, .int stc]))] H locs := hw
  try dsimp only at hp
  subst hp
  subst hQ
  exact r_reti (v := nI n) cx hr rfl hlk hw (Nat.le_of_ble_eq_true rfl) (Nat.le_of_ble_eq_true rfl) () rfl [0] (by decide) rfl dX8_lengthAgain_4


set_option maxRecDepth 100000 in
set_option maxHeartbeats 4000000 in
theorem mX8_charAgain (l : Launch) (D : va_G) (cC cI cJ cZ cD : ClassId) (x xa xb xc xd xe xf xg xh xi xj xk xl xm xn xo xp xq xr xs xt : Nat) (n nx nb no na nc ne ns fee : Nat) (sj th rs stc : Int32) (tL : Nat → Int32) (v : Int32) (sz : Nat) (hn : n ≤ 60) (htL : ∀ j, vp_nar .char (tL j) = tL j) : MI l yX8_charAgain wsX8_charAgain ({ frames := 3, cells := 0, slots := 0, locals := 64 }) [.ref x, .int v] D (TY cC cI cJ cZ cD) [(x, .inr (10, [.ref xa, .ref xb, .ref xc, .ref xd, .ref xe, .ref xf, .ref xg, .ref xh, .ref xi, .ref xj, .ref xk, .ref xl, .ref xm, .ref xn, .ref xo, .ref xp, .ref xq, .ref xr, .ref xs, .ref xt, .int (nI n), .int (nI nx), .int (nI nb), .int (nI no), .int (nI na), .int (nI nc), .int (nI ne), .int (nI ns), .int (nI fee), .int sj, .int th, .int rs, .int stc])), (xa, .inl (cC, 60, .inl tL))] sz (fun (r : Int32) => fun (k : Nat) => ((k < n ∧ v = nI k ∧ r = tL k) ∨ (¬ ix v n ∧ r = (nI 45)))) (fun (k : Nat) => [(x, .inr (10, [.ref xa, .ref xb, .ref xc, .ref xd, .ref xe, .ref xf, .ref xg, .ref xh, .ref xi, .ref xj, .ref xk, .ref xl, .ref xm, .ref xn, .ref xo, .ref xp, .ref xq, .ref xr, .ref xs, .ref xt, .int (nI n), .int (nI nx), .int (nI nb), .int (nI no), .int (nI na), .int (nI nc), .int (nI ne), .int (nI ns), .int (nI fee), .int sj, .int (tx v n), .int rs, .int stc])), (xa, .inl (cC, 60, .inl tL))]) 0 0 := by
  refine mk_MI (cc := cX8_charAgain) (maxL := 2) (ret := (some .char)) (by decide) rfl (Nat.le_of_ble_eq_true rfl) ?_
  intro p e s mI args below meth cO A cx hr hlk hnm hw ls hl
  have hx := cx.1
  have hb := cx.2.1
  have hw : ww D (TY cC cI cJ cZ cD) s A s.heap [(x, .inr (10, [.ref xa, .ref xb, .ref xc, .ref xd, .ref xe, .ref xf, .ref xg, .ref xh, .ref xi, .ref xj, .ref xk, .ref xl, .ref xm, .ref xn, .ref xo, .ref xp, .ref xq, .ref xr, .ref xs, .ref xt, .int (nI n), .int (nI nx), .int (nI nb), .int (nI no), .int (nI na), .int (nI nc), .int (nI ne), .int (nI ns), .int (nI fee), .int sj, .int th, .int rs, .int stc])), (xa, .inl (cC, 60, .inl tL))] s.heap [] := hw
  have hl : lv_has ls 2 [(0, .ref x), (1, .int v)] := hl
  generalize hQ : MQ _ _ _ _ _ _ _ = Q
  refine hp_start hw (fun H locs hw => ?_)
  refine lv_aload_n hx hb dX8_charAgain_0 rfl (lv_at hl 0 rfl) ?_
  refine lv_iload_n hx hb dX8_charAgain_1 rfl (lv_at hl 1 rfl) ?_
  refine r_callVi (n := 1) (wr := []) cx hw (mX8_charAt l D cC cI cJ cZ cD x xa xb xc xd xe xf xg xh xi xj xk xl xm xn xo xp xq xr xs xt n nx nb no na nc ne ns fee sj th rs stc tL v H.size hn htL) [0, 1] [] gX8_charAgain_X8_charAt rfl rfl rfl (by decide +kernel) ⟨Nat.le_of_ble_eq_true rfl, Nat.le_of_ble_eq_true rfl⟩ (q0 := 0) rfl rfl rfl rfl (by decide) (by decide) (by decide) rfl rfl hl.1 (Nat.le_of_ble_eq_true rfl) dX8_charAgain_2 ⟨Nat.le_of_ble_eq_true rfl, Nat.le_of_ble_eq_true rfl⟩ (fun r_2 u H locs hp hw => ?_)
  obtain ⟨k_1, rfl⟩ : ∃ z, z = u := ⟨_, rfl⟩
  have hw : ww D (TY cC cI cJ cZ cD) s A s.heap [(x, .inr (10, [.ref xa, .ref xb, .ref xc, .ref xd, .ref xe, .ref xf, .ref xg, .ref xh, .ref xi, .ref xj, .ref xk, .ref xl, .ref xm, .ref xn, .ref xo, .ref xp, .ref xq, .ref xr, .ref xs, .ref xt, .int (nI n), .int (nI nx), .int (nI nb), .int (nI no), .int (nI na), .int (nI nc), .int (nI ne), .int (nI ns), .int (nI fee), .int sj, .int (tx v n), .int rs, .int stc])), (xa, .inl (cC, 60, .inl tL))] H locs := hw
  have hp2 := hp
  subst hQ
  exact r_reti (v := r_2) cx hr (nrC (by rcases hp2 with ⟨_, _, z⟩ | ⟨_, z⟩ <;> rw [z]; exact htL _; decide)) hlk hw (Nat.le_of_ble_eq_true rfl) (Nat.le_of_ble_eq_true rfl) k_1 hp2 [0, 1] (by decide) rfl dX8_charAgain_5

