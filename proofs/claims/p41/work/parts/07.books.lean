theorem lkX0_init_1 : Cond.methodLink RX0 3 objectInit ∈ wsX0_init := List.mem_of_getElem? (i := 1) rfl
theorem lkX0_init_2 : Cond.instanceMethod objectInit ∈ wsX0_init := List.mem_of_getElem? (i := 2) rfl
theorem lkX0_init_3 : Cond.code objectInit ⟨#[0xb1]⟩ 1 none ∈ wsX0_init := List.mem_of_getElem? (i := 3) rfl
theorem lkX0_init_4 : Cond.arrayClass .int ∈ wsX0_init := List.mem_of_getElem? (i := 4) rfl
theorem lkX0_init_5 : Cond.fieldLink RX0 9 "SignedDocument$AuthorBook" "schemes" "[I" ∈ wsX0_init := List.mem_of_getElem? (i := 5) rfl
theorem inX0_init_0 : ∀ w ∈ u_ws RX0 TX0 4, w ∈ wsX0_init := fun _ h => List.mem_cons_of_mem _ (List.mem_append_right _ h)
theorem lkX0_init_6 : Cond.fieldLink RX0 15 "SignedDocument$AuthorBook" "rates" "[I" ∈ wsX0_init := List.mem_of_getElem? (i := 6) rfl
theorem lkX0_init_7 : Cond.arrayClass .long ∈ wsX0_init := List.mem_of_getElem? (i := 7) rfl
theorem lkX0_init_8 : Cond.fieldLink RX0 18 "SignedDocument$AuthorBook" "bills" "[J" ∈ wsX0_init := List.mem_of_getElem? (i := 8) rfl
theorem lkX0_init_9 : Cond.fieldLink RX0 22 "SignedDocument$AuthorBook" "size" "I" ∈ wsX0_init := List.mem_of_getElem? (i := 9) rfl
set_option maxRecDepth 100000 in
set_option maxHeartbeats 4000000 in
theorem mX0_init (l : Launch) (D : va_G) (cC cI cJ cZ cD : ClassId) (h0 : Nat) (sz : Nat) : MV l yX0_init wsX0_init ({ frames := 1, cells := 3, slots := 15, locals := 20 }) [.ref h0] D (TY cC cI cJ cZ cD) [(h0, .inr (2, [.null, .null, .null, .int (nI 0)]))] sz (fun (uu : Nat × Nat × Nat) => match uu with | (a1, a2, a3) => True) (fun (uu : Nat × Nat × Nat) => match uu with | (a1, a2, a3) => [(h0, .inr (2, [.ref a1, .ref a2, .ref a3, .int (nI 0)])), (a1, .inl (cI, 5, .inl (fun _ => nI 0))), (a2, .inl (cI, 5, .inl (fun _ => nI 0))), (a3, .inl (cJ, 5, .inr (.inl (fun _ => 0))))]) 3 15 := by
  refine mk_MV (cc := cX0_init) (maxL := 1) (ret := none) (by decide) rfl (Nat.le_of_ble_eq_true rfl) ?_
  intro p e s mI args below meth cO A cx hr hlk hnm hw ls hl
  have hx := cx.1
  have hb := cx.2.1
  have hw : ww D (TY cC cI cJ cZ cD) s A s.heap [(h0, .inr (2, [.null, .null, .null, .int (nI 0)]))] s.heap [] := hw
  have hl : lv_has ls 1 [(0, .ref h0)] := hl
  generalize hQ : MQ _ _ _ _ _ _ _ = Q
  refine hp_start hw (fun H locs hw => ?_)
  refine lv_aload_n hx hb dX0_init_0 rfl (lv_at hl 0 rfl) ?_
  refine W.objInit hx hb cx.2.2.2.1 (cx.2.2.2.2 _ lkX0_init_1) (cx.2.2.2.2 _ lkX0_init_2) (cx.2.2.2.2 _ lkX0_init_3) rfl (by rw [cx.2.2.1]; exact hl.1) rfl dX0_init_1 (Nat.le_of_ble_eq_true rfl) (Nat.le_of_ble_eq_true rfl) ?_
  refine W.eq (g2 := F0 mI 4 ls []) rfl ?_
  refine lv_aload_n hx hb dX0_init_4 rfl (lv_at hl 0 rfl) ?_
  refine lv_iconst (v := nI 5) hx hb dX0_init_5 (by decide) ?_
  refine r_newa_I cx hw lkX0_init_4 rfl (Nat.le_of_ble_eq_true rfl) rfl (Nat.le_of_ble_eq_true rfl) (Nat.le_of_ble_eq_true rfl) dX0_init_6 (fun q1 H hw => ?_)
  have hw : ww D (TY cC cI cJ cZ cD) s A s.heap [(h0, .inr (2, [.null, .null, .null, .int (nI 0)])), (q1, .inl (cI, 5, .inl (fun _ => 0)))] H locs := hw
  refine r_putF cx hw inX0_init_0 tyX0 tyX0_ok nmX0 0 0 rfl rfl (by decide) lkX0_init_5 rfl hnm rfl rfl rfl (Nat.le_of_ble_eq_true rfl) dX0_init_8 (fun H locs hw => ?_)
  have hw : ww D (TY cC cI cJ cZ cD) s A s.heap [(h0, .inr (2, [.ref q1, .null, .null, .int (nI 0)])), (q1, .inl (cI, 5, .inl (fun _ => 0)))] H locs := hw
  refine lv_aload_n hx hb dX0_init_11 rfl (lv_at hl 0 rfl) ?_
  refine lv_iconst (v := nI 5) hx hb dX0_init_12 (by decide) ?_
  refine r_newa_I cx hw lkX0_init_4 rfl (Nat.le_of_ble_eq_true rfl) rfl (Nat.le_of_ble_eq_true rfl) (Nat.le_of_ble_eq_true rfl) dX0_init_13 (fun q2 H hw => ?_)
  have hw : ww D (TY cC cI cJ cZ cD) s A s.heap [(h0, .inr (2, [.ref q1, .null, .null, .int (nI 0)])), (q1, .inl (cI, 5, .inl (fun _ => 0))), (q2, .inl (cI, 5, .inl (fun _ => 0)))] H locs := hw
  refine r_putF cx hw inX0_init_0 tyX0 tyX0_ok nmX0 0 1 rfl rfl (by decide) lkX0_init_6 rfl hnm rfl rfl rfl (Nat.le_of_ble_eq_true rfl) dX0_init_15 (fun H locs hw => ?_)
  have hw : ww D (TY cC cI cJ cZ cD) s A s.heap [(h0, .inr (2, [.ref q1, .ref q2, .null, .int (nI 0)])), (q1, .inl (cI, 5, .inl (fun _ => 0))), (q2, .inl (cI, 5, .inl (fun _ => 0)))] H locs := hw
  refine lv_aload_n hx hb dX0_init_18 rfl (lv_at hl 0 rfl) ?_
  refine lv_iconst (v := nI 5) hx hb dX0_init_19 (by decide) ?_
  refine r_newa_J cx hw lkX0_init_7 rfl (Nat.le_of_ble_eq_true rfl) rfl (Nat.le_of_ble_eq_true rfl) (Nat.le_of_ble_eq_true rfl) dX0_init_20 (fun q3 H hw => ?_)
  have hw : ww D (TY cC cI cJ cZ cD) s A s.heap [(h0, .inr (2, [.ref q1, .ref q2, .null, .int (nI 0)])), (q1, .inl (cI, 5, .inl (fun _ => 0))), (q2, .inl (cI, 5, .inl (fun _ => 0))), (q3, .inl (cJ, 5, .inr (.inl (fun _ => 0))))] H locs := hw
  refine r_putF cx hw inX0_init_0 tyX0 tyX0_ok nmX0 0 2 rfl rfl (by decide) lkX0_init_8 rfl hnm rfl rfl rfl (Nat.le_of_ble_eq_true rfl) dX0_init_22 (fun H locs hw => ?_)
  have hw : ww D (TY cC cI cJ cZ cD) s A s.heap [(h0, .inr (2, [.ref q1, .ref q2, .ref q3, .int (nI 0)])), (q1, .inl (cI, 5, .inl (fun _ => 0))), (q2, .inl (cI, 5, .inl (fun _ => 0))), (q3, .inl (cJ, 5, .inr (.inl (fun _ => 0))))] H locs := hw
  refine lv_aload_n hx hb dX0_init_25 rfl (lv_at hl 0 rfl) ?_
  refine lv_iconst (v := nI 0) hx hb dX0_init_26 (by decide) ?_
  refine r_put cx hw inX0_init_0 tyX0 tyX0_ok nmX0 0 3 rfl rfl (by decide) lkX0_init_9 rfl rfl rfl (Nat.le_of_ble_eq_true rfl) dX0_init_27 (fun H locs hw => ?_)
  have hw : ww D (TY cC cI cJ cZ cD) s A s.heap [(h0, .inr (2, [.ref q1, .ref q2, .ref q3, .int (nI 0)])), (q1, .inl (cI, 5, .inl (fun _ => 0))), (q2, .inl (cI, 5, .inl (fun _ => 0))), (q3, .inl (cJ, 5, .inr (.inl (fun _ => 0))))] H locs := hw
  subst hQ
  exact r_retv cx hr hlk hw (Nat.le_of_ble_eq_true rfl) (Nat.le_of_ble_eq_true rfl) (q1, q2, q3) trivial [0, 1, 2, 3] (by decide) rfl dX0_init_30

theorem lkX0_isFull_1 : Cond.fieldLink RX0 22 "SignedDocument$AuthorBook" "size" "I" ∈ wsX0_isFull := List.mem_of_getElem? (i := 1) rfl
theorem inX0_isFull_0 : ∀ w ∈ u_ws RX0 TX0 4, w ∈ wsX0_isFull := fun _ h => List.mem_cons_of_mem _ (List.mem_append_right _ h)
set_option maxRecDepth 100000 in
set_option maxHeartbeats 4000000 in
theorem mX0_isFull (l : Launch) (D : va_G) (cC cI cJ cZ cD : ClassId) (h0 h0S h0R h0B : Nat) (na : Nat) (fS fR : Nat → Int32) (fB : Nat → Int64) (sz : Nat) (hna : na ≤ 5) : MI l yX0_isFull wsX0_isFull ({ frames := 0, cells := 0, slots := 0, locals := 0 }) [.ref h0] D (TY cC cI cJ cZ cD) [(h0, .inr (2, [.ref h0S, .ref h0R, .ref h0B, .int (nI na)])), (h0S, .inl (cI, 5, .inl fS)), (h0R, .inl (cI, 5, .inl fR)), (h0B, .inl (cJ, 5, .inr (.inl fB)))] sz (fun (r : Int32) => fun (_ : Unit) => ((r = nI 1 ∧ (5 ≤ na)) ∨ (r = nI 0 ∧ ¬ (5 ≤ na)))) (fun (_ : Unit) => [(h0, .inr (2, [.ref h0S, .ref h0R, .ref h0B, .int (nI na)])), (h0S, .inl (cI, 5, .inl fS)), (h0R, .inl (cI, 5, .inl fR)), (h0B, .inl (cJ, 5, .inr (.inl fB)))]) 0 0 := by
  refine mk_MI (cc := cX0_isFull) (maxL := 1) (ret := (some .boolean)) (by decide) rfl (Nat.le_of_ble_eq_true rfl) ?_
  intro p e s mI args below meth cO A cx hr hlk hnm hw ls hl
  have hx := cx.1
  have hb := cx.2.1
  have hw : ww D (TY cC cI cJ cZ cD) s A s.heap [(h0, .inr (2, [.ref h0S, .ref h0R, .ref h0B, .int (nI na)])), (h0S, .inl (cI, 5, .inl fS)), (h0R, .inl (cI, 5, .inl fR)), (h0B, .inl (cJ, 5, .inr (.inl fB)))] s.heap [] := hw
  have hl : lv_has ls 1 [(0, .ref h0)] := hl
  generalize hQ : MQ _ _ _ _ _ _ _ = Q
  refine hp_start hw (fun H locs hw => ?_)
  refine lv_aload_n hx hb dX0_isFull_0 rfl (lv_at hl 0 rfl) ?_
  refine r_get cx hw inX0_isFull_0 0 3 rfl rfl (by decide) lkX0_isFull_1 rfl dX0_isFull_1 ?_
  refine lv_iconst (v := nI 5) hx hb dX0_isFull_4 (by decide) ?_
  refine r_icmp_lt cx 12 na 5 rfl rfl (by omega) (by omega) dX0_isFull_5 (by decide) (fun c5 => ?_) (fun c5 => ?_)
  · refine lv_iconst (v := nI 0) hx hb dX0_isFull_12 (by decide) ?_
    subst hQ
    exact r_reti (v := nI 0) cx hr (by decide) hlk hw (Nat.le_of_ble_eq_true rfl) (Nat.le_of_ble_eq_true rfl) () (by right; exact ⟨rfl, by omega⟩) [0, 1, 2, 3] (by decide) rfl dX0_isFull_13
  · refine lv_iconst (v := nI 1) hx hb dX0_isFull_8 (by decide) ?_
    refine lv_goto (tgt := 13) hx hb dX0_isFull_9 (by decide) ?_
    subst hQ
    exact r_reti (v := nI 1) cx hr (by decide) hlk hw (Nat.le_of_ble_eq_true rfl) (Nat.le_of_ble_eq_true rfl) () (by left; exact ⟨rfl, by omega⟩) [0, 1, 2, 3] (by decide) rfl dX0_isFull_13

theorem lkX0_enter_1 : Cond.fieldLink RX0 9 "SignedDocument$AuthorBook" "schemes" "[I" ∈ wsX0_enter := List.mem_of_getElem? (i := 1) rfl
theorem inX0_enter_0 : ∀ w ∈ u_ws RX0 TX0 4, w ∈ wsX0_enter := fun _ h => List.mem_cons_of_mem _ (List.mem_append_left _ (List.mem_append_right _ h))
theorem lkX0_enter_2 : Cond.fieldLink RX0 22 "SignedDocument$AuthorBook" "size" "I" ∈ wsX0_enter := List.mem_of_getElem? (i := 2) rfl
theorem lkX0_enter_3 : Cond.fieldLink RX0 15 "SignedDocument$AuthorBook" "rates" "[I" ∈ wsX0_enter := List.mem_of_getElem? (i := 3) rfl
set_option maxRecDepth 100000 in
set_option maxHeartbeats 4000000 in
theorem mX0_enter (l : Launch) (D : va_G) (cC cI cJ cZ cD : ClassId) (h0 h0S h0R h0B : Nat) (na : Nat) (fS fR : Nat → Int32) (fB : Nat → Int64) (sc ra : Int32) (sz : Nat) (hna : na < 5) : MI l yX0_enter wsX0_enter ({ frames := 1, cells := 0, slots := 0, locals := 20 }) [.ref h0, .int sc, .int ra] D (TY cC cI cJ cZ cD) [(h0, .inr (2, [.ref h0S, .ref h0R, .ref h0B, .int (nI na)])), (h0S, .inl (cI, 5, .inl fS)), (h0R, .inl (cI, 5, .inl fR)), (h0B, .inl (cJ, 5, .inr (.inl fB)))] sz (fun (r : Int32) => fun (_ : Unit) => r = nI na) (fun (_ : Unit) => [(h0, .inr (2, [.ref h0S, .ref h0R, .ref h0B, .int (nI (na + 1))])), (h0S, .inl (cI, 5, .inl (upd fS na sc))), (h0R, .inl (cI, 5, .inl (upd fR na ra))), (h0B, .inl (cJ, 5, .inr (.inl fB)))]) 0 0 := by
  refine mk_MI (cc := cX0_enter) (maxL := 3) (ret := (some .int)) (by decide) rfl (Nat.le_of_ble_eq_true rfl) ?_
  intro p e s mI args below meth cO A cx hr hlk hnm hw ls hl
  have hx := cx.1
  have hb := cx.2.1
  have hw : ww D (TY cC cI cJ cZ cD) s A s.heap [(h0, .inr (2, [.ref h0S, .ref h0R, .ref h0B, .int (nI na)])), (h0S, .inl (cI, 5, .inl fS)), (h0R, .inl (cI, 5, .inl fR)), (h0B, .inl (cJ, 5, .inr (.inl fB)))] s.heap [] := hw
  have hl : lv_has ls 3 [(0, .ref h0), (1, .int sc), (2, .int ra)] := hl
  generalize hQ : MQ _ _ _ _ _ _ _ = Q
  refine hp_start hw (fun H locs hw => ?_)
  refine lv_aload_n hx hb dX0_enter_0 rfl (lv_at hl 0 rfl) ?_
  refine r_callVi (n := 0) (wr := []) cx hw (mX0_isFull l D cC cI cJ cZ cD h0 h0S h0R h0B na fS fR fB H.size (by omega)) [0, 1, 2, 3] [] gX0_enter_X0_isFull rfl rfl rfl (by decide +kernel) ⟨Nat.le_of_ble_eq_true rfl, Nat.le_of_ble_eq_true rfl⟩ (q0 := 0) rfl rfl rfl rfl (by decide) (by decide) (by decide) rfl rfl hl.1 (Nat.le_of_ble_eq_true rfl) dX0_enter_1 ⟨Nat.le_of_ble_eq_true rfl, Nat.le_of_ble_eq_true rfl⟩ (fun r_1 u H locs hp hw => ?_)
  have hw : ww D (TY cC cI cJ cZ cD) s A s.heap [(h0, .inr (2, [.ref h0S, .ref h0R, .ref h0B, .int (nI na)])), (h0S, .inl (cI, 5, .inl fS)), (h0R, .inl (cI, 5, .inl fR)), (h0B, .inl (cJ, 5, .inr (.inl fB)))] H locs := hw
  try dsimp only at hp
  have hb9 := hp
  rcases hb9 with ⟨rfl, b1⟩ | ⟨rfl, b1⟩
  · omega
  · refine r_if_ne cx 37 0 rfl (by omega) dX0_enter_4 (by decide) (fun c4 => by exact absurd c4 (by decide)) (fun c4 => ?_)
    refine lv_aload_n hx hb dX0_enter_7 rfl (lv_at hl 0 rfl) ?_
    refine r_get cx hw inX0_enter_0 0 0 rfl rfl (by decide) lkX0_enter_1 rfl dX0_enter_8 ?_
    refine lv_aload_n hx hb dX0_enter_11 rfl (lv_at hl 0 rfl) ?_
    refine r_get cx hw inX0_enter_0 0 3 rfl rfl (by decide) lkX0_enter_2 rfl dX0_enter_12 ?_
    refine lv_iload_n hx hb dX0_enter_15 rfl (lv_at hl 1 rfl) ?_
    refine r_iast cx hw 1 1 rfl rfl na rfl (by omega) (by omega) dX0_enter_16 (fun H locs hw => ?_)
    have hw : ww D (TY cC cI cJ cZ cD) s A s.heap [(h0, .inr (2, [.ref h0S, .ref h0R, .ref h0B, .int (nI na)])), (h0S, .inl (cI, 5, .inl (upd fS na sc))), (h0R, .inl (cI, 5, .inl fR)), (h0B, .inl (cJ, 5, .inr (.inl fB)))] H locs := hw
    refine lv_aload_n hx hb dX0_enter_17 rfl (lv_at hl 0 rfl) ?_
    refine r_get cx hw inX0_enter_0 0 1 rfl rfl (by decide) lkX0_enter_3 rfl dX0_enter_18 ?_
    refine lv_aload_n hx hb dX0_enter_21 rfl (lv_at hl 0 rfl) ?_
    refine r_get cx hw inX0_enter_0 0 3 rfl rfl (by decide) lkX0_enter_2 rfl dX0_enter_22 ?_
    refine lv_iload_n hx hb dX0_enter_25 rfl (lv_at hl 2 rfl) ?_
    refine r_iast cx hw 2 1 rfl rfl na rfl (by omega) (by omega) dX0_enter_26 (fun H locs hw => ?_)
    have hw : ww D (TY cC cI cJ cZ cD) s A s.heap [(h0, .inr (2, [.ref h0S, .ref h0R, .ref h0B, .int (nI na)])), (h0S, .inl (cI, 5, .inl (upd fS na sc))), (h0R, .inl (cI, 5, .inl (upd fR na ra))), (h0B, .inl (cJ, 5, .inr (.inl fB)))] H locs := hw
    refine lv_aload_n hx hb dX0_enter_27 rfl (lv_at hl 0 rfl) ?_
    refine lv_dup hx hb dX0_enter_28 rfl ?_
    refine r_get cx hw inX0_enter_0 0 3 rfl rfl (by decide) lkX0_enter_2 rfl dX0_enter_29 ?_
    refine lv_iconst (v := nI 1) hx hb dX0_enter_32 (by decide) ?_
    refine r_iadd cx na 1 rfl rfl dX0_enter_33 ?_
    refine r_put cx hw inX0_enter_0 tyX0 tyX0_ok nmX0 0 3 rfl rfl (by decide) lkX0_enter_2 rfl rfl rfl (Nat.le_of_ble_eq_true rfl) dX0_enter_34 (fun H locs hw => ?_)
    have hw : ww D (TY cC cI cJ cZ cD) s A s.heap [(h0, .inr (2, [.ref h0S, .ref h0R, .ref h0B, .int (nI (na + 1))])), (h0S, .inl (cI, 5, .inl (upd fS na sc))), (h0R, .inl (cI, 5, .inl (upd fR na ra))), (h0B, .inl (cJ, 5, .inr (.inl fB)))] H locs := hw
    refine lv_aload_n hx hb dX0_enter_37 rfl (lv_at hl 0 rfl) ?_
    refine r_get cx hw inX0_enter_0 0 3 rfl rfl (by decide) lkX0_enter_2 rfl dX0_enter_38 ?_
    refine lv_iconst (v := nI 1) hx hb dX0_enter_41 (by decide) ?_
    refine r_isub cx (na + 1) 1 rfl rfl (by omega) dX0_enter_42 ?_
    subst hQ
    exact r_reti (v := nI (na + 1 - 1)) cx hr rfl hlk hw (Nat.le_of_ble_eq_true rfl) (Nat.le_of_ble_eq_true rfl) () rfl [0, 1, 2, 3] (by decide) rfl dX0_enter_43


set_option maxRecDepth 100000 in
set_option maxHeartbeats 4000000 in
theorem mX0_halfDeletionsPrice (l : Launch) (D : va_G) (cC cI cJ cZ cD : ClassId) (kd c9 ra : Int32) (sz : Nat) : MI l yX0_halfDeletionsPrice wsX0_halfDeletionsPrice ({ frames := 0, cells := 0, slots := 0, locals := 0 }) [.int kd, .int c9, .int ra] D (TY cC cI cJ cZ cD) [] sz (fun (r : Int32) => fun (_ : Unit) => r = hdp kd c9 ra) (fun (_ : Unit) => []) 0 0 := by
  refine mk_MI (cc := cX0_halfDeletionsPrice) (maxL := 3) (ret := (some .int)) (by decide) rfl (Nat.le_of_ble_eq_true rfl) ?_
  intro p e s mI args below meth cO A cx hr hlk hnm hw ls hl
  have hx := cx.1
  have hb := cx.2.1
  have hw : ww D (TY cC cI cJ cZ cD) s A s.heap [] s.heap [] := hw
  have hl : lv_has ls 3 [(0, .int kd), (1, .int c9), (2, .int ra)] := hl
  generalize hQ : MQ _ _ _ _ _ _ _ = Q
  refine hp_start hw (fun H locs hw => ?_)
  refine lv_iload_n hx hb dX0_halfDeletionsPrice_0 rfl (lv_at hl 0 rfl) ?_
  refine lv_bipush (v := nI 105) hx hb dX0_halfDeletionsPrice_1 (by decide) ?_
  refine lv_icmp_ne (tgt := 10) hx hb dX0_halfDeletionsPrice_3 (by decide) (fun c3 => ?_) (fun c3 => ?_)
  · refine lv_iload_n hx hb dX0_halfDeletionsPrice_10 rfl (lv_at hl 0 rfl) ?_
    refine lv_bipush (v := nI 100) hx hb dX0_halfDeletionsPrice_11 (by decide) ?_
    refine lv_icmp_ne (tgt := 24) hx hb dX0_halfDeletionsPrice_13 (by decide) (fun c13 => ?_) (fun c13 => ?_)
    · refine lv_iconst (v := nI 0) hx hb dX0_halfDeletionsPrice_24 (by decide) ?_
      subst hQ
      exact r_reti (v := nI 0) cx hr rfl hlk hw (Nat.le_of_ble_eq_true rfl) (Nat.le_of_ble_eq_true rfl) () (by rw [hdp, if_neg c3, if_neg c13]) [] (by decide) rfl dX0_halfDeletionsPrice_25
    · refine lv_iload_n hx hb dX0_halfDeletionsPrice_16 rfl (lv_at hl 1 rfl) ?_
      refine lv_iload_n hx hb dX0_halfDeletionsPrice_17 rfl (lv_at hl 2 rfl) ?_
      refine lv_imul hx hb dX0_halfDeletionsPrice_18 ?_
      refine lv_iconst (v := nI 2) hx hb dX0_halfDeletionsPrice_19 (by decide) ?_
      refine lv_idiv hx hb dX0_halfDeletionsPrice_20 (by decide) ?_
      refine lv_goto (tgt := 25) hx hb dX0_halfDeletionsPrice_21 (by decide) ?_
      subst hQ
      exact r_reti (v := (c9 * ra) / (nI 2)) cx hr rfl hlk hw (Nat.le_of_ble_eq_true rfl) (Nat.le_of_ble_eq_true rfl) () (by rw [hdp, if_neg c3, if_pos c13]) [] (by decide) rfl dX0_halfDeletionsPrice_25
  · refine lv_iload_n hx hb dX0_halfDeletionsPrice_6 rfl (lv_at hl 1 rfl) ?_
    refine lv_iload_n hx hb dX0_halfDeletionsPrice_7 rfl (lv_at hl 2 rfl) ?_
    refine lv_imul hx hb dX0_halfDeletionsPrice_8 ?_
    subst hQ
    exact r_reti (v := c9 * ra) cx hr rfl hlk hw (Nat.le_of_ble_eq_true rfl) (Nat.le_of_ble_eq_true rfl) () (by rw [hdp, if_pos c3]) [] (by decide) rfl dX0_halfDeletionsPrice_9

theorem lkX0_priceOf_1 : Cond.fieldLink RX0 15 "SignedDocument$AuthorBook" "rates" "[I" ∈ wsX0_priceOf := List.mem_of_getElem? (i := 1) rfl
theorem inX0_priceOf_0 : ∀ w ∈ u_ws RX0 TX0 4, w ∈ wsX0_priceOf := fun _ h => List.mem_cons_of_mem _ (List.mem_append_left _ (List.mem_append_right _ h))
theorem lkX0_priceOf_2 : Cond.fieldLink RX0 9 "SignedDocument$AuthorBook" "schemes" "[I" ∈ wsX0_priceOf := List.mem_of_getElem? (i := 2) rfl
theorem lkX0_priceOf_3 : Cond.methodLink RX0 34 Lib.Math.max.name ∈ wsX0_priceOf := List.mem_of_getElem? (i := 3) rfl
theorem lkX0_priceOf_4 : Cond.static Lib.Math.max.name ∈ wsX0_priceOf := List.mem_of_getElem? (i := 4) rfl
theorem lkX0_priceOf_5 : Cond.initialized "java/lang/Math" ∈ wsX0_priceOf := List.mem_of_getElem? (i := 5) rfl
theorem lkX0_priceOf_6 : Cond.code Lib.Math.max.name Lib.Math.max.code 2 (some .int) ∈ wsX0_priceOf := List.mem_of_getElem? (i := 6) rfl
set_option maxRecDepth 100000 in
set_option maxHeartbeats 4000000 in
theorem mX0_priceOf (l : Launch) (D : va_G) (cC cI cJ cZ cD : ClassId) (h0 h0S h0R h0B : Nat) (na : Nat) (fS fR : Nat → Int32) (fB : Nat → Int64) (a9 c9 : Nat) (kd : Int32) (sz : Nat) (ha : a9 < 5) (hc9 : c9 ≤ 60) : MI l yX0_priceOf wsX0_priceOf ({ frames := 1, cells := 0, slots := 0, locals := 22 }) [.ref h0, .int (nI a9), .int kd, .int (nI c9)] D (TY cC cI cJ cZ cD) [(h0, .inr (2, [.ref h0S, .ref h0R, .ref h0B, .int (nI na)])), (h0S, .inl (cI, 5, .inl fS)), (h0R, .inl (cI, 5, .inl fR)), (h0B, .inl (cJ, 5, .inr (.inl fB)))] sz (fun (r : Int32) => fun (_ : Unit) => r = prc (fR a9) (fS a9) kd c9) (fun (_ : Unit) => [(h0, .inr (2, [.ref h0S, .ref h0R, .ref h0B, .int (nI na)])), (h0S, .inl (cI, 5, .inl fS)), (h0R, .inl (cI, 5, .inl fR)), (h0B, .inl (cJ, 5, .inr (.inl fB)))]) 0 0 := by
  refine mk_MI (cc := cX0_priceOf) (maxL := 6) (ret := (some .int)) (by decide) rfl (Nat.le_of_ble_eq_true rfl) ?_
  intro p e s mI args below meth cO A cx hr hlk hnm hw ls hl
  have hx := cx.1
  have hb := cx.2.1
  have hw : ww D (TY cC cI cJ cZ cD) s A s.heap [(h0, .inr (2, [.ref h0S, .ref h0R, .ref h0B, .int (nI na)])), (h0S, .inl (cI, 5, .inl fS)), (h0R, .inl (cI, 5, .inl fR)), (h0B, .inl (cJ, 5, .inr (.inl fB)))] s.heap [] := hw
  have hl : lv_has ls 6 [(0, .ref h0), (1, .int (nI a9)), (2, .int kd), (3, .int (nI c9))] := hl
  generalize hQ : MQ _ _ _ _ _ _ _ = Q
  refine hp_start hw (fun H locs hw => ?_)
  refine lv_aload_n hx hb dX0_priceOf_0 rfl (lv_at hl 0 rfl) ?_
  refine r_get cx hw inX0_priceOf_0 0 1 rfl rfl (by decide) lkX0_priceOf_1 rfl dX0_priceOf_1 ?_
  refine lv_iload_n hx hb dX0_priceOf_4 rfl (lv_at hl 1 rfl) ?_
  refine r_iald cx hw 2 1 rfl rfl a9 rfl (by omega) (by omega) dX0_priceOf_5 ?_
  refine lv_istore (lv' := [(4, .int (fR a9)), (0, .ref h0), (1, .int (nI a9)), (2, .int kd), (3, .int (nI c9))]) hx hb dX0_priceOf_6 hl (by decide) rfl (fun ls hl => ?_)
  refine lv_aload_n hx hb dX0_priceOf_8 rfl (lv_at hl 1 rfl) ?_
  refine r_get cx hw inX0_priceOf_0 0 0 rfl rfl (by decide) lkX0_priceOf_2 rfl dX0_priceOf_9 ?_
  refine lv_iload_n hx hb dX0_priceOf_12 rfl (lv_at hl 2 rfl) ?_
  refine r_iald cx hw 1 1 rfl rfl a9 rfl (by omega) (by omega) dX0_priceOf_13 ?_
  refine lv_istore (lv' := [(5, .int (fS a9)), (4, .int (fR a9)), (0, .ref h0), (1, .int (nI a9)), (2, .int kd), (3, .int (nI c9))]) hx hb dX0_priceOf_14 hl (by decide) rfl (fun ls hl => ?_)
  refine lv_iload hx hb dX0_priceOf_16 (lv_at hl 0 rfl) ?_
  refine lv_if_ne (tgt := 26) hx hb dX0_priceOf_18 (by decide) (fun c18 => ?_) (fun c18 => ?_)
  · refine lv_iload hx hb dX0_priceOf_26 (lv_at hl 0 rfl) ?_
    refine lv_iconst (v := nI 1) hx hb dX0_priceOf_28 (by decide) ?_
    refine lv_icmp_ne (tgt := 35) hx hb dX0_priceOf_29 (by decide) (fun c29 => ?_) (fun c29 => ?_)
    · refine lv_iload hx hb dX0_priceOf_35 (lv_at hl 0 rfl) ?_
      refine lv_iconst (v := nI 2) hx hb dX0_priceOf_37 (by decide) ?_
      refine lv_icmp_ne (tgt := 49) hx hb dX0_priceOf_38 (by decide) (fun c38 => ?_) (fun c38 => ?_)
      · refine lv_iload_n hx hb dX0_priceOf_49 rfl (lv_at hl 5 rfl) ?_
        refine lv_iconst (v := nI 2) hx hb dX0_priceOf_50 (by decide) ?_
        refine r_mmax cx c9 2 rfl rfl (by omega) (by omega) lkX0_priceOf_3 lkX0_priceOf_4 lkX0_priceOf_5 lkX0_priceOf_6 hl.1 (Nat.le_of_ble_eq_true rfl) (Nat.le_of_ble_eq_true rfl) (Nat.zero_le _) (Nat.zero_le _) dX0_priceOf_51 ?_
        refine lv_iload hx hb dX0_priceOf_54 (lv_at hl 1 rfl) ?_
        refine lv_imul hx hb dX0_priceOf_56 ?_
        subst hQ
        exact r_reti (v := (nI (max c9 2)) * (fR a9)) cx hr rfl hlk hw (Nat.le_of_ble_eq_true rfl) (Nat.le_of_ble_eq_true rfl) () (by rw [prc, if_neg c18, if_neg c29, if_neg c38]) [0, 1, 2, 3] (by decide) rfl dX0_priceOf_57
      · refine lv_iload_n hx hb dX0_priceOf_41 rfl (lv_at hl 4 rfl) ?_
        refine lv_iload_n hx hb dX0_priceOf_42 rfl (lv_at hl 5 rfl) ?_
        refine lv_iload hx hb dX0_priceOf_43 (lv_at hl 1 rfl) ?_
        refine r_callSi (n := 3) (wr := [(h0, .inr (2, [.ref h0S, .ref h0R, .ref h0B, .int (nI na)])), (h0S, .inl (cI, 5, .inl fS)), (h0R, .inl (cI, 5, .inl fR)), (h0B, .inl (cJ, 5, .inr (.inl fB)))]) cx hw (mX0_halfDeletionsPrice l D cC cI cJ cZ cD kd (nI c9) (fR a9) H.size) [] [0, 1, 2, 3] gX0_priceOf_X0_halfDeletionsPrice rfl rfl rfl (by decide +kernel) ⟨Nat.le_of_ble_eq_true rfl, Nat.le_of_ble_eq_true rfl⟩ rfl rfl (by decide) (by decide) (by decide) rfl rfl hl.1 (Nat.le_of_ble_eq_true rfl) dX0_priceOf_45 ⟨Nat.le_of_ble_eq_true rfl, Nat.le_of_ble_eq_true rfl⟩ (fun r_1 u H locs hp hw => ?_)
        have hw : ww D (TY cC cI cJ cZ cD) s A s.heap [(h0, .inr (2, [.ref h0S, .ref h0R, .ref h0B, .int (nI na)])), (h0S, .inl (cI, 5, .inl fS)), (h0R, .inl (cI, 5, .inl fR)), (h0B, .inl (cJ, 5, .inr (.inl fB)))] H locs := hw
        try dsimp only at hp
        subst hp
        subst hQ
        exact r_reti (v := hdp kd (nI c9) (fR a9)) cx hr rfl hlk hw (Nat.le_of_ble_eq_true rfl) (Nat.le_of_ble_eq_true rfl) () (by rw [prc, if_neg c18, if_neg c29, if_pos c38]) [0, 1, 2, 3] (by decide) rfl dX0_priceOf_48
    · refine lv_iload hx hb dX0_priceOf_32 (lv_at hl 1 rfl) ?_
      subst hQ
      exact r_reti (v := fR a9) cx hr rfl hlk hw (Nat.le_of_ble_eq_true rfl) (Nat.le_of_ble_eq_true rfl) () (by rw [prc, if_neg c18, if_pos c29]) [0, 1, 2, 3] (by decide) rfl dX0_priceOf_34
  · refine lv_iload_n hx hb dX0_priceOf_21 rfl (lv_at hl 5 rfl) ?_
    refine lv_iload hx hb dX0_priceOf_22 (lv_at hl 1 rfl) ?_
    refine lv_imul hx hb dX0_priceOf_24 ?_
    subst hQ
    exact r_reti (v := (nI c9) * (fR a9)) cx hr rfl hlk hw (Nat.le_of_ble_eq_true rfl) (Nat.le_of_ble_eq_true rfl) () (by rw [prc, if_pos c18]) [0, 1, 2, 3] (by decide) rfl dX0_priceOf_25

theorem lkX1_init_1 : Cond.methodLink RX1 3 objectInit ∈ wsX1_init := List.mem_of_getElem? (i := 1) rfl
theorem lkX1_init_2 : Cond.instanceMethod objectInit ∈ wsX1_init := List.mem_of_getElem? (i := 2) rfl
theorem lkX1_init_3 : Cond.code objectInit ⟨#[0xb1]⟩ 1 none ∈ wsX1_init := List.mem_of_getElem? (i := 3) rfl
theorem lkX1_init_4 : Cond.arrayClass .int ∈ wsX1_init := List.mem_of_getElem? (i := 4) rfl
theorem lkX1_init_5 : Cond.fieldLink RX1 9 "SignedDocument$ClauseBook" "positions" "[I" ∈ wsX1_init := List.mem_of_getElem? (i := 5) rfl
theorem inX1_init_1 : ∀ w ∈ u_ws RX1 TX1 5, w ∈ wsX1_init := fun _ h => List.mem_cons_of_mem _ (List.mem_append_right _ h)
theorem lkX1_init_6 : Cond.fieldLink RX1 15 "SignedDocument$ClauseBook" "counts" "[I" ∈ wsX1_init := List.mem_of_getElem? (i := 6) rfl
theorem lkX1_init_7 : Cond.fieldLink RX1 18 "SignedDocument$ClauseBook" "editsBefore" "[I" ∈ wsX1_init := List.mem_of_getElem? (i := 7) rfl
theorem lkX1_init_8 : Cond.arrayClass .boolean ∈ wsX1_init := List.mem_of_getElem? (i := 8) rfl
theorem lkX1_init_9 : Cond.fieldLink RX1 21 "SignedDocument$ClauseBook" "locked" "[Z" ∈ wsX1_init := List.mem_of_getElem? (i := 9) rfl
theorem lkX1_init_10 : Cond.fieldLink RX1 25 "SignedDocument$ClauseBook" "size" "I" ∈ wsX1_init := List.mem_of_getElem? (i := 10) rfl
set_option maxRecDepth 100000 in
set_option maxHeartbeats 4000000 in
theorem mX1_init (l : Launch) (D : va_G) (cC cI cJ cZ cD : ClassId) (h0 : Nat) (sz : Nat) : MV l yX1_init wsX1_init ({ frames := 1, cells := 4, slots := 24, locals := 20 }) [.ref h0] D (TY cC cI cJ cZ cD) [(h0, .inr (3, [.null, .null, .null, .null, .int (nI 0)]))] sz (fun (uu : Nat × Nat × Nat × Nat) => match uu with | (a1, a2, a3, a4) => True) (fun (uu : Nat × Nat × Nat × Nat) => match uu with | (a1, a2, a3, a4) => [(h0, .inr (3, [.ref a1, .ref a2, .ref a3, .ref a4, .int (nI 0)])), (a1, .inl (cI, 6, .inl (fun jj => nI ((fun _ => 0) jj)))), (a2, .inl (cI, 6, .inl (fun jj => nI ((fun _ => 0) jj)))), (a3, .inl (cI, 6, .inl (fun jj => nI ((fun _ => 0) jj)))), (a4, .inl (cZ, 6, .inl (fun _ => nI 0)))]) 4 24 := by
  refine mk_MV (cc := cX1_init) (maxL := 1) (ret := none) (by decide) rfl (Nat.le_of_ble_eq_true rfl) ?_
  intro p e s mI args below meth cO A cx hr hlk hnm hw ls hl
  have hx := cx.1
  have hb := cx.2.1
  have hw : ww D (TY cC cI cJ cZ cD) s A s.heap [(h0, .inr (3, [.null, .null, .null, .null, .int (nI 0)]))] s.heap [] := hw
  have hl : lv_has ls 1 [(0, .ref h0)] := hl
  generalize hQ : MQ _ _ _ _ _ _ _ = Q
  refine hp_start hw (fun H locs hw => ?_)
  refine lv_aload_n hx hb dX1_init_0 rfl (lv_at hl 0 rfl) ?_
  refine W.objInit hx hb cx.2.2.2.1 (cx.2.2.2.2 _ lkX1_init_1) (cx.2.2.2.2 _ lkX1_init_2) (cx.2.2.2.2 _ lkX1_init_3) rfl (by rw [cx.2.2.1]; exact hl.1) rfl dX1_init_1 (Nat.le_of_ble_eq_true rfl) (Nat.le_of_ble_eq_true rfl) ?_
  refine W.eq (g2 := F0 mI 4 ls []) rfl ?_
  refine lv_aload_n hx hb dX1_init_4 rfl (lv_at hl 0 rfl) ?_
  refine lv_bipush (v := nI 6) hx hb dX1_init_5 (by decide) ?_
  refine r_newa_I cx hw lkX1_init_4 rfl (Nat.le_of_ble_eq_true rfl) rfl (Nat.le_of_ble_eq_true rfl) (Nat.le_of_ble_eq_true rfl) dX1_init_7 (fun q1 H hw => ?_)
  have hw : ww D (TY cC cI cJ cZ cD) s A s.heap [(h0, .inr (3, [.null, .null, .null, .null, .int (nI 0)])), (q1, .inl (cI, 6, .inl (fun _ => 0)))] H locs := hw
  refine r_putF cx hw inX1_init_1 tyX1 tyX1_ok nmX1 0 0 rfl rfl (by decide) lkX1_init_5 rfl hnm rfl rfl rfl (Nat.le_of_ble_eq_true rfl) dX1_init_9 (fun H locs hw => ?_)
  have hw : ww D (TY cC cI cJ cZ cD) s A s.heap [(h0, .inr (3, [.ref q1, .null, .null, .null, .int (nI 0)])), (q1, .inl (cI, 6, .inl (fun _ => 0)))] H locs := hw
  refine lv_aload_n hx hb dX1_init_12 rfl (lv_at hl 0 rfl) ?_
  refine lv_bipush (v := nI 6) hx hb dX1_init_13 (by decide) ?_
  refine r_newa_I cx hw lkX1_init_4 rfl (Nat.le_of_ble_eq_true rfl) rfl (Nat.le_of_ble_eq_true rfl) (Nat.le_of_ble_eq_true rfl) dX1_init_15 (fun q2 H hw => ?_)
  have hw : ww D (TY cC cI cJ cZ cD) s A s.heap [(h0, .inr (3, [.ref q1, .null, .null, .null, .int (nI 0)])), (q1, .inl (cI, 6, .inl (fun _ => 0))), (q2, .inl (cI, 6, .inl (fun _ => 0)))] H locs := hw
  refine r_putF cx hw inX1_init_1 tyX1 tyX1_ok nmX1 0 1 rfl rfl (by decide) lkX1_init_6 rfl hnm rfl rfl rfl (Nat.le_of_ble_eq_true rfl) dX1_init_17 (fun H locs hw => ?_)
  have hw : ww D (TY cC cI cJ cZ cD) s A s.heap [(h0, .inr (3, [.ref q1, .ref q2, .null, .null, .int (nI 0)])), (q1, .inl (cI, 6, .inl (fun _ => 0))), (q2, .inl (cI, 6, .inl (fun _ => 0)))] H locs := hw
  refine lv_aload_n hx hb dX1_init_20 rfl (lv_at hl 0 rfl) ?_
  refine lv_bipush (v := nI 6) hx hb dX1_init_21 (by decide) ?_
  refine r_newa_I cx hw lkX1_init_4 rfl (Nat.le_of_ble_eq_true rfl) rfl (Nat.le_of_ble_eq_true rfl) (Nat.le_of_ble_eq_true rfl) dX1_init_23 (fun q3 H hw => ?_)
  have hw : ww D (TY cC cI cJ cZ cD) s A s.heap [(h0, .inr (3, [.ref q1, .ref q2, .null, .null, .int (nI 0)])), (q1, .inl (cI, 6, .inl (fun _ => 0))), (q2, .inl (cI, 6, .inl (fun _ => 0))), (q3, .inl (cI, 6, .inl (fun _ => 0)))] H locs := hw
  refine r_putF cx hw inX1_init_1 tyX1 tyX1_ok nmX1 0 2 rfl rfl (by decide) lkX1_init_7 rfl hnm rfl rfl rfl (Nat.le_of_ble_eq_true rfl) dX1_init_25 (fun H locs hw => ?_)
  have hw : ww D (TY cC cI cJ cZ cD) s A s.heap [(h0, .inr (3, [.ref q1, .ref q2, .ref q3, .null, .int (nI 0)])), (q1, .inl (cI, 6, .inl (fun _ => 0))), (q2, .inl (cI, 6, .inl (fun _ => 0))), (q3, .inl (cI, 6, .inl (fun _ => 0)))] H locs := hw
  refine lv_aload_n hx hb dX1_init_28 rfl (lv_at hl 0 rfl) ?_
  refine lv_bipush (v := nI 6) hx hb dX1_init_29 (by decide) ?_
  refine r_newa_Z cx hw lkX1_init_8 rfl (Nat.le_of_ble_eq_true rfl) rfl (Nat.le_of_ble_eq_true rfl) (Nat.le_of_ble_eq_true rfl) dX1_init_31 (fun q4 H hw => ?_)
  have hw : ww D (TY cC cI cJ cZ cD) s A s.heap [(h0, .inr (3, [.ref q1, .ref q2, .ref q3, .null, .int (nI 0)])), (q1, .inl (cI, 6, .inl (fun _ => 0))), (q2, .inl (cI, 6, .inl (fun _ => 0))), (q3, .inl (cI, 6, .inl (fun _ => 0))), (q4, .inl (cZ, 6, .inl (fun _ => 0)))] H locs := hw
  refine r_putF cx hw inX1_init_1 tyX1 tyX1_ok nmX1 0 3 rfl rfl (by decide) lkX1_init_9 rfl hnm rfl rfl rfl (Nat.le_of_ble_eq_true rfl) dX1_init_33 (fun H locs hw => ?_)
  have hw : ww D (TY cC cI cJ cZ cD) s A s.heap [(h0, .inr (3, [.ref q1, .ref q2, .ref q3, .ref q4, .int (nI 0)])), (q1, .inl (cI, 6, .inl (fun _ => 0))), (q2, .inl (cI, 6, .inl (fun _ => 0))), (q3, .inl (cI, 6, .inl (fun _ => 0))), (q4, .inl (cZ, 6, .inl (fun _ => 0)))] H locs := hw
  refine lv_aload_n hx hb dX1_init_36 rfl (lv_at hl 0 rfl) ?_
  refine lv_iconst (v := nI 0) hx hb dX1_init_37 (by decide) ?_
  refine r_put cx hw inX1_init_1 tyX1 tyX1_ok nmX1 0 4 rfl rfl (by decide) lkX1_init_10 rfl rfl rfl (Nat.le_of_ble_eq_true rfl) dX1_init_38 (fun H locs hw => ?_)
  have hw : ww D (TY cC cI cJ cZ cD) s A s.heap [(h0, .inr (3, [.ref q1, .ref q2, .ref q3, .ref q4, .int (nI 0)])), (q1, .inl (cI, 6, .inl (fun _ => 0))), (q2, .inl (cI, 6, .inl (fun _ => 0))), (q3, .inl (cI, 6, .inl (fun _ => 0))), (q4, .inl (cZ, 6, .inl (fun _ => 0)))] H locs := hw
  subst hQ
  exact r_retv cx hr hlk hw (Nat.le_of_ble_eq_true rfl) (Nat.le_of_ble_eq_true rfl) (q1, q2, q3, q4) trivial [0, 1, 2, 3, 4] (by decide) rfl dX1_init_41

theorem lkX1_isFull_1 : Cond.fieldLink RX1 25 "SignedDocument$ClauseBook" "size" "I" ∈ wsX1_isFull := List.mem_of_getElem? (i := 1) rfl
theorem inX1_isFull_1 : ∀ w ∈ u_ws RX1 TX1 5, w ∈ wsX1_isFull := fun _ h => List.mem_cons_of_mem _ (List.mem_append_right _ h)
set_option maxRecDepth 100000 in
set_option maxHeartbeats 4000000 in
theorem mX1_isFull (l : Launch) (D : va_G) (cC cI cJ cZ cD : ClassId) (h0 h0P h0K h0E h0Z : Nat) (nc : Nat) (gP gK gE : Nat → Nat) (fZ : Nat → Int32) (sz : Nat) (hnc : nc ≤ 6) : MI l yX1_isFull wsX1_isFull ({ frames := 0, cells := 0, slots := 0, locals := 0 }) [.ref h0] D (TY cC cI cJ cZ cD) [(h0, .inr (3, [.ref h0P, .ref h0K, .ref h0E, .ref h0Z, .int (nI nc)])), (h0P, .inl (cI, 6, .inl (fun jj => nI (gP jj)))), (h0K, .inl (cI, 6, .inl (fun jj => nI (gK jj)))), (h0E, .inl (cI, 6, .inl (fun jj => nI (gE jj)))), (h0Z, .inl (cZ, 6, .inl fZ))] sz (fun (r : Int32) => fun (_ : Unit) => ((r = nI 1 ∧ (6 ≤ nc)) ∨ (r = nI 0 ∧ ¬ (6 ≤ nc)))) (fun (_ : Unit) => [(h0, .inr (3, [.ref h0P, .ref h0K, .ref h0E, .ref h0Z, .int (nI nc)])), (h0P, .inl (cI, 6, .inl (fun jj => nI (gP jj)))), (h0K, .inl (cI, 6, .inl (fun jj => nI (gK jj)))), (h0E, .inl (cI, 6, .inl (fun jj => nI (gE jj)))), (h0Z, .inl (cZ, 6, .inl fZ))]) 0 0 := by
  refine mk_MI (cc := cX1_isFull) (maxL := 1) (ret := (some .boolean)) (by decide) rfl (Nat.le_of_ble_eq_true rfl) ?_
  intro p e s mI args below meth cO A cx hr hlk hnm hw ls hl
  have hx := cx.1
  have hb := cx.2.1
  have hw : ww D (TY cC cI cJ cZ cD) s A s.heap [(h0, .inr (3, [.ref h0P, .ref h0K, .ref h0E, .ref h0Z, .int (nI nc)])), (h0P, .inl (cI, 6, .inl (fun jj => nI (gP jj)))), (h0K, .inl (cI, 6, .inl (fun jj => nI (gK jj)))), (h0E, .inl (cI, 6, .inl (fun jj => nI (gE jj)))), (h0Z, .inl (cZ, 6, .inl fZ))] s.heap [] := hw
  have hl : lv_has ls 1 [(0, .ref h0)] := hl
  generalize hQ : MQ _ _ _ _ _ _ _ = Q
  refine hp_start hw (fun H locs hw => ?_)
  refine lv_aload_n hx hb dX1_isFull_0 rfl (lv_at hl 0 rfl) ?_
  refine r_get cx hw inX1_isFull_1 0 4 rfl rfl (by decide) lkX1_isFull_1 rfl dX1_isFull_1 ?_
  refine lv_bipush (v := nI 6) hx hb dX1_isFull_4 (by decide) ?_
  refine r_icmp_lt cx 13 nc 6 rfl rfl (by omega) (by omega) dX1_isFull_6 (by decide) (fun c6 => ?_) (fun c6 => ?_)
  · refine lv_iconst (v := nI 0) hx hb dX1_isFull_13 (by decide) ?_
    subst hQ
    exact r_reti (v := nI 0) cx hr (by decide) hlk hw (Nat.le_of_ble_eq_true rfl) (Nat.le_of_ble_eq_true rfl) () (by right; exact ⟨rfl, by omega⟩) [0, 1, 2, 3, 4] (by decide) rfl dX1_isFull_14
  · refine lv_iconst (v := nI 1) hx hb dX1_isFull_9 (by decide) ?_
    refine lv_goto (tgt := 14) hx hb dX1_isFull_10 (by decide) ?_
    subst hQ
    exact r_reti (v := nI 1) cx hr (by decide) hlk hw (Nat.le_of_ble_eq_true rfl) (Nat.le_of_ble_eq_true rfl) () (by left; exact ⟨rfl, by omega⟩) [0, 1, 2, 3, 4] (by decide) rfl dX1_isFull_14

theorem lkX1_enter_1 : Cond.fieldLink RX1 9 "SignedDocument$ClauseBook" "positions" "[I" ∈ wsX1_enter := List.mem_of_getElem? (i := 1) rfl
theorem inX1_enter_1 : ∀ w ∈ u_ws RX1 TX1 5, w ∈ wsX1_enter := fun _ h => List.mem_cons_of_mem _ (List.mem_append_left _ (List.mem_append_right _ h))
theorem lkX1_enter_2 : Cond.fieldLink RX1 25 "SignedDocument$ClauseBook" "size" "I" ∈ wsX1_enter := List.mem_of_getElem? (i := 2) rfl
theorem lkX1_enter_3 : Cond.fieldLink RX1 15 "SignedDocument$ClauseBook" "counts" "[I" ∈ wsX1_enter := List.mem_of_getElem? (i := 3) rfl
theorem lkX1_enter_4 : Cond.fieldLink RX1 18 "SignedDocument$ClauseBook" "editsBefore" "[I" ∈ wsX1_enter := List.mem_of_getElem? (i := 4) rfl
set_option maxRecDepth 100000 in
set_option maxHeartbeats 4000000 in
theorem mX1_enter (l : Launch) (D : va_G) (cC cI cJ cZ cD : ClassId) (h0 h0P h0K h0E h0Z : Nat) (nc : Nat) (gP gK gE : Nat → Nat) (fZ : Nat → Int32) (p9 k9 e9 : Nat) (sz : Nat) (hnc : nc < 6) : MI l yX1_enter wsX1_enter ({ frames := 1, cells := 0, slots := 0, locals := 20 }) [.ref h0, .int (nI p9), .int (nI k9), .int (nI e9)] D (TY cC cI cJ cZ cD) [(h0, .inr (3, [.ref h0P, .ref h0K, .ref h0E, .ref h0Z, .int (nI nc)])), (h0P, .inl (cI, 6, .inl (fun jj => nI (gP jj)))), (h0K, .inl (cI, 6, .inl (fun jj => nI (gK jj)))), (h0E, .inl (cI, 6, .inl (fun jj => nI (gE jj)))), (h0Z, .inl (cZ, 6, .inl fZ))] sz (fun (r : Int32) => fun (_ : Unit) => r = nI nc) (fun (_ : Unit) => [(h0, .inr (3, [.ref h0P, .ref h0K, .ref h0E, .ref h0Z, .int (nI (nc + 1))])), (h0P, .inl (cI, 6, .inl (fun jj => nI ((va_up gP nc p9) jj)))), (h0K, .inl (cI, 6, .inl (fun jj => nI ((va_up gK nc k9) jj)))), (h0E, .inl (cI, 6, .inl (fun jj => nI ((va_up gE nc e9) jj)))), (h0Z, .inl (cZ, 6, .inl fZ))]) 0 0 := by
  refine mk_MI (cc := cX1_enter) (maxL := 4) (ret := (some .int)) (by decide) rfl (Nat.le_of_ble_eq_true rfl) ?_
  intro p e s mI args below meth cO A cx hr hlk hnm hw ls hl
  have hx := cx.1
  have hb := cx.2.1
  have hw : ww D (TY cC cI cJ cZ cD) s A s.heap [(h0, .inr (3, [.ref h0P, .ref h0K, .ref h0E, .ref h0Z, .int (nI nc)])), (h0P, .inl (cI, 6, .inl (fun jj => nI (gP jj)))), (h0K, .inl (cI, 6, .inl (fun jj => nI (gK jj)))), (h0E, .inl (cI, 6, .inl (fun jj => nI (gE jj)))), (h0Z, .inl (cZ, 6, .inl fZ))] s.heap [] := hw
  have hl : lv_has ls 4 [(0, .ref h0), (1, .int (nI p9)), (2, .int (nI k9)), (3, .int (nI e9))] := hl
  generalize hQ : MQ _ _ _ _ _ _ _ = Q
  refine hp_start hw (fun H locs hw => ?_)
  refine lv_aload_n hx hb dX1_enter_0 rfl (lv_at hl 0 rfl) ?_
  refine r_callVi (n := 0) (wr := []) cx hw (mX1_isFull l D cC cI cJ cZ cD h0 h0P h0K h0E h0Z nc gP gK gE fZ H.size (by omega)) [0, 1, 2, 3, 4] [] gX1_enter_X1_isFull rfl rfl rfl (by decide +kernel) ⟨Nat.le_of_ble_eq_true rfl, Nat.le_of_ble_eq_true rfl⟩ (q0 := 0) rfl rfl rfl rfl (by decide) (by decide) (by decide) rfl rfl hl.1 (Nat.le_of_ble_eq_true rfl) dX1_enter_1 ⟨Nat.le_of_ble_eq_true rfl, Nat.le_of_ble_eq_true rfl⟩ (fun r_1 u H locs hp hw => ?_)
  have hw : ww D (TY cC cI cJ cZ cD) s A s.heap [(h0, .inr (3, [.ref h0P, .ref h0K, .ref h0E, .ref h0Z, .int (nI nc)])), (h0P, .inl (cI, 6, .inl (fun jj => nI (gP jj)))), (h0K, .inl (cI, 6, .inl (fun jj => nI (gK jj)))), (h0E, .inl (cI, 6, .inl (fun jj => nI (gE jj)))), (h0Z, .inl (cZ, 6, .inl fZ))] H locs := hw
  try dsimp only at hp
  have hb9 := hp
  rcases hb9 with ⟨rfl, b1⟩ | ⟨rfl, b1⟩
  · omega
  · refine r_if_ne cx 47 0 rfl (by omega) dX1_enter_4 (by decide) (fun c4 => by exact absurd c4 (by decide)) (fun c4 => ?_)
    refine lv_aload_n hx hb dX1_enter_7 rfl (lv_at hl 0 rfl) ?_
    refine r_get cx hw inX1_enter_1 0 0 rfl rfl (by decide) lkX1_enter_1 rfl dX1_enter_8 ?_
    refine lv_aload_n hx hb dX1_enter_11 rfl (lv_at hl 0 rfl) ?_
    refine r_get cx hw inX1_enter_1 0 4 rfl rfl (by decide) lkX1_enter_2 rfl dX1_enter_12 ?_
    refine lv_iload_n hx hb dX1_enter_15 rfl (lv_at hl 1 rfl) ?_
    refine r_iastN cx hw 1 1 rfl rfl nc p9 rfl rfl (by omega) (by omega) dX1_enter_16 (fun H locs hw => ?_)
    have hw : ww D (TY cC cI cJ cZ cD) s A s.heap [(h0, .inr (3, [.ref h0P, .ref h0K, .ref h0E, .ref h0Z, .int (nI nc)])), (h0P, .inl (cI, 6, .inl (fun jj => nI ((va_up gP nc p9) jj)))), (h0K, .inl (cI, 6, .inl (fun jj => nI (gK jj)))), (h0E, .inl (cI, 6, .inl (fun jj => nI (gE jj)))), (h0Z, .inl (cZ, 6, .inl fZ))] H locs := hw
    refine lv_aload_n hx hb dX1_enter_17 rfl (lv_at hl 0 rfl) ?_
    refine r_get cx hw inX1_enter_1 0 1 rfl rfl (by decide) lkX1_enter_3 rfl dX1_enter_18 ?_
    refine lv_aload_n hx hb dX1_enter_21 rfl (lv_at hl 0 rfl) ?_
    refine r_get cx hw inX1_enter_1 0 4 rfl rfl (by decide) lkX1_enter_2 rfl dX1_enter_22 ?_
    refine lv_iload_n hx hb dX1_enter_25 rfl (lv_at hl 2 rfl) ?_
    refine r_iastN cx hw 2 1 rfl rfl nc k9 rfl rfl (by omega) (by omega) dX1_enter_26 (fun H locs hw => ?_)
    have hw : ww D (TY cC cI cJ cZ cD) s A s.heap [(h0, .inr (3, [.ref h0P, .ref h0K, .ref h0E, .ref h0Z, .int (nI nc)])), (h0P, .inl (cI, 6, .inl (fun jj => nI ((va_up gP nc p9) jj)))), (h0K, .inl (cI, 6, .inl (fun jj => nI ((va_up gK nc k9) jj)))), (h0E, .inl (cI, 6, .inl (fun jj => nI (gE jj)))), (h0Z, .inl (cZ, 6, .inl fZ))] H locs := hw
    refine lv_aload_n hx hb dX1_enter_27 rfl (lv_at hl 0 rfl) ?_
    refine r_get cx hw inX1_enter_1 0 2 rfl rfl (by decide) lkX1_enter_4 rfl dX1_enter_28 ?_
    refine lv_aload_n hx hb dX1_enter_31 rfl (lv_at hl 0 rfl) ?_
    refine r_get cx hw inX1_enter_1 0 4 rfl rfl (by decide) lkX1_enter_2 rfl dX1_enter_32 ?_
    refine lv_iload_n hx hb dX1_enter_35 rfl (lv_at hl 3 rfl) ?_
    refine r_iastN cx hw 3 1 rfl rfl nc e9 rfl rfl (by omega) (by omega) dX1_enter_36 (fun H locs hw => ?_)
    have hw : ww D (TY cC cI cJ cZ cD) s A s.heap [(h0, .inr (3, [.ref h0P, .ref h0K, .ref h0E, .ref h0Z, .int (nI nc)])), (h0P, .inl (cI, 6, .inl (fun jj => nI ((va_up gP nc p9) jj)))), (h0K, .inl (cI, 6, .inl (fun jj => nI ((va_up gK nc k9) jj)))), (h0E, .inl (cI, 6, .inl (fun jj => nI ((va_up gE nc e9) jj)))), (h0Z, .inl (cZ, 6, .inl fZ))] H locs := hw
    refine lv_aload_n hx hb dX1_enter_37 rfl (lv_at hl 0 rfl) ?_
    refine lv_dup hx hb dX1_enter_38 rfl ?_
    refine r_get cx hw inX1_enter_1 0 4 rfl rfl (by decide) lkX1_enter_2 rfl dX1_enter_39 ?_
    refine lv_iconst (v := nI 1) hx hb dX1_enter_42 (by decide) ?_
    refine r_iadd cx nc 1 rfl rfl dX1_enter_43 ?_
    refine r_put cx hw inX1_enter_1 tyX1 tyX1_ok nmX1 0 4 rfl rfl (by decide) lkX1_enter_2 rfl rfl rfl (Nat.le_of_ble_eq_true rfl) dX1_enter_44 (fun H locs hw => ?_)
    have hw : ww D (TY cC cI cJ cZ cD) s A s.heap [(h0, .inr (3, [.ref h0P, .ref h0K, .ref h0E, .ref h0Z, .int (nI (nc + 1))])), (h0P, .inl (cI, 6, .inl (fun jj => nI ((va_up gP nc p9) jj)))), (h0K, .inl (cI, 6, .inl (fun jj => nI ((va_up gK nc k9) jj)))), (h0E, .inl (cI, 6, .inl (fun jj => nI ((va_up gE nc e9) jj)))), (h0Z, .inl (cZ, 6, .inl fZ))] H locs := hw
    refine lv_aload_n hx hb dX1_enter_47 rfl (lv_at hl 0 rfl) ?_
    refine r_get cx hw inX1_enter_1 0 4 rfl rfl (by decide) lkX1_enter_2 rfl dX1_enter_48 ?_
    refine lv_iconst (v := nI 1) hx hb dX1_enter_51 (by decide) ?_
    refine r_isub cx (nc + 1) 1 rfl rfl (by omega) dX1_enter_52 ?_
    subst hQ
    exact r_reti (v := nI (nc + 1 - 1)) cx hr rfl hlk hw (Nat.le_of_ble_eq_true rfl) (Nat.le_of_ble_eq_true rfl) () rfl [0, 1, 2, 3, 4] (by decide) rfl dX1_enter_53

theorem lkX1_markAgain_1 : Cond.fieldLink RX1 25 "SignedDocument$ClauseBook" "size" "I" ∈ wsX1_markAgain := List.mem_of_getElem? (i := 1) rfl
theorem inX1_markAgain_1 : ∀ w ∈ u_ws RX1 TX1 5, w ∈ wsX1_markAgain := fun _ h => List.mem_cons_of_mem _ (List.mem_append_left _ (List.mem_append_left _ (List.mem_append_right _ h)))
theorem lkX1_markAgain_2 : Cond.fieldLink RX1 18 "SignedDocument$ClauseBook" "editsBefore" "[I" ∈ wsX1_markAgain := List.mem_of_getElem? (i := 2) rfl
theorem lkX1_markAgain_3 : Cond.fieldLink RX1 9 "SignedDocument$ClauseBook" "positions" "[I" ∈ wsX1_markAgain := List.mem_of_getElem? (i := 3) rfl
theorem lkX1_markAgain_4 : Cond.fieldLink RX1 15 "SignedDocument$ClauseBook" "counts" "[I" ∈ wsX1_markAgain := List.mem_of_getElem? (i := 4) rfl
set_option maxRecDepth 100000 in
set_option maxHeartbeats 4000000 in
theorem mX1_markAgain (l : Launch) (D : va_G) (cC cI cJ cZ cD : ClassId) (h0 h0P h0K h0E h0Z t0 t0L t0A t0C : Nat) (nc : Nat) (gP gK gE : Nat → Nat) (fZ : Nat → Int32) (ed n : Nat) (fL fA fC : Nat → Int32) (sz : Nat) (hnc : nc ≤ 6) (hn : n ≤ 60) (hed : ed ≤ 40) (hE : ∀ i, i < nc → gE i ≤ 40) (hM : ∀ i, i < nc → gE i = ed → gP i + gK i ≤ n) : MV l yX1_markAgain wsX1_markAgain ({ frames := 1, cells := 0, slots := 0, locals := 24 }) [.ref h0, .int (nI ed), .ref t0] D (TY cC cI cJ cZ cD) [(h0, .inr (3, [.ref h0P, .ref h0K, .ref h0E, .ref h0Z, .int (nI nc)])), (h0P, .inl (cI, 6, .inl (fun jj => nI (gP jj)))), (h0K, .inl (cI, 6, .inl (fun jj => nI (gK jj)))), (h0E, .inl (cI, 6, .inl (fun jj => nI (gE jj)))), (h0Z, .inl (cZ, 6, .inl fZ)), (t0, .inr (6, [.ref t0L, .ref t0A, .ref t0C, .int (nI n)])), (t0L, .inl (cC, 60, .inl fL)), (t0A, .inl (cI, 60, .inl fA)), (t0C, .inl (cI, 60, .inl fC))] sz (fun (_ : Unit) => True) (fun (_ : Unit) => [(h0, .inr (3, [.ref h0P, .ref h0K, .ref h0E, .ref h0Z, .int (nI nc)])), (h0P, .inl (cI, 6, .inl (fun jj => nI (gP jj)))), (h0K, .inl (cI, 6, .inl (fun jj => nI (gK jj)))), (h0E, .inl (cI, 6, .inl (fun jj => nI (gE jj)))), (h0Z, .inl (cZ, 6, .inl fZ)), (t0, .inr (6, [.ref t0L, .ref t0A, .ref t0C, .int (nI n)])), (t0L, .inl (cC, 60, .inl fL)), (t0A, .inl (cI, 60, .inl fA)), (t0C, .inl (cI, 60, .inl (mka gP gK gE ed fC nc)))]) 0 0 := by
  refine mk_MV (cc := cX1_markAgain) (maxL := 4) (ret := none) (by decide) rfl (Nat.le_of_ble_eq_true rfl) ?_
  intro p e s mI args below meth cO A cx hr hlk hnm hw ls hl
  have hx := cx.1
  have hb := cx.2.1
  have hw : ww D (TY cC cI cJ cZ cD) s A s.heap [(h0, .inr (3, [.ref h0P, .ref h0K, .ref h0E, .ref h0Z, .int (nI nc)])), (h0P, .inl (cI, 6, .inl (fun jj => nI (gP jj)))), (h0K, .inl (cI, 6, .inl (fun jj => nI (gK jj)))), (h0E, .inl (cI, 6, .inl (fun jj => nI (gE jj)))), (h0Z, .inl (cZ, 6, .inl fZ)), (t0, .inr (6, [.ref t0L, .ref t0A, .ref t0C, .int (nI n)])), (t0L, .inl (cC, 60, .inl fL)), (t0A, .inl (cI, 60, .inl fA)), (t0C, .inl (cI, 60, .inl fC))] s.heap [] := hw
  have hl : lv_has ls 4 [(0, .ref h0), (1, .int (nI ed)), (2, .ref t0)] := hl
  generalize hQ : MQ _ _ _ _ _ _ _ = Q
  refine hp_start hw (fun H locs hw => ?_)
  refine lv_iconst (v := nI 0) hx hb dX1_markAgain_0 (by decide) ?_
  refine lv_istore_n (lv' := [(3, .int (nI 0)), (0, .ref h0), (1, .int (nI ed)), (2, .ref t0)]) hx hb dX1_markAgain_1 rfl hl (by decide) rfl (fun ls hl => ?_)
  have K2_0 : ∀ (f : Nat) (i : Nat) (C1 : Nat → Int32), (6 - i) < f → (i ≤ nc) → (C1 = mka gP gK gE ed fC i) → ∀ (H : Heap) (locs : List Loc), ww D (TY cC cI cJ cZ cD) s A s.heap [(h0, .inr (3, [.ref h0P, .ref h0K, .ref h0E, .ref h0Z, .int (nI nc)])), (h0P, .inl (cI, 6, .inl (fun jj => nI (gP jj)))), (h0K, .inl (cI, 6, .inl (fun jj => nI (gK jj)))), (h0E, .inl (cI, 6, .inl (fun jj => nI (gE jj)))), (h0Z, .inl (cZ, 6, .inl fZ)), (t0, .inr (6, [.ref t0L, .ref t0A, .ref t0C, .int (nI n)])), (t0L, .inl (cC, 60, .inl fL)), (t0A, .inl (cI, 60, .inl fA)), (t0C, .inl (cI, 60, .inl C1))] H locs → ∀ ls : Array Slot, lv_has ls 4 [(0, .ref h0), (1, .int (nI ed)), (2, .ref t0), (3, .int (nI i))] → W p l e ({ frames := 1, cells := 0, slots := 0, locals := 24 } : Room) s mI args below meth cO H locs 0 0 Q (F0 mI 2 ls []) := by
    intro f
    induction f with
    | zero => intro i C1 hms9; exact absurd hms9 (Nat.not_lt_zero _)
    | succ f ih2 =>
      intro i C1 hms9 hi hC1 H locs hw ls hl
      refine lv_iload_n hx hb dX1_markAgain_2 rfl (lv_at hl 3 rfl) ?_
      refine lv_aload_n hx hb dX1_markAgain_3 rfl (lv_at hl 0 rfl) ?_
      refine r_get cx hw inX1_markAgain_1 0 4 rfl rfl (by decide) lkX1_markAgain_1 rfl dX1_markAgain_4 ?_
      refine r_icmp_ge cx 43 i nc rfl rfl (by omega) (by omega) dX1_markAgain_7 (by decide) (fun c7 => ?_) (fun c7 => ?_)
      · rw [hC1, show i = nc by omega] at hw
        have hw : ww D (TY cC cI cJ cZ cD) s A s.heap [(h0, .inr (3, [.ref h0P, .ref h0K, .ref h0E, .ref h0Z, .int (nI nc)])), (h0P, .inl (cI, 6, .inl (fun jj => nI (gP jj)))), (h0K, .inl (cI, 6, .inl (fun jj => nI (gK jj)))), (h0E, .inl (cI, 6, .inl (fun jj => nI (gE jj)))), (h0Z, .inl (cZ, 6, .inl fZ)), (t0, .inr (6, [.ref t0L, .ref t0A, .ref t0C, .int (nI n)])), (t0L, .inl (cC, 60, .inl fL)), (t0A, .inl (cI, 60, .inl fA)), (t0C, .inl (cI, 60, .inl (mka gP gK gE ed fC nc)))] H locs := hw
        subst hQ
        exact r_retv cx hr hlk hw (Nat.le_of_ble_eq_true rfl) (Nat.le_of_ble_eq_true rfl) () trivial [0, 1, 2, 3, 4, 5, 6, 7, 8] (by decide) rfl dX1_markAgain_43
      · refine lv_aload_n hx hb dX1_markAgain_10 rfl (lv_at hl 0 rfl) ?_
        refine r_get cx hw inX1_markAgain_1 0 2 rfl rfl (by decide) lkX1_markAgain_2 rfl dX1_markAgain_11 ?_
        refine lv_iload_n hx hb dX1_markAgain_14 rfl (lv_at hl 3 rfl) ?_
        refine r_iald cx hw 3 1 rfl rfl i rfl (by omega) (by omega) dX1_markAgain_15 ?_
        refine lv_iload_n hx hb dX1_markAgain_16 rfl (lv_at hl 1 rfl) ?_
        refine r_icmp_ne cx 37 (gE i) ed rfl rfl (by first | omega | (have := hE i (by omega); omega)) (by first | omega | (have := hE i (by omega); omega)) dX1_markAgain_17 (by decide) (fun c17 => ?_) (fun c17 => ?_)
        · refine lv_iinc (v := nI (i + 1)) (lv' := [(3, .int (nI (i + 1))), (0, .ref h0), (1, .int (nI ed)), (2, .ref t0)]) hx hb dX1_markAgain_37 hl (k := 3) rfl (by rw [ii1, nI_1]) (by decide) rfl (fun ls hl => ?_)
          refine lv_goto (tgt := 2) hx hb dX1_markAgain_40 (by decide) ?_
          exact ih2 (i + 1) C1 (by omega) (by omega) (by rw [mka_f c17, hC1]) _ _ hw _ (lv_sub hl [1, 2, 3, 0] rfl)
        · refine lv_aload_n hx hb dX1_markAgain_20 rfl (lv_at hl 2 rfl) ?_
          refine lv_aload_n hx hb dX1_markAgain_21 rfl (lv_at hl 0 rfl) ?_
          refine r_get cx hw inX1_markAgain_1 0 0 rfl rfl (by decide) lkX1_markAgain_3 rfl dX1_markAgain_22 ?_
          refine lv_iload_n hx hb dX1_markAgain_25 rfl (lv_at hl 3 rfl) ?_
          refine r_iald cx hw 1 1 rfl rfl i rfl (by omega) (by omega) dX1_markAgain_26 ?_
          refine lv_aload_n hx hb dX1_markAgain_27 rfl (lv_at hl 0 rfl) ?_
          refine r_get cx hw inX1_markAgain_1 0 1 rfl rfl (by decide) lkX1_markAgain_4 rfl dX1_markAgain_28 ?_
          refine lv_iload_n hx hb dX1_markAgain_31 rfl (lv_at hl 3 rfl) ?_
          refine r_iald cx hw 2 1 rfl rfl i rfl (by omega) (by omega) dX1_markAgain_32 ?_
          refine lv_iload_n hx hb dX1_markAgain_33 rfl (lv_at hl 3 rfl) ?_
          refine r_callVv (n := 3) (wr := [(h0, .inr (3, [.ref h0P, .ref h0K, .ref h0E, .ref h0Z, .int (nI nc)])), (h0P, .inl (cI, 6, .inl (fun jj => nI (gP jj)))), (h0K, .inl (cI, 6, .inl (fun jj => nI (gK jj)))), (h0E, .inl (cI, 6, .inl (fun jj => nI (gE jj)))), (h0Z, .inl (cZ, 6, .inl fZ))]) cx hw (mX4_mark l D cC cI cJ cZ cD t0 t0L t0A t0C n fL fA C1 (gP i) (gK i) (nI i) H.size (by exact hM i c7 c17) hn) [5, 6, 7, 8] [0, 1, 2, 3, 4] gX1_markAgain_X4_mark rfl rfl rfl (by decide +kernel) ⟨Nat.le_of_ble_eq_true rfl, Nat.le_of_ble_eq_true rfl⟩ (q0 := 5) rfl rfl rfl rfl (by decide) (by decide) (by decide) rfl rfl hl.1 (Nat.le_of_ble_eq_true rfl) dX1_markAgain_34 ⟨Nat.le_of_ble_eq_true rfl, Nat.le_of_ble_eq_true rfl⟩ (fun u H locs hp hw => ?_)
          have hw : ww D (TY cC cI cJ cZ cD) s A s.heap [(h0, .inr (3, [.ref h0P, .ref h0K, .ref h0E, .ref h0Z, .int (nI nc)])), (h0P, .inl (cI, 6, .inl (fun jj => nI (gP jj)))), (h0K, .inl (cI, 6, .inl (fun jj => nI (gK jj)))), (h0E, .inl (cI, 6, .inl (fun jj => nI (gE jj)))), (h0Z, .inl (cZ, 6, .inl fZ)), (t0, .inr (6, [.ref t0L, .ref t0A, .ref t0C, .int (nI n)])), (t0L, .inl (cC, 60, .inl fL)), (t0A, .inl (cI, 60, .inl fA)), (t0C, .inl (cI, 60, .inl (mk C1 (gP i) (gK i) (nI i))))] H locs := hw
          refine lv_iinc (v := nI (i + 1)) (lv' := [(3, .int (nI (i + 1))), (0, .ref h0), (1, .int (nI ed)), (2, .ref t0)]) hx hb dX1_markAgain_37 hl (k := 3) rfl (by rw [ii1, nI_1]) (by decide) rfl (fun ls hl => ?_)
          refine lv_goto (tgt := 2) hx hb dX1_markAgain_40 (by decide) ?_
          exact ih2 (i + 1) (mk C1 (gP i) (gK i) (nI i)) (by omega) (by omega) (by rw [mka_t c17, hC1]) _ _ hw _ (lv_sub hl [1, 2, 3, 0] rfl)
  exact K2_0 _ 0 fC (Nat.lt_succ_self _) (by omega) (by rfl) _ _ hw _ (lv_sub hl [1, 2, 3, 0] rfl)

theorem lkX1_lowestLocked_1 : Cond.fieldLink RX1 25 "SignedDocument$ClauseBook" "size" "I" ∈ wsX1_lowestLocked := List.mem_of_getElem? (i := 1) rfl
theorem inX1_lowestLocked_1 : ∀ w ∈ u_ws RX1 TX1 5, w ∈ wsX1_lowestLocked := fun _ h => List.mem_cons_of_mem _ (List.mem_append_left _ (List.mem_append_right _ h))
theorem lkX1_lowestLocked_2 : Cond.fieldLink RX1 21 "SignedDocument$ClauseBook" "locked" "[Z" ∈ wsX1_lowestLocked := List.mem_of_getElem? (i := 2) rfl
set_option maxRecDepth 100000 in
set_option maxHeartbeats 4000000 in
theorem mX1_lowestLocked (l : Launch) (D : va_G) (cC cI cJ cZ cD : ClassId) (h0 h0P h0K h0E h0Z : Nat) (nc : Nat) (gP gK gE : Nat → Nat) (fZ : Nat → Int32) (st : Int32) (sz : Nat) (hnc : nc ≤ 6) : MI l yX1_lowestLocked wsX1_lowestLocked ({ frames := 0, cells := 0, slots := 0, locals := 0 }) [.ref h0, .int st] D (TY cC cI cJ cZ cD) [(h0, .inr (3, [.ref h0P, .ref h0K, .ref h0E, .ref h0Z, .int (nI nc)])), (h0P, .inl (cI, 6, .inl (fun jj => nI (gP jj)))), (h0K, .inl (cI, 6, .inl (fun jj => nI (gK jj)))), (h0E, .inl (cI, 6, .inl (fun jj => nI (gE jj)))), (h0Z, .inl (cZ, 6, .inl fZ))] sz (fun (r : Int32) => fun (_ : Unit) => r = low (lkb fZ st) nc) (fun (_ : Unit) => [(h0, .inr (3, [.ref h0P, .ref h0K, .ref h0E, .ref h0Z, .int (nI nc)])), (h0P, .inl (cI, 6, .inl (fun jj => nI (gP jj)))), (h0K, .inl (cI, 6, .inl (fun jj => nI (gK jj)))), (h0E, .inl (cI, 6, .inl (fun jj => nI (gE jj)))), (h0Z, .inl (cZ, 6, .inl fZ))]) 0 0 := by
  refine mk_MI (cc := cX1_lowestLocked) (maxL := 3) (ret := (some .int)) (by decide) rfl (Nat.le_of_ble_eq_true rfl) ?_
  intro p e s mI args below meth cO A cx hr hlk hnm hw ls hl
  have hx := cx.1
  have hb := cx.2.1
  have hw : ww D (TY cC cI cJ cZ cD) s A s.heap [(h0, .inr (3, [.ref h0P, .ref h0K, .ref h0E, .ref h0Z, .int (nI nc)])), (h0P, .inl (cI, 6, .inl (fun jj => nI (gP jj)))), (h0K, .inl (cI, 6, .inl (fun jj => nI (gK jj)))), (h0E, .inl (cI, 6, .inl (fun jj => nI (gE jj)))), (h0Z, .inl (cZ, 6, .inl fZ))] s.heap [] := hw
  have hl : lv_has ls 3 [(0, .ref h0), (1, .int st)] := hl
  generalize hQ : MQ _ _ _ _ _ _ _ = Q
  refine hp_start hw (fun H locs hw => ?_)
  refine lv_iconst (v := nI 0) hx hb dX1_lowestLocked_0 (by decide) ?_
  refine lv_istore_n (lv' := [(2, .int (nI 0)), (0, .ref h0), (1, .int st)]) hx hb dX1_lowestLocked_1 rfl hl (by decide) rfl (fun ls hl => ?_)
  have K2_0 : ∀ (f : Nat) (i : Nat), (6 - i) < f → (i ≤ nc) → (∀ j, j < i → ¬ lkb fZ st j = true) → ∀ (H : Heap) (locs : List Loc), ww D (TY cC cI cJ cZ cD) s A s.heap [(h0, .inr (3, [.ref h0P, .ref h0K, .ref h0E, .ref h0Z, .int (nI nc)])), (h0P, .inl (cI, 6, .inl (fun jj => nI (gP jj)))), (h0K, .inl (cI, 6, .inl (fun jj => nI (gK jj)))), (h0E, .inl (cI, 6, .inl (fun jj => nI (gE jj)))), (h0Z, .inl (cZ, 6, .inl fZ))] H locs → ∀ ls : Array Slot, lv_has ls 3 [(0, .ref h0), (1, .int st), (2, .int (nI i))] → W p l e ({ frames := 0, cells := 0, slots := 0, locals := 0 } : Room) s mI args below meth cO H locs 0 0 Q (F0 mI 2 ls []) := by
    intro f
    induction f with
    | zero => intro i hms9; exact absurd hms9 (Nat.not_lt_zero _)
    | succ f ih2 =>
      intro i hms9 hi hf H locs hw ls hl
      refine lv_iload_n hx hb dX1_lowestLocked_2 rfl (lv_at hl 2 rfl) ?_
      refine lv_aload_n hx hb dX1_lowestLocked_3 rfl (lv_at hl 0 rfl) ?_
      refine r_get cx hw inX1_lowestLocked_1 0 4 rfl rfl (by decide) lkX1_lowestLocked_1 rfl dX1_lowestLocked_4 ?_
      refine r_icmp_ge cx 35 i nc rfl rfl (by omega) (by omega) dX1_lowestLocked_7 (by decide) (fun c7 => ?_) (fun c7 => ?_)
      · refine lv_iconst (v := (-1)) hx hb dX1_lowestLocked_35 (by decide) ?_
        subst hQ
        exact r_reti (v := (-1)) cx hr rfl hlk hw (Nat.le_of_ble_eq_true rfl) (Nat.le_of_ble_eq_true rfl) () (low_none (fun j h => hf j (by omega))).symm [0, 1, 2, 3, 4] (by decide) rfl dX1_lowestLocked_36
      · refine lv_aload_n hx hb dX1_lowestLocked_10 rfl (lv_at hl 0 rfl) ?_
        refine r_get cx hw inX1_lowestLocked_1 0 3 rfl rfl (by decide) lkX1_lowestLocked_2 rfl dX1_lowestLocked_11 ?_
        refine lv_iload_n hx hb dX1_lowestLocked_14 rfl (lv_at hl 2 rfl) ?_
        refine r_zald cx hw 4 3 rfl rfl i rfl (by omega) (by omega) dX1_lowestLocked_15 ?_
        refine lv_if_eq (tgt := 29) hx hb dX1_lowestLocked_16 (by decide) (fun c16 => ?_) (fun c16 => ?_)
        · refine lv_iinc (v := nI (i + 1)) (lv' := [(2, .int (nI (i + 1))), (0, .ref h0), (1, .int st)]) hx hb dX1_lowestLocked_29 hl (k := 2) rfl (by rw [ii1, nI_1]) (by decide) rfl (fun ls hl => ?_)
          refine lv_goto (tgt := 2) hx hb dX1_lowestLocked_32 (by decide) ?_
          exact ih2 (i + 1) (by omega) (by omega) (by intro j h; rcases Nat.lt_or_ge j i with q | q; exact hf j q; rw [show j = i by omega, lkb_t]; rintro ⟨h1, h2⟩; first | exact h1 c16 | exact h2 c24) _ _ hw _ (lv_sub hl [1, 2, 0] rfl)
        · refine lv_iload_n hx hb dX1_lowestLocked_19 rfl (lv_at hl 1 rfl) ?_
          refine lv_iconst (v := nI 1) hx hb dX1_lowestLocked_20 (by decide) ?_
          refine lv_iload_n hx hb dX1_lowestLocked_21 rfl (lv_at hl 2 rfl) ?_
          refine lv_ishl hx hb dX1_lowestLocked_22 ?_
          refine lv_iand hx hb dX1_lowestLocked_23 ?_
          refine lv_if_eq (tgt := 29) hx hb dX1_lowestLocked_24 (by decide) (fun c24 => ?_) (fun c24 => ?_)
          · refine lv_iinc (v := nI (i + 1)) (lv' := [(2, .int (nI (i + 1))), (0, .ref h0), (1, .int st)]) hx hb dX1_lowestLocked_29 hl (k := 2) rfl (by rw [ii1, nI_1]) (by decide) rfl (fun ls hl => ?_)
            refine lv_goto (tgt := 2) hx hb dX1_lowestLocked_32 (by decide) ?_
            exact ih2 (i + 1) (by omega) (by omega) (by intro j h; rcases Nat.lt_or_ge j i with q | q; exact hf j q; rw [show j = i by omega, lkb_t]; rintro ⟨h1, h2⟩; first | exact h1 c16 | exact h2 c24) _ _ hw _ (lv_sub hl [1, 2, 0] rfl)
          · refine lv_iload_n hx hb dX1_lowestLocked_27 rfl (lv_at hl 2 rfl) ?_
            subst hQ
            exact r_reti (v := nI i) cx hr rfl hlk hw (Nat.le_of_ble_eq_true rfl) (Nat.le_of_ble_eq_true rfl) () (low_at c7 (lkb_t.mpr ⟨c16, c24⟩) hf).symm [0, 1, 2, 3, 4] (by decide) rfl dX1_lowestLocked_28
  exact K2_0 _ 0 (Nat.lt_succ_self _) (by omega) (by intro j h; omega) _ _ hw _ (lv_sub hl [1, 2, 0] rfl)

theorem lkX6_init_1 : Cond.methodLink RX6 3 objectInit ∈ wsX6_init := List.mem_of_getElem? (i := 1) rfl
theorem lkX6_init_2 : Cond.instanceMethod objectInit ∈ wsX6_init := List.mem_of_getElem? (i := 2) rfl
theorem lkX6_init_3 : Cond.code objectInit ⟨#[0xb1]⟩ 1 none ∈ wsX6_init := List.mem_of_getElem? (i := 3) rfl
theorem lkX6_init_4 : Cond.arrayClass .int ∈ wsX6_init := List.mem_of_getElem? (i := 4) rfl
theorem lkX6_init_5 : Cond.fieldLink RX6 9 "SignedDocument$SignatureBook" "authors" "[I" ∈ wsX6_init := List.mem_of_getElem? (i := 5) rfl
theorem inX6_init_6 : ∀ w ∈ u_ws RX6 TX6 6, w ∈ wsX6_init := fun _ h => List.mem_cons_of_mem _ (List.mem_append_right _ h)
theorem lkX6_init_6 : Cond.fieldLink RX6 15 "SignedDocument$SignatureBook" "clauseSets" "[I" ∈ wsX6_init := List.mem_of_getElem? (i := 6) rfl
theorem lkX6_init_7 : Cond.fieldLink RX6 18 "SignedDocument$SignatureBook" "editsBefore" "[I" ∈ wsX6_init := List.mem_of_getElem? (i := 7) rfl
theorem lkX6_init_8 : Cond.fieldLink RX6 21 "SignedDocument$SignatureBook" "voidingEdits" "[I" ∈ wsX6_init := List.mem_of_getElem? (i := 8) rfl
theorem lkX6_init_9 : Cond.arrayClass .char ∈ wsX6_init := List.mem_of_getElem? (i := 9) rfl
theorem lkX6_init_10 : Cond.fieldLink RX6 24 "SignedDocument$SignatureBook" "states" "[C" ∈ wsX6_init := List.mem_of_getElem? (i := 10) rfl
theorem lkX6_init_11 : Cond.fieldLink RX6 28 "SignedDocument$SignatureBook" "size" "I" ∈ wsX6_init := List.mem_of_getElem? (i := 11) rfl
set_option maxRecDepth 100000 in
set_option maxHeartbeats 4000000 in
theorem mX6_init (l : Launch) (D : va_G) (cC cI cJ cZ cD : ClassId) (h0 : Nat) (sz : Nat) : MV l yX6_init wsX6_init ({ frames := 1, cells := 5, slots := 60, locals := 20 }) [.ref h0] D (TY cC cI cJ cZ cD) [(h0, .inr (8, [.null, .null, .null, .null, .null, .int (nI 0)]))] sz (fun (uu : Nat × Nat × Nat × Nat × Nat) => match uu with | (a1, a2, a3, a4, a5) => True) (fun (uu : Nat × Nat × Nat × Nat × Nat) => match uu with | (a1, a2, a3, a4, a5) => [(h0, .inr (8, [.ref a1, .ref a2, .ref a3, .ref a4, .ref a5, .int (nI 0)])), (a1, .inl (cI, 12, .inl (fun _ => nI 0))), (a2, .inl (cI, 12, .inl (fun _ => nI 0))), (a3, .inl (cI, 12, .inl (fun jj => nI ((fun _ => 0) jj)))), (a4, .inl (cI, 12, .inl (fun _ => nI 0))), (a5, .inl (cC, 12, .inl (fun _ => nI 0)))]) 5 60 := by
  refine mk_MV (cc := cX6_init) (maxL := 1) (ret := none) (by decide) rfl (Nat.le_of_ble_eq_true rfl) ?_
  intro p e s mI args below meth cO A cx hr hlk hnm hw ls hl
  have hx := cx.1
  have hb := cx.2.1
  have hw : ww D (TY cC cI cJ cZ cD) s A s.heap [(h0, .inr (8, [.null, .null, .null, .null, .null, .int (nI 0)]))] s.heap [] := hw
  have hl : lv_has ls 1 [(0, .ref h0)] := hl
  generalize hQ : MQ _ _ _ _ _ _ _ = Q
  refine hp_start hw (fun H locs hw => ?_)
  refine lv_aload_n hx hb dX6_init_0 rfl (lv_at hl 0 rfl) ?_
  refine W.objInit hx hb cx.2.2.2.1 (cx.2.2.2.2 _ lkX6_init_1) (cx.2.2.2.2 _ lkX6_init_2) (cx.2.2.2.2 _ lkX6_init_3) rfl (by rw [cx.2.2.1]; exact hl.1) rfl dX6_init_1 (Nat.le_of_ble_eq_true rfl) (Nat.le_of_ble_eq_true rfl) ?_
  refine W.eq (g2 := F0 mI 4 ls []) rfl ?_
  refine lv_aload_n hx hb dX6_init_4 rfl (lv_at hl 0 rfl) ?_
  refine lv_bipush (v := nI 12) hx hb dX6_init_5 (by decide) ?_
  refine r_newa_I cx hw lkX6_init_4 rfl (Nat.le_of_ble_eq_true rfl) rfl (Nat.le_of_ble_eq_true rfl) (Nat.le_of_ble_eq_true rfl) dX6_init_7 (fun q1 H hw => ?_)
  have hw : ww D (TY cC cI cJ cZ cD) s A s.heap [(h0, .inr (8, [.null, .null, .null, .null, .null, .int (nI 0)])), (q1, .inl (cI, 12, .inl (fun _ => 0)))] H locs := hw
  refine r_putF cx hw inX6_init_6 tyX6 tyX6_ok nmX6 0 0 rfl rfl (by decide) lkX6_init_5 rfl hnm rfl rfl rfl (Nat.le_of_ble_eq_true rfl) dX6_init_9 (fun H locs hw => ?_)
  have hw : ww D (TY cC cI cJ cZ cD) s A s.heap [(h0, .inr (8, [.ref q1, .null, .null, .null, .null, .int (nI 0)])), (q1, .inl (cI, 12, .inl (fun _ => 0)))] H locs := hw
  refine lv_aload_n hx hb dX6_init_12 rfl (lv_at hl 0 rfl) ?_
  refine lv_bipush (v := nI 12) hx hb dX6_init_13 (by decide) ?_
  refine r_newa_I cx hw lkX6_init_4 rfl (Nat.le_of_ble_eq_true rfl) rfl (Nat.le_of_ble_eq_true rfl) (Nat.le_of_ble_eq_true rfl) dX6_init_15 (fun q2 H hw => ?_)
  have hw : ww D (TY cC cI cJ cZ cD) s A s.heap [(h0, .inr (8, [.ref q1, .null, .null, .null, .null, .int (nI 0)])), (q1, .inl (cI, 12, .inl (fun _ => 0))), (q2, .inl (cI, 12, .inl (fun _ => 0)))] H locs := hw
  refine r_putF cx hw inX6_init_6 tyX6 tyX6_ok nmX6 0 1 rfl rfl (by decide) lkX6_init_6 rfl hnm rfl rfl rfl (Nat.le_of_ble_eq_true rfl) dX6_init_17 (fun H locs hw => ?_)
  have hw : ww D (TY cC cI cJ cZ cD) s A s.heap [(h0, .inr (8, [.ref q1, .ref q2, .null, .null, .null, .int (nI 0)])), (q1, .inl (cI, 12, .inl (fun _ => 0))), (q2, .inl (cI, 12, .inl (fun _ => 0)))] H locs := hw
  refine lv_aload_n hx hb dX6_init_20 rfl (lv_at hl 0 rfl) ?_
  refine lv_bipush (v := nI 12) hx hb dX6_init_21 (by decide) ?_
  refine r_newa_I cx hw lkX6_init_4 rfl (Nat.le_of_ble_eq_true rfl) rfl (Nat.le_of_ble_eq_true rfl) (Nat.le_of_ble_eq_true rfl) dX6_init_23 (fun q3 H hw => ?_)
  have hw : ww D (TY cC cI cJ cZ cD) s A s.heap [(h0, .inr (8, [.ref q1, .ref q2, .null, .null, .null, .int (nI 0)])), (q1, .inl (cI, 12, .inl (fun _ => 0))), (q2, .inl (cI, 12, .inl (fun _ => 0))), (q3, .inl (cI, 12, .inl (fun _ => 0)))] H locs := hw
  refine r_putF cx hw inX6_init_6 tyX6 tyX6_ok nmX6 0 2 rfl rfl (by decide) lkX6_init_7 rfl hnm rfl rfl rfl (Nat.le_of_ble_eq_true rfl) dX6_init_25 (fun H locs hw => ?_)
  have hw : ww D (TY cC cI cJ cZ cD) s A s.heap [(h0, .inr (8, [.ref q1, .ref q2, .ref q3, .null, .null, .int (nI 0)])), (q1, .inl (cI, 12, .inl (fun _ => 0))), (q2, .inl (cI, 12, .inl (fun _ => 0))), (q3, .inl (cI, 12, .inl (fun _ => 0)))] H locs := hw
  refine lv_aload_n hx hb dX6_init_28 rfl (lv_at hl 0 rfl) ?_
  refine lv_bipush (v := nI 12) hx hb dX6_init_29 (by decide) ?_
  refine r_newa_I cx hw lkX6_init_4 rfl (Nat.le_of_ble_eq_true rfl) rfl (Nat.le_of_ble_eq_true rfl) (Nat.le_of_ble_eq_true rfl) dX6_init_31 (fun q4 H hw => ?_)
  have hw : ww D (TY cC cI cJ cZ cD) s A s.heap [(h0, .inr (8, [.ref q1, .ref q2, .ref q3, .null, .null, .int (nI 0)])), (q1, .inl (cI, 12, .inl (fun _ => 0))), (q2, .inl (cI, 12, .inl (fun _ => 0))), (q3, .inl (cI, 12, .inl (fun _ => 0))), (q4, .inl (cI, 12, .inl (fun _ => 0)))] H locs := hw
  refine r_putF cx hw inX6_init_6 tyX6 tyX6_ok nmX6 0 3 rfl rfl (by decide) lkX6_init_8 rfl hnm rfl rfl rfl (Nat.le_of_ble_eq_true rfl) dX6_init_33 (fun H locs hw => ?_)
  have hw : ww D (TY cC cI cJ cZ cD) s A s.heap [(h0, .inr (8, [.ref q1, .ref q2, .ref q3, .ref q4, .null, .int (nI 0)])), (q1, .inl (cI, 12, .inl (fun _ => 0))), (q2, .inl (cI, 12, .inl (fun _ => 0))), (q3, .inl (cI, 12, .inl (fun _ => 0))), (q4, .inl (cI, 12, .inl (fun _ => 0)))] H locs := hw
  refine lv_aload_n hx hb dX6_init_36 rfl (lv_at hl 0 rfl) ?_
  refine lv_bipush (v := nI 12) hx hb dX6_init_37 (by decide) ?_
  refine r_newa_C cx hw lkX6_init_9 rfl (Nat.le_of_ble_eq_true rfl) rfl (Nat.le_of_ble_eq_true rfl) (Nat.le_of_ble_eq_true rfl) dX6_init_39 (fun q5 H hw => ?_)
  have hw : ww D (TY cC cI cJ cZ cD) s A s.heap [(h0, .inr (8, [.ref q1, .ref q2, .ref q3, .ref q4, .null, .int (nI 0)])), (q1, .inl (cI, 12, .inl (fun _ => 0))), (q2, .inl (cI, 12, .inl (fun _ => 0))), (q3, .inl (cI, 12, .inl (fun _ => 0))), (q4, .inl (cI, 12, .inl (fun _ => 0))), (q5, .inl (cC, 12, .inl (fun _ => 0)))] H locs := hw
  refine r_putF cx hw inX6_init_6 tyX6 tyX6_ok nmX6 0 4 rfl rfl (by decide) lkX6_init_10 rfl hnm rfl rfl rfl (Nat.le_of_ble_eq_true rfl) dX6_init_41 (fun H locs hw => ?_)
  have hw : ww D (TY cC cI cJ cZ cD) s A s.heap [(h0, .inr (8, [.ref q1, .ref q2, .ref q3, .ref q4, .ref q5, .int (nI 0)])), (q1, .inl (cI, 12, .inl (fun _ => 0))), (q2, .inl (cI, 12, .inl (fun _ => 0))), (q3, .inl (cI, 12, .inl (fun _ => 0))), (q4, .inl (cI, 12, .inl (fun _ => 0))), (q5, .inl (cC, 12, .inl (fun _ => 0)))] H locs := hw
  refine lv_aload_n hx hb dX6_init_44 rfl (lv_at hl 0 rfl) ?_
  refine lv_iconst (v := nI 0) hx hb dX6_init_45 (by decide) ?_
  refine r_put cx hw inX6_init_6 tyX6 tyX6_ok nmX6 0 5 rfl rfl (by decide) lkX6_init_11 rfl rfl rfl (Nat.le_of_ble_eq_true rfl) dX6_init_46 (fun H locs hw => ?_)
  have hw : ww D (TY cC cI cJ cZ cD) s A s.heap [(h0, .inr (8, [.ref q1, .ref q2, .ref q3, .ref q4, .ref q5, .int (nI 0)])), (q1, .inl (cI, 12, .inl (fun _ => 0))), (q2, .inl (cI, 12, .inl (fun _ => 0))), (q3, .inl (cI, 12, .inl (fun _ => 0))), (q4, .inl (cI, 12, .inl (fun _ => 0))), (q5, .inl (cC, 12, .inl (fun _ => 0)))] H locs := hw
  subst hQ
  exact r_retv cx hr hlk hw (Nat.le_of_ble_eq_true rfl) (Nat.le_of_ble_eq_true rfl) (q1, q2, q3, q4, q5) trivial [0, 1, 2, 3, 4, 5] (by decide) rfl dX6_init_49

theorem lkX6_isFull_1 : Cond.fieldLink RX6 28 "SignedDocument$SignatureBook" "size" "I" ∈ wsX6_isFull := List.mem_of_getElem? (i := 1) rfl
theorem inX6_isFull_6 : ∀ w ∈ u_ws RX6 TX6 6, w ∈ wsX6_isFull := fun _ h => List.mem_cons_of_mem _ (List.mem_append_right _ h)
set_option maxRecDepth 100000 in
set_option maxHeartbeats 4000000 in
theorem mX6_isFull (l : Launch) (D : va_G) (cC cI cJ cZ cD : ClassId) (h0 h0A h0X h0E h0V h0T : Nat) (ns : Nat) (fA fX : Nat → Int32) (gE : Nat → Nat) (fV fT : Nat → Int32) (sz : Nat) (hns : ns ≤ 12) : MI l yX6_isFull wsX6_isFull ({ frames := 0, cells := 0, slots := 0, locals := 0 }) [.ref h0] D (TY cC cI cJ cZ cD) [(h0, .inr (8, [.ref h0A, .ref h0X, .ref h0E, .ref h0V, .ref h0T, .int (nI ns)])), (h0A, .inl (cI, 12, .inl fA)), (h0X, .inl (cI, 12, .inl fX)), (h0E, .inl (cI, 12, .inl (fun jj => nI (gE jj)))), (h0V, .inl (cI, 12, .inl fV)), (h0T, .inl (cC, 12, .inl fT))] sz (fun (r : Int32) => fun (_ : Unit) => ((r = nI 1 ∧ (12 ≤ ns)) ∨ (r = nI 0 ∧ ¬ (12 ≤ ns)))) (fun (_ : Unit) => [(h0, .inr (8, [.ref h0A, .ref h0X, .ref h0E, .ref h0V, .ref h0T, .int (nI ns)])), (h0A, .inl (cI, 12, .inl fA)), (h0X, .inl (cI, 12, .inl fX)), (h0E, .inl (cI, 12, .inl (fun jj => nI (gE jj)))), (h0V, .inl (cI, 12, .inl fV)), (h0T, .inl (cC, 12, .inl fT))]) 0 0 := by
  refine mk_MI (cc := cX6_isFull) (maxL := 1) (ret := (some .boolean)) (by decide) rfl (Nat.le_of_ble_eq_true rfl) ?_
  intro p e s mI args below meth cO A cx hr hlk hnm hw ls hl
  have hx := cx.1
  have hb := cx.2.1
  have hw : ww D (TY cC cI cJ cZ cD) s A s.heap [(h0, .inr (8, [.ref h0A, .ref h0X, .ref h0E, .ref h0V, .ref h0T, .int (nI ns)])), (h0A, .inl (cI, 12, .inl fA)), (h0X, .inl (cI, 12, .inl fX)), (h0E, .inl (cI, 12, .inl (fun jj => nI (gE jj)))), (h0V, .inl (cI, 12, .inl fV)), (h0T, .inl (cC, 12, .inl fT))] s.heap [] := hw
  have hl : lv_has ls 1 [(0, .ref h0)] := hl
  generalize hQ : MQ _ _ _ _ _ _ _ = Q
  refine hp_start hw (fun H locs hw => ?_)
  refine lv_aload_n hx hb dX6_isFull_0 rfl (lv_at hl 0 rfl) ?_
  refine r_get cx hw inX6_isFull_6 0 5 rfl rfl (by decide) lkX6_isFull_1 rfl dX6_isFull_1 ?_
  refine lv_bipush (v := nI 12) hx hb dX6_isFull_4 (by decide) ?_
  refine r_icmp_lt cx 13 ns 12 rfl rfl (by omega) (by omega) dX6_isFull_6 (by decide) (fun c6 => ?_) (fun c6 => ?_)
  · refine lv_iconst (v := nI 0) hx hb dX6_isFull_13 (by decide) ?_
    subst hQ
    exact r_reti (v := nI 0) cx hr (by decide) hlk hw (Nat.le_of_ble_eq_true rfl) (Nat.le_of_ble_eq_true rfl) () (by right; exact ⟨rfl, by omega⟩) [0, 1, 2, 3, 4, 5] (by decide) rfl dX6_isFull_14
  · refine lv_iconst (v := nI 1) hx hb dX6_isFull_9 (by decide) ?_
    refine lv_goto (tgt := 14) hx hb dX6_isFull_10 (by decide) ?_
    subst hQ
    exact r_reti (v := nI 1) cx hr (by decide) hlk hw (Nat.le_of_ble_eq_true rfl) (Nat.le_of_ble_eq_true rfl) () (by left; exact ⟨rfl, by omega⟩) [0, 1, 2, 3, 4, 5] (by decide) rfl dX6_isFull_14

theorem lkX6_enter_1 : Cond.fieldLink RX6 9 "SignedDocument$SignatureBook" "authors" "[I" ∈ wsX6_enter := List.mem_of_getElem? (i := 1) rfl
theorem inX6_enter_6 : ∀ w ∈ u_ws RX6 TX6 6, w ∈ wsX6_enter := fun _ h => List.mem_cons_of_mem _ (List.mem_append_left _ (List.mem_append_right _ h))
theorem lkX6_enter_2 : Cond.fieldLink RX6 28 "SignedDocument$SignatureBook" "size" "I" ∈ wsX6_enter := List.mem_of_getElem? (i := 2) rfl
theorem lkX6_enter_3 : Cond.fieldLink RX6 15 "SignedDocument$SignatureBook" "clauseSets" "[I" ∈ wsX6_enter := List.mem_of_getElem? (i := 3) rfl
theorem lkX6_enter_4 : Cond.fieldLink RX6 18 "SignedDocument$SignatureBook" "editsBefore" "[I" ∈ wsX6_enter := List.mem_of_getElem? (i := 4) rfl
theorem lkX6_enter_5 : Cond.fieldLink RX6 21 "SignedDocument$SignatureBook" "voidingEdits" "[I" ∈ wsX6_enter := List.mem_of_getElem? (i := 5) rfl
theorem lkX6_enter_6 : Cond.fieldLink RX6 24 "SignedDocument$SignatureBook" "states" "[C" ∈ wsX6_enter := List.mem_of_getElem? (i := 6) rfl
set_option maxRecDepth 100000 in
set_option maxHeartbeats 4000000 in
theorem mX6_enter (l : Launch) (D : va_G) (cC cI cJ cZ cD : ClassId) (h0 h0A h0X h0E h0V h0T : Nat) (ns : Nat) (fA fX : Nat → Int32) (gE : Nat → Nat) (fV fT : Nat → Int32) (a9 s9 : Int32) (e9 : Nat) (sz : Nat) (hns : ns < 12) (hfT : ∀ j, vp_nar .char (fT j) = fT j) : MI l yX6_enter wsX6_enter ({ frames := 1, cells := 0, slots := 0, locals := 20 }) [.ref h0, .int a9, .int s9, .int (nI e9)] D (TY cC cI cJ cZ cD) [(h0, .inr (8, [.ref h0A, .ref h0X, .ref h0E, .ref h0V, .ref h0T, .int (nI ns)])), (h0A, .inl (cI, 12, .inl fA)), (h0X, .inl (cI, 12, .inl fX)), (h0E, .inl (cI, 12, .inl (fun jj => nI (gE jj)))), (h0V, .inl (cI, 12, .inl fV)), (h0T, .inl (cC, 12, .inl fT))] sz (fun (r : Int32) => fun (_ : Unit) => r = nI ns) (fun (_ : Unit) => [(h0, .inr (8, [.ref h0A, .ref h0X, .ref h0E, .ref h0V, .ref h0T, .int (nI (ns + 1))])), (h0A, .inl (cI, 12, .inl (upd fA ns a9))), (h0X, .inl (cI, 12, .inl (upd fX ns s9))), (h0E, .inl (cI, 12, .inl (fun jj => nI ((va_up gE ns e9) jj)))), (h0V, .inl (cI, 12, .inl (upd fV ns (-1)))), (h0T, .inl (cC, 12, .inl (upd fT ns (nI 118))))]) 0 0 := by
  refine mk_MI (cc := cX6_enter) (maxL := 4) (ret := (some .int)) (by decide) rfl (Nat.le_of_ble_eq_true rfl) ?_
  intro p e s mI args below meth cO A cx hr hlk hnm hw ls hl
  have hx := cx.1
  have hb := cx.2.1
  have hw : ww D (TY cC cI cJ cZ cD) s A s.heap [(h0, .inr (8, [.ref h0A, .ref h0X, .ref h0E, .ref h0V, .ref h0T, .int (nI ns)])), (h0A, .inl (cI, 12, .inl fA)), (h0X, .inl (cI, 12, .inl fX)), (h0E, .inl (cI, 12, .inl (fun jj => nI (gE jj)))), (h0V, .inl (cI, 12, .inl fV)), (h0T, .inl (cC, 12, .inl fT))] s.heap [] := hw
  have hl : lv_has ls 4 [(0, .ref h0), (1, .int a9), (2, .int s9), (3, .int (nI e9))] := hl
  generalize hQ : MQ _ _ _ _ _ _ _ = Q
  refine hp_start hw (fun H locs hw => ?_)
  refine lv_aload_n hx hb dX6_enter_0 rfl (lv_at hl 0 rfl) ?_
  refine r_callVi (n := 0) (wr := []) cx hw (mX6_isFull l D cC cI cJ cZ cD h0 h0A h0X h0E h0V h0T ns fA fX gE fV fT H.size (by omega)) [0, 1, 2, 3, 4, 5] [] gX6_enter_X6_isFull rfl rfl rfl (by decide +kernel) ⟨Nat.le_of_ble_eq_true rfl, Nat.le_of_ble_eq_true rfl⟩ (q0 := 0) rfl rfl rfl rfl (by decide) (by decide) (by decide) rfl rfl hl.1 (Nat.le_of_ble_eq_true rfl) dX6_enter_1 ⟨Nat.le_of_ble_eq_true rfl, Nat.le_of_ble_eq_true rfl⟩ (fun r_1 u H locs hp hw => ?_)
  have hw : ww D (TY cC cI cJ cZ cD) s A s.heap [(h0, .inr (8, [.ref h0A, .ref h0X, .ref h0E, .ref h0V, .ref h0T, .int (nI ns)])), (h0A, .inl (cI, 12, .inl fA)), (h0X, .inl (cI, 12, .inl fX)), (h0E, .inl (cI, 12, .inl (fun jj => nI (gE jj)))), (h0V, .inl (cI, 12, .inl fV)), (h0T, .inl (cC, 12, .inl fT))] H locs := hw
  try dsimp only at hp
  have hb9 := hp
  rcases hb9 with ⟨rfl, b1⟩ | ⟨rfl, b1⟩
  · omega
  · refine r_if_ne cx 68 0 rfl (by omega) dX6_enter_4 (by decide) (fun c4 => by exact absurd c4 (by decide)) (fun c4 => ?_)
    refine lv_aload_n hx hb dX6_enter_7 rfl (lv_at hl 0 rfl) ?_
    refine r_get cx hw inX6_enter_6 0 0 rfl rfl (by decide) lkX6_enter_1 rfl dX6_enter_8 ?_
    refine lv_aload_n hx hb dX6_enter_11 rfl (lv_at hl 0 rfl) ?_
    refine r_get cx hw inX6_enter_6 0 5 rfl rfl (by decide) lkX6_enter_2 rfl dX6_enter_12 ?_
    refine lv_iload_n hx hb dX6_enter_15 rfl (lv_at hl 1 rfl) ?_
    refine r_iast cx hw 1 1 rfl rfl ns rfl (by omega) (by omega) dX6_enter_16 (fun H locs hw => ?_)
    have hw : ww D (TY cC cI cJ cZ cD) s A s.heap [(h0, .inr (8, [.ref h0A, .ref h0X, .ref h0E, .ref h0V, .ref h0T, .int (nI ns)])), (h0A, .inl (cI, 12, .inl (upd fA ns a9))), (h0X, .inl (cI, 12, .inl fX)), (h0E, .inl (cI, 12, .inl (fun jj => nI (gE jj)))), (h0V, .inl (cI, 12, .inl fV)), (h0T, .inl (cC, 12, .inl fT))] H locs := hw
    refine lv_aload_n hx hb dX6_enter_17 rfl (lv_at hl 0 rfl) ?_
    refine r_get cx hw inX6_enter_6 0 1 rfl rfl (by decide) lkX6_enter_3 rfl dX6_enter_18 ?_
    refine lv_aload_n hx hb dX6_enter_21 rfl (lv_at hl 0 rfl) ?_
    refine r_get cx hw inX6_enter_6 0 5 rfl rfl (by decide) lkX6_enter_2 rfl dX6_enter_22 ?_
    refine lv_iload_n hx hb dX6_enter_25 rfl (lv_at hl 2 rfl) ?_
    refine r_iast cx hw 2 1 rfl rfl ns rfl (by omega) (by omega) dX6_enter_26 (fun H locs hw => ?_)
    have hw : ww D (TY cC cI cJ cZ cD) s A s.heap [(h0, .inr (8, [.ref h0A, .ref h0X, .ref h0E, .ref h0V, .ref h0T, .int (nI ns)])), (h0A, .inl (cI, 12, .inl (upd fA ns a9))), (h0X, .inl (cI, 12, .inl (upd fX ns s9))), (h0E, .inl (cI, 12, .inl (fun jj => nI (gE jj)))), (h0V, .inl (cI, 12, .inl fV)), (h0T, .inl (cC, 12, .inl fT))] H locs := hw
    refine lv_aload_n hx hb dX6_enter_27 rfl (lv_at hl 0 rfl) ?_
    refine r_get cx hw inX6_enter_6 0 2 rfl rfl (by decide) lkX6_enter_4 rfl dX6_enter_28 ?_
    refine lv_aload_n hx hb dX6_enter_31 rfl (lv_at hl 0 rfl) ?_
    refine r_get cx hw inX6_enter_6 0 5 rfl rfl (by decide) lkX6_enter_2 rfl dX6_enter_32 ?_
    refine lv_iload_n hx hb dX6_enter_35 rfl (lv_at hl 3 rfl) ?_
    refine r_iastN cx hw 3 1 rfl rfl ns e9 rfl rfl (by omega) (by omega) dX6_enter_36 (fun H locs hw => ?_)
    have hw : ww D (TY cC cI cJ cZ cD) s A s.heap [(h0, .inr (8, [.ref h0A, .ref h0X, .ref h0E, .ref h0V, .ref h0T, .int (nI ns)])), (h0A, .inl (cI, 12, .inl (upd fA ns a9))), (h0X, .inl (cI, 12, .inl (upd fX ns s9))), (h0E, .inl (cI, 12, .inl (fun jj => nI ((va_up gE ns e9) jj)))), (h0V, .inl (cI, 12, .inl fV)), (h0T, .inl (cC, 12, .inl fT))] H locs := hw
    refine lv_aload_n hx hb dX6_enter_37 rfl (lv_at hl 0 rfl) ?_
    refine r_get cx hw inX6_enter_6 0 3 rfl rfl (by decide) lkX6_enter_5 rfl dX6_enter_38 ?_
    refine lv_aload_n hx hb dX6_enter_41 rfl (lv_at hl 0 rfl) ?_
    refine r_get cx hw inX6_enter_6 0 5 rfl rfl (by decide) lkX6_enter_2 rfl dX6_enter_42 ?_
    refine lv_iconst (v := (-1)) hx hb dX6_enter_45 (by decide) ?_
    refine r_iast cx hw 4 1 rfl rfl ns rfl (by omega) (by omega) dX6_enter_46 (fun H locs hw => ?_)
    have hw : ww D (TY cC cI cJ cZ cD) s A s.heap [(h0, .inr (8, [.ref h0A, .ref h0X, .ref h0E, .ref h0V, .ref h0T, .int (nI ns)])), (h0A, .inl (cI, 12, .inl (upd fA ns a9))), (h0X, .inl (cI, 12, .inl (upd fX ns s9))), (h0E, .inl (cI, 12, .inl (fun jj => nI ((va_up gE ns e9) jj)))), (h0V, .inl (cI, 12, .inl (upd fV ns (-1)))), (h0T, .inl (cC, 12, .inl fT))] H locs := hw
    refine lv_aload_n hx hb dX6_enter_47 rfl (lv_at hl 0 rfl) ?_
    refine r_get cx hw inX6_enter_6 0 4 rfl rfl (by decide) lkX6_enter_6 rfl dX6_enter_48 ?_
    refine lv_aload_n hx hb dX6_enter_51 rfl (lv_at hl 0 rfl) ?_
    refine r_get cx hw inX6_enter_6 0 5 rfl rfl (by decide) lkX6_enter_2 rfl dX6_enter_52 ?_
    refine lv_bipush (v := nI 118) hx hb dX6_enter_55 (by decide) ?_
    refine r_cast cx hw 5 0 rfl rfl ns rfl (by decide) (by omega) (by omega) dX6_enter_57 (fun H locs hw => ?_)
    have hw : ww D (TY cC cI cJ cZ cD) s A s.heap [(h0, .inr (8, [.ref h0A, .ref h0X, .ref h0E, .ref h0V, .ref h0T, .int (nI ns)])), (h0A, .inl (cI, 12, .inl (upd fA ns a9))), (h0X, .inl (cI, 12, .inl (upd fX ns s9))), (h0E, .inl (cI, 12, .inl (fun jj => nI ((va_up gE ns e9) jj)))), (h0V, .inl (cI, 12, .inl (upd fV ns (-1)))), (h0T, .inl (cC, 12, .inl (upd fT ns (nI 118))))] H locs := hw
    refine lv_aload_n hx hb dX6_enter_58 rfl (lv_at hl 0 rfl) ?_
    refine lv_dup hx hb dX6_enter_59 rfl ?_
    refine r_get cx hw inX6_enter_6 0 5 rfl rfl (by decide) lkX6_enter_2 rfl dX6_enter_60 ?_
    refine lv_iconst (v := nI 1) hx hb dX6_enter_63 (by decide) ?_
    refine r_iadd cx ns 1 rfl rfl dX6_enter_64 ?_
    refine r_put cx hw inX6_enter_6 tyX6 tyX6_ok nmX6 0 5 rfl rfl (by decide) lkX6_enter_2 rfl rfl rfl (Nat.le_of_ble_eq_true rfl) dX6_enter_65 (fun H locs hw => ?_)
    have hw : ww D (TY cC cI cJ cZ cD) s A s.heap [(h0, .inr (8, [.ref h0A, .ref h0X, .ref h0E, .ref h0V, .ref h0T, .int (nI (ns + 1))])), (h0A, .inl (cI, 12, .inl (upd fA ns a9))), (h0X, .inl (cI, 12, .inl (upd fX ns s9))), (h0E, .inl (cI, 12, .inl (fun jj => nI ((va_up gE ns e9) jj)))), (h0V, .inl (cI, 12, .inl (upd fV ns (-1)))), (h0T, .inl (cC, 12, .inl (upd fT ns (nI 118))))] H locs := hw
    refine lv_aload_n hx hb dX6_enter_68 rfl (lv_at hl 0 rfl) ?_
    refine r_get cx hw inX6_enter_6 0 5 rfl rfl (by decide) lkX6_enter_2 rfl dX6_enter_69 ?_
    refine lv_iconst (v := nI 1) hx hb dX6_enter_72 (by decide) ?_
    refine r_isub cx (ns + 1) 1 rfl rfl (by omega) dX6_enter_73 ?_
    subst hQ
    exact r_reti (v := nI (ns + 1 - 1)) cx hr rfl hlk hw (Nat.le_of_ble_eq_true rfl) (Nat.le_of_ble_eq_true rfl) () rfl [0, 1, 2, 3, 4, 5] (by decide) rfl dX6_enter_74

theorem lkX6_isValidOver_1 : Cond.fieldLink RX6 24 "SignedDocument$SignatureBook" "states" "[C" ∈ wsX6_isValidOver := List.mem_of_getElem? (i := 1) rfl
theorem inX6_isValidOver_6 : ∀ w ∈ u_ws RX6 TX6 6, w ∈ wsX6_isValidOver := fun _ h => List.mem_cons_of_mem _ (List.mem_append_left _ (List.mem_append_right _ h))
theorem lkX6_isValidOver_2 : Cond.fieldLink RX6 15 "SignedDocument$SignatureBook" "clauseSets" "[I" ∈ wsX6_isValidOver := List.mem_of_getElem? (i := 2) rfl
set_option maxRecDepth 100000 in
set_option maxHeartbeats 4000000 in
theorem mX6_isValidOver (l : Launch) (D : va_G) (cC cI cJ cZ cD : ClassId) (h0 h0A h0X h0E h0V h0T : Nat) (ns : Nat) (fA fX : Nat → Int32) (gE : Nat → Nat) (fV fT : Nat → Int32) (i : Nat) (st : Int32) (sz : Nat) (hi : i < 12) : MI l yX6_isValidOver wsX6_isValidOver ({ frames := 0, cells := 0, slots := 0, locals := 0 }) [.ref h0, .int (nI i), .int st] D (TY cC cI cJ cZ cD) [(h0, .inr (8, [.ref h0A, .ref h0X, .ref h0E, .ref h0V, .ref h0T, .int (nI ns)])), (h0A, .inl (cI, 12, .inl fA)), (h0X, .inl (cI, 12, .inl fX)), (h0E, .inl (cI, 12, .inl (fun jj => nI (gE jj)))), (h0V, .inl (cI, 12, .inl fV)), (h0T, .inl (cC, 12, .inl fT))] sz (fun (r : Int32) => fun (_ : Unit) => ((r = nI 1 ∧ (vo fT fX st i = true)) ∨ (r = nI 0 ∧ ¬ (vo fT fX st i = true)))) (fun (_ : Unit) => [(h0, .inr (8, [.ref h0A, .ref h0X, .ref h0E, .ref h0V, .ref h0T, .int (nI ns)])), (h0A, .inl (cI, 12, .inl fA)), (h0X, .inl (cI, 12, .inl fX)), (h0E, .inl (cI, 12, .inl (fun jj => nI (gE jj)))), (h0V, .inl (cI, 12, .inl fV)), (h0T, .inl (cC, 12, .inl fT))]) 0 0 := by
  refine mk_MI (cc := cX6_isValidOver) (maxL := 3) (ret := (some .boolean)) (by decide) rfl (Nat.le_of_ble_eq_true rfl) ?_
  intro p e s mI args below meth cO A cx hr hlk hnm hw ls hl
  have hx := cx.1
  have hb := cx.2.1
  have hw : ww D (TY cC cI cJ cZ cD) s A s.heap [(h0, .inr (8, [.ref h0A, .ref h0X, .ref h0E, .ref h0V, .ref h0T, .int (nI ns)])), (h0A, .inl (cI, 12, .inl fA)), (h0X, .inl (cI, 12, .inl fX)), (h0E, .inl (cI, 12, .inl (fun jj => nI (gE jj)))), (h0V, .inl (cI, 12, .inl fV)), (h0T, .inl (cC, 12, .inl fT))] s.heap [] := hw
  have hl : lv_has ls 3 [(0, .ref h0), (1, .int (nI i)), (2, .int st)] := hl
  generalize hQ : MQ _ _ _ _ _ _ _ = Q
  refine hp_start hw (fun H locs hw => ?_)
  refine lv_aload_n hx hb dX6_isValidOver_0 rfl (lv_at hl 0 rfl) ?_
  refine r_get cx hw inX6_isValidOver_6 0 4 rfl rfl (by decide) lkX6_isValidOver_1 rfl dX6_isValidOver_1 ?_
  refine lv_iload_n hx hb dX6_isValidOver_4 rfl (lv_at hl 1 rfl) ?_
  refine r_cald cx hw 5 0 rfl rfl i rfl (by omega) (by omega) dX6_isValidOver_5 ?_
  refine lv_bipush (v := nI 118) hx hb dX6_isValidOver_6 (by decide) ?_
  refine lv_icmp_ne (tgt := 26) hx hb dX6_isValidOver_8 (by decide) (fun c8 => ?_) (fun c8 => ?_)
  · refine lv_iconst (v := nI 0) hx hb dX6_isValidOver_26 (by decide) ?_
    subst hQ
    exact r_reti (v := nI 0) cx hr (by decide) hlk hw (Nat.le_of_ble_eq_true rfl) (Nat.le_of_ble_eq_true rfl) () (Or.inr ⟨rfl, fun q => by have := vo_t.mp q; first | exact c8 this.1 | exact this.2 c19⟩) [0, 1, 2, 3, 4, 5] (by decide) rfl dX6_isValidOver_27
  · refine lv_aload_n hx hb dX6_isValidOver_11 rfl (lv_at hl 0 rfl) ?_
    refine r_get cx hw inX6_isValidOver_6 0 1 rfl rfl (by decide) lkX6_isValidOver_2 rfl dX6_isValidOver_12 ?_
    refine lv_iload_n hx hb dX6_isValidOver_15 rfl (lv_at hl 1 rfl) ?_
    refine r_iald cx hw 2 1 rfl rfl i rfl (by omega) (by omega) dX6_isValidOver_16 ?_
    refine lv_iload_n hx hb dX6_isValidOver_17 rfl (lv_at hl 2 rfl) ?_
    refine lv_iand hx hb dX6_isValidOver_18 ?_
    refine lv_if_eq (tgt := 26) hx hb dX6_isValidOver_19 (by decide) (fun c19 => ?_) (fun c19 => ?_)
    · refine lv_iconst (v := nI 0) hx hb dX6_isValidOver_26 (by decide) ?_
      subst hQ
      exact r_reti (v := nI 0) cx hr (by decide) hlk hw (Nat.le_of_ble_eq_true rfl) (Nat.le_of_ble_eq_true rfl) () (Or.inr ⟨rfl, fun q => by have := vo_t.mp q; first | exact c8 this.1 | exact this.2 c19⟩) [0, 1, 2, 3, 4, 5] (by decide) rfl dX6_isValidOver_27
    · refine lv_iconst (v := nI 1) hx hb dX6_isValidOver_22 (by decide) ?_
      refine lv_goto (tgt := 27) hx hb dX6_isValidOver_23 (by decide) ?_
      subst hQ
      exact r_reti (v := nI 1) cx hr (by decide) hlk hw (Nat.le_of_ble_eq_true rfl) (Nat.le_of_ble_eq_true rfl) () (Or.inl ⟨rfl, vo_t.mpr ⟨c8, c19⟩⟩) [0, 1, 2, 3, 4, 5] (by decide) rfl dX6_isValidOver_27

theorem lkX6_lowestValid_1 : Cond.fieldLink RX6 28 "SignedDocument$SignatureBook" "size" "I" ∈ wsX6_lowestValid := List.mem_of_getElem? (i := 1) rfl
theorem inX6_lowestValid_6 : ∀ w ∈ u_ws RX6 TX6 6, w ∈ wsX6_lowestValid := fun _ h => List.mem_cons_of_mem _ (List.mem_append_left _ (List.mem_append_right _ h))
set_option maxRecDepth 100000 in
set_option maxHeartbeats 4000000 in
theorem mX6_lowestValid (l : Launch) (D : va_G) (cC cI cJ cZ cD : ClassId) (h0 h0A h0X h0E h0V h0T : Nat) (ns : Nat) (fA fX : Nat → Int32) (gE : Nat → Nat) (fV fT : Nat → Int32) (st : Int32) (sz : Nat) (hns : ns ≤ 12) : MI l yX6_lowestValid wsX6_lowestValid ({ frames := 1, cells := 0, slots := 0, locals := 22 }) [.ref h0, .int st] D (TY cC cI cJ cZ cD) [(h0, .inr (8, [.ref h0A, .ref h0X, .ref h0E, .ref h0V, .ref h0T, .int (nI ns)])), (h0A, .inl (cI, 12, .inl fA)), (h0X, .inl (cI, 12, .inl fX)), (h0E, .inl (cI, 12, .inl (fun jj => nI (gE jj)))), (h0V, .inl (cI, 12, .inl fV)), (h0T, .inl (cC, 12, .inl fT))] sz (fun (r : Int32) => fun (_ : Unit) => r = low (vo fT fX st) ns) (fun (_ : Unit) => [(h0, .inr (8, [.ref h0A, .ref h0X, .ref h0E, .ref h0V, .ref h0T, .int (nI ns)])), (h0A, .inl (cI, 12, .inl fA)), (h0X, .inl (cI, 12, .inl fX)), (h0E, .inl (cI, 12, .inl (fun jj => nI (gE jj)))), (h0V, .inl (cI, 12, .inl fV)), (h0T, .inl (cC, 12, .inl fT))]) 0 0 := by
  refine mk_MI (cc := cX6_lowestValid) (maxL := 3) (ret := (some .int)) (by decide) rfl (Nat.le_of_ble_eq_true rfl) ?_
  intro p e s mI args below meth cO A cx hr hlk hnm hw ls hl
  have hx := cx.1
  have hb := cx.2.1
  have hw : ww D (TY cC cI cJ cZ cD) s A s.heap [(h0, .inr (8, [.ref h0A, .ref h0X, .ref h0E, .ref h0V, .ref h0T, .int (nI ns)])), (h0A, .inl (cI, 12, .inl fA)), (h0X, .inl (cI, 12, .inl fX)), (h0E, .inl (cI, 12, .inl (fun jj => nI (gE jj)))), (h0V, .inl (cI, 12, .inl fV)), (h0T, .inl (cC, 12, .inl fT))] s.heap [] := hw
  have hl : lv_has ls 3 [(0, .ref h0), (1, .int st)] := hl
  generalize hQ : MQ _ _ _ _ _ _ _ = Q
  refine hp_start hw (fun H locs hw => ?_)
  refine lv_iconst (v := nI 0) hx hb dX6_lowestValid_0 (by decide) ?_
  refine lv_istore_n (lv' := [(2, .int (nI 0)), (0, .ref h0), (1, .int st)]) hx hb dX6_lowestValid_1 rfl hl (by decide) rfl (fun ls hl => ?_)
  have K2_0 : ∀ (f : Nat) (i : Nat), (12 - i) < f → (i ≤ ns) → (∀ j, j < i → ¬ vo fT fX st j = true) → ∀ (H : Heap) (locs : List Loc), ww D (TY cC cI cJ cZ cD) s A s.heap [(h0, .inr (8, [.ref h0A, .ref h0X, .ref h0E, .ref h0V, .ref h0T, .int (nI ns)])), (h0A, .inl (cI, 12, .inl fA)), (h0X, .inl (cI, 12, .inl fX)), (h0E, .inl (cI, 12, .inl (fun jj => nI (gE jj)))), (h0V, .inl (cI, 12, .inl fV)), (h0T, .inl (cC, 12, .inl fT))] H locs → ∀ ls : Array Slot, lv_has ls 3 [(0, .ref h0), (1, .int st), (2, .int (nI i))] → W p l e ({ frames := 1, cells := 0, slots := 0, locals := 22 } : Room) s mI args below meth cO H locs 0 0 Q (F0 mI 2 ls []) := by
    intro f
    induction f with
    | zero => intro i hms9; exact absurd hms9 (Nat.not_lt_zero _)
    | succ f ih2 =>
      intro i hms9 hi hf H locs hw ls hl
      refine lv_iload_n hx hb dX6_lowestValid_2 rfl (lv_at hl 2 rfl) ?_
      refine lv_aload_n hx hb dX6_lowestValid_3 rfl (lv_at hl 0 rfl) ?_
      refine r_get cx hw inX6_lowestValid_6 0 5 rfl rfl (by decide) lkX6_lowestValid_1 rfl dX6_lowestValid_4 ?_
      refine r_icmp_ge cx 27 i ns rfl rfl (by omega) (by omega) dX6_lowestValid_7 (by decide) (fun c7 => ?_) (fun c7 => ?_)
      · refine lv_iconst (v := (-1)) hx hb dX6_lowestValid_27 (by decide) ?_
        subst hQ
        exact r_reti (v := (-1)) cx hr rfl hlk hw (Nat.le_of_ble_eq_true rfl) (Nat.le_of_ble_eq_true rfl) () (low_none (fun j h => hf j (by omega))).symm [0, 1, 2, 3, 4, 5] (by decide) rfl dX6_lowestValid_28
      · refine lv_aload_n hx hb dX6_lowestValid_10 rfl (lv_at hl 0 rfl) ?_
        refine lv_iload_n hx hb dX6_lowestValid_11 rfl (lv_at hl 2 rfl) ?_
        refine lv_iload_n hx hb dX6_lowestValid_12 rfl (lv_at hl 1 rfl) ?_
        refine r_callVi (n := 2) (wr := []) cx hw (mX6_isValidOver l D cC cI cJ cZ cD h0 h0A h0X h0E h0V h0T ns fA fX gE fV fT i st H.size (by omega)) [0, 1, 2, 3, 4, 5] [] gX6_lowestValid_X6_isValidOver rfl rfl rfl (by decide +kernel) ⟨Nat.le_of_ble_eq_true rfl, Nat.le_of_ble_eq_true rfl⟩ (q0 := 0) rfl rfl rfl rfl (by decide) (by decide) (by decide) rfl rfl hl.1 (Nat.le_of_ble_eq_true rfl) dX6_lowestValid_13 ⟨Nat.le_of_ble_eq_true rfl, Nat.le_of_ble_eq_true rfl⟩ (fun r_2 u H locs hp hw => ?_)
        have hw : ww D (TY cC cI cJ cZ cD) s A s.heap [(h0, .inr (8, [.ref h0A, .ref h0X, .ref h0E, .ref h0V, .ref h0T, .int (nI ns)])), (h0A, .inl (cI, 12, .inl fA)), (h0X, .inl (cI, 12, .inl fX)), (h0E, .inl (cI, 12, .inl (fun jj => nI (gE jj)))), (h0V, .inl (cI, 12, .inl fV)), (h0T, .inl (cC, 12, .inl fT))] H locs := hw
        try dsimp only at hp
        have hb9 := hp
        rcases hb9 with ⟨rfl, b13⟩ | ⟨rfl, b13⟩
        · refine r_if_eq cx 21 1 rfl (by omega) dX6_lowestValid_16 (by decide) (fun c16 => by exact absurd c16 (by decide)) (fun c16 => ?_)
          refine lv_iload_n hx hb dX6_lowestValid_19 rfl (lv_at hl 2 rfl) ?_
          subst hQ
          exact r_reti (v := nI i) cx hr rfl hlk hw (Nat.le_of_ble_eq_true rfl) (Nat.le_of_ble_eq_true rfl) () (low_at c7 b13 hf).symm [0, 1, 2, 3, 4, 5] (by decide) rfl dX6_lowestValid_20
        · refine r_if_eq cx 21 0 rfl (by omega) dX6_lowestValid_16 (by decide) (fun c16 => ?_) (fun c16 => by exact absurd c16 (by decide))
          refine lv_iinc (v := nI (i + 1)) (lv' := [(2, .int (nI (i + 1))), (0, .ref h0), (1, .int st)]) hx hb dX6_lowestValid_21 hl (k := 2) rfl (by rw [ii1, nI_1]) (by decide) rfl (fun ls hl => ?_)
          refine lv_goto (tgt := 2) hx hb dX6_lowestValid_24 (by decide) ?_
          exact ih2 (i + 1) (by omega) (by omega) (by intro j h; rcases Nat.lt_or_ge j i with q | q; exact hf j q; rw [show j = i by omega]; exact b13) _ _ hw _ (lv_sub hl [1, 2, 0] rfl)
  exact K2_0 _ 0 (Nat.lt_succ_self _) (by omega) (by intro j h; omega) _ _ hw _ (lv_sub hl [1, 2, 0] rfl)

theorem lkX6_makeVoid_1 : Cond.fieldLink RX6 28 "SignedDocument$SignatureBook" "size" "I" ∈ wsX6_makeVoid := List.mem_of_getElem? (i := 1) rfl
theorem inX6_makeVoid_6 : ∀ w ∈ u_ws RX6 TX6 6, w ∈ wsX6_makeVoid := fun _ h => List.mem_cons_of_mem _ (List.mem_append_left _ (List.mem_append_right _ h))
theorem lkX6_makeVoid_2 : Cond.fieldLink RX6 24 "SignedDocument$SignatureBook" "states" "[C" ∈ wsX6_makeVoid := List.mem_of_getElem? (i := 2) rfl
theorem lkX6_makeVoid_3 : Cond.fieldLink RX6 21 "SignedDocument$SignatureBook" "voidingEdits" "[I" ∈ wsX6_makeVoid := List.mem_of_getElem? (i := 3) rfl
set_option maxRecDepth 100000 in
set_option maxHeartbeats 4000000 in
theorem mX6_makeVoid (l : Launch) (D : va_G) (cC cI cJ cZ cD : ClassId) (h0 h0A h0X h0E h0V h0T : Nat) (ns : Nat) (fA fX : Nat → Int32) (gE : Nat → Nat) (fV fT : Nat → Int32) (st : Int32) (e9 : Nat) (sz : Nat) (hns : ns ≤ 12) (hfT : ∀ j, vp_nar .char (fT j) = fT j) : MI l yX6_makeVoid wsX6_makeVoid ({ frames := 1, cells := 0, slots := 0, locals := 22 }) [.ref h0, .int st, .int (nI e9)] D (TY cC cI cJ cZ cD) [(h0, .inr (8, [.ref h0A, .ref h0X, .ref h0E, .ref h0V, .ref h0T, .int (nI ns)])), (h0A, .inl (cI, 12, .inl fA)), (h0X, .inl (cI, 12, .inl fX)), (h0E, .inl (cI, 12, .inl (fun jj => nI (gE jj)))), (h0V, .inl (cI, 12, .inl fV)), (h0T, .inl (cC, 12, .inl fT))] sz (fun (r : Int32) => fun (_ : Unit) => r = nI (ct (vo fT fX st) ns)) (fun (_ : Unit) => [(h0, .inr (8, [.ref h0A, .ref h0X, .ref h0E, .ref h0V, .ref h0T, .int (nI ns)])), (h0A, .inl (cI, 12, .inl fA)), (h0X, .inl (cI, 12, .inl fX)), (h0E, .inl (cI, 12, .inl (fun jj => nI (gE jj)))), (h0V, .inl (cI, 12, .inl (vdp (vo fT fX st) (nI e9) fV ns))), (h0T, .inl (cC, 12, .inl (vdp (vo fT fX st) (nI 120) fT ns)))]) 0 0 := by
  refine mk_MI (cc := cX6_makeVoid) (maxL := 5) (ret := (some .int)) (by decide) rfl (Nat.le_of_ble_eq_true rfl) ?_
  intro p e s mI args below meth cO A cx hr hlk hnm hw ls hl
  have hx := cx.1
  have hb := cx.2.1
  have hw : ww D (TY cC cI cJ cZ cD) s A s.heap [(h0, .inr (8, [.ref h0A, .ref h0X, .ref h0E, .ref h0V, .ref h0T, .int (nI ns)])), (h0A, .inl (cI, 12, .inl fA)), (h0X, .inl (cI, 12, .inl fX)), (h0E, .inl (cI, 12, .inl (fun jj => nI (gE jj)))), (h0V, .inl (cI, 12, .inl fV)), (h0T, .inl (cC, 12, .inl fT))] s.heap [] := hw
  have hl : lv_has ls 5 [(0, .ref h0), (1, .int st), (2, .int (nI e9))] := hl
  generalize hQ : MQ _ _ _ _ _ _ _ = Q
  refine hp_start hw (fun H locs hw => ?_)
  refine lv_iconst (v := nI 0) hx hb dX6_makeVoid_0 (by decide) ?_
  refine lv_istore_n (lv' := [(3, .int (nI 0)), (0, .ref h0), (1, .int st), (2, .int (nI e9))]) hx hb dX6_makeVoid_1 rfl hl (by decide) rfl (fun ls hl => ?_)
  refine lv_iconst (v := nI 0) hx hb dX6_makeVoid_2 (by decide) ?_
  refine lv_istore (lv' := [(4, .int (nI 0)), (3, .int (nI 0)), (0, .ref h0), (1, .int st), (2, .int (nI e9))]) hx hb dX6_makeVoid_3 hl (by decide) rfl (fun ls hl => ?_)
  have K5_0 : ∀ (f : Nat) (q : Nat) (i : Nat) (V1 : Nat → Int32) (T1 : Nat → Int32), (12 - i) < f → (i ≤ ns) → (q = ct (vo fT fX st) i) → (V1 = vdp (vo fT fX st) (nI e9) fV i) → (T1 = vdp (vo fT fX st) (nI 120) fT i) → ∀ (H : Heap) (locs : List Loc), ww D (TY cC cI cJ cZ cD) s A s.heap [(h0, .inr (8, [.ref h0A, .ref h0X, .ref h0E, .ref h0V, .ref h0T, .int (nI ns)])), (h0A, .inl (cI, 12, .inl fA)), (h0X, .inl (cI, 12, .inl fX)), (h0E, .inl (cI, 12, .inl (fun jj => nI (gE jj)))), (h0V, .inl (cI, 12, .inl V1)), (h0T, .inl (cC, 12, .inl T1))] H locs → ∀ ls : Array Slot, lv_has ls 5 [(0, .ref h0), (1, .int st), (2, .int (nI e9)), (3, .int (nI q)), (4, .int (nI i))] → W p l e ({ frames := 1, cells := 0, slots := 0, locals := 22 } : Room) s mI args below meth cO H locs 0 0 Q (F0 mI 5 ls []) := by
    intro f
    induction f with
    | zero => intro q i V1 T1 hms9; exact absurd hms9 (Nat.not_lt_zero _)
    | succ f ih5 =>
      intro q i V1 T1 hms9 hi hq hV1 hT1 H locs hw ls hl
      have hT1c : ∀ j, vp_nar .char (T1 j) = T1 j := by rw [hT1]; exact CA_vdp hfT
      refine lv_iload hx hb dX6_makeVoid_5 (lv_at hl 4 rfl) ?_
      refine lv_aload_n hx hb dX6_makeVoid_7 rfl (lv_at hl 0 rfl) ?_
      refine r_get cx hw inX6_makeVoid_6 0 5 rfl rfl (by decide) lkX6_makeVoid_1 rfl dX6_makeVoid_8 ?_
      refine r_icmp_ge cx 50 i ns rfl rfl (by omega) (by omega) dX6_makeVoid_11 (by decide) (fun c11 => ?_) (fun c11 => ?_)
      · refine lv_iload_n hx hb dX6_makeVoid_50 rfl (lv_at hl 3 rfl) ?_
        have e8 : i = ns := by omega
        rw [hV1, hT1, e8] at hw
        have hw : ww D (TY cC cI cJ cZ cD) s A s.heap [(h0, .inr (8, [.ref h0A, .ref h0X, .ref h0E, .ref h0V, .ref h0T, .int (nI ns)])), (h0A, .inl (cI, 12, .inl fA)), (h0X, .inl (cI, 12, .inl fX)), (h0E, .inl (cI, 12, .inl (fun jj => nI (gE jj)))), (h0V, .inl (cI, 12, .inl (vdp (vo fT fX st) (nI e9) fV ns))), (h0T, .inl (cC, 12, .inl (vdp (vo fT fX st) (nI 120) fT ns)))] H locs := hw
        subst hQ
        exact r_reti (v := nI q) cx hr rfl hlk hw (Nat.le_of_ble_eq_true rfl) (Nat.le_of_ble_eq_true rfl) () (by rw [hq, e8]) [0, 1, 2, 3, 4, 5] (by decide) rfl dX6_makeVoid_51
      · refine lv_aload_n hx hb dX6_makeVoid_14 rfl (lv_at hl 0 rfl) ?_
        refine lv_iload hx hb dX6_makeVoid_15 (lv_at hl 4 rfl) ?_
        refine lv_iload_n hx hb dX6_makeVoid_17 rfl (lv_at hl 1 rfl) ?_
        refine r_callVi (n := 2) (wr := []) cx hw (mX6_isValidOver l D cC cI cJ cZ cD h0 h0A h0X h0E h0V h0T ns fA fX gE V1 T1 i st H.size (by omega)) [0, 1, 2, 3, 4, 5] [] gX6_makeVoid_X6_isValidOver rfl rfl rfl (by decide +kernel) ⟨Nat.le_of_ble_eq_true rfl, Nat.le_of_ble_eq_true rfl⟩ (q0 := 0) rfl rfl rfl rfl (by decide) (by decide) (by decide) rfl rfl hl.1 (Nat.le_of_ble_eq_true rfl) dX6_makeVoid_18 ⟨Nat.le_of_ble_eq_true rfl, Nat.le_of_ble_eq_true rfl⟩ (fun r_2 u H locs hp hw => ?_)
        have hw : ww D (TY cC cI cJ cZ cD) s A s.heap [(h0, .inr (8, [.ref h0A, .ref h0X, .ref h0E, .ref h0V, .ref h0T, .int (nI ns)])), (h0A, .inl (cI, 12, .inl fA)), (h0X, .inl (cI, 12, .inl fX)), (h0E, .inl (cI, 12, .inl (fun jj => nI (gE jj)))), (h0V, .inl (cI, 12, .inl V1)), (h0T, .inl (cC, 12, .inl T1))] H locs := hw
        try dsimp only at hp
        have hb9 := hp
        rcases hb9 with ⟨rfl, b18⟩ | ⟨rfl, b18⟩
        · refine r_if_eq cx 44 1 rfl (by omega) dX6_makeVoid_21 (by decide) (fun c21 => by exact absurd c21 (by decide)) (fun c21 => ?_)
          refine lv_aload_n hx hb dX6_makeVoid_24 rfl (lv_at hl 0 rfl) ?_
          refine r_get cx hw inX6_makeVoid_6 0 4 rfl rfl (by decide) lkX6_makeVoid_2 rfl dX6_makeVoid_25 ?_
          refine lv_iload hx hb dX6_makeVoid_28 (lv_at hl 4 rfl) ?_
          refine lv_bipush (v := nI 120) hx hb dX6_makeVoid_30 (by decide) ?_
          refine r_cast cx hw 5 0 rfl rfl i rfl (by decide) (by omega) (by omega) dX6_makeVoid_32 (fun H locs hw => ?_)
          have hw : ww D (TY cC cI cJ cZ cD) s A s.heap [(h0, .inr (8, [.ref h0A, .ref h0X, .ref h0E, .ref h0V, .ref h0T, .int (nI ns)])), (h0A, .inl (cI, 12, .inl fA)), (h0X, .inl (cI, 12, .inl fX)), (h0E, .inl (cI, 12, .inl (fun jj => nI (gE jj)))), (h0V, .inl (cI, 12, .inl V1)), (h0T, .inl (cC, 12, .inl (upd T1 i (nI 120))))] H locs := hw
          refine lv_aload_n hx hb dX6_makeVoid_33 rfl (lv_at hl 0 rfl) ?_
          refine r_get cx hw inX6_makeVoid_6 0 3 rfl rfl (by decide) lkX6_makeVoid_3 rfl dX6_makeVoid_34 ?_
          refine lv_iload hx hb dX6_makeVoid_37 (lv_at hl 4 rfl) ?_
          refine lv_iload_n hx hb dX6_makeVoid_39 rfl (lv_at hl 2 rfl) ?_
          refine r_iast cx hw 4 1 rfl rfl i rfl (by omega) (by omega) dX6_makeVoid_40 (fun H locs hw => ?_)
          have hw : ww D (TY cC cI cJ cZ cD) s A s.heap [(h0, .inr (8, [.ref h0A, .ref h0X, .ref h0E, .ref h0V, .ref h0T, .int (nI ns)])), (h0A, .inl (cI, 12, .inl fA)), (h0X, .inl (cI, 12, .inl fX)), (h0E, .inl (cI, 12, .inl (fun jj => nI (gE jj)))), (h0V, .inl (cI, 12, .inl (upd V1 i (nI e9)))), (h0T, .inl (cC, 12, .inl (upd T1 i (nI 120))))] H locs := hw
          refine lv_iinc (v := nI (q + 1)) (lv' := [(3, .int (nI (q + 1))), (0, .ref h0), (1, .int st), (2, .int (nI e9)), (4, .int (nI i))]) hx hb dX6_makeVoid_41 hl (k := 3) rfl (by rw [ii1, nI_1]) (by decide) rfl (fun ls hl => ?_)
          refine lv_iinc (v := nI (i + 1)) (lv' := [(4, .int (nI (i + 1))), (3, .int (nI (q + 1))), (0, .ref h0), (1, .int st), (2, .int (nI e9))]) hx hb dX6_makeVoid_44 hl (k := 4) rfl (by rw [ii1, nI_1]) (by decide) rfl (fun ls hl => ?_)
          refine lv_goto (tgt := 5) hx hb dX6_makeVoid_47 (by decide) ?_
          exact ih5 (q + 1) (i + 1) (upd V1 i (nI e9)) (upd T1 i (nI 120)) (by omega) (by omega) (by rw [ct_t (by rw [vo_at1 hT1] at b18; exact b18), hq]) (by rw [hV1]; exact vdp_t (by rw [vo_at1 hT1] at b18; exact b18)) (by rw [hT1]; exact vdp_t (by rw [vo_at1 hT1] at b18; exact b18)) _ _ hw _ (lv_sub hl [2, 3, 4, 1, 0] rfl)
        · refine r_if_eq cx 44 0 rfl (by omega) dX6_makeVoid_21 (by decide) (fun c21 => ?_) (fun c21 => by exact absurd c21 (by decide))
          refine lv_iinc (v := nI (i + 1)) (lv' := [(4, .int (nI (i + 1))), (0, .ref h0), (1, .int st), (2, .int (nI e9)), (3, .int (nI q))]) hx hb dX6_makeVoid_44 hl (k := 4) rfl (by rw [ii1, nI_1]) (by decide) rfl (fun ls hl => ?_)
          refine lv_goto (tgt := 5) hx hb dX6_makeVoid_47 (by decide) ?_
          exact ih5 q (i + 1) V1 T1 (by omega) (by omega) (by rw [ct_f (by rw [vo_at1 hT1] at b18; exact b18), hq]) (by rw [hV1]; exact vdp_f (by rw [vo_at1 hT1] at b18; exact b18)) (by rw [hT1]; exact vdp_f (by rw [vo_at1 hT1] at b18; exact b18)) _ _ hw _ (lv_sub hl [1, 2, 3, 4, 0] rfl)
  exact K5_0 _ 0 0 fV fT (Nat.lt_succ_self _) (by omega) (by rfl) (by rw [vdp_0]) (by rw [vdp_0]) _ _ hw _ (lv_sub hl [2, 3, 4, 1, 0] rfl)

theorem lkX6_countValid_1 : Cond.fieldLink RX6 28 "SignedDocument$SignatureBook" "size" "I" ∈ wsX6_countValid := List.mem_of_getElem? (i := 1) rfl
theorem inX6_countValid_6 : ∀ w ∈ u_ws RX6 TX6 6, w ∈ wsX6_countValid := fun _ h => List.mem_cons_of_mem _ (List.mem_append_left _ (List.mem_append_right _ h))
theorem lkX6_countValid_2 : Cond.fieldLink RX6 24 "SignedDocument$SignatureBook" "states" "[C" ∈ wsX6_countValid := List.mem_of_getElem? (i := 2) rfl
set_option maxRecDepth 100000 in
set_option maxHeartbeats 4000000 in
theorem mX6_countValid (l : Launch) (D : va_G) (cC cI cJ cZ cD : ClassId) (h0 h0A h0X h0E h0V h0T : Nat) (ns : Nat) (fA fX : Nat → Int32) (gE : Nat → Nat) (fV fT : Nat → Int32) (sz : Nat) (hns : ns ≤ 12) : MI l yX6_countValid wsX6_countValid ({ frames := 0, cells := 0, slots := 0, locals := 0 }) [.ref h0] D (TY cC cI cJ cZ cD) [(h0, .inr (8, [.ref h0A, .ref h0X, .ref h0E, .ref h0V, .ref h0T, .int (nI ns)])), (h0A, .inl (cI, 12, .inl fA)), (h0X, .inl (cI, 12, .inl fX)), (h0E, .inl (cI, 12, .inl (fun jj => nI (gE jj)))), (h0V, .inl (cI, 12, .inl fV)), (h0T, .inl (cC, 12, .inl fT))] sz (fun (r : Int32) => fun (_ : Unit) => r = nI (ct (fun j => decide (fT j = nI 118)) ns)) (fun (_ : Unit) => [(h0, .inr (8, [.ref h0A, .ref h0X, .ref h0E, .ref h0V, .ref h0T, .int (nI ns)])), (h0A, .inl (cI, 12, .inl fA)), (h0X, .inl (cI, 12, .inl fX)), (h0E, .inl (cI, 12, .inl (fun jj => nI (gE jj)))), (h0V, .inl (cI, 12, .inl fV)), (h0T, .inl (cC, 12, .inl fT))]) 0 0 := by
  refine mk_MI (cc := cX6_countValid) (maxL := 3) (ret := (some .int)) (by decide) rfl (Nat.le_of_ble_eq_true rfl) ?_
  intro p e s mI args below meth cO A cx hr hlk hnm hw ls hl
  have hx := cx.1
  have hb := cx.2.1
  have hw : ww D (TY cC cI cJ cZ cD) s A s.heap [(h0, .inr (8, [.ref h0A, .ref h0X, .ref h0E, .ref h0V, .ref h0T, .int (nI ns)])), (h0A, .inl (cI, 12, .inl fA)), (h0X, .inl (cI, 12, .inl fX)), (h0E, .inl (cI, 12, .inl (fun jj => nI (gE jj)))), (h0V, .inl (cI, 12, .inl fV)), (h0T, .inl (cC, 12, .inl fT))] s.heap [] := hw
  have hl : lv_has ls 3 [(0, .ref h0)] := hl
  generalize hQ : MQ _ _ _ _ _ _ _ = Q
  refine hp_start hw (fun H locs hw => ?_)
  refine lv_iconst (v := nI 0) hx hb dX6_countValid_0 (by decide) ?_
  refine lv_istore_n (lv' := [(1, .int (nI 0)), (0, .ref h0)]) hx hb dX6_countValid_1 rfl hl (by decide) rfl (fun ls hl => ?_)
  refine lv_iconst (v := nI 0) hx hb dX6_countValid_2 (by decide) ?_
  refine lv_istore_n (lv' := [(2, .int (nI 0)), (1, .int (nI 0)), (0, .ref h0)]) hx hb dX6_countValid_3 rfl hl (by decide) rfl (fun ls hl => ?_)
  have K4_0 : ∀ (f : Nat) (q : Nat) (i : Nat), (12 - i) < f → (i ≤ ns) → (q = ct (fun j => decide (fT j = nI 118)) i) → ∀ (H : Heap) (locs : List Loc), ww D (TY cC cI cJ cZ cD) s A s.heap [(h0, .inr (8, [.ref h0A, .ref h0X, .ref h0E, .ref h0V, .ref h0T, .int (nI ns)])), (h0A, .inl (cI, 12, .inl fA)), (h0X, .inl (cI, 12, .inl fX)), (h0E, .inl (cI, 12, .inl (fun jj => nI (gE jj)))), (h0V, .inl (cI, 12, .inl fV)), (h0T, .inl (cC, 12, .inl fT))] H locs → ∀ ls : Array Slot, lv_has ls 3 [(0, .ref h0), (1, .int (nI q)), (2, .int (nI i))] → W p l e ({ frames := 0, cells := 0, slots := 0, locals := 0 } : Room) s mI args below meth cO H locs 0 0 Q (F0 mI 4 ls []) := by
    intro f
    induction f with
    | zero => intro q i hms9; exact absurd hms9 (Nat.not_lt_zero _)
    | succ f ih4 =>
      intro q i hms9 hi hq H locs hw ls hl
      refine lv_iload_n hx hb dX6_countValid_4 rfl (lv_at hl 2 rfl) ?_
      refine lv_aload_n hx hb dX6_countValid_5 rfl (lv_at hl 0 rfl) ?_
      refine r_get cx hw inX6_countValid_6 0 5 rfl rfl (by decide) lkX6_countValid_1 rfl dX6_countValid_6 ?_
      refine r_icmp_ge cx 32 i ns rfl rfl (by omega) (by omega) dX6_countValid_9 (by decide) (fun c9 => ?_) (fun c9 => ?_)
      · refine lv_iload_n hx hb dX6_countValid_32 rfl (lv_at hl 1 rfl) ?_
        subst hQ
        exact r_reti (v := nI q) cx hr rfl hlk hw (Nat.le_of_ble_eq_true rfl) (Nat.le_of_ble_eq_true rfl) () (by rw [hq, show i = ns by omega]) [0, 1, 2, 3, 4, 5] (by decide) rfl dX6_countValid_33
      · refine lv_aload_n hx hb dX6_countValid_12 rfl (lv_at hl 0 rfl) ?_
        refine r_get cx hw inX6_countValid_6 0 4 rfl rfl (by decide) lkX6_countValid_2 rfl dX6_countValid_13 ?_
        refine lv_iload_n hx hb dX6_countValid_16 rfl (lv_at hl 2 rfl) ?_
        refine r_cald cx hw 5 0 rfl rfl i rfl (by omega) (by omega) dX6_countValid_17 ?_
        refine lv_bipush (v := nI 118) hx hb dX6_countValid_18 (by decide) ?_
        refine lv_icmp_ne (tgt := 26) hx hb dX6_countValid_20 (by decide) (fun c20 => ?_) (fun c20 => ?_)
        · refine lv_iinc (v := nI (i + 1)) (lv' := [(2, .int (nI (i + 1))), (0, .ref h0), (1, .int (nI q))]) hx hb dX6_countValid_26 hl (k := 2) rfl (by rw [ii1, nI_1]) (by decide) rfl (fun ls hl => ?_)
          refine lv_goto (tgt := 4) hx hb dX6_countValid_29 (by decide) ?_
          exact ih4 q (i + 1) (by omega) (by omega) (by rw [ct_f (fun z => c20 (of_decide_eq_true z)), hq]) _ _ hw _ (lv_sub hl [1, 2, 0] rfl)
        · refine lv_iinc (v := nI (q + 1)) (lv' := [(1, .int (nI (q + 1))), (0, .ref h0), (2, .int (nI i))]) hx hb dX6_countValid_23 hl (k := 1) rfl (by rw [ii1, nI_1]) (by decide) rfl (fun ls hl => ?_)
          refine lv_iinc (v := nI (i + 1)) (lv' := [(2, .int (nI (i + 1))), (1, .int (nI (q + 1))), (0, .ref h0)]) hx hb dX6_countValid_26 hl (k := 2) rfl (by rw [ii1, nI_1]) (by decide) rfl (fun ls hl => ?_)
          refine lv_goto (tgt := 4) hx hb dX6_countValid_29 (by decide) ?_
          exact ih4 (q + 1) (i + 1) (by omega) (by omega) (by rw [ct_t (decide_eq_true c20), hq]) _ _ hw _ (lv_sub hl [2, 1, 0] rfl)
  exact K4_0 _ 0 0 (Nat.lt_succ_self _) (by omega) (by rfl) _ _ hw _ (lv_sub hl [2, 1, 0] rfl)


