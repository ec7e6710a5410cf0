theorem lkX4_init_1 : Cond.methodLink RX4 3 objectInit ∈ wsX4_init := List.mem_of_getElem? (i := 1) rfl
theorem lkX4_init_2 : Cond.instanceMethod objectInit ∈ wsX4_init := List.mem_of_getElem? (i := 2) rfl
theorem lkX4_init_3 : Cond.code objectInit ⟨#[0xb1]⟩ 1 none ∈ wsX4_init := List.mem_of_getElem? (i := 3) rfl
theorem lkX4_init_4 : Cond.arrayClass .char ∈ wsX4_init := List.mem_of_getElem? (i := 4) rfl
theorem lkX4_init_5 : Cond.fieldLink RX4 9 "SignedDocument$Passage" "letters" "[C" ∈ wsX4_init := List.mem_of_getElem? (i := 5) rfl
theorem inX4_init_4 : ∀ w ∈ u_ws RX4 TX4 4, w ∈ wsX4_init := fun _ h => List.mem_cons_of_mem _ (List.mem_append_right _ h)
theorem lkX4_init_6 : Cond.arrayClass .int ∈ wsX4_init := List.mem_of_getElem? (i := 6) rfl
theorem lkX4_init_7 : Cond.fieldLink RX4 15 "SignedDocument$Passage" "authors" "[I" ∈ wsX4_init := List.mem_of_getElem? (i := 7) rfl
theorem lkX4_init_8 : Cond.fieldLink RX4 19 "SignedDocument$Passage" "clauses" "[I" ∈ wsX4_init := List.mem_of_getElem? (i := 8) rfl
theorem lkX4_init_9 : Cond.fieldLink RX4 22 "SignedDocument$Passage" "size" "I" ∈ wsX4_init := List.mem_of_getElem? (i := 9) rfl
set_option maxRecDepth 100000 in
set_option maxHeartbeats 4000000 in
theorem mX4_init (l : Launch) (D : va_G) (cC cI cJ cZ cD : ClassId) (h0 : Nat) (sz : Nat) : MV l yX4_init wsX4_init ({ frames := 1, cells := 3, slots := 180, locals := 20 }) [.ref h0] D (TY cC cI cJ cZ cD) [(h0, .inr (6, [.null, .null, .null, .int (nI 0)]))] sz (fun (uu : Nat × Nat × Nat) => match uu with | (a1, a2, a3) => True) (fun (uu : Nat × Nat × Nat) => match uu with | (a1, a2, a3) => [(h0, .inr (6, [.ref a1, .ref a2, .ref a3, .int (nI 0)])), (a1, .inl (cC, 60, .inl (fun _ => nI 0))), (a2, .inl (cI, 60, .inl (fun _ => nI 0))), (a3, .inl (cI, 60, .inl (fun _ => nI 0)))]) 3 180 := by
  refine mk_MV (cc := cX4_init) (maxL := 1) (ret := none) (by decide) rfl (Nat.le_of_ble_eq_true rfl) ?_
  intro p e s mI args below meth cO A cx hr hlk hnm hw ls hl
  have hx := cx.1
  have hb := cx.2.1
  have hw : ww D (TY cC cI cJ cZ cD) s A s.heap [(h0, .inr (6, [.null, .null, .null, .int (nI 0)]))] s.heap [] := hw
  have hl : lv_has ls 1 [(0, .ref h0)] := hl
  generalize hQ : MQ _ _ _ _ _ _ _ = Q
  refine hp_start hw (fun H locs hw => ?_)
  refine lv_aload_n hx hb dX4_init_0 rfl (lv_at hl 0 rfl) ?_
  refine W.objInit hx hb cx.2.2.2.1 (cx.2.2.2.2 _ lkX4_init_1) (cx.2.2.2.2 _ lkX4_init_2) (cx.2.2.2.2 _ lkX4_init_3) rfl (by rw [cx.2.2.1]; exact hl.1) rfl dX4_init_1 (Nat.le_of_ble_eq_true rfl) (Nat.le_of_ble_eq_true rfl) ?_
  refine W.eq (g2 := F0 mI 4 ls []) rfl ?_
  refine lv_aload_n hx hb dX4_init_4 rfl (lv_at hl 0 rfl) ?_
  refine lv_bipush (v := nI 60) hx hb dX4_init_5 (by decide) ?_
  refine r_newa_C cx hw lkX4_init_4 rfl (Nat.le_of_ble_eq_true rfl) rfl (Nat.le_of_ble_eq_true rfl) (Nat.le_of_ble_eq_true rfl) dX4_init_7 (fun q1 H hw => ?_)
  have hw : ww D (TY cC cI cJ cZ cD) s A s.heap [(h0, .inr (6, [.null, .null, .null, .int (nI 0)])), (q1, .inl (cC, 60, .inl (fun _ => 0)))] H locs := hw
  refine r_putF cx hw inX4_init_4 tyX4 tyX4_ok nmX4 0 0 rfl rfl (by decide) lkX4_init_5 rfl hnm rfl rfl rfl (Nat.le_of_ble_eq_true rfl) dX4_init_9 (fun H locs hw => ?_)
  have hw : ww D (TY cC cI cJ cZ cD) s A s.heap [(h0, .inr (6, [.ref q1, .null, .null, .int (nI 0)])), (q1, .inl (cC, 60, .inl (fun _ => 0)))] H locs := hw
  refine lv_aload_n hx hb dX4_init_12 rfl (lv_at hl 0 rfl) ?_
  refine lv_bipush (v := nI 60) hx hb dX4_init_13 (by decide) ?_
  refine r_newa_I cx hw lkX4_init_6 rfl (Nat.le_of_ble_eq_true rfl) rfl (Nat.le_of_ble_eq_true rfl) (Nat.le_of_ble_eq_true rfl) dX4_init_15 (fun q2 H hw => ?_)
  have hw : ww D (TY cC cI cJ cZ cD) s A s.heap [(h0, .inr (6, [.ref q1, .null, .null, .int (nI 0)])), (q1, .inl (cC, 60, .inl (fun _ => 0))), (q2, .inl (cI, 60, .inl (fun _ => 0)))] H locs := hw
  refine r_putF cx hw inX4_init_4 tyX4 tyX4_ok nmX4 0 1 rfl rfl (by decide) lkX4_init_7 rfl hnm rfl rfl rfl (Nat.le_of_ble_eq_true rfl) dX4_init_17 (fun H locs hw => ?_)
  have hw : ww D (TY cC cI cJ cZ cD) s A s.heap [(h0, .inr (6, [.ref q1, .ref q2, .null, .int (nI 0)])), (q1, .inl (cC, 60, .inl (fun _ => 0))), (q2, .inl (cI, 60, .inl (fun _ => 0)))] H locs := hw
  refine lv_aload_n hx hb dX4_init_20 rfl (lv_at hl 0 rfl) ?_
  refine lv_bipush (v := nI 60) hx hb dX4_init_21 (by decide) ?_
  refine r_newa_I cx hw lkX4_init_6 rfl (Nat.le_of_ble_eq_true rfl) rfl (Nat.le_of_ble_eq_true rfl) (Nat.le_of_ble_eq_true rfl) dX4_init_23 (fun q3 H hw => ?_)
  have hw : ww D (TY cC cI cJ cZ cD) s A s.heap [(h0, .inr (6, [.ref q1, .ref q2, .null, .int (nI 0)])), (q1, .inl (cC, 60, .inl (fun _ => 0))), (q2, .inl (cI, 60, .inl (fun _ => 0))), (q3, .inl (cI, 60, .inl (fun _ => 0)))] H locs := hw
  refine r_putF cx hw inX4_init_4 tyX4 tyX4_ok nmX4 0 2 rfl rfl (by decide) lkX4_init_8 rfl hnm rfl rfl rfl (Nat.le_of_ble_eq_true rfl) dX4_init_25 (fun H locs hw => ?_)
  have hw : ww D (TY cC cI cJ cZ cD) s A s.heap [(h0, .inr (6, [.ref q1, .ref q2, .ref q3, .int (nI 0)])), (q1, .inl (cC, 60, .inl (fun _ => 0))), (q2, .inl (cI, 60, .inl (fun _ => 0))), (q3, .inl (cI, 60, .inl (fun _ => 0)))] H locs := hw
  refine lv_aload_n hx hb dX4_init_28 rfl (lv_at hl 0 rfl) ?_
  refine lv_iconst (v := nI 0) hx hb dX4_init_29 (by decide) ?_
  refine r_put cx hw inX4_init_4 tyX4 tyX4_ok nmX4 0 3 rfl rfl (by decide) lkX4_init_9 rfl rfl rfl (Nat.le_of_ble_eq_true rfl) dX4_init_30 (fun H locs hw => ?_)
  have hw : ww D (TY cC cI cJ cZ cD) s A s.heap [(h0, .inr (6, [.ref q1, .ref q2, .ref q3, .int (nI 0)])), (q1, .inl (cC, 60, .inl (fun _ => 0))), (q2, .inl (cI, 60, .inl (fun _ => 0))), (q3, .inl (cI, 60, .inl (fun _ => 0)))] H locs := hw
  subst hQ
  exact r_retv cx hr hlk hw (Nat.le_of_ble_eq_true rfl) (Nat.le_of_ble_eq_true rfl) (q1, q2, q3) trivial [0, 1, 2, 3] (by decide) rfl dX4_init_33

theorem lkX4_clear_1 : Cond.fieldLink RX4 22 "SignedDocument$Passage" "size" "I" ∈ wsX4_clear := List.mem_of_getElem? (i := 1) rfl
theorem inX4_clear_4 : ∀ w ∈ u_ws RX4 TX4 4, w ∈ wsX4_clear := fun _ h => List.mem_cons_of_mem _ (List.mem_append_right _ h)
set_option maxRecDepth 100000 in
set_option maxHeartbeats 4000000 in
theorem mX4_clear (l : Launch) (D : va_G) (cC cI cJ cZ cD : ClassId) (h0 h0L h0A h0C : Nat) (n : Nat) (fL fA fC : Nat → Int32) (sz : Nat) : MV l yX4_clear wsX4_clear ({ frames := 0, cells := 0, slots := 0, locals := 0 }) [.ref h0] D (TY cC cI cJ cZ cD) [(h0, .inr (6, [.ref h0L, .ref h0A, .ref h0C, .int (nI n)])), (h0L, .inl (cC, 60, .inl fL)), (h0A, .inl (cI, 60, .inl fA)), (h0C, .inl (cI, 60, .inl fC))] sz (fun (_ : Unit) => True) (fun (_ : Unit) => [(h0, .inr (6, [.ref h0L, .ref h0A, .ref h0C, .int (nI 0)])), (h0L, .inl (cC, 60, .inl fL)), (h0A, .inl (cI, 60, .inl fA)), (h0C, .inl (cI, 60, .inl fC))]) 0 0 := by
  refine mk_MV (cc := cX4_clear) (maxL := 1) (ret := none) (by decide) rfl (Nat.le_of_ble_eq_true rfl) ?_
  intro p e s mI args below meth cO A cx hr hlk hnm hw ls hl
  have hx := cx.1
  have hb := cx.2.1
  have hw : ww D (TY cC cI cJ cZ cD) s A s.heap [(h0, .inr (6, [.ref h0L, .ref h0A, .ref h0C, .int (nI n)])), (h0L, .inl (cC, 60, .inl fL)), (h0A, .inl (cI, 60, .inl fA)), (h0C, .inl (cI, 60, .inl fC))] s.heap [] := hw
  have hl : lv_has ls 1 [(0, .ref h0)] := hl
  generalize hQ : MQ _ _ _ _ _ _ _ = Q
  refine hp_start hw (fun H locs hw => ?_)
  refine lv_aload_n hx hb dX4_clear_0 rfl (lv_at hl 0 rfl) ?_
  refine lv_iconst (v := nI 0) hx hb dX4_clear_1 (by decide) ?_
  refine r_put cx hw inX4_clear_4 tyX4 tyX4_ok nmX4 0 3 rfl rfl (by decide) lkX4_clear_1 rfl rfl rfl (Nat.le_of_ble_eq_true rfl) dX4_clear_2 (fun H locs hw => ?_)
  have hw : ww D (TY cC cI cJ cZ cD) s A s.heap [(h0, .inr (6, [.ref h0L, .ref h0A, .ref h0C, .int (nI 0)])), (h0L, .inl (cC, 60, .inl fL)), (h0A, .inl (cI, 60, .inl fA)), (h0C, .inl (cI, 60, .inl fC))] H locs := hw
  subst hQ
  exact r_retv cx hr hlk hw (Nat.le_of_ble_eq_true rfl) (Nat.le_of_ble_eq_true rfl) () trivial [0, 1, 2, 3] (by decide) rfl dX4_clear_5

theorem lkX4_appendOne_1 : Cond.fieldLink RX4 22 "SignedDocument$Passage" "size" "I" ∈ wsX4_appendOne := List.mem_of_getElem? (i := 1) rfl
theorem inX4_appendOne_4 : ∀ w ∈ u_ws RX4 TX4 4, w ∈ wsX4_appendOne := fun _ h => List.mem_cons_of_mem _ (List.mem_append_left _ (List.mem_append_right _ h))
theorem lkX4_appendOne_2 : Cond.fieldLink RX4 9 "SignedDocument$Passage" "letters" "[C" ∈ wsX4_appendOne := List.mem_of_getElem? (i := 2) rfl
theorem lkX4_appendOne_3 : Cond.fieldLink RX4 15 "SignedDocument$Passage" "authors" "[I" ∈ wsX4_appendOne := List.mem_of_getElem? (i := 3) rfl
theorem lkX4_appendOne_4 : Cond.fieldLink RX4 19 "SignedDocument$Passage" "clauses" "[I" ∈ wsX4_appendOne := List.mem_of_getElem? (i := 4) rfl
set_option maxRecDepth 100000 in
set_option maxHeartbeats 4000000 in
theorem mX4_appendOne (l : Launch) (D : va_G) (cC cI cJ cZ cD : ClassId) (h0 h0L h0A h0C : Nat) (n : Nat) (fL fA fC : Nat → Int32) (x y z : Int32) (sz : Nat) (hn : n < 60) (hx9 : vp_nar .char x = x) (hfL : ∀ j, vp_nar .char (fL j) = fL j) : MV l yX4_appendOne wsX4_appendOne ({ frames := 0, cells := 0, slots := 0, locals := 0 }) [.ref h0, .int x, .int y, .int z] D (TY cC cI cJ cZ cD) [(h0, .inr (6, [.ref h0L, .ref h0A, .ref h0C, .int (nI n)])), (h0L, .inl (cC, 60, .inl fL)), (h0A, .inl (cI, 60, .inl fA)), (h0C, .inl (cI, 60, .inl fC))] sz (fun (_ : Unit) => True) (fun (_ : Unit) => [(h0, .inr (6, [.ref h0L, .ref h0A, .ref h0C, .int (nI (n + 1))])), (h0L, .inl (cC, 60, .inl (upd fL n x))), (h0A, .inl (cI, 60, .inl (upd fA n y))), (h0C, .inl (cI, 60, .inl (upd fC n z)))]) 0 0 := by
  refine mk_MV (cc := cX4_appendOne) (maxL := 4) (ret := none) (by decide) rfl (Nat.le_of_ble_eq_true rfl) ?_
  intro p e s mI args below meth cO A cx hr hlk hnm hw ls hl
  have hx := cx.1
  have hb := cx.2.1
  have hw : ww D (TY cC cI cJ cZ cD) s A s.heap [(h0, .inr (6, [.ref h0L, .ref h0A, .ref h0C, .int (nI n)])), (h0L, .inl (cC, 60, .inl fL)), (h0A, .inl (cI, 60, .inl fA)), (h0C, .inl (cI, 60, .inl fC))] s.heap [] := hw
  have hl : lv_has ls 4 [(0, .ref h0), (1, .int x), (2, .int y), (3, .int z)] := hl
  generalize hQ : MQ _ _ _ _ _ _ _ = Q
  refine hp_start hw (fun H locs hw => ?_)
  refine lv_aload_n hx hb dX4_appendOne_0 rfl (lv_at hl 0 rfl) ?_
  refine r_get cx hw inX4_appendOne_4 0 3 rfl rfl (by decide) lkX4_appendOne_1 rfl dX4_appendOne_1 ?_
  refine lv_bipush (v := nI 60) hx hb dX4_appendOne_4 (by decide) ?_
  refine r_icmp_ge cx 49 n 60 rfl rfl (by omega) (by omega) dX4_appendOne_6 (by decide) (fun c6 => by omega) (fun c6 => ?_)
  refine lv_aload_n hx hb dX4_appendOne_9 rfl (lv_at hl 0 rfl) ?_
  refine r_get cx hw inX4_appendOne_4 0 0 rfl rfl (by decide) lkX4_appendOne_2 rfl dX4_appendOne_10 ?_
  refine lv_aload_n hx hb dX4_appendOne_13 rfl (lv_at hl 0 rfl) ?_
  refine r_get cx hw inX4_appendOne_4 0 3 rfl rfl (by decide) lkX4_appendOne_1 rfl dX4_appendOne_14 ?_
  refine lv_iload_n hx hb dX4_appendOne_17 rfl (lv_at hl 1 rfl) ?_
  refine r_cast cx hw 1 0 rfl rfl n rfl hx9 (by omega) (by omega) dX4_appendOne_18 (fun H locs hw => ?_)
  have hw : ww D (TY cC cI cJ cZ cD) s A s.heap [(h0, .inr (6, [.ref h0L, .ref h0A, .ref h0C, .int (nI n)])), (h0L, .inl (cC, 60, .inl (upd fL n x))), (h0A, .inl (cI, 60, .inl fA)), (h0C, .inl (cI, 60, .inl fC))] H locs := hw
  refine lv_aload_n hx hb dX4_appendOne_19 rfl (lv_at hl 0 rfl) ?_
  refine r_get cx hw inX4_appendOne_4 0 1 rfl rfl (by decide) lkX4_appendOne_3 rfl dX4_appendOne_20 ?_
  refine lv_aload_n hx hb dX4_appendOne_23 rfl (lv_at hl 0 rfl) ?_
  refine r_get cx hw inX4_appendOne_4 0 3 rfl rfl (by decide) lkX4_appendOne_1 rfl dX4_appendOne_24 ?_
  refine lv_iload_n hx hb dX4_appendOne_27 rfl (lv_at hl 2 rfl) ?_
  refine r_iast cx hw 2 1 rfl rfl n rfl (by omega) (by omega) dX4_appendOne_28 (fun H locs hw => ?_)
  have hw : ww D (TY cC cI cJ cZ cD) s A s.heap [(h0, .inr (6, [.ref h0L, .ref h0A, .ref h0C, .int (nI n)])), (h0L, .inl (cC, 60, .inl (upd fL n x))), (h0A, .inl (cI, 60, .inl (upd fA n y))), (h0C, .inl (cI, 60, .inl fC))] H locs := hw
  refine lv_aload_n hx hb dX4_appendOne_29 rfl (lv_at hl 0 rfl) ?_
  refine r_get cx hw inX4_appendOne_4 0 2 rfl rfl (by decide) lkX4_appendOne_4 rfl dX4_appendOne_30 ?_
  refine lv_aload_n hx hb dX4_appendOne_33 rfl (lv_at hl 0 rfl) ?_
  refine r_get cx hw inX4_appendOne_4 0 3 rfl rfl (by decide) lkX4_appendOne_1 rfl dX4_appendOne_34 ?_
  refine lv_iload_n hx hb dX4_appendOne_37 rfl (lv_at hl 3 rfl) ?_
  refine r_iast cx hw 3 1 rfl rfl n rfl (by omega) (by omega) dX4_appendOne_38 (fun H locs hw => ?_)
  have hw : ww D (TY cC cI cJ cZ cD) s A s.heap [(h0, .inr (6, [.ref h0L, .ref h0A, .ref h0C, .int (nI n)])), (h0L, .inl (cC, 60, .inl (upd fL n x))), (h0A, .inl (cI, 60, .inl (upd fA n y))), (h0C, .inl (cI, 60, .inl (upd fC n z)))] H locs := hw
  refine lv_aload_n hx hb dX4_appendOne_39 rfl (lv_at hl 0 rfl) ?_
  refine lv_dup hx hb dX4_appendOne_40 rfl ?_
  refine r_get cx hw inX4_appendOne_4 0 3 rfl rfl (by decide) lkX4_appendOne_1 rfl dX4_appendOne_41 ?_
  refine lv_iconst (v := nI 1) hx hb dX4_appendOne_44 (by decide) ?_
  refine r_iadd cx n 1 rfl rfl dX4_appendOne_45 ?_
  refine r_put cx hw inX4_appendOne_4 tyX4 tyX4_ok nmX4 0 3 rfl rfl (by decide) lkX4_appendOne_1 rfl rfl rfl (Nat.le_of_ble_eq_true rfl) dX4_appendOne_46 (fun H locs hw => ?_)
  have hw : ww D (TY cC cI cJ cZ cD) s A s.heap [(h0, .inr (6, [.ref h0L, .ref h0A, .ref h0C, .int (nI (n + 1))])), (h0L, .inl (cC, 60, .inl (upd fL n x))), (h0A, .inl (cI, 60, .inl (upd fA n y))), (h0C, .inl (cI, 60, .inl (upd fC n z)))] H locs := hw
  subst hQ
  exact r_retv cx hr hlk hw (Nat.le_of_ble_eq_true rfl) (Nat.le_of_ble_eq_true rfl) () trivial [0, 1, 2, 3] (by decide) rfl dX4_appendOne_49

theorem lkX4_append_1 : Cond.fieldLink RX4 22 "SignedDocument$Passage" "size" "I" ∈ wsX4_append := List.mem_of_getElem? (i := 1) rfl
theorem inX4_append_4 : ∀ w ∈ u_ws RX4 TX4 4, w ∈ wsX4_append := fun _ h => List.mem_cons_of_mem _ (List.mem_append_left _ (List.mem_append_right _ h))
theorem lkX4_append_2 : Cond.fieldLink RX4 9 "SignedDocument$Passage" "letters" "[C" ∈ wsX4_append := List.mem_of_getElem? (i := 2) rfl
theorem lkX4_append_3 : Cond.fieldLink RX4 15 "SignedDocument$Passage" "authors" "[I" ∈ wsX4_append := List.mem_of_getElem? (i := 3) rfl
theorem lkX4_append_4 : Cond.fieldLink RX4 19 "SignedDocument$Passage" "clauses" "[I" ∈ wsX4_append := List.mem_of_getElem? (i := 4) rfl
set_option maxRecDepth 100000 in
set_option maxHeartbeats 4000000 in
theorem mX4_append (l : Launch) (D : va_G) (cC cI cJ cZ cD : ClassId) (h0 h0L h0A h0C h1 h1L h1A h1C : Nat) (n m : Nat) (fL fA fC gL gA gC : Nat → Int32) (st en : Nat) (sz : Nat) (he : en ≤ m) (hn : n + (en - st) ≤ 60) (hm : m ≤ 60) (hs : st ≤ 60) (hfL : ∀ j, vp_nar .char (fL j) = fL j) (hgL : ∀ j, vp_nar .char (gL j) = gL j) : MV l yX4_append wsX4_append ({ frames := 1, cells := 0, slots := 0, locals := 23 }) [.ref h0, .ref h1, .int (nI st), .int (nI en)] D (TY cC cI cJ cZ cD) [(h0, .inr (6, [.ref h0L, .ref h0A, .ref h0C, .int (nI n)])), (h0L, .inl (cC, 60, .inl fL)), (h0A, .inl (cI, 60, .inl fA)), (h0C, .inl (cI, 60, .inl fC)), (h1, .inr (6, [.ref h1L, .ref h1A, .ref h1C, .int (nI m)])), (h1L, .inl (cC, 60, .inl gL)), (h1A, .inl (cI, 60, .inl gA)), (h1C, .inl (cI, 60, .inl gC))] sz (fun (_ : Unit) => True) (fun (_ : Unit) => [(h0, .inr (6, [.ref h0L, .ref h0A, .ref h0C, .int (nI (n + (en - st)))])), (h0L, .inl (cC, 60, .inl (va_cpy gL fL st n (en - st)))), (h0A, .inl (cI, 60, .inl (va_cpy gA fA st n (en - st)))), (h0C, .inl (cI, 60, .inl (va_cpy gC fC st n (en - st)))), (h1, .inr (6, [.ref h1L, .ref h1A, .ref h1C, .int (nI m)])), (h1L, .inl (cC, 60, .inl gL)), (h1A, .inl (cI, 60, .inl gA)), (h1C, .inl (cI, 60, .inl gC))]) 0 0 := by
  refine mk_MV (cc := cX4_append) (maxL := 5) (ret := none) (by decide) rfl (Nat.le_of_ble_eq_true rfl) ?_
  intro p e s mI args below meth cO A cx hr hlk hnm hw ls hl
  have hx := cx.1
  have hb := cx.2.1
  have hw : ww D (TY cC cI cJ cZ cD) s A s.heap [(h0, .inr (6, [.ref h0L, .ref h0A, .ref h0C, .int (nI n)])), (h0L, .inl (cC, 60, .inl fL)), (h0A, .inl (cI, 60, .inl fA)), (h0C, .inl (cI, 60, .inl fC)), (h1, .inr (6, [.ref h1L, .ref h1A, .ref h1C, .int (nI m)])), (h1L, .inl (cC, 60, .inl gL)), (h1A, .inl (cI, 60, .inl gA)), (h1C, .inl (cI, 60, .inl gC))] s.heap [] := hw
  have hl : lv_has ls 5 [(0, .ref h0), (1, .ref h1), (2, .int (nI st)), (3, .int (nI en))] := hl
  generalize hQ : MQ _ _ _ _ _ _ _ = Q
  refine hp_start hw (fun H locs hw => ?_)
  refine lv_iload_n hx hb dX4_append_0 rfl (lv_at hl 2 rfl) ?_
  refine lv_istore (lv' := [(4, .int (nI st)), (0, .ref h0), (1, .ref h1), (2, .int (nI st)), (3, .int (nI en))]) hx hb dX4_append_1 hl (by decide) rfl (fun ls hl => ?_)
  have K3_0 : ∀ (f : Nat) (i : Nat) (o : Nat) (L1 : Nat → Int32) (A1 : Nat → Int32) (C1 : Nat → Int32), (60 - i) < f → (st ≤ i) → (o = n + (i - st)) → (i - st ≤ en - st) → (L1 = va_cpy gL fL st n (i - st)) → (A1 = va_cpy gA fA st n (i - st)) → (C1 = va_cpy gC fC st n (i - st)) → ∀ (H : Heap) (locs : List Loc), ww D (TY cC cI cJ cZ cD) s A s.heap [(h0, .inr (6, [.ref h0L, .ref h0A, .ref h0C, .int (nI o)])), (h0L, .inl (cC, 60, .inl L1)), (h0A, .inl (cI, 60, .inl A1)), (h0C, .inl (cI, 60, .inl C1)), (h1, .inr (6, [.ref h1L, .ref h1A, .ref h1C, .int (nI m)])), (h1L, .inl (cC, 60, .inl gL)), (h1A, .inl (cI, 60, .inl gA)), (h1C, .inl (cI, 60, .inl gC))] H locs → ∀ ls : Array Slot, lv_has ls 5 [(0, .ref h0), (1, .ref h1), (2, .int (nI st)), (3, .int (nI en)), (4, .int (nI i))] → W p l e ({ frames := 1, cells := 0, slots := 0, locals := 23 } : Room) s mI args below meth cO H locs 0 0 Q (F0 mI 3 ls []) := by
    intro f
    induction f with
    | zero => intro i o L1 A1 C1 hms9; exact absurd hms9 (Nat.not_lt_zero _)
    | succ f ih3 =>
      intro i o L1 A1 C1 hms9 hi1 ho hi2 hL1 hA1 hC1 H locs hw ls hl
      have hL1c : ∀ j, vp_nar .char (L1 j) = L1 j := by rw [hL1]; exact CA_cpy hgL hfL _ _ _
      refine lv_iload hx hb dX4_append_3 (lv_at hl 4 rfl) ?_
      refine lv_iload_n hx hb dX4_append_5 rfl (lv_at hl 3 rfl) ?_
      refine r_icmp_ge cx 49 i en rfl rfl (by omega) (by omega) dX4_append_6 (by decide) (fun c6 => ?_) (fun c6 => ?_)
      · have e9 : i - st = en - st := by omega
        rw [hL1, hA1, hC1, ho, e9] at hw
        have hw : ww D (TY cC cI cJ cZ cD) s A s.heap [(h0, .inr (6, [.ref h0L, .ref h0A, .ref h0C, .int (nI (n + (en - st)))])), (h0L, .inl (cC, 60, .inl (va_cpy gL fL st n (en - st)))), (h0A, .inl (cI, 60, .inl (va_cpy gA fA st n (en - st)))), (h0C, .inl (cI, 60, .inl (va_cpy gC fC st n (en - st)))), (h1, .inr (6, [.ref h1L, .ref h1A, .ref h1C, .int (nI m)])), (h1L, .inl (cC, 60, .inl gL)), (h1A, .inl (cI, 60, .inl gA)), (h1C, .inl (cI, 60, .inl gC))] H locs := hw
        subst hQ
        exact r_retv cx hr hlk hw (Nat.le_of_ble_eq_true rfl) (Nat.le_of_ble_eq_true rfl) () trivial [0, 1, 2, 3, 4, 5, 6, 7] (by decide) rfl dX4_append_49
      · refine lv_iload hx hb dX4_append_9 (lv_at hl 4 rfl) ?_
        refine lv_aload_n hx hb dX4_append_11 rfl (lv_at hl 1 rfl) ?_
        refine r_get cx hw inX4_append_4 4 3 rfl rfl (by decide) lkX4_append_1 rfl dX4_append_12 ?_
        refine r_icmp_ge cx 49 i m rfl rfl (by omega) (by omega) dX4_append_15 (by decide) (fun c15 => by omega) (fun c15 => ?_)
        refine lv_aload_n hx hb dX4_append_18 rfl (lv_at hl 0 rfl) ?_
        refine lv_aload_n hx hb dX4_append_19 rfl (lv_at hl 1 rfl) ?_
        refine r_get cx hw inX4_append_4 4 0 rfl rfl (by decide) lkX4_append_2 rfl dX4_append_20 ?_
        refine lv_iload hx hb dX4_append_23 (lv_at hl 4 rfl) ?_
        refine r_cald cx hw 5 0 rfl rfl i rfl (by omega) (by omega) dX4_append_25 ?_
        refine lv_aload_n hx hb dX4_append_26 rfl (lv_at hl 1 rfl) ?_
        refine r_get cx hw inX4_append_4 4 1 rfl rfl (by decide) lkX4_append_3 rfl dX4_append_27 ?_
        refine lv_iload hx hb dX4_append_30 (lv_at hl 4 rfl) ?_
        refine r_iald cx hw 6 1 rfl rfl i rfl (by omega) (by omega) dX4_append_32 ?_
        refine lv_aload_n hx hb dX4_append_33 rfl (lv_at hl 1 rfl) ?_
        refine r_get cx hw inX4_append_4 4 2 rfl rfl (by decide) lkX4_append_4 rfl dX4_append_34 ?_
        refine lv_iload hx hb dX4_append_37 (lv_at hl 4 rfl) ?_
        refine r_iald cx hw 7 1 rfl rfl i rfl (by omega) (by omega) dX4_append_39 ?_
        refine r_callVv (n := 3) (wr := [(h1, .inr (6, [.ref h1L, .ref h1A, .ref h1C, .int (nI m)])), (h1L, .inl (cC, 60, .inl gL)), (h1A, .inl (cI, 60, .inl gA)), (h1C, .inl (cI, 60, .inl gC))]) cx hw (mX4_appendOne l D cC cI cJ cZ cD h0 h0L h0A h0C o L1 A1 C1 (gL i) (gA i) (gC i) H.size (by omega) (hgL i) hL1c) [0, 1, 2, 3] [4, 5, 6, 7] gX4_append_X4_appendOne rfl rfl rfl (by decide +kernel) ⟨Nat.le_of_ble_eq_true rfl, Nat.le_of_ble_eq_true rfl⟩ (q0 := 0) rfl rfl rfl rfl (by decide) (by decide) (by decide) rfl rfl hl.1 (Nat.le_of_ble_eq_true rfl) dX4_append_40 ⟨Nat.le_of_ble_eq_true rfl, Nat.le_of_ble_eq_true rfl⟩ (fun u H locs hp hw => ?_)
        have hw : ww D (TY cC cI cJ cZ cD) s A s.heap [(h1, .inr (6, [.ref h1L, .ref h1A, .ref h1C, .int (nI m)])), (h1L, .inl (cC, 60, .inl gL)), (h1A, .inl (cI, 60, .inl gA)), (h1C, .inl (cI, 60, .inl gC)), (h0, .inr (6, [.ref h0L, .ref h0A, .ref h0C, .int (nI (o + 1))])), (h0L, .inl (cC, 60, .inl (upd L1 o (gL i)))), (h0A, .inl (cI, 60, .inl (upd A1 o (gA i)))), (h0C, .inl (cI, 60, .inl (upd C1 o (gC i))))] H locs := hw
        refine lv_iinc (v := nI (i + 1)) (lv' := [(4, .int (nI (i + 1))), (0, .ref h0), (1, .ref h1), (2, .int (nI st)), (3, .int (nI en))]) hx hb dX4_append_43 hl (k := 4) rfl (by rw [ii1, nI_1]) (by decide) rfl (fun ls hl => ?_)
        refine lv_goto (tgt := 3) hx hb dX4_append_46 (by decide) ?_
        exact ih3 (i + 1) (o + 1) (upd L1 o (gL i)) (upd A1 o (gA i)) (upd C1 o (gC i)) (by omega) (by omega) (by omega) (by omega) (by rw [hL1, ho, show i + 1 - st = (i - st) + 1 by omega, ← cpy_s, show st + (i - st) = i by omega]) (by rw [hA1, ho, show i + 1 - st = (i - st) + 1 by omega, ← cpy_s, show st + (i - st) = i by omega]) (by rw [hC1, ho, show i + 1 - st = (i - st) + 1 by omega, ← cpy_s, show st + (i - st) = i by omega]) _ _ (hw.pick [4, 5, 6, 7, 0, 1, 2, 3] (by decide) rfl) _ (lv_sub hl [1, 2, 3, 4, 0] rfl)
  exact K3_0 _ st n fL fA fC (Nat.lt_succ_self _) (by omega) (by omega) (by omega) (by rw [Nat.sub_self, cpy_0]) (by rw [Nat.sub_self, cpy_0]) (by rw [Nat.sub_self, cpy_0]) _ _ hw _ (lv_sub hl [1, 2, 3, 4, 0] rfl)

theorem lkX4_copyFrom_1 : Cond.fieldLink RX4 22 "SignedDocument$Passage" "size" "I" ∈ wsX4_copyFrom := List.mem_of_getElem? (i := 1) rfl
theorem inX4_copyFrom_4 : ∀ w ∈ u_ws RX4 TX4 4, w ∈ wsX4_copyFrom := fun _ h => List.mem_cons_of_mem _ (List.mem_append_left _ (List.mem_append_right _ h))
set_option maxRecDepth 100000 in
set_option maxHeartbeats 4000000 in
theorem mX4_copyFrom (l : Launch) (D : va_G) (cC cI cJ cZ cD : ClassId) (h0 h0L h0A h0C h1 h1L h1A h1C : Nat) (n m : Nat) (fL fA fC gL gA gC : Nat → Int32) (sz : Nat) (hm : m ≤ 60) (hfL : ∀ j, vp_nar .char (fL j) = fL j) (hgL : ∀ j, vp_nar .char (gL j) = gL j) : MV l yX4_copyFrom wsX4_copyFrom ({ frames := 2, cells := 0, slots := 0, locals := 47 }) [.ref h0, .ref h1] D (TY cC cI cJ cZ cD) [(h0, .inr (6, [.ref h0L, .ref h0A, .ref h0C, .int (nI n)])), (h0L, .inl (cC, 60, .inl fL)), (h0A, .inl (cI, 60, .inl fA)), (h0C, .inl (cI, 60, .inl fC)), (h1, .inr (6, [.ref h1L, .ref h1A, .ref h1C, .int (nI m)])), (h1L, .inl (cC, 60, .inl gL)), (h1A, .inl (cI, 60, .inl gA)), (h1C, .inl (cI, 60, .inl gC))] sz (fun (_ : Unit) => True) (fun (_ : Unit) => [(h0, .inr (6, [.ref h0L, .ref h0A, .ref h0C, .int (nI m)])), (h0L, .inl (cC, 60, .inl (va_cpy gL fL 0 0 m))), (h0A, .inl (cI, 60, .inl (va_cpy gA fA 0 0 m))), (h0C, .inl (cI, 60, .inl (va_cpy gC fC 0 0 m))), (h1, .inr (6, [.ref h1L, .ref h1A, .ref h1C, .int (nI m)])), (h1L, .inl (cC, 60, .inl gL)), (h1A, .inl (cI, 60, .inl gA)), (h1C, .inl (cI, 60, .inl gC))]) 0 0 := by
  refine mk_MV (cc := cX4_copyFrom) (maxL := 2) (ret := none) (by decide) rfl (Nat.le_of_ble_eq_true rfl) ?_
  intro p e s mI args below meth cO A cx hr hlk hnm hw ls hl
  have hx := cx.1
  have hb := cx.2.1
  have hw : ww D (TY cC cI cJ cZ cD) s A s.heap [(h0, .inr (6, [.ref h0L, .ref h0A, .ref h0C, .int (nI n)])), (h0L, .inl (cC, 60, .inl fL)), (h0A, .inl (cI, 60, .inl fA)), (h0C, .inl (cI, 60, .inl fC)), (h1, .inr (6, [.ref h1L, .ref h1A, .ref h1C, .int (nI m)])), (h1L, .inl (cC, 60, .inl gL)), (h1A, .inl (cI, 60, .inl gA)), (h1C, .inl (cI, 60, .inl gC))] s.heap [] := hw
  have hl : lv_has ls 2 [(0, .ref h0), (1, .ref h1)] := hl
  generalize hQ : MQ _ _ _ _ _ _ _ = Q
  refine hp_start hw (fun H locs hw => ?_)
  refine lv_aload_n hx hb dX4_copyFrom_0 rfl (lv_at hl 0 rfl) ?_
  refine r_callVv (n := 0) (wr := [(h1, .inr (6, [.ref h1L, .ref h1A, .ref h1C, .int (nI m)])), (h1L, .inl (cC, 60, .inl gL)), (h1A, .inl (cI, 60, .inl gA)), (h1C, .inl (cI, 60, .inl gC))]) cx hw (mX4_clear l D cC cI cJ cZ cD h0 h0L h0A h0C n fL fA fC H.size) [0, 1, 2, 3] [4, 5, 6, 7] gX4_copyFrom_X4_clear rfl rfl rfl (by decide +kernel) ⟨Nat.le_of_ble_eq_true rfl, Nat.le_of_ble_eq_true rfl⟩ (q0 := 0) rfl rfl rfl rfl (by decide) (by decide) (by decide) rfl rfl hl.1 (Nat.le_of_ble_eq_true rfl) dX4_copyFrom_1 ⟨Nat.le_of_ble_eq_true rfl, Nat.le_of_ble_eq_true rfl⟩ (fun u H locs hp hw => ?_)
  have hw : ww D (TY cC cI cJ cZ cD) s A s.heap [(h1, .inr (6, [.ref h1L, .ref h1A, .ref h1C, .int (nI m)])), (h1L, .inl (cC, 60, .inl gL)), (h1A, .inl (cI, 60, .inl gA)), (h1C, .inl (cI, 60, .inl gC)), (h0, .inr (6, [.ref h0L, .ref h0A, .ref h0C, .int (nI 0)])), (h0L, .inl (cC, 60, .inl fL)), (h0A, .inl (cI, 60, .inl fA)), (h0C, .inl (cI, 60, .inl fC))] H locs := hw
  refine lv_aload_n hx hb dX4_copyFrom_4 rfl (lv_at hl 0 rfl) ?_
  refine lv_aload_n hx hb dX4_copyFrom_5 rfl (lv_at hl 1 rfl) ?_
  refine lv_iconst (v := nI 0) hx hb dX4_copyFrom_6 (by decide) ?_
  refine lv_aload_n hx hb dX4_copyFrom_7 rfl (lv_at hl 1 rfl) ?_
  refine r_get cx hw inX4_copyFrom_4 0 3 rfl rfl (by decide) lkX4_copyFrom_1 rfl dX4_copyFrom_8 ?_
  refine r_callVv (n := 3) (wr := []) cx hw (mX4_append l D cC cI cJ cZ cD h0 h0L h0A h0C h1 h1L h1A h1C 0 m fL fA fC gL gA gC 0 m H.size (by omega) (by omega) hm (by omega) hfL hgL) [4, 5, 6, 7, 0, 1, 2, 3] [] gX4_copyFrom_X4_append rfl rfl rfl (by decide +kernel) ⟨Nat.le_of_ble_eq_true rfl, Nat.le_of_ble_eq_true rfl⟩ (q0 := 4) rfl rfl rfl rfl (by decide) (by decide) (by decide) rfl rfl hl.1 (Nat.le_of_ble_eq_true rfl) dX4_copyFrom_11 ⟨Nat.le_of_ble_eq_true rfl, Nat.le_of_ble_eq_true rfl⟩ (fun u H locs hp hw => ?_)
  have hw : ww D (TY cC cI cJ cZ cD) s A s.heap [(h0, .inr (6, [.ref h0L, .ref h0A, .ref h0C, .int (nI (0 + (m - 0)))])), (h0L, .inl (cC, 60, .inl (va_cpy gL fL 0 0 (m - 0)))), (h0A, .inl (cI, 60, .inl (va_cpy gA fA 0 0 (m - 0)))), (h0C, .inl (cI, 60, .inl (va_cpy gC fC 0 0 (m - 0)))), (h1, .inr (6, [.ref h1L, .ref h1A, .ref h1C, .int (nI m)])), (h1L, .inl (cC, 60, .inl gL)), (h1A, .inl (cI, 60, .inl gA)), (h1C, .inl (cI, 60, .inl gC))] H locs := hw
  rw [Nat.sub_zero, Nat.zero_add] at hw
  have hw : ww D (TY cC cI cJ cZ cD) s A s.heap [(h0, .inr (6, [.ref h0L, .ref h0A, .ref h0C, .int (nI m)])), (h0L, .inl (cC, 60, .inl (va_cpy gL fL 0 0 m))), (h0A, .inl (cI, 60, .inl (va_cpy gA fA 0 0 m))), (h0C, .inl (cI, 60, .inl (va_cpy gC fC 0 0 m))), (h1, .inr (6, [.ref h1L, .ref h1A, .ref h1C, .int (nI m)])), (h1L, .inl (cC, 60, .inl gL)), (h1A, .inl (cI, 60, .inl gA)), (h1C, .inl (cI, 60, .inl gC))] H locs := hw
  subst hQ
  exact r_retv cx hr hlk hw (Nat.le_of_ble_eq_true rfl) (Nat.le_of_ble_eq_true rfl) () trivial [0, 1, 2, 3, 4, 5, 6, 7] (by decide) rfl dX4_copyFrom_14

theorem lkX4_clauseAround_1 : Cond.fieldLink RX4 22 "SignedDocument$Passage" "size" "I" ∈ wsX4_clauseAround := List.mem_of_getElem? (i := 1) rfl
theorem inX4_clauseAround_4 : ∀ w ∈ u_ws RX4 TX4 4, w ∈ wsX4_clauseAround := fun _ h => List.mem_cons_of_mem _ (List.mem_append_left _ (List.mem_append_right _ h))
theorem lkX4_clauseAround_2 : Cond.fieldLink RX4 19 "SignedDocument$Passage" "clauses" "[I" ∈ wsX4_clauseAround := List.mem_of_getElem? (i := 2) rfl
set_option maxRecDepth 100000 in
set_option maxHeartbeats 4000000 in
theorem mX4_clauseAround (l : Launch) (D : va_G) (cC cI cJ cZ cD : ClassId) (h0 h0L h0A h0C : Nat) (n : Nat) (fL fA fC : Nat → Int32) (st en : Nat) (sz : Nat) (hse : st ≤ en) (hn : n ≤ 60) (hs : en < 2000) : MI l yX4_clauseAround wsX4_clauseAround ({ frames := 0, cells := 0, slots := 0, locals := 0 }) [.ref h0, .int (nI st), .int (nI en)] D (TY cC cI cJ cZ cD) [(h0, .inr (6, [.ref h0L, .ref h0A, .ref h0C, .int (nI n)])), (h0L, .inl (cC, 60, .inl fL)), (h0A, .inl (cI, 60, .inl fA)), (h0C, .inl (cI, 60, .inl fC))] sz (fun (r : Int32) => fun (_ : Unit) => r = ard fC n st en) (fun (_ : Unit) => [(h0, .inr (6, [.ref h0L, .ref h0A, .ref h0C, .int (nI n)])), (h0L, .inl (cC, 60, .inl fL)), (h0A, .inl (cI, 60, .inl fA)), (h0C, .inl (cI, 60, .inl fC))]) 0 0 := by
  refine mk_MI (cc := cX4_clauseAround) (maxL := 3) (ret := (some .int)) (by decide) rfl (Nat.le_of_ble_eq_true rfl) ?_
  intro p e s mI args below meth cO A cx hr hlk hnm hw ls hl
  have hx := cx.1
  have hb := cx.2.1
  have hw : ww D (TY cC cI cJ cZ cD) s A s.heap [(h0, .inr (6, [.ref h0L, .ref h0A, .ref h0C, .int (nI n)])), (h0L, .inl (cC, 60, .inl fL)), (h0A, .inl (cI, 60, .inl fA)), (h0C, .inl (cI, 60, .inl fC))] s.heap [] := hw
  have hl : lv_has ls 3 [(0, .ref h0), (1, .int (nI st)), (2, .int (nI en))] := hl
  generalize hQ : MQ _ _ _ _ _ _ _ = Q
  refine hp_start hw (fun H locs hw => ?_)
  refine lv_iload_n hx hb dX4_clauseAround_0 rfl (lv_at hl 1 rfl) ?_
  refine r_if_le cx 29 st rfl (by omega) dX4_clauseAround_1 (by decide) (fun c1 => ?_) (fun c1 => ?_)
  · refine lv_iconst (v := (-1)) hx hb dX4_clauseAround_29 (by decide) ?_
    subst hQ
    exact r_reti (v := (-1)) cx hr rfl hlk hw (Nat.le_of_ble_eq_true rfl) (Nat.le_of_ble_eq_true rfl) () (by unfold ard; rw [if_pos (by first | exact Or.inl (by assumption) | exact Or.inr (Or.inl (by assumption)) | exact Or.inr (Or.inr (by assumption)))]) [0, 1, 2, 3] (by decide) rfl dX4_clauseAround_30
  · refine lv_iload_n hx hb dX4_clauseAround_4 rfl (lv_at hl 2 rfl) ?_
    refine lv_aload_n hx hb dX4_clauseAround_5 rfl (lv_at hl 0 rfl) ?_
    refine r_get cx hw inX4_clauseAround_4 0 3 rfl rfl (by decide) lkX4_clauseAround_1 rfl dX4_clauseAround_6 ?_
    refine r_icmp_ge cx 29 en n rfl rfl (by omega) (by omega) dX4_clauseAround_9 (by decide) (fun c9 => ?_) (fun c9 => ?_)
    · refine lv_iconst (v := (-1)) hx hb dX4_clauseAround_29 (by decide) ?_
      subst hQ
      exact r_reti (v := (-1)) cx hr rfl hlk hw (Nat.le_of_ble_eq_true rfl) (Nat.le_of_ble_eq_true rfl) () (by unfold ard; rw [if_pos (by first | exact Or.inl (by assumption) | exact Or.inr (Or.inl (by assumption)) | exact Or.inr (Or.inr (by assumption)))]) [0, 1, 2, 3] (by decide) rfl dX4_clauseAround_30
    · refine lv_aload_n hx hb dX4_clauseAround_12 rfl (lv_at hl 0 rfl) ?_
      refine r_get cx hw inX4_clauseAround_4 0 2 rfl rfl (by decide) lkX4_clauseAround_2 rfl dX4_clauseAround_13 ?_
      refine lv_iload_n hx hb dX4_clauseAround_16 rfl (lv_at hl 1 rfl) ?_
      refine lv_iconst (v := nI 1) hx hb dX4_clauseAround_17 (by decide) ?_
      refine r_isub cx st 1 rfl rfl (by omega) dX4_clauseAround_18 ?_
      refine r_iald cx hw 3 1 rfl rfl (st - 1) rfl (by omega) (by omega) dX4_clauseAround_19 ?_
      refine lv_aload_n hx hb dX4_clauseAround_20 rfl (lv_at hl 0 rfl) ?_
      refine r_get cx hw inX4_clauseAround_4 0 2 rfl rfl (by decide) lkX4_clauseAround_2 rfl dX4_clauseAround_21 ?_
      refine lv_iload_n hx hb dX4_clauseAround_24 rfl (lv_at hl 2 rfl) ?_
      refine r_iald cx hw 3 1 rfl rfl en rfl (by omega) (by omega) dX4_clauseAround_25 ?_
      refine lv_icmp_eq (tgt := 31) hx hb dX4_clauseAround_26 (by decide) (fun c26 => ?_) (fun c26 => ?_)
      · refine lv_aload_n hx hb dX4_clauseAround_31 rfl (lv_at hl 0 rfl) ?_
        refine r_get cx hw inX4_clauseAround_4 0 2 rfl rfl (by decide) lkX4_clauseAround_2 rfl dX4_clauseAround_32 ?_
        refine lv_iload_n hx hb dX4_clauseAround_35 rfl (lv_at hl 2 rfl) ?_
        refine r_iald cx hw 3 1 rfl rfl en rfl (by omega) (by omega) dX4_clauseAround_36 ?_
        subst hQ
        exact r_reti (v := fC en) cx hr rfl hlk hw (Nat.le_of_ble_eq_true rfl) (Nat.le_of_ble_eq_true rfl) () (by unfold ard; rw [if_neg (by rintro (q | q | q) <;> first | omega | exact q c26)]) [0, 1, 2, 3] (by decide) rfl dX4_clauseAround_37
      · refine lv_iconst (v := (-1)) hx hb dX4_clauseAround_29 (by decide) ?_
        subst hQ
        exact r_reti (v := (-1)) cx hr rfl hlk hw (Nat.le_of_ble_eq_true rfl) (Nat.le_of_ble_eq_true rfl) () (by unfold ard; rw [if_pos (by first | exact Or.inl (by assumption) | exact Or.inr (Or.inl (by assumption)) | exact Or.inr (Or.inr (by assumption)))]) [0, 1, 2, 3] (by decide) rfl dX4_clauseAround_30

theorem lkX4_isFree_1 : Cond.fieldLink RX4 22 "SignedDocument$Passage" "size" "I" ∈ wsX4_isFree := List.mem_of_getElem? (i := 1) rfl
theorem inX4_isFree_4 : ∀ w ∈ u_ws RX4 TX4 4, w ∈ wsX4_isFree := fun _ h => List.mem_cons_of_mem _ (List.mem_append_left _ (List.mem_append_right _ h))
theorem lkX4_isFree_2 : Cond.fieldLink RX4 19 "SignedDocument$Passage" "clauses" "[I" ∈ wsX4_isFree := List.mem_of_getElem? (i := 2) rfl
set_option maxRecDepth 100000 in
set_option maxHeartbeats 4000000 in
theorem mX4_isFree (l : Launch) (D : va_G) (cC cI cJ cZ cD : ClassId) (h0 h0L h0A h0C : Nat) (n : Nat) (fL fA fC : Nat → Int32) (st k : Nat) (sz : Nat) (hk : st + k ≤ n) (hn : n ≤ 60) : MI l yX4_isFree wsX4_isFree ({ frames := 0, cells := 0, slots := 0, locals := 0 }) [.ref h0, .int (nI st), .int (nI k)] D (TY cC cI cJ cZ cD) [(h0, .inr (6, [.ref h0L, .ref h0A, .ref h0C, .int (nI n)])), (h0L, .inl (cC, 60, .inl fL)), (h0A, .inl (cI, 60, .inl fA)), (h0C, .inl (cI, 60, .inl fC))] sz (fun (r : Int32) => fun (_ : Unit) => ((r = nI 1 ∧ (∀ j, st ≤ j → j < st + k → fC j = (-1))) ∨ (r = nI 0 ∧ ¬ (∀ j, st ≤ j → j < st + k → fC j = (-1))))) (fun (_ : Unit) => [(h0, .inr (6, [.ref h0L, .ref h0A, .ref h0C, .int (nI n)])), (h0L, .inl (cC, 60, .inl fL)), (h0A, .inl (cI, 60, .inl fA)), (h0C, .inl (cI, 60, .inl fC))]) 0 0 := by
  refine mk_MI (cc := cX4_isFree) (maxL := 4) (ret := (some .boolean)) (by decide) rfl (Nat.le_of_ble_eq_true rfl) ?_
  intro p e s mI args below meth cO A cx hr hlk hnm hw ls hl
  have hx := cx.1
  have hb := cx.2.1
  have hw : ww D (TY cC cI cJ cZ cD) s A s.heap [(h0, .inr (6, [.ref h0L, .ref h0A, .ref h0C, .int (nI n)])), (h0L, .inl (cC, 60, .inl fL)), (h0A, .inl (cI, 60, .inl fA)), (h0C, .inl (cI, 60, .inl fC))] s.heap [] := hw
  have hl : lv_has ls 4 [(0, .ref h0), (1, .int (nI st)), (2, .int (nI k))] := hl
  generalize hQ : MQ _ _ _ _ _ _ _ = Q
  refine hp_start hw (fun H locs hw => ?_)
  refine lv_iload_n hx hb dX4_isFree_0 rfl (lv_at hl 1 rfl) ?_
  refine lv_istore_n (lv' := [(3, .int (nI st)), (0, .ref h0), (1, .int (nI st)), (2, .int (nI k))]) hx hb dX4_isFree_1 rfl hl (by decide) rfl (fun ls hl => ?_)
  have K2_0 : ∀ (f : Nat) (i : Nat), (60 - i) < f → (st ≤ i) → (i ≤ st + k) → (∀ j, st ≤ j → j < i → fC j = (-1)) → ∀ (H : Heap) (locs : List Loc), ww D (TY cC cI cJ cZ cD) s A s.heap [(h0, .inr (6, [.ref h0L, .ref h0A, .ref h0C, .int (nI n)])), (h0L, .inl (cC, 60, .inl fL)), (h0A, .inl (cI, 60, .inl fA)), (h0C, .inl (cI, 60, .inl fC))] H locs → ∀ ls : Array Slot, lv_has ls 4 [(0, .ref h0), (1, .int (nI st)), (2, .int (nI k)), (3, .int (nI i))] → W p l e ({ frames := 0, cells := 0, slots := 0, locals := 0 } : Room) s mI args below meth cO H locs 0 0 Q (F0 mI 2 ls []) := by
    intro f
    induction f with
    | zero => intro i hms9; exact absurd hms9 (Nat.not_lt_zero _)
    | succ f ih2 =>
      intro i hms9 hi1 hi2 hf H locs hw ls hl
      refine lv_iload_n hx hb dX4_isFree_2 rfl (lv_at hl 3 rfl) ?_
      refine lv_iload_n hx hb dX4_isFree_3 rfl (lv_at hl 1 rfl) ?_
      refine lv_iload_n hx hb dX4_isFree_4 rfl (lv_at hl 2 rfl) ?_
      refine r_iadd cx st k rfl rfl dX4_isFree_5 ?_
      refine r_icmp_ge cx 35 i (st + k) rfl rfl (by omega) (by omega) dX4_isFree_6 (by decide) (fun c6 => ?_) (fun c6 => ?_)
      · refine lv_iconst (v := nI 1) hx hb dX4_isFree_35 (by decide) ?_
        subst hQ
        exact r_reti (v := nI 1) cx hr (by decide) hlk hw (Nat.le_of_ble_eq_true rfl) (Nat.le_of_ble_eq_true rfl) () (Or.inl ⟨rfl, fun j h1 h2 => hf j h1 (by omega)⟩) [0, 1, 2, 3] (by decide) rfl dX4_isFree_36
      · refine lv_iload_n hx hb dX4_isFree_9 rfl (lv_at hl 3 rfl) ?_
        refine lv_aload_n hx hb dX4_isFree_10 rfl (lv_at hl 0 rfl) ?_
        refine r_get cx hw inX4_isFree_4 0 3 rfl rfl (by decide) lkX4_isFree_1 rfl dX4_isFree_11 ?_
        refine r_icmp_ge cx 35 i n rfl rfl (by omega) (by omega) dX4_isFree_14 (by decide) (fun c14 => by omega) (fun c14 => ?_)
        refine lv_aload_n hx hb dX4_isFree_17 rfl (lv_at hl 0 rfl) ?_
        refine r_get cx hw inX4_isFree_4 0 2 rfl rfl (by decide) lkX4_isFree_2 rfl dX4_isFree_18 ?_
        refine lv_iload_n hx hb dX4_isFree_21 rfl (lv_at hl 3 rfl) ?_
        refine r_iald cx hw 3 1 rfl rfl i rfl (by omega) (by omega) dX4_isFree_22 ?_
        refine lv_iconst (v := (-1)) hx hb dX4_isFree_23 (by decide) ?_
        refine lv_icmp_eq (tgt := 29) hx hb dX4_isFree_24 (by decide) (fun c24 => ?_) (fun c24 => ?_)
        · refine lv_iinc (v := nI (i + 1)) (lv' := [(3, .int (nI (i + 1))), (0, .ref h0), (1, .int (nI st)), (2, .int (nI k))]) hx hb dX4_isFree_29 hl (k := 3) rfl (by rw [ii1, nI_1]) (by decide) rfl (fun ls hl => ?_)
          refine lv_goto (tgt := 2) hx hb dX4_isFree_32 (by decide) ?_
          exact ih2 (i + 1) (by omega) (by omega) (by omega) (by intro j h1 h2; rcases Nat.lt_or_ge j i with q | q; exact hf j h1 q; rw [show j = i by omega]; exact c24) _ _ hw _ (lv_sub hl [1, 2, 3, 0] rfl)
        · refine lv_iconst (v := nI 0) hx hb dX4_isFree_27 (by decide) ?_
          subst hQ
          exact r_reti (v := nI 0) cx hr (by decide) hlk hw (Nat.le_of_ble_eq_true rfl) (Nat.le_of_ble_eq_true rfl) () (Or.inr ⟨rfl, fun q => c24 (q i hi1 c6)⟩) [0, 1, 2, 3] (by decide) rfl dX4_isFree_28
  exact K2_0 _ st (Nat.lt_succ_self _) (by omega) (by omega) (by intro j h1 h2; omega) _ _ hw _ (lv_sub hl [1, 2, 3, 0] rfl)

theorem lkX4_mark_1 : Cond.fieldLink RX4 22 "SignedDocument$Passage" "size" "I" ∈ wsX4_mark := List.mem_of_getElem? (i := 1) rfl
theorem inX4_mark_4 : ∀ w ∈ u_ws RX4 TX4 4, w ∈ wsX4_mark := fun _ h => List.mem_cons_of_mem _ (List.mem_append_left _ (List.mem_append_right _ h))
theorem lkX4_mark_2 : Cond.fieldLink RX4 19 "SignedDocument$Passage" "clauses" "[I" ∈ wsX4_mark := List.mem_of_getElem? (i := 2) rfl
set_option maxRecDepth 100000 in
set_option maxHeartbeats 4000000 in
theorem mX4_mark (l : Launch) (D : va_G) (cC cI cJ cZ cD : ClassId) (h0 h0L h0A h0C : Nat) (n : Nat) (fL fA fC : Nat → Int32) (st k : Nat) (v : Int32) (sz : Nat) (hk : st + k ≤ n) (hn : n ≤ 60) : MV l yX4_mark wsX4_mark ({ frames := 0, cells := 0, slots := 0, locals := 0 }) [.ref h0, .int (nI st), .int (nI k), .int v] D (TY cC cI cJ cZ cD) [(h0, .inr (6, [.ref h0L, .ref h0A, .ref h0C, .int (nI n)])), (h0L, .inl (cC, 60, .inl fL)), (h0A, .inl (cI, 60, .inl fA)), (h0C, .inl (cI, 60, .inl fC))] sz (fun (_ : Unit) => True) (fun (_ : Unit) => [(h0, .inr (6, [.ref h0L, .ref h0A, .ref h0C, .int (nI n)])), (h0L, .inl (cC, 60, .inl fL)), (h0A, .inl (cI, 60, .inl fA)), (h0C, .inl (cI, 60, .inl (mk fC st k v)))]) 0 0 := by
  refine mk_MV (cc := cX4_mark) (maxL := 5) (ret := none) (by decide) rfl (Nat.le_of_ble_eq_true rfl) ?_
  intro p e s mI args below meth cO A cx hr hlk hnm hw ls hl
  have hx := cx.1
  have hb := cx.2.1
  have hw : ww D (TY cC cI cJ cZ cD) s A s.heap [(h0, .inr (6, [.ref h0L, .ref h0A, .ref h0C, .int (nI n)])), (h0L, .inl (cC, 60, .inl fL)), (h0A, .inl (cI, 60, .inl fA)), (h0C, .inl (cI, 60, .inl fC))] s.heap [] := hw
  have hl : lv_has ls 5 [(0, .ref h0), (1, .int (nI st)), (2, .int (nI k)), (3, .int v)] := hl
  generalize hQ : MQ _ _ _ _ _ _ _ = Q
  refine hp_start hw (fun H locs hw => ?_)
  refine lv_iload_n hx hb dX4_mark_0 rfl (lv_at hl 1 rfl) ?_
  refine lv_istore (lv' := [(4, .int (nI st)), (0, .ref h0), (1, .int (nI st)), (2, .int (nI k)), (3, .int v)]) hx hb dX4_mark_1 hl (by decide) rfl (fun ls hl => ?_)
  have K3_0 : ∀ (f : Nat) (i : Nat) (C1 : Nat → Int32), (60 - i) < f → (st ≤ i) → (i ≤ st + k) → (C1 = mk fC st (i - st) v) → ∀ (H : Heap) (locs : List Loc), ww D (TY cC cI cJ cZ cD) s A s.heap [(h0, .inr (6, [.ref h0L, .ref h0A, .ref h0C, .int (nI n)])), (h0L, .inl (cC, 60, .inl fL)), (h0A, .inl (cI, 60, .inl fA)), (h0C, .inl (cI, 60, .inl C1))] H locs → ∀ ls : Array Slot, lv_has ls 5 [(0, .ref h0), (1, .int (nI st)), (2, .int (nI k)), (3, .int v), (4, .int (nI i))] → W p l e ({ frames := 0, cells := 0, slots := 0, locals := 0 } : Room) s mI args below meth cO H locs 0 0 Q (F0 mI 3 ls []) := by
    intro f
    induction f with
    | zero => intro i C1 hms9; exact absurd hms9 (Nat.not_lt_zero _)
    | succ f ih3 =>
      intro i C1 hms9 hi1 hi2 hC1 H locs hw ls hl
      refine lv_iload hx hb dX4_mark_3 (lv_at hl 4 rfl) ?_
      refine lv_iload_n hx hb dX4_mark_5 rfl (lv_at hl 1 rfl) ?_
      refine lv_iload_n hx hb dX4_mark_6 rfl (lv_at hl 2 rfl) ?_
      refine r_iadd cx st k rfl rfl dX4_mark_7 ?_
      refine r_icmp_ge cx 34 i (st + k) rfl rfl (by omega) (by omega) dX4_mark_8 (by decide) (fun c8 => ?_) (fun c8 => ?_)
      · have e9 : i - st = k := by omega
        rw [hC1, e9] at hw
        have hw : ww D (TY cC cI cJ cZ cD) s A s.heap [(h0, .inr (6, [.ref h0L, .ref h0A, .ref h0C, .int (nI n)])), (h0L, .inl (cC, 60, .inl fL)), (h0A, .inl (cI, 60, .inl fA)), (h0C, .inl (cI, 60, .inl (mk fC st k v)))] H locs := hw
        subst hQ
        exact r_retv cx hr hlk hw (Nat.le_of_ble_eq_true rfl) (Nat.le_of_ble_eq_true rfl) () trivial [0, 1, 2, 3] (by decide) rfl dX4_mark_34
      · refine lv_iload hx hb dX4_mark_11 (lv_at hl 4 rfl) ?_
        refine lv_aload_n hx hb dX4_mark_13 rfl (lv_at hl 0 rfl) ?_
        refine r_get cx hw inX4_mark_4 0 3 rfl rfl (by decide) lkX4_mark_1 rfl dX4_mark_14 ?_
        refine r_icmp_ge cx 34 i n rfl rfl (by omega) (by omega) dX4_mark_17 (by decide) (fun c17 => by omega) (fun c17 => ?_)
        refine lv_aload_n hx hb dX4_mark_20 rfl (lv_at hl 0 rfl) ?_
        refine r_get cx hw inX4_mark_4 0 2 rfl rfl (by decide) lkX4_mark_2 rfl dX4_mark_21 ?_
        refine lv_iload hx hb dX4_mark_24 (lv_at hl 4 rfl) ?_
        refine lv_iload_n hx hb dX4_mark_26 rfl (lv_at hl 3 rfl) ?_
        refine r_iast cx hw 3 1 rfl rfl i rfl (by omega) (by omega) dX4_mark_27 (fun H locs hw => ?_)
        have hw : ww D (TY cC cI cJ cZ cD) s A s.heap [(h0, .inr (6, [.ref h0L, .ref h0A, .ref h0C, .int (nI n)])), (h0L, .inl (cC, 60, .inl fL)), (h0A, .inl (cI, 60, .inl fA)), (h0C, .inl (cI, 60, .inl (upd C1 i v)))] H locs := hw
        refine lv_iinc (v := nI (i + 1)) (lv' := [(4, .int (nI (i + 1))), (0, .ref h0), (1, .int (nI st)), (2, .int (nI k)), (3, .int v)]) hx hb dX4_mark_28 hl (k := 4) rfl (by rw [ii1, nI_1]) (by decide) rfl (fun ls hl => ?_)
        refine lv_goto (tgt := 3) hx hb dX4_mark_31 (by decide) ?_
        exact ih3 (i + 1) (upd C1 i v) (by omega) (by omega) (by omega) (by rw [hC1, show i + 1 - st = (i - st) + 1 by omega, ← mk_s, show st + (i - st) = i by omega]) _ _ hw _ (lv_sub hl [1, 2, 3, 4, 0] rfl)
  exact K3_0 _ st fC (Nat.lt_succ_self _) (by omega) (by omega) (by rw [Nat.sub_self, mk_0]) _ _ hw _ (lv_sub hl [1, 2, 3, 4, 0] rfl)

theorem lkX4_standsOutside_1 : Cond.fieldLink RX4 22 "SignedDocument$Passage" "size" "I" ∈ wsX4_standsOutside := List.mem_of_getElem? (i := 1) rfl
theorem inX4_standsOutside_4 : ∀ w ∈ u_ws RX4 TX4 4, w ∈ wsX4_standsOutside := fun _ h => List.mem_cons_of_mem _ (List.mem_append_left _ (List.mem_append_right _ h))
theorem lkX4_standsOutside_2 : Cond.fieldLink RX4 19 "SignedDocument$Passage" "clauses" "[I" ∈ wsX4_standsOutside := List.mem_of_getElem? (i := 2) rfl
set_option maxRecDepth 100000 in
set_option maxHeartbeats 4000000 in
theorem mX4_standsOutside (l : Launch) (D : va_G) (cC cI cJ cZ cD : ClassId) (h0 h0L h0A h0C : Nat) (n : Nat) (fL fA fC : Nat → Int32) (v : Int32) (st en : Nat) (sz : Nat) (hn : n ≤ 60) (hs : st ≤ 60) (hen : en ≤ 60) : MI l yX4_standsOutside wsX4_standsOutside ({ frames := 0, cells := 0, slots := 0, locals := 0 }) [.ref h0, .int v, .int (nI st), .int (nI en)] D (TY cC cI cJ cZ cD) [(h0, .inr (6, [.ref h0L, .ref h0A, .ref h0C, .int (nI n)])), (h0L, .inl (cC, 60, .inl fL)), (h0A, .inl (cI, 60, .inl fA)), (h0C, .inl (cI, 60, .inl fC))] sz (fun (r : Int32) => fun (_ : Unit) => ((r = nI 1 ∧ (so fC n st en v = true)) ∨ (r = nI 0 ∧ ¬ (so fC n st en v = true)))) (fun (_ : Unit) => [(h0, .inr (6, [.ref h0L, .ref h0A, .ref h0C, .int (nI n)])), (h0L, .inl (cC, 60, .inl fL)), (h0A, .inl (cI, 60, .inl fA)), (h0C, .inl (cI, 60, .inl fC))]) 0 0 := by
  refine mk_MI (cc := cX4_standsOutside) (maxL := 5) (ret := (some .boolean)) (by decide) rfl (Nat.le_of_ble_eq_true rfl) ?_
  intro p e s mI args below meth cO A cx hr hlk hnm hw ls hl
  have hx := cx.1
  have hb := cx.2.1
  have hw : ww D (TY cC cI cJ cZ cD) s A s.heap [(h0, .inr (6, [.ref h0L, .ref h0A, .ref h0C, .int (nI n)])), (h0L, .inl (cC, 60, .inl fL)), (h0A, .inl (cI, 60, .inl fA)), (h0C, .inl (cI, 60, .inl fC))] s.heap [] := hw
  have hl : lv_has ls 5 [(0, .ref h0), (1, .int v), (2, .int (nI st)), (3, .int (nI en))] := hl
  generalize hQ : MQ _ _ _ _ _ _ _ = Q
  refine hp_start hw (fun H locs hw => ?_)
  refine lv_iconst (v := nI 0) hx hb dX4_standsOutside_0 (by decide) ?_
  refine lv_istore (lv' := [(4, .int (nI 0)), (0, .ref h0), (1, .int v), (2, .int (nI st)), (3, .int (nI en))]) hx hb dX4_standsOutside_1 hl (by decide) rfl (fun ls hl => ?_)
  have K3_0 : ∀ (f : Nat) (i : Nat), (60 - i) < f → (i ≤ n) → (∀ j, j < i → ¬ (fC j = v ∧ (j < st ∨ en ≤ j))) → ∀ (H : Heap) (locs : List Loc), ww D (TY cC cI cJ cZ cD) s A s.heap [(h0, .inr (6, [.ref h0L, .ref h0A, .ref h0C, .int (nI n)])), (h0L, .inl (cC, 60, .inl fL)), (h0A, .inl (cI, 60, .inl fA)), (h0C, .inl (cI, 60, .inl fC))] H locs → ∀ ls : Array Slot, lv_has ls 5 [(0, .ref h0), (1, .int v), (2, .int (nI st)), (3, .int (nI en)), (4, .int (nI i))] → W p l e ({ frames := 0, cells := 0, slots := 0, locals := 0 } : Room) s mI args below meth cO H locs 0 0 Q (F0 mI 3 ls []) := by
    intro f
    induction f with
    | zero => intro i hms9; exact absurd hms9 (Nat.not_lt_zero _)
    | succ f ih3 =>
      intro i hms9 hi hf H locs hw ls hl
      refine lv_iload hx hb dX4_standsOutside_3 (lv_at hl 4 rfl) ?_
      refine lv_aload_n hx hb dX4_standsOutside_5 rfl (lv_at hl 0 rfl) ?_
      refine r_get cx hw inX4_standsOutside_4 0 3 rfl rfl (by decide) lkX4_standsOutside_1 rfl dX4_standsOutside_6 ?_
      refine r_icmp_ge cx 43 i n rfl rfl (by omega) (by omega) dX4_standsOutside_9 (by decide) (fun c9 => ?_) (fun c9 => ?_)
      · refine lv_iconst (v := nI 0) hx hb dX4_standsOutside_43 (by decide) ?_
        subst hQ
        exact r_reti (v := nI 0) cx hr (by decide) hlk hw (Nat.le_of_ble_eq_true rfl) (Nat.le_of_ble_eq_true rfl) () (Or.inr ⟨rfl, fun q => by obtain ⟨j, h1, h2, h3⟩ := so_t.mp q; exact hf j (by omega) ⟨h2, h3⟩⟩) [0, 1, 2, 3] (by decide) rfl dX4_standsOutside_44
      · refine lv_aload_n hx hb dX4_standsOutside_12 rfl (lv_at hl 0 rfl) ?_
        refine r_get cx hw inX4_standsOutside_4 0 2 rfl rfl (by decide) lkX4_standsOutside_2 rfl dX4_standsOutside_13 ?_
        refine lv_iload hx hb dX4_standsOutside_16 (lv_at hl 4 rfl) ?_
        refine r_iald cx hw 3 1 rfl rfl i rfl (by omega) (by omega) dX4_standsOutside_18 ?_
        refine lv_iload_n hx hb dX4_standsOutside_19 rfl (lv_at hl 1 rfl) ?_
        refine lv_icmp_ne (tgt := 37) hx hb dX4_standsOutside_20 (by decide) (fun c20 => ?_) (fun c20 => ?_)
        · refine lv_iinc (v := nI (i + 1)) (lv' := [(4, .int (nI (i + 1))), (0, .ref h0), (1, .int v), (2, .int (nI st)), (3, .int (nI en))]) hx hb dX4_standsOutside_37 hl (k := 4) rfl (by rw [ii1, nI_1]) (by decide) rfl (fun ls hl => ?_)
          refine lv_goto (tgt := 3) hx hb dX4_standsOutside_40 (by decide) ?_
          exact ih3 (i + 1) (by omega) (by omega) (by intro j h1; rcases Nat.lt_or_ge j i with q | q; exact hf j q; rw [show j = i by omega]; rintro ⟨h2, h3⟩; first | exact c20 h2 | omega) _ _ hw _ (lv_sub hl [1, 2, 3, 4, 0] rfl)
        · refine lv_iload hx hb dX4_standsOutside_23 (lv_at hl 4 rfl) ?_
          refine lv_iload_n hx hb dX4_standsOutside_25 rfl (lv_at hl 2 rfl) ?_
          refine r_icmp_lt cx 35 i st rfl rfl (by omega) (by omega) dX4_standsOutside_26 (by decide) (fun c26 => ?_) (fun c26 => ?_)
          · refine lv_iconst (v := nI 1) hx hb dX4_standsOutside_35 (by decide) ?_
            subst hQ
            exact r_reti (v := nI 1) cx hr (by decide) hlk hw (Nat.le_of_ble_eq_true rfl) (Nat.le_of_ble_eq_true rfl) () (Or.inl ⟨rfl, so_t.mpr ⟨i, c9, c20, by omega⟩⟩) [0, 1, 2, 3] (by decide) rfl dX4_standsOutside_36
          · refine lv_iload hx hb dX4_standsOutside_29 (lv_at hl 4 rfl) ?_
            refine lv_iload_n hx hb dX4_standsOutside_31 rfl (lv_at hl 3 rfl) ?_
            refine r_icmp_lt cx 37 i en rfl rfl (by omega) (by omega) dX4_standsOutside_32 (by decide) (fun c32 => ?_) (fun c32 => ?_)
            · refine lv_iinc (v := nI (i + 1)) (lv' := [(4, .int (nI (i + 1))), (0, .ref h0), (1, .int v), (2, .int (nI st)), (3, .int (nI en))]) hx hb dX4_standsOutside_37 hl (k := 4) rfl (by rw [ii1, nI_1]) (by decide) rfl (fun ls hl => ?_)
              refine lv_goto (tgt := 3) hx hb dX4_standsOutside_40 (by decide) ?_
              exact ih3 (i + 1) (by omega) (by omega) (by intro j h1; rcases Nat.lt_or_ge j i with q | q; exact hf j q; rw [show j = i by omega]; rintro ⟨h2, h3⟩; first | exact c20 h2 | omega) _ _ hw _ (lv_sub hl [1, 2, 3, 4, 0] rfl)
            · refine lv_iconst (v := nI 1) hx hb dX4_standsOutside_35 (by decide) ?_
              subst hQ
              exact r_reti (v := nI 1) cx hr (by decide) hlk hw (Nat.le_of_ble_eq_true rfl) (Nat.le_of_ble_eq_true rfl) () (Or.inl ⟨rfl, so_t.mpr ⟨i, c9, c20, by omega⟩⟩) [0, 1, 2, 3] (by decide) rfl dX4_standsOutside_36
  exact K3_0 _ 0 (Nat.lt_succ_self _) (by omega) (by intro j h1; omega) _ _ hw _ (lv_sub hl [1, 2, 3, 4, 0] rfl)

theorem lkX4_settle_1 : Cond.fieldLink RX4 22 "SignedDocument$Passage" "size" "I" ∈ wsX4_settle := List.mem_of_getElem? (i := 1) rfl
theorem inX4_settle_4 : ∀ w ∈ u_ws RX4 TX4 4, w ∈ wsX4_settle := fun _ h => List.mem_cons_of_mem _ (List.mem_append_left _ (List.mem_append_right _ h))
theorem lkX4_settle_2 : Cond.fieldLink RX4 19 "SignedDocument$Passage" "clauses" "[I" ∈ wsX4_settle := List.mem_of_getElem? (i := 2) rfl
set_option maxRecDepth 100000 in
set_option maxHeartbeats 4000000 in
theorem mX4_settle (l : Launch) (D : va_G) (cC cI cJ cZ cD : ClassId) (h0 h0L h0A h0C : Nat) (n : Nat) (fL fA fC : Nat → Int32) (st k : Nat) (sz : Nat) (hk : st + k ≤ n) (hn : n ≤ 60) : MV l yX4_settle wsX4_settle ({ frames := 1, cells := 0, slots := 0, locals := 24 }) [.ref h0, .int (nI st), .int (nI k)] D (TY cC cI cJ cZ cD) [(h0, .inr (6, [.ref h0L, .ref h0A, .ref h0C, .int (nI n)])), (h0L, .inl (cC, 60, .inl fL)), (h0A, .inl (cI, 60, .inl fA)), (h0C, .inl (cI, 60, .inl fC))] sz (fun (_ : Unit) => True) (fun (_ : Unit) => [(h0, .inr (6, [.ref h0L, .ref h0A, .ref h0C, .int (nI n)])), (h0L, .inl (cC, 60, .inl fL)), (h0A, .inl (cI, 60, .inl fA)), (h0C, .inl (cI, 60, .inl (stp fC n st k (st + k))))]) 0 0 := by
  refine mk_MV (cc := cX4_settle) (maxL := 6) (ret := none) (by decide) rfl (Nat.le_of_ble_eq_true rfl) ?_
  intro p e s mI args below meth cO A cx hr hlk hnm hw ls hl
  have hx := cx.1
  have hb := cx.2.1
  have hw : ww D (TY cC cI cJ cZ cD) s A s.heap [(h0, .inr (6, [.ref h0L, .ref h0A, .ref h0C, .int (nI n)])), (h0L, .inl (cC, 60, .inl fL)), (h0A, .inl (cI, 60, .inl fA)), (h0C, .inl (cI, 60, .inl fC))] s.heap [] := hw
  have hl : lv_has ls 6 [(0, .ref h0), (1, .int (nI st)), (2, .int (nI k))] := hl
  generalize hQ : MQ _ _ _ _ _ _ _ = Q
  refine hp_start hw (fun H locs hw => ?_)
  refine lv_iload_n hx hb dX4_settle_0 rfl (lv_at hl 1 rfl) ?_
  refine lv_iload_n hx hb dX4_settle_1 rfl (lv_at hl 2 rfl) ?_
  refine r_iadd cx st k rfl rfl dX4_settle_2 ?_
  refine lv_istore_n (lv' := [(3, .int (nI (st + k))), (0, .ref h0), (1, .int (nI st)), (2, .int (nI k))]) hx hb dX4_settle_3 rfl hl (by decide) rfl (fun ls hl => ?_)
  refine lv_aload_n hx hb dX4_settle_4 rfl (lv_at hl 1 rfl) ?_
  refine lv_iload_n hx hb dX4_settle_5 rfl (lv_at hl 2 rfl) ?_
  refine lv_iload_n hx hb dX4_settle_6 rfl (lv_at hl 0 rfl) ?_
  refine r_callVi (n := 2) (wr := []) cx hw (mX4_clauseAround l D cC cI cJ cZ cD h0 h0L h0A h0C n fL fA fC st (st + k) H.size (by omega) hn (by omega)) [0, 1, 2, 3] [] gX4_settle_X4_clauseAround rfl rfl rfl (by decide +kernel) ⟨Nat.le_of_ble_eq_true rfl, Nat.le_of_ble_eq_true rfl⟩ (q0 := 0) rfl rfl rfl rfl (by decide) (by decide) (by decide) rfl rfl hl.1 (Nat.le_of_ble_eq_true rfl) dX4_settle_7 ⟨Nat.le_of_ble_eq_true rfl, Nat.le_of_ble_eq_true rfl⟩ (fun r_1 u H locs hp hw => ?_)
  have hw : ww D (TY cC cI cJ cZ cD) s A s.heap [(h0, .inr (6, [.ref h0L, .ref h0A, .ref h0C, .int (nI n)])), (h0L, .inl (cC, 60, .inl fL)), (h0A, .inl (cI, 60, .inl fA)), (h0C, .inl (cI, 60, .inl fC))] H locs := hw
  try dsimp only at hp
  subst hp
  refine lv_istore (lv' := [(4, .int (ard fC n st (st + k))), (3, .int (nI (st + k))), (0, .ref h0), (1, .int (nI st)), (2, .int (nI k))]) hx hb dX4_settle_10 hl (by decide) rfl (fun ls hl => ?_)
  refine lv_iload_n hx hb dX4_settle_12 rfl (lv_at hl 3 rfl) ?_
  refine lv_istore (lv' := [(5, .int (nI st)), (4, .int (ard fC n st (st + k))), (3, .int (nI (st + k))), (0, .ref h0), (1, .int (nI st)), (2, .int (nI k))]) hx hb dX4_settle_13 hl (by decide) rfl (fun ls hl => ?_)
  have K15_1 : ∀ (f : Nat) (i : Nat) (C1 : Nat → Int32), (60 - i) < f → (st ≤ i) → (i ≤ st + k) → (C1 = stp fC n st k i) → ∀ (H : Heap) (locs : List Loc), ww D (TY cC cI cJ cZ cD) s A s.heap [(h0, .inr (6, [.ref h0L, .ref h0A, .ref h0C, .int (nI n)])), (h0L, .inl (cC, 60, .inl fL)), (h0A, .inl (cI, 60, .inl fA)), (h0C, .inl (cI, 60, .inl C1))] H locs → ∀ ls : Array Slot, lv_has ls 6 [(0, .ref h0), (1, .int (nI st)), (2, .int (nI k)), (3, .int (nI (st + k))), (4, .int (ard fC n st (st + k))), (5, .int (nI i))] → W p l e ({ frames := 1, cells := 0, slots := 0, locals := 24 } : Room) s mI args below meth cO H locs 0 0 Q (F0 mI 15 ls []) := by
    intro f
    induction f with
    | zero => intro i C1 hms9; exact absurd hms9 (Nat.not_lt_zero _)
    | succ f ih15 =>
      intro i C1 hms9 hi1 hi2 hC1 H locs hw ls hl
      refine lv_iload hx hb dX4_settle_15 (lv_at hl 5 rfl) ?_
      refine lv_iload_n hx hb dX4_settle_17 rfl (lv_at hl 3 rfl) ?_
      refine r_icmp_ge cx 72 i (st + k) rfl rfl (by omega) (by omega) dX4_settle_18 (by decide) (fun c18 => ?_) (fun c18 => ?_)
      · have e9 : i = st + k := by omega
        rw [hC1, e9] at hw
        have hw : ww D (TY cC cI cJ cZ cD) s A s.heap [(h0, .inr (6, [.ref h0L, .ref h0A, .ref h0C, .int (nI n)])), (h0L, .inl (cC, 60, .inl fL)), (h0A, .inl (cI, 60, .inl fA)), (h0C, .inl (cI, 60, .inl (stp fC n st k (st + k))))] H locs := hw
        subst hQ
        exact r_retv cx hr hlk hw (Nat.le_of_ble_eq_true rfl) (Nat.le_of_ble_eq_true rfl) () trivial [0, 1, 2, 3] (by decide) rfl dX4_settle_72
      · refine lv_iload hx hb dX4_settle_21 (lv_at hl 5 rfl) ?_
        refine lv_aload_n hx hb dX4_settle_23 rfl (lv_at hl 0 rfl) ?_
        refine r_get cx hw inX4_settle_4 0 3 rfl rfl (by decide) lkX4_settle_1 rfl dX4_settle_24 ?_
        refine r_icmp_ge cx 72 i n rfl rfl (by omega) (by omega) dX4_settle_27 (by decide) (fun c27 => by omega) (fun c27 => ?_)
        refine lv_aload_n hx hb dX4_settle_30 rfl (lv_at hl 0 rfl) ?_
        refine r_get cx hw inX4_settle_4 0 2 rfl rfl (by decide) lkX4_settle_2 rfl dX4_settle_31 ?_
        refine lv_iload hx hb dX4_settle_34 (lv_at hl 5 rfl) ?_
        refine r_iald cx hw 3 1 rfl rfl i rfl (by omega) (by omega) dX4_settle_36 ?_
        refine lv_iconst (v := (-1)) hx hb dX4_settle_37 (by decide) ?_
        refine lv_icmp_eq (tgt := 57) hx hb dX4_settle_38 (by decide) (fun c38 => ?_) (fun c38 => ?_)
        · refine lv_aload_n hx hb dX4_settle_57 rfl (lv_at hl 0 rfl) ?_
          refine r_get cx hw inX4_settle_4 0 2 rfl rfl (by decide) lkX4_settle_2 rfl dX4_settle_58 ?_
          refine lv_iload hx hb dX4_settle_61 (lv_at hl 5 rfl) ?_
          refine lv_iload hx hb dX4_settle_63 (lv_at hl 4 rfl) ?_
          refine r_iast cx hw 3 1 rfl rfl i rfl (by omega) (by omega) dX4_settle_65 (fun H locs hw => ?_)
          have hw : ww D (TY cC cI cJ cZ cD) s A s.heap [(h0, .inr (6, [.ref h0L, .ref h0A, .ref h0C, .int (nI n)])), (h0L, .inl (cC, 60, .inl fL)), (h0A, .inl (cI, 60, .inl fA)), (h0C, .inl (cI, 60, .inl (upd C1 i (ard fC n st (st + k)))))] H locs := hw
          refine lv_iinc (v := nI (i + 1)) (lv' := [(5, .int (nI (i + 1))), (0, .ref h0), (1, .int (nI st)), (2, .int (nI k)), (3, .int (nI (st + k))), (4, .int (ard fC n st (st + k)))]) hx hb dX4_settle_66 hl (k := 5) rfl (by rw [ii1, nI_1]) (by decide) rfl (fun ls hl => ?_)
          refine lv_goto (tgt := 15) hx hb dX4_settle_69 (by decide) ?_
          exact ih15 (i + 1) (upd C1 i (ard fC n st (st + k))) (by omega) (by omega) (by omega) (by rw [hC1]; exact stp_t hi1 (by first | exact Or.inl (by rw [hC1, stp_at] at c38; exact c38) | exact Or.inr (by rw [hC1, stp_at, so_cong (C2 := fC) (fun j _ hj => stp_out (by omega))] at b51; exact b51))) _ _ hw _ (lv_sub hl [1, 2, 3, 4, 5, 0] rfl)
        · refine lv_aload_n hx hb dX4_settle_41 rfl (lv_at hl 0 rfl) ?_
          refine lv_aload_n hx hb dX4_settle_42 rfl (lv_at hl 0 rfl) ?_
          refine r_get cx hw inX4_settle_4 0 2 rfl rfl (by decide) lkX4_settle_2 rfl dX4_settle_43 ?_
          refine lv_iload hx hb dX4_settle_46 (lv_at hl 5 rfl) ?_
          refine r_iald cx hw 3 1 rfl rfl i rfl (by omega) (by omega) dX4_settle_48 ?_
          refine lv_iload_n hx hb dX4_settle_49 rfl (lv_at hl 1 rfl) ?_
          refine lv_iload_n hx hb dX4_settle_50 rfl (lv_at hl 3 rfl) ?_
          refine r_callVi (n := 3) (wr := []) cx hw (mX4_standsOutside l D cC cI cJ cZ cD h0 h0L h0A h0C n fL fA C1 (C1 i) st (st + k) H.size hn (by omega) (by omega)) [0, 1, 2, 3] [] gX4_settle_X4_standsOutside rfl rfl rfl (by decide +kernel) ⟨Nat.le_of_ble_eq_true rfl, Nat.le_of_ble_eq_true rfl⟩ (q0 := 0) rfl rfl rfl rfl (by decide) (by decide) (by decide) rfl rfl hl.1 (Nat.le_of_ble_eq_true rfl) dX4_settle_51 ⟨Nat.le_of_ble_eq_true rfl, Nat.le_of_ble_eq_true rfl⟩ (fun r_3 u H locs hp hw => ?_)
          have hw : ww D (TY cC cI cJ cZ cD) s A s.heap [(h0, .inr (6, [.ref h0L, .ref h0A, .ref h0C, .int (nI n)])), (h0L, .inl (cC, 60, .inl fL)), (h0A, .inl (cI, 60, .inl fA)), (h0C, .inl (cI, 60, .inl C1))] H locs := hw
          try dsimp only at hp
          have hb9 := hp
          rcases hb9 with ⟨rfl, b51⟩ | ⟨rfl, b51⟩
          · refine r_if_eq cx 66 1 rfl (by omega) dX4_settle_54 (by decide) (fun c54 => by exact absurd c54 (by decide)) (fun c54 => ?_)
            refine lv_aload_n hx hb dX4_settle_57 rfl (lv_at hl 0 rfl) ?_
            refine r_get cx hw inX4_settle_4 0 2 rfl rfl (by decide) lkX4_settle_2 rfl dX4_settle_58 ?_
            refine lv_iload hx hb dX4_settle_61 (lv_at hl 5 rfl) ?_
            refine lv_iload hx hb dX4_settle_63 (lv_at hl 4 rfl) ?_
            refine r_iast cx hw 3 1 rfl rfl i rfl (by omega) (by omega) dX4_settle_65 (fun H locs hw => ?_)
            have hw : ww D (TY cC cI cJ cZ cD) s A s.heap [(h0, .inr (6, [.ref h0L, .ref h0A, .ref h0C, .int (nI n)])), (h0L, .inl (cC, 60, .inl fL)), (h0A, .inl (cI, 60, .inl fA)), (h0C, .inl (cI, 60, .inl (upd C1 i (ard fC n st (st + k)))))] H locs := hw
            refine lv_iinc (v := nI (i + 1)) (lv' := [(5, .int (nI (i + 1))), (0, .ref h0), (1, .int (nI st)), (2, .int (nI k)), (3, .int (nI (st + k))), (4, .int (ard fC n st (st + k)))]) hx hb dX4_settle_66 hl (k := 5) rfl (by rw [ii1, nI_1]) (by decide) rfl (fun ls hl => ?_)
            refine lv_goto (tgt := 15) hx hb dX4_settle_69 (by decide) ?_
            exact ih15 (i + 1) (upd C1 i (ard fC n st (st + k))) (by omega) (by omega) (by omega) (by rw [hC1]; exact stp_t hi1 (by first | exact Or.inl (by rw [hC1, stp_at] at c38; exact c38) | exact Or.inr (by rw [hC1, stp_at, so_cong (C2 := fC) (fun j _ hj => stp_out (by omega))] at b51; exact b51))) _ _ hw _ (lv_sub hl [1, 2, 3, 4, 5, 0] rfl)
          · refine r_if_eq cx 66 0 rfl (by omega) dX4_settle_54 (by decide) (fun c54 => ?_) (fun c54 => by exact absurd c54 (by decide))
            refine lv_iinc (v := nI (i + 1)) (lv' := [(5, .int (nI (i + 1))), (0, .ref h0), (1, .int (nI st)), (2, .int (nI k)), (3, .int (nI (st + k))), (4, .int (ard fC n st (st + k)))]) hx hb dX4_settle_66 hl (k := 5) rfl (by rw [ii1, nI_1]) (by decide) rfl (fun ls hl => ?_)
            refine lv_goto (tgt := 15) hx hb dX4_settle_69 (by decide) ?_
            exact ih15 (i + 1) C1 (by omega) (by omega) (by omega) (by rw [hC1]; exact stp_f (by rw [hC1, stp_at] at c38; rw [hC1, stp_at, so_cong (C2 := fC) (fun j _ hj => stp_out (by omega))] at b51; rintro (q | q); exact c38 q; exact b51 q)) _ _ hw _ (lv_sub hl [1, 2, 3, 4, 5, 0] rfl)
  exact K15_1 _ st fC (Nat.lt_succ_self _) (by omega) (by omega) (by rw [stp_0]) _ _ hw _ (lv_sub hl [3, 4, 5, 2, 1, 0] rfl)

theorem lkX4_countOfClause_1 : Cond.fieldLink RX4 22 "SignedDocument$Passage" "size" "I" ∈ wsX4_countOfClause := List.mem_of_getElem? (i := 1) rfl
theorem inX4_countOfClause_4 : ∀ w ∈ u_ws RX4 TX4 4, w ∈ wsX4_countOfClause := fun _ h => List.mem_cons_of_mem _ (List.mem_append_left _ (List.mem_append_right _ h))
theorem lkX4_countOfClause_2 : Cond.fieldLink RX4 19 "SignedDocument$Passage" "clauses" "[I" ∈ wsX4_countOfClause := List.mem_of_getElem? (i := 2) rfl
set_option maxRecDepth 100000 in
set_option maxHeartbeats 4000000 in
theorem mX4_countOfClause (l : Launch) (D : va_G) (cC cI cJ cZ cD : ClassId) (h0 h0L h0A h0C : Nat) (n : Nat) (fL fA fC : Nat → Int32) (v : Int32) (sz : Nat) (hn : n ≤ 60) : MI l yX4_countOfClause wsX4_countOfClause ({ frames := 0, cells := 0, slots := 0, locals := 0 }) [.ref h0, .int v] D (TY cC cI cJ cZ cD) [(h0, .inr (6, [.ref h0L, .ref h0A, .ref h0C, .int (nI n)])), (h0L, .inl (cC, 60, .inl fL)), (h0A, .inl (cI, 60, .inl fA)), (h0C, .inl (cI, 60, .inl fC))] sz (fun (r : Int32) => fun (_ : Unit) => r = nI (ct (fun j => decide (fC j = v)) n)) (fun (_ : Unit) => [(h0, .inr (6, [.ref h0L, .ref h0A, .ref h0C, .int (nI n)])), (h0L, .inl (cC, 60, .inl fL)), (h0A, .inl (cI, 60, .inl fA)), (h0C, .inl (cI, 60, .inl fC))]) 0 0 := by
  refine mk_MI (cc := cX4_countOfClause) (maxL := 4) (ret := (some .int)) (by decide) rfl (Nat.le_of_ble_eq_true rfl) ?_
  intro p e s mI args below meth cO A cx hr hlk hnm hw ls hl
  have hx := cx.1
  have hb := cx.2.1
  have hw : ww D (TY cC cI cJ cZ cD) s A s.heap [(h0, .inr (6, [.ref h0L, .ref h0A, .ref h0C, .int (nI n)])), (h0L, .inl (cC, 60, .inl fL)), (h0A, .inl (cI, 60, .inl fA)), (h0C, .inl (cI, 60, .inl fC))] s.heap [] := hw
  have hl : lv_has ls 4 [(0, .ref h0), (1, .int v)] := hl
  generalize hQ : MQ _ _ _ _ _ _ _ = Q
  refine hp_start hw (fun H locs hw => ?_)
  refine lv_iconst (v := nI 0) hx hb dX4_countOfClause_0 (by decide) ?_
  refine lv_istore_n (lv' := [(2, .int (nI 0)), (0, .ref h0), (1, .int v)]) hx hb dX4_countOfClause_1 rfl hl (by decide) rfl (fun ls hl => ?_)
  refine lv_iconst (v := nI 0) hx hb dX4_countOfClause_2 (by decide) ?_
  refine lv_istore_n (lv' := [(3, .int (nI 0)), (2, .int (nI 0)), (0, .ref h0), (1, .int v)]) hx hb dX4_countOfClause_3 rfl hl (by decide) rfl (fun ls hl => ?_)
  have K4_0 : ∀ (f : Nat) (q : Nat) (i : Nat), (60 - i) < f → (i ≤ n) → (q = ct (fun j => decide (fC j = v)) i) → ∀ (H : Heap) (locs : List Loc), ww D (TY cC cI cJ cZ cD) s A s.heap [(h0, .inr (6, [.ref h0L, .ref h0A, .ref h0C, .int (nI n)])), (h0L, .inl (cC, 60, .inl fL)), (h0A, .inl (cI, 60, .inl fA)), (h0C, .inl (cI, 60, .inl fC))] H locs → ∀ ls : Array Slot, lv_has ls 4 [(0, .ref h0), (1, .int v), (2, .int (nI q)), (3, .int (nI i))] → W p l e ({ frames := 0, cells := 0, slots := 0, locals := 0 } : Room) s mI args below meth cO H locs 0 0 Q (F0 mI 4 ls []) := by
    intro f
    induction f with
    | zero => intro q i hms9; exact absurd hms9 (Nat.not_lt_zero _)
    | succ f ih4 =>
      intro q i hms9 hi hq H locs hw ls hl
      refine lv_iload_n hx hb dX4_countOfClause_4 rfl (lv_at hl 3 rfl) ?_
      refine lv_aload_n hx hb dX4_countOfClause_5 rfl (lv_at hl 0 rfl) ?_
      refine r_get cx hw inX4_countOfClause_4 0 3 rfl rfl (by decide) lkX4_countOfClause_1 rfl dX4_countOfClause_6 ?_
      refine r_icmp_ge cx 31 i n rfl rfl (by omega) (by omega) dX4_countOfClause_9 (by decide) (fun c9 => ?_) (fun c9 => ?_)
      · refine lv_iload_n hx hb dX4_countOfClause_31 rfl (lv_at hl 2 rfl) ?_
        subst hQ
        exact r_reti (v := nI q) cx hr rfl hlk hw (Nat.le_of_ble_eq_true rfl) (Nat.le_of_ble_eq_true rfl) () (by rw [hq, show i = n by omega]) [0, 1, 2, 3] (by decide) rfl dX4_countOfClause_32
      · refine lv_aload_n hx hb dX4_countOfClause_12 rfl (lv_at hl 0 rfl) ?_
        refine r_get cx hw inX4_countOfClause_4 0 2 rfl rfl (by decide) lkX4_countOfClause_2 rfl dX4_countOfClause_13 ?_
        refine lv_iload_n hx hb dX4_countOfClause_16 rfl (lv_at hl 3 rfl) ?_
        refine r_iald cx hw 3 1 rfl rfl i rfl (by omega) (by omega) dX4_countOfClause_17 ?_
        refine lv_iload_n hx hb dX4_countOfClause_18 rfl (lv_at hl 1 rfl) ?_
        refine lv_icmp_ne (tgt := 25) hx hb dX4_countOfClause_19 (by decide) (fun c19 => ?_) (fun c19 => ?_)
        · refine lv_iinc (v := nI (i + 1)) (lv' := [(3, .int (nI (i + 1))), (0, .ref h0), (1, .int v), (2, .int (nI q))]) hx hb dX4_countOfClause_25 hl (k := 3) rfl (by rw [ii1, nI_1]) (by decide) rfl (fun ls hl => ?_)
          refine lv_goto (tgt := 4) hx hb dX4_countOfClause_28 (by decide) ?_
          exact ih4 q (i + 1) (by omega) (by omega) (by rw [ct_f (fun z => c19 (of_decide_eq_true z)), hq]) _ _ hw _ (lv_sub hl [1, 2, 3, 0] rfl)
        · refine lv_iinc (v := nI (q + 1)) (lv' := [(2, .int (nI (q + 1))), (0, .ref h0), (1, .int v), (3, .int (nI i))]) hx hb dX4_countOfClause_22 hl (k := 2) rfl (by rw [ii1, nI_1]) (by decide) rfl (fun ls hl => ?_)
          refine lv_iinc (v := nI (i + 1)) (lv' := [(3, .int (nI (i + 1))), (2, .int (nI (q + 1))), (0, .ref h0), (1, .int v)]) hx hb dX4_countOfClause_25 hl (k := 3) rfl (by rw [ii1, nI_1]) (by decide) rfl (fun ls hl => ?_)
          refine lv_goto (tgt := 4) hx hb dX4_countOfClause_28 (by decide) ?_
          exact ih4 (q + 1) (i + 1) (by omega) (by omega) (by rw [ct_t (decide_eq_true c19), hq]) _ _ hw _ (lv_sub hl [2, 3, 1, 0] rfl)
  exact K4_0 _ 0 0 (Nat.lt_succ_self _) (by omega) (by rfl) _ _ hw _ (lv_sub hl [2, 3, 1, 0] rfl)


theorem lkX4_next_1 : Cond.fieldLink RX4 22 "SignedDocument$Passage" "size" "I" ∈ wsX4_next := List.mem_of_getElem? (i := 1) rfl
theorem inX4_next_4 : ∀ w ∈ u_ws RX4 TX4 4, w ∈ wsX4_next := fun _ h => List.mem_cons_of_mem _ (List.mem_append_left _ (List.mem_append_right _ h))
theorem lkX4_next_2 : Cond.fieldLink RX4 19 "SignedDocument$Passage" "clauses" "[I" ∈ wsX4_next := List.mem_of_getElem? (i := 2) rfl
set_option maxRecDepth 100000 in
set_option maxHeartbeats 4000000 in
theorem mX4_next (l : Launch) (D : va_G) (cC cI cJ cZ cD : ClassId) (h0 h0L h0A h0C : Nat) (n : Nat) (fL fA fC : Nat → Int32) (v : Int32) (st : Nat) (sz : Nat) (hn : n ≤ 60) (hs : st ≤ n) : MI l yX4_next wsX4_next ({ frames := 0, cells := 0, slots := 0, locals := 0 }) [.ref h0, .int v, .int (nI st)] D (TY cC cI cJ cZ cD) [(h0, .inr (6, [.ref h0L, .ref h0A, .ref h0C, .int (nI n)])), (h0L, .inl (cC, 60, .inl fL)), (h0A, .inl (cI, 60, .inl fA)), (h0C, .inl (cI, 60, .inl fC))] sz (fun (r : Int32) => fun (k : Nat) => r = nI k ∧ st ≤ k ∧ k ≤ n ∧ (∀ j, st ≤ j → j < k → ¬ fC j = v) ∧ (k < n → fC k = v)) (fun (k : Nat) => [(h0, .inr (6, [.ref h0L, .ref h0A, .ref h0C, .int (nI n)])), (h0L, .inl (cC, 60, .inl fL)), (h0A, .inl (cI, 60, .inl fA)), (h0C, .inl (cI, 60, .inl fC))]) 0 0 := by
  refine mk_MI (cc := cX4_next) (maxL := 4) (ret := (some .int)) (by decide) rfl (Nat.le_of_ble_eq_true rfl) ?_
  intro p e s mI args below meth cO A cx hr hlk hnm hw ls hl
  have hx := cx.1
  have hb := cx.2.1
  have hw : ww D (TY cC cI cJ cZ cD) s A s.heap [(h0, .inr (6, [.ref h0L, .ref h0A, .ref h0C, .int (nI n)])), (h0L, .inl (cC, 60, .inl fL)), (h0A, .inl (cI, 60, .inl fA)), (h0C, .inl (cI, 60, .inl fC))] s.heap [] := hw
  have hl : lv_has ls 4 [(0, .ref h0), (1, .int v), (2, .int (nI st))] := hl
  generalize hQ : MQ _ _ _ _ _ _ _ = Q
  refine hp_start hw (fun H locs hw => ?_)
  refine lv_iload_n hx hb dX4_next_0 rfl (lv_at hl 2 rfl) ?_
  refine lv_istore_n (lv' := [(3, .int (nI st)), (0, .ref h0), (1, .int v), (2, .int (nI st))]) hx hb dX4_next_1 rfl hl (by decide) rfl (fun ls hl => ?_)
  have K2_0 : ∀ (f : Nat) (i : Nat), (60 - i) < f → (st ≤ i) → (i ≤ n) → (∀ j, st ≤ j → j < i → ¬ fC j = v) → ∀ (H : Heap) (locs : List Loc), ww D (TY cC cI cJ cZ cD) s A s.heap [(h0, .inr (6, [.ref h0L, .ref h0A, .ref h0C, .int (nI n)])), (h0L, .inl (cC, 60, .inl fL)), (h0A, .inl (cI, 60, .inl fA)), (h0C, .inl (cI, 60, .inl fC))] H locs → ∀ ls : Array Slot, lv_has ls 4 [(0, .ref h0), (1, .int v), (2, .int (nI st)), (3, .int (nI i))] → W p l e ({ frames := 0, cells := 0, slots := 0, locals := 0 } : Room) s mI args below meth cO H locs 0 0 Q (F0 mI 2 ls []) := by
    intro f
    induction f with
    | zero => intro i hms9; exact absurd hms9 (Nat.not_lt_zero _)
    | succ f ih2 =>
      intro i hms9 hi1 hi2 hf H locs hw ls hl
      refine lv_iload_n hx hb dX4_next_2 rfl (lv_at hl 3 rfl) ?_
      refine lv_aload_n hx hb dX4_next_3 rfl (lv_at hl 0 rfl) ?_
      refine r_get cx hw inX4_next_4 0 3 rfl rfl (by decide) lkX4_next_1 rfl dX4_next_4 ?_
      refine r_icmp_ge cx 28 i n rfl rfl (by omega) (by omega) dX4_next_7 (by decide) (fun c7 => ?_) (fun c7 => ?_)
      · refine lv_aload_n hx hb dX4_next_28 rfl (lv_at hl 0 rfl) ?_
        refine r_get cx hw inX4_next_4 0 3 rfl rfl (by decide) lkX4_next_1 rfl dX4_next_29 ?_
        subst hQ
        exact r_reti (v := nI n) cx hr rfl hlk hw (Nat.le_of_ble_eq_true rfl) (Nat.le_of_ble_eq_true rfl) n ⟨rfl, ⟨by omega, Nat.le_refl _, fun j h1 h2 => hf j h1 (by omega), fun h => absurd h (Nat.lt_irrefl _)⟩⟩ [0, 1, 2, 3] (by decide) rfl dX4_next_32
      · refine lv_aload_n hx hb dX4_next_10 rfl (lv_at hl 0 rfl) ?_
        refine r_get cx hw inX4_next_4 0 2 rfl rfl (by decide) lkX4_next_2 rfl dX4_next_11 ?_
        refine lv_iload_n hx hb dX4_next_14 rfl (lv_at hl 3 rfl) ?_
        refine r_iald cx hw 3 1 rfl rfl i rfl (by omega) (by omega) dX4_next_15 ?_
        refine lv_iload_n hx hb dX4_next_16 rfl (lv_at hl 1 rfl) ?_
        refine lv_icmp_ne (tgt := 22) hx hb dX4_next_17 (by decide) (fun c17 => ?_) (fun c17 => ?_)
        · refine lv_iinc (v := nI (i + 1)) (lv' := [(3, .int (nI (i + 1))), (0, .ref h0), (1, .int v), (2, .int (nI st))]) hx hb dX4_next_22 hl (k := 3) rfl (by rw [ii1, nI_1]) (by decide) rfl (fun ls hl => ?_)
          refine lv_goto (tgt := 2) hx hb dX4_next_25 (by decide) ?_
          exact ih2 (i + 1) (by omega) (by omega) (by omega) (by intro j h1 h2; rcases Nat.lt_or_ge j i with q | q; exact hf j h1 q; rw [show j = i by omega]; exact c17) _ _ hw _ (lv_sub hl [1, 2, 3, 0] rfl)
        · refine lv_iload_n hx hb dX4_next_20 rfl (lv_at hl 3 rfl) ?_
          subst hQ
          exact r_reti (v := nI i) cx hr rfl hlk hw (Nat.le_of_ble_eq_true rfl) (Nat.le_of_ble_eq_true rfl) i ⟨rfl, ⟨hi1, hi2, hf, fun _ => c17⟩⟩ [0, 1, 2, 3] (by decide) rfl dX4_next_21
  exact K2_0 _ st (Nat.lt_succ_self _) (by omega) (by omega) (by intro j h1 h2; omega) _ _ hw _ (lv_sub hl [1, 2, 3, 0] rfl)

theorem lkX4_hasWordsOf_1 : Cond.fieldLink RX4 22 "SignedDocument$Passage" "size" "I" ∈ wsX4_hasWordsOf := List.mem_of_getElem? (i := 1) rfl
theorem inX4_hasWordsOf_4 : ∀ w ∈ u_ws RX4 TX4 4, w ∈ wsX4_hasWordsOf := fun _ h => List.mem_cons_of_mem _ (List.mem_append_left _ (List.mem_append_right _ h))
theorem lkX4_hasWordsOf_2 : Cond.fieldLink RX4 19 "SignedDocument$Passage" "clauses" "[I" ∈ wsX4_hasWordsOf := List.mem_of_getElem? (i := 2) rfl
theorem lkX4_hasWordsOf_3 : Cond.fieldLink RX4 9 "SignedDocument$Passage" "letters" "[C" ∈ wsX4_hasWordsOf := List.mem_of_getElem? (i := 3) rfl
set_option maxRecDepth 100000 in
set_option maxHeartbeats 4000000 in
theorem mX4_hasWordsOf (l : Launch) (D : va_G) (cC cI cJ cZ cD : ClassId) (h0 h0L h0A h0C h1 h1L h1A h1C : Nat) (n m : Nat) (fL fA fC gL gA gC : Nat → Int32) (v : Int32) (sz : Nat) (hn : n ≤ 60) (hm : m ≤ 60) : MI l yX4_hasWordsOf wsX4_hasWordsOf ({ frames := 1, cells := 0, slots := 0, locals := 23 }) [.ref h0, .ref h1, .int v] D (TY cC cI cJ cZ cD) [(h0, .inr (6, [.ref h0L, .ref h0A, .ref h0C, .int (nI n)])), (h0L, .inl (cC, 60, .inl fL)), (h0A, .inl (cI, 60, .inl fA)), (h0C, .inl (cI, 60, .inl fC)), (h1, .inr (6, [.ref h1L, .ref h1A, .ref h1C, .int (nI m)])), (h1L, .inl (cC, 60, .inl gL)), (h1A, .inl (cI, 60, .inl gA)), (h1C, .inl (cI, 60, .inl gC))] sz (fun (r : Int32) => fun (_ : Unit) => ((r = nI 1 ∧ (wd fL fC v n = wd gL gC v m)) ∨ (r = nI 0 ∧ ¬ (wd fL fC v n = wd gL gC v m)))) (fun (_ : Unit) => [(h0, .inr (6, [.ref h0L, .ref h0A, .ref h0C, .int (nI n)])), (h0L, .inl (cC, 60, .inl fL)), (h0A, .inl (cI, 60, .inl fA)), (h0C, .inl (cI, 60, .inl fC)), (h1, .inr (6, [.ref h1L, .ref h1A, .ref h1C, .int (nI m)])), (h1L, .inl (cC, 60, .inl gL)), (h1A, .inl (cI, 60, .inl gA)), (h1C, .inl (cI, 60, .inl gC))]) 0 0 := by
  refine mk_MI (cc := cX4_hasWordsOf) (maxL := 5) (ret := (some .boolean)) (by decide) rfl (Nat.le_of_ble_eq_true rfl) ?_
  intro p e s mI args below meth cO A cx hr hlk hnm hw ls hl
  have hx := cx.1
  have hb := cx.2.1
  have hw : ww D (TY cC cI cJ cZ cD) s A s.heap [(h0, .inr (6, [.ref h0L, .ref h0A, .ref h0C, .int (nI n)])), (h0L, .inl (cC, 60, .inl fL)), (h0A, .inl (cI, 60, .inl fA)), (h0C, .inl (cI, 60, .inl fC)), (h1, .inr (6, [.ref h1L, .ref h1A, .ref h1C, .int (nI m)])), (h1L, .inl (cC, 60, .inl gL)), (h1A, .inl (cI, 60, .inl gA)), (h1C, .inl (cI, 60, .inl gC))] s.heap [] := hw
  have hl : lv_has ls 5 [(0, .ref h0), (1, .ref h1), (2, .int v)] := hl
  generalize hQ : MQ _ _ _ _ _ _ _ = Q
  refine hp_start hw (fun H locs hw => ?_)
  refine lv_aload_n hx hb dX4_hasWordsOf_0 rfl (lv_at hl 0 rfl) ?_
  refine lv_iload_n hx hb dX4_hasWordsOf_1 rfl (lv_at hl 2 rfl) ?_
  refine lv_iconst (v := nI 0) hx hb dX4_hasWordsOf_2 (by decide) ?_
  refine r_callVi (n := 2) (wr := [(h1, .inr (6, [.ref h1L, .ref h1A, .ref h1C, .int (nI m)])), (h1L, .inl (cC, 60, .inl gL)), (h1A, .inl (cI, 60, .inl gA)), (h1C, .inl (cI, 60, .inl gC))]) cx hw (mX4_next l D cC cI cJ cZ cD h0 h0L h0A h0C n fL fA fC v 0 H.size hn (by omega)) [0, 1, 2, 3] [4, 5, 6, 7] gX4_hasWordsOf_X4_next rfl rfl rfl (by decide +kernel) ⟨Nat.le_of_ble_eq_true rfl, Nat.le_of_ble_eq_true rfl⟩ (q0 := 0) rfl rfl rfl rfl (by decide) (by decide) (by decide) rfl rfl hl.1 (Nat.le_of_ble_eq_true rfl) dX4_hasWordsOf_3 ⟨Nat.le_of_ble_eq_true rfl, Nat.le_of_ble_eq_true rfl⟩ (fun r_2 u H locs hp hw => ?_)
  obtain ⟨k_1, rfl⟩ : ∃ z, z = u := ⟨_, rfl⟩
  have hw : ww D (TY cC cI cJ cZ cD) s A s.heap [(h1, .inr (6, [.ref h1L, .ref h1A, .ref h1C, .int (nI m)])), (h1L, .inl (cC, 60, .inl gL)), (h1A, .inl (cI, 60, .inl gA)), (h1C, .inl (cI, 60, .inl gC)), (h0, .inr (6, [.ref h0L, .ref h0A, .ref h0C, .int (nI n)])), (h0L, .inl (cC, 60, .inl fL)), (h0A, .inl (cI, 60, .inl fA)), (h0C, .inl (cI, 60, .inl fC))] H locs := hw
  try dsimp only at hp
  obtain ⟨rfl, hp3⟩ := hp
  refine lv_istore_n (lv' := [(3, .int (nI k_1)), (0, .ref h0), (1, .ref h1), (2, .int v)]) hx hb dX4_hasWordsOf_6 rfl hl (by decide) rfl (fun ls hl => ?_)
  refine lv_iconst (v := nI 0) hx hb dX4_hasWordsOf_7 (by decide) ?_
  refine lv_istore (lv' := [(4, .int (nI 0)), (3, .int (nI k_1)), (0, .ref h0), (1, .ref h1), (2, .int v)]) hx hb dX4_hasWordsOf_8 hl (by decide) rfl (fun ls hl => ?_)
  have K10_2 : ∀ (f : Nat) (o : Nat) (i : Nat), (60 - i) < f → (i ≤ m) → (o ≤ n) → (o < n → fC o = v) → (wd fL fC v o = wd gL gC v i) → ∀ (H : Heap) (locs : List Loc), ww D (TY cC cI cJ cZ cD) s A s.heap [(h1, .inr (6, [.ref h1L, .ref h1A, .ref h1C, .int (nI m)])), (h1L, .inl (cC, 60, .inl gL)), (h1A, .inl (cI, 60, .inl gA)), (h1C, .inl (cI, 60, .inl gC)), (h0, .inr (6, [.ref h0L, .ref h0A, .ref h0C, .int (nI n)])), (h0L, .inl (cC, 60, .inl fL)), (h0A, .inl (cI, 60, .inl fA)), (h0C, .inl (cI, 60, .inl fC))] H locs → ∀ ls : Array Slot, lv_has ls 5 [(0, .ref h0), (1, .ref h1), (2, .int v), (3, .int (nI o)), (4, .int (nI i))] → W p l e ({ frames := 1, cells := 0, slots := 0, locals := 23 } : Room) s mI args below meth cO H locs 0 0 Q (F0 mI 10 ls []) := by
    intro f
    induction f with
    | zero => intro o i hms9; exact absurd hms9 (Nat.not_lt_zero _)
    | succ f ih10 =>
      intro o i hms9 hi ho hv hp9 H locs hw ls hl
      refine lv_iload hx hb dX4_hasWordsOf_10 (lv_at hl 4 rfl) ?_
      refine lv_aload_n hx hb dX4_hasWordsOf_12 rfl (lv_at hl 1 rfl) ?_
      refine r_get cx hw inX4_hasWordsOf_4 0 3 rfl rfl (by decide) lkX4_hasWordsOf_1 rfl dX4_hasWordsOf_13 ?_
      refine r_icmp_ge cx 71 i m rfl rfl (by omega) (by omega) dX4_hasWordsOf_16 (by decide) (fun c16 => ?_) (fun c16 => ?_)
      · refine lv_iload_n hx hb dX4_hasWordsOf_71 rfl (lv_at hl 3 rfl) ?_
        refine lv_aload_n hx hb dX4_hasWordsOf_72 rfl (lv_at hl 0 rfl) ?_
        refine r_get cx hw inX4_hasWordsOf_4 4 3 rfl rfl (by decide) lkX4_hasWordsOf_1 rfl dX4_hasWordsOf_73 ?_
        refine r_icmp_lt cx 83 o n rfl rfl (by omega) (by omega) dX4_hasWordsOf_76 (by decide) (fun c76 => ?_) (fun c76 => ?_)
        · refine lv_iconst (v := nI 0) hx hb dX4_hasWordsOf_83 (by decide) ?_
          subst hQ
          exact r_reti (v := nI 0) cx hr (by decide) hlk hw (Nat.le_of_ble_eq_true rfl) (Nat.le_of_ble_eq_true rfl) () (Or.inr ⟨rfl, fun q => hw_gt (o := o) c76 (hv c76) (by rw [hp9, show i = m by omega]; exact q.symm)⟩) [4, 5, 6, 7, 0, 1, 2, 3] (by decide) rfl dX4_hasWordsOf_84
        · refine lv_iconst (v := nI 1) hx hb dX4_hasWordsOf_79 (by decide) ?_
          refine lv_goto (tgt := 84) hx hb dX4_hasWordsOf_80 (by decide) ?_
          subst hQ
          exact r_reti (v := nI 1) cx hr (by decide) hlk hw (Nat.le_of_ble_eq_true rfl) (Nat.le_of_ble_eq_true rfl) () (Or.inl ⟨rfl, by rw [show m = i by omega, ← hp9, show n = o by omega]⟩) [4, 5, 6, 7, 0, 1, 2, 3] (by decide) rfl dX4_hasWordsOf_84
      · refine lv_aload_n hx hb dX4_hasWordsOf_19 rfl (lv_at hl 1 rfl) ?_
        refine r_get cx hw inX4_hasWordsOf_4 0 2 rfl rfl (by decide) lkX4_hasWordsOf_2 rfl dX4_hasWordsOf_20 ?_
        refine lv_iload hx hb dX4_hasWordsOf_23 (lv_at hl 4 rfl) ?_
        refine r_iald cx hw 3 1 rfl rfl i rfl (by omega) (by omega) dX4_hasWordsOf_25 ?_
        refine lv_iload_n hx hb dX4_hasWordsOf_26 rfl (lv_at hl 2 rfl) ?_
        refine lv_icmp_ne (tgt := 65) hx hb dX4_hasWordsOf_27 (by decide) (fun c27 => ?_) (fun c27 => ?_)
        · refine lv_iinc (v := nI (i + 1)) (lv' := [(4, .int (nI (i + 1))), (0, .ref h0), (1, .ref h1), (2, .int v), (3, .int (nI o))]) hx hb dX4_hasWordsOf_65 hl (k := 4) rfl (by rw [ii1, nI_1]) (by decide) rfl (fun ls hl => ?_)
          refine lv_goto (tgt := 10) hx hb dX4_hasWordsOf_68 (by decide) ?_
          exact ih10 o (i + 1) (by omega) (by omega) (by omega) (by exact hv) (by rw [wd_f c27]; exact hp9) _ _ hw _ (lv_sub hl [1, 2, 3, 4, 0] rfl)
        · refine lv_iload_n hx hb dX4_hasWordsOf_30 rfl (lv_at hl 3 rfl) ?_
          refine lv_aload_n hx hb dX4_hasWordsOf_31 rfl (lv_at hl 0 rfl) ?_
          refine r_get cx hw inX4_hasWordsOf_4 4 3 rfl rfl (by decide) lkX4_hasWordsOf_1 rfl dX4_hasWordsOf_32 ?_
          refine r_icmp_ge cx 54 o n rfl rfl (by omega) (by omega) dX4_hasWordsOf_35 (by decide) (fun c35 => ?_) (fun c35 => ?_)
          · refine lv_iconst (v := nI 0) hx hb dX4_hasWordsOf_54 (by decide) ?_
            subst hQ
            exact r_reti (v := nI 0) cx hr (by decide) hlk hw (Nat.le_of_ble_eq_true rfl) (Nat.le_of_ble_eq_true rfl) () (Or.inr ⟨rfl, fun q => hw_lt (o := o) (i := i) ho hi hv hp9 (by omega) c27 (by first | exact Or.inl (by omega) | exact Or.inr c51) q⟩) [4, 5, 6, 7, 0, 1, 2, 3] (by decide) rfl dX4_hasWordsOf_55
          · refine lv_aload_n hx hb dX4_hasWordsOf_38 rfl (lv_at hl 0 rfl) ?_
            refine r_get cx hw inX4_hasWordsOf_4 4 0 rfl rfl (by decide) lkX4_hasWordsOf_3 rfl dX4_hasWordsOf_39 ?_
            refine lv_iload_n hx hb dX4_hasWordsOf_42 rfl (lv_at hl 3 rfl) ?_
            refine r_cald cx hw 5 0 rfl rfl o rfl (by omega) (by omega) dX4_hasWordsOf_43 ?_
            refine lv_aload_n hx hb dX4_hasWordsOf_44 rfl (lv_at hl 1 rfl) ?_
            refine r_get cx hw inX4_hasWordsOf_4 0 0 rfl rfl (by decide) lkX4_hasWordsOf_3 rfl dX4_hasWordsOf_45 ?_
            refine lv_iload hx hb dX4_hasWordsOf_48 (lv_at hl 4 rfl) ?_
            refine r_cald cx hw 1 0 rfl rfl i rfl (by omega) (by omega) dX4_hasWordsOf_50 ?_
            refine lv_icmp_eq (tgt := 56) hx hb dX4_hasWordsOf_51 (by decide) (fun c51 => ?_) (fun c51 => ?_)
            · refine lv_aload_n hx hb dX4_hasWordsOf_56 rfl (lv_at hl 0 rfl) ?_
              refine lv_iload_n hx hb dX4_hasWordsOf_57 rfl (lv_at hl 2 rfl) ?_
              refine lv_iload_n hx hb dX4_hasWordsOf_58 rfl (lv_at hl 3 rfl) ?_
              refine lv_iconst (v := nI 1) hx hb dX4_hasWordsOf_59 (by decide) ?_
              refine r_iadd cx o 1 rfl rfl dX4_hasWordsOf_60 ?_
              refine r_callVi (n := 2) (wr := [(h1, .inr (6, [.ref h1L, .ref h1A, .ref h1C, .int (nI m)])), (h1L, .inl (cC, 60, .inl gL)), (h1A, .inl (cI, 60, .inl gA)), (h1C, .inl (cI, 60, .inl gC))]) cx hw (mX4_next l D cC cI cJ cZ cD h0 h0L h0A h0C n fL fA fC v (o + 1) H.size hn (by omega)) [4, 5, 6, 7] [0, 1, 2, 3] gX4_hasWordsOf_X4_next rfl rfl rfl (by decide +kernel) ⟨Nat.le_of_ble_eq_true rfl, Nat.le_of_ble_eq_true rfl⟩ (q0 := 4) rfl rfl rfl rfl (by decide) (by decide) (by decide) rfl rfl hl.1 (Nat.le_of_ble_eq_true rfl) dX4_hasWordsOf_61 ⟨Nat.le_of_ble_eq_true rfl, Nat.le_of_ble_eq_true rfl⟩ (fun r_5 u H locs hp hw => ?_)
              obtain ⟨k_4, rfl⟩ : ∃ z, z = u := ⟨_, rfl⟩
              have hw : ww D (TY cC cI cJ cZ cD) s A s.heap [(h1, .inr (6, [.ref h1L, .ref h1A, .ref h1C, .int (nI m)])), (h1L, .inl (cC, 60, .inl gL)), (h1A, .inl (cI, 60, .inl gA)), (h1C, .inl (cI, 60, .inl gC)), (h0, .inr (6, [.ref h0L, .ref h0A, .ref h0C, .int (nI n)])), (h0L, .inl (cC, 60, .inl fL)), (h0A, .inl (cI, 60, .inl fA)), (h0C, .inl (cI, 60, .inl fC))] H locs := hw
              try dsimp only at hp
              obtain ⟨rfl, hp61⟩ := hp
              refine lv_istore_n (lv' := [(3, .int (nI k_4)), (0, .ref h0), (1, .ref h1), (2, .int v), (4, .int (nI i))]) hx hb dX4_hasWordsOf_64 rfl hl (by decide) rfl (fun ls hl => ?_)
              refine lv_iinc (v := nI (i + 1)) (lv' := [(4, .int (nI (i + 1))), (3, .int (nI k_4)), (0, .ref h0), (1, .ref h1), (2, .int v)]) hx hb dX4_hasWordsOf_65 hl (k := 4) rfl (by rw [ii1, nI_1]) (by decide) rfl (fun ls hl => ?_)
              refine lv_goto (tgt := 10) hx hb dX4_hasWordsOf_68 (by decide) ?_
              exact ih10 k_4 (i + 1) (by omega) (by omega) (by omega) (by exact hp61.2.2.2) (by rw [wd_t c27, wd_gap hp61.1 hp61.2.2.1, wd_t (hv c35), hp9, c51]) _ _ hw _ (lv_sub hl [2, 3, 4, 1, 0] rfl)
            · refine lv_iconst (v := nI 0) hx hb dX4_hasWordsOf_54 (by decide) ?_
              subst hQ
              exact r_reti (v := nI 0) cx hr (by decide) hlk hw (Nat.le_of_ble_eq_true rfl) (Nat.le_of_ble_eq_true rfl) () (Or.inr ⟨rfl, fun q => hw_lt (o := o) (i := i) ho hi hv hp9 (by omega) c27 (by first | exact Or.inl (by omega) | exact Or.inr c51) q⟩) [4, 5, 6, 7, 0, 1, 2, 3] (by decide) rfl dX4_hasWordsOf_55
  exact K10_2 _ k_1 0 (Nat.lt_succ_self _) (by omega) (by omega) (by exact hp3.2.2.2) (by rw [wd_gap (a := 0) (Nat.zero_le _) (fun j h1 h2 => hp3.2.2.1 j h1 h2)]; rfl) _ _ hw _ (lv_sub hl [2, 3, 4, 1, 0] rfl)


set_option maxRecDepth 100000 in
set_option maxHeartbeats 4000000 in
theorem mX4_clausesUnlike (l : Launch) (D : va_G) (cC cI cJ cZ cD : ClassId) (h0 h0L h0A h0C h1 h1L h1A h1C : Nat) (n m : Nat) (fL fA fC gL gA gC : Nat → Int32) (nc : Nat) (sz : Nat) (hn : n ≤ 60) (hm : m ≤ 60) (hnc : nc ≤ 6) : MI l yX4_clausesUnlike wsX4_clausesUnlike ({ frames := 2, cells := 0, slots := 0, locals := 47 }) [.ref h0, .ref h1, .int (nI nc)] D (TY cC cI cJ cZ cD) [(h0, .inr (6, [.ref h0L, .ref h0A, .ref h0C, .int (nI n)])), (h0L, .inl (cC, 60, .inl fL)), (h0A, .inl (cI, 60, .inl fA)), (h0C, .inl (cI, 60, .inl fC)), (h1, .inr (6, [.ref h1L, .ref h1A, .ref h1C, .int (nI m)])), (h1L, .inl (cC, 60, .inl gL)), (h1A, .inl (cI, 60, .inl gA)), (h1C, .inl (cI, 60, .inl gC))] sz (fun (r : Int32) => fun (_ : Unit) => r = chs (un fL fC n gL gC m) nc) (fun (_ : Unit) => [(h0, .inr (6, [.ref h0L, .ref h0A, .ref h0C, .int (nI n)])), (h0L, .inl (cC, 60, .inl fL)), (h0A, .inl (cI, 60, .inl fA)), (h0C, .inl (cI, 60, .inl fC)), (h1, .inr (6, [.ref h1L, .ref h1A, .ref h1C, .int (nI m)])), (h1L, .inl (cC, 60, .inl gL)), (h1A, .inl (cI, 60, .inl gA)), (h1C, .inl (cI, 60, .inl gC))]) 0 0 := by
  refine mk_MI (cc := cX4_clausesUnlike) (maxL := 5) (ret := (some .int)) (by decide) rfl (Nat.le_of_ble_eq_true rfl) ?_
  intro p e s mI args below meth cO A cx hr hlk hnm hw ls hl
  have hx := cx.1
  have hb := cx.2.1
  have hw : ww D (TY cC cI cJ cZ cD) s A s.heap [(h0, .inr (6, [.ref h0L, .ref h0A, .ref h0C, .int (nI n)])), (h0L, .inl (cC, 60, .inl fL)), (h0A, .inl (cI, 60, .inl fA)), (h0C, .inl (cI, 60, .inl fC)), (h1, .inr (6, [.ref h1L, .ref h1A, .ref h1C, .int (nI m)])), (h1L, .inl (cC, 60, .inl gL)), (h1A, .inl (cI, 60, .inl gA)), (h1C, .inl (cI, 60, .inl gC))] s.heap [] := hw
  have hl : lv_has ls 5 [(0, .ref h0), (1, .ref h1), (2, .int (nI nc))] := hl
  generalize hQ : MQ _ _ _ _ _ _ _ = Q
  refine hp_start hw (fun H locs hw => ?_)
  refine lv_iconst (v := nI 0) hx hb dX4_clausesUnlike_0 (by decide) ?_
  refine lv_istore_n (lv' := [(3, .int (nI 0)), (0, .ref h0), (1, .ref h1), (2, .int (nI nc))]) hx hb dX4_clausesUnlike_1 rfl hl (by decide) rfl (fun ls hl => ?_)
  refine lv_iconst (v := nI 0) hx hb dX4_clausesUnlike_2 (by decide) ?_
  refine lv_istore (lv' := [(4, .int (nI 0)), (3, .int (nI 0)), (0, .ref h0), (1, .ref h1), (2, .int (nI nc))]) hx hb dX4_clausesUnlike_3 hl (by decide) rfl (fun ls hl => ?_)
  have K5_0 : ∀ (f : Nat) (q : Int32) (i : Nat), (6 - i) < f → (i ≤ nc) → (q = chs (un fL fC n gL gC m) i) → ∀ (H : Heap) (locs : List Loc), ww D (TY cC cI cJ cZ cD) s A s.heap [(h0, .inr (6, [.ref h0L, .ref h0A, .ref h0C, .int (nI n)])), (h0L, .inl (cC, 60, .inl fL)), (h0A, .inl (cI, 60, .inl fA)), (h0C, .inl (cI, 60, .inl fC)), (h1, .inr (6, [.ref h1L, .ref h1A, .ref h1C, .int (nI m)])), (h1L, .inl (cC, 60, .inl gL)), (h1A, .inl (cI, 60, .inl gA)), (h1C, .inl (cI, 60, .inl gC))] H locs → ∀ ls : Array Slot, lv_has ls 5 [(0, .ref h0), (1, .ref h1), (2, .int (nI nc)), (3, .int q), (4, .int (nI i))] → W p l e ({ frames := 2, cells := 0, slots := 0, locals := 47 } : Room) s mI args below meth cO H locs 0 0 Q (F0 mI 5 ls []) := by
    intro f
    induction f with
    | zero => intro q i hms9; exact absurd hms9 (Nat.not_lt_zero _)
    | succ f ih5 =>
      intro q i hms9 hi hq H locs hw ls hl
      refine lv_iload hx hb dX4_clausesUnlike_5 (lv_at hl 4 rfl) ?_
      refine lv_iload_n hx hb dX4_clausesUnlike_7 rfl (lv_at hl 2 rfl) ?_
      refine r_icmp_ge cx 34 i nc rfl rfl (by omega) (by omega) dX4_clausesUnlike_8 (by decide) (fun c8 => ?_) (fun c8 => ?_)
      · refine lv_iload_n hx hb dX4_clausesUnlike_34 rfl (lv_at hl 3 rfl) ?_
        subst hQ
        exact r_reti (v := q) cx hr rfl hlk hw (Nat.le_of_ble_eq_true rfl) (Nat.le_of_ble_eq_true rfl) () (by rw [hq, show i = nc by omega]) [0, 1, 2, 3, 4, 5, 6, 7] (by decide) rfl dX4_clausesUnlike_35
      · refine lv_aload_n hx hb dX4_clausesUnlike_11 rfl (lv_at hl 0 rfl) ?_
        refine lv_aload_n hx hb dX4_clausesUnlike_12 rfl (lv_at hl 1 rfl) ?_
        refine lv_iload hx hb dX4_clausesUnlike_13 (lv_at hl 4 rfl) ?_
        refine r_callVi (n := 2) (wr := []) cx hw (mX4_hasWordsOf l D cC cI cJ cZ cD h0 h0L h0A h0C h1 h1L h1A h1C n m fL fA fC gL gA gC (nI i) H.size hn hm) [0, 1, 2, 3, 4, 5, 6, 7] [] gX4_clausesUnlike_X4_hasWordsOf rfl rfl rfl (by decide +kernel) ⟨Nat.le_of_ble_eq_true rfl, Nat.le_of_ble_eq_true rfl⟩ (q0 := 0) rfl rfl rfl rfl (by decide) (by decide) (by decide) rfl rfl hl.1 (Nat.le_of_ble_eq_true rfl) dX4_clausesUnlike_15 ⟨Nat.le_of_ble_eq_true rfl, Nat.le_of_ble_eq_true rfl⟩ (fun r_2 u H locs hp hw => ?_)
        have hw : ww D (TY cC cI cJ cZ cD) s A s.heap [(h0, .inr (6, [.ref h0L, .ref h0A, .ref h0C, .int (nI n)])), (h0L, .inl (cC, 60, .inl fL)), (h0A, .inl (cI, 60, .inl fA)), (h0C, .inl (cI, 60, .inl fC)), (h1, .inr (6, [.ref h1L, .ref h1A, .ref h1C, .int (nI m)])), (h1L, .inl (cC, 60, .inl gL)), (h1A, .inl (cI, 60, .inl gA)), (h1C, .inl (cI, 60, .inl gC))] H locs := hw
        try dsimp only at hp
        have hb9 := hp
        rcases hb9 with ⟨rfl, b15⟩ | ⟨rfl, b15⟩
        · refine r_if_ne cx 28 1 rfl (by omega) dX4_clausesUnlike_18 (by decide) (fun c18 => ?_) (fun c18 => by exact absurd c18 (by decide))
          refine lv_iinc (v := nI (i + 1)) (lv' := [(4, .int (nI (i + 1))), (0, .ref h0), (1, .ref h1), (2, .int (nI nc)), (3, .int q)]) hx hb dX4_clausesUnlike_28 hl (k := 4) rfl (by rw [ii1, nI_1]) (by decide) rfl (fun ls hl => ?_)
          refine lv_goto (tgt := 5) hx hb dX4_clausesUnlike_31 (by decide) ?_
          exact ih5 q (i + 1) (by omega) (by omega) (by rw [chs_f (fun z => un_t.mp z b15), hq]) _ _ hw _ (lv_sub hl [1, 2, 3, 4, 0] rfl)
        · refine r_if_ne cx 28 0 rfl (by omega) dX4_clausesUnlike_18 (by decide) (fun c18 => by exact absurd c18 (by decide)) (fun c18 => ?_)
          refine lv_iload_n hx hb dX4_clausesUnlike_21 rfl (lv_at hl 3 rfl) ?_
          refine lv_iconst (v := nI 1) hx hb dX4_clausesUnlike_22 (by decide) ?_
          refine lv_iload hx hb dX4_clausesUnlike_23 (lv_at hl 4 rfl) ?_
          refine lv_ishl hx hb dX4_clausesUnlike_25 ?_
          refine lv_ior hx hb dX4_clausesUnlike_26 ?_
          refine lv_istore_n (lv' := [(3, .int (q ||| ((nI 1) <<< (nI i &&& 31)))), (0, .ref h0), (1, .ref h1), (2, .int (nI nc)), (4, .int (nI i))]) hx hb dX4_clausesUnlike_27 rfl hl (by decide) rfl (fun ls hl => ?_)
          refine lv_iinc (v := nI (i + 1)) (lv' := [(4, .int (nI (i + 1))), (3, .int (q ||| ((nI 1) <<< (nI i &&& 31)))), (0, .ref h0), (1, .ref h1), (2, .int (nI nc))]) hx hb dX4_clausesUnlike_28 hl (k := 4) rfl (by rw [ii1, nI_1]) (by decide) rfl (fun ls hl => ?_)
          refine lv_goto (tgt := 5) hx hb dX4_clausesUnlike_31 (by decide) ?_
          exact ih5 (q ||| ((nI 1) <<< (nI i &&& 31))) (i + 1) (by omega) (by omega) (by rw [chs_t (un_t.mpr b15), hq]) _ _ hw _ (lv_sub hl [2, 3, 4, 1, 0] rfl)
  exact K5_0 _ (nI 0) 0 (Nat.lt_succ_self _) (by omega) (by rfl) _ _ hw _ (lv_sub hl [2, 3, 4, 1, 0] rfl)


