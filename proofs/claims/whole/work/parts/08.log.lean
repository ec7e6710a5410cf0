theorem lkX2_init_1 : Cond.methodLink RX2 3 objectInit ∈ wsX2_init := List.mem_of_getElem? (i := 1) rfl
theorem lkX2_init_2 : Cond.instanceMethod objectInit ∈ wsX2_init := List.mem_of_getElem? (i := 2) rfl
theorem lkX2_init_3 : Cond.code objectInit ⟨#[0xb1]⟩ 1 none ∈ wsX2_init := List.mem_of_getElem? (i := 3) rfl
theorem lkX2_init_4 : Cond.arrayClass .char ∈ wsX2_init := List.mem_of_getElem? (i := 4) rfl
theorem lkX2_init_5 : Cond.fieldLink RX2 9 "SignedDocument$EditLog" "kinds" "[C" ∈ wsX2_init := List.mem_of_getElem? (i := 5) rfl
theorem inX2_init_2 : ∀ w ∈ u_ws RX2 TX2 11, w ∈ wsX2_init := fun _ h => List.mem_cons_of_mem _ (List.mem_append_right _ h)
theorem lkX2_init_6 : Cond.arrayClass .int ∈ wsX2_init := List.mem_of_getElem? (i := 6) rfl
theorem lkX2_init_7 : Cond.fieldLink RX2 15 "SignedDocument$EditLog" "authors" "[I" ∈ wsX2_init := List.mem_of_getElem? (i := 7) rfl
theorem lkX2_init_8 : Cond.fieldLink RX2 19 "SignedDocument$EditLog" "positions" "[I" ∈ wsX2_init := List.mem_of_getElem? (i := 8) rfl
theorem lkX2_init_9 : Cond.fieldLink RX2 22 "SignedDocument$EditLog" "counts" "[I" ∈ wsX2_init := List.mem_of_getElem? (i := 9) rfl
theorem lkX2_init_10 : Cond.fieldLink RX2 25 "SignedDocument$EditLog" "goals" "[I" ∈ wsX2_init := List.mem_of_getElem? (i := 10) rfl
theorem lkX2_init_11 : Cond.fieldLink RX2 28 "SignedDocument$EditLog" "costs" "[I" ∈ wsX2_init := List.mem_of_getElem? (i := 11) rfl
theorem lkX2_init_12 : Cond.fieldLink RX2 31 "SignedDocument$EditLog" "fees" "[I" ∈ wsX2_init := List.mem_of_getElem? (i := 12) rfl
theorem lkX2_init_13 : Cond.fieldLink RX2 34 "SignedDocument$EditLog" "letters" "[C" ∈ wsX2_init := List.mem_of_getElem? (i := 13) rfl
theorem lkX2_init_14 : Cond.fieldLink RX2 37 "SignedDocument$EditLog" "starts" "[I" ∈ wsX2_init := List.mem_of_getElem? (i := 14) rfl
theorem lkX2_init_15 : Cond.fieldLink RX2 40 "SignedDocument$EditLog" "size" "I" ∈ wsX2_init := List.mem_of_getElem? (i := 15) rfl
theorem lkX2_init_16 : Cond.fieldLink RX2 44 "SignedDocument$EditLog" "lettersUsed" "I" ∈ wsX2_init := List.mem_of_getElem? (i := 16) rfl
set_option maxRecDepth 100000 in
set_option maxHeartbeats 4000000 in
theorem mX2_init (l : Launch) (D : va_G) (cC cI cJ cZ cD : ClassId) (h0 : Nat) (sz : Nat) : MV l yX2_init wsX2_init ({ frames := 1, cells := 9, slots := 1120, locals := 20 }) [.ref h0] D (TY cC cI cJ cZ cD) [(h0, .inr (4, [.null, .null, .null, .null, .null, .null, .null, .null, .null, .int (nI 0), .int (nI 0)]))] sz (fun (uu : Nat × Nat × Nat × Nat × Nat × Nat × Nat × Nat × Nat) => match uu with | (a1, a2, a3, a4, a5, a6, a7, a8, a9) => True) (fun (uu : Nat × Nat × Nat × Nat × Nat × Nat × Nat × Nat × Nat) => match uu with | (a1, a2, a3, a4, a5, a6, a7, a8, a9) => [(h0, .inr (4, [.ref a1, .ref a2, .ref a3, .ref a4, .ref a5, .ref a6, .ref a7, .ref a8, .ref a9, .int (nI 0), .int (nI 0)])), (a1, .inl (cC, 40, .inl (fun _ => nI 0))), (a2, .inl (cI, 40, .inl (fun k => nI ((fun _ => 0) k)))), (a3, .inl (cI, 40, .inl (fun k => nI ((fun _ => 0) k)))), (a4, .inl (cI, 40, .inl (fun k => nI ((fun _ => 0) k)))), (a5, .inl (cI, 40, .inl (fun k => nI ((fun _ => 0) k)))), (a6, .inl (cI, 40, .inl (fun _ => nI 0))), (a7, .inl (cI, 40, .inl (fun _ => nI 0))), (a8, .inl (cC, 800, .inl (fun _ => nI 0))), (a9, .inl (cI, 40, .inl (fun k => nI ((fun _ => 0) k))))]) 9 1120 := by
  refine mk_MV (cc := cX2_init) (maxL := 1) (ret := none) (by decide) rfl (Nat.le_of_ble_eq_true rfl) ?_
  intro p e s mI args below meth cO A cx hr hlk hnm hw ls hl
  have hx := cx.1
  have hb := cx.2.1
  have hw : ww D (TY cC cI cJ cZ cD) s A s.heap [(h0, .inr (4, [.null, .null, .null, .null, .null, .null, .null, .null, .null, .int (nI 0), .int (nI 0)]))] s.heap [] := hw
  have hl : lv_has ls 1 [(0, .ref h0)] := hl
  generalize hQ : MQ _ _ _ _ _ _ _ = Q
  refine hp_start hw (fun H locs hw => ?_)
  refine lv_aload_n hx hb dX2_init_0 rfl (lv_at hl 0 rfl) ?_
  refine W.objInit hx hb cx.2.2.2.1 (cx.2.2.2.2 _ lkX2_init_1) (cx.2.2.2.2 _ lkX2_init_2) (cx.2.2.2.2 _ lkX2_init_3) rfl (by rw [cx.2.2.1]; exact hl.1) rfl dX2_init_1 (Nat.le_of_ble_eq_true rfl) (Nat.le_of_ble_eq_true rfl) ?_
  refine W.eq (g2 := F0 mI 4 ls []) rfl ?_
  refine lv_aload_n hx hb dX2_init_4 rfl (lv_at hl 0 rfl) ?_
  refine lv_bipush (v := nI 40) hx hb dX2_init_5 (by decide) ?_
  refine r_newa_C cx hw lkX2_init_4 rfl (Nat.le_of_ble_eq_true rfl) rfl (Nat.le_of_ble_eq_true rfl) (Nat.le_of_ble_eq_true rfl) dX2_init_7 (fun q1 H hw => ?_)
  have hw : ww D (TY cC cI cJ cZ cD) s A s.heap [(h0, .inr (4, [.null, .null, .null, .null, .null, .null, .null, .null, .null, .int (nI 0), .int (nI 0)])), (q1, .inl (cC, 40, .inl (fun _ => 0)))] H locs := hw
  refine r_putF cx hw inX2_init_2 tyX2 tyX2_ok nmX2 0 0 rfl rfl (by decide) lkX2_init_5 rfl hnm rfl rfl rfl (Nat.le_of_ble_eq_true rfl) dX2_init_9 (fun H locs hw => ?_)
  have hw : ww D (TY cC cI cJ cZ cD) s A s.heap [(h0, .inr (4, [.ref q1, .null, .null, .null, .null, .null, .null, .null, .null, .int (nI 0), .int (nI 0)])), (q1, .inl (cC, 40, .inl (fun _ => 0)))] H locs := hw
  refine lv_aload_n hx hb dX2_init_12 rfl (lv_at hl 0 rfl) ?_
  refine lv_bipush (v := nI 40) hx hb dX2_init_13 (by decide) ?_
  refine r_newa_I cx hw lkX2_init_6 rfl (Nat.le_of_ble_eq_true rfl) rfl (Nat.le_of_ble_eq_true rfl) (Nat.le_of_ble_eq_true rfl) dX2_init_15 (fun q2 H hw => ?_)
  have hw : ww D (TY cC cI cJ cZ cD) s A s.heap [(h0, .inr (4, [.ref q1, .null, .null, .null, .null, .null, .null, .null, .null, .int (nI 0), .int (nI 0)])), (q1, .inl (cC, 40, .inl (fun _ => 0))), (q2, .inl (cI, 40, .inl (fun _ => 0)))] H locs := hw
  refine r_putF cx hw inX2_init_2 tyX2 tyX2_ok nmX2 0 1 rfl rfl (by decide) lkX2_init_7 rfl hnm rfl rfl rfl (Nat.le_of_ble_eq_true rfl) dX2_init_17 (fun H locs hw => ?_)
  have hw : ww D (TY cC cI cJ cZ cD) s A s.heap [(h0, .inr (4, [.ref q1, .ref q2, .null, .null, .null, .null, .null, .null, .null, .int (nI 0), .int (nI 0)])), (q1, .inl (cC, 40, .inl (fun _ => 0))), (q2, .inl (cI, 40, .inl (fun _ => 0)))] H locs := hw
  refine lv_aload_n hx hb dX2_init_20 rfl (lv_at hl 0 rfl) ?_
  refine lv_bipush (v := nI 40) hx hb dX2_init_21 (by decide) ?_
  refine r_newa_I cx hw lkX2_init_6 rfl (Nat.le_of_ble_eq_true rfl) rfl (Nat.le_of_ble_eq_true rfl) (Nat.le_of_ble_eq_true rfl) dX2_init_23 (fun q3 H hw => ?_)
  have hw : ww D (TY cC cI cJ cZ cD) s A s.heap [(h0, .inr (4, [.ref q1, .ref q2, .null, .null, .null, .null, .null, .null, .null, .int (nI 0), .int (nI 0)])), (q1, .inl (cC, 40, .inl (fun _ => 0))), (q2, .inl (cI, 40, .inl (fun _ => 0))), (q3, .inl (cI, 40, .inl (fun _ => 0)))] H locs := hw
  refine r_putF cx hw inX2_init_2 tyX2 tyX2_ok nmX2 0 2 rfl rfl (by decide) lkX2_init_8 rfl hnm rfl rfl rfl (Nat.le_of_ble_eq_true rfl) dX2_init_25 (fun H locs hw => ?_)
  have hw : ww D (TY cC cI cJ cZ cD) s A s.heap [(h0, .inr (4, [.ref q1, .ref q2, .ref q3, .null, .null, .null, .null, .null, .null, .int (nI 0), .int (nI 0)])), (q1, .inl (cC, 40, .inl (fun _ => 0))), (q2, .inl (cI, 40, .inl (fun _ => 0))), (q3, .inl (cI, 40, .inl (fun _ => 0)))] H locs := hw
  refine lv_aload_n hx hb dX2_init_28 rfl (lv_at hl 0 rfl) ?_
  refine lv_bipush (v := nI 40) hx hb dX2_init_29 (by decide) ?_
  refine r_newa_I cx hw lkX2_init_6 rfl (Nat.le_of_ble_eq_true rfl) rfl (Nat.le_of_ble_eq_true rfl) (Nat.le_of_ble_eq_true rfl) dX2_init_31 (fun q4 H hw => ?_)
  have hw : ww D (TY cC cI cJ cZ cD) s A s.heap [(h0, .inr (4, [.ref q1, .ref q2, .ref q3, .null, .null, .null, .null, .null, .null, .int (nI 0), .int (nI 0)])), (q1, .inl (cC, 40, .inl (fun _ => 0))), (q2, .inl (cI, 40, .inl (fun _ => 0))), (q3, .inl (cI, 40, .inl (fun _ => 0))), (q4, .inl (cI, 40, .inl (fun _ => 0)))] H locs := hw
  refine r_putF cx hw inX2_init_2 tyX2 tyX2_ok nmX2 0 3 rfl rfl (by decide) lkX2_init_9 rfl hnm rfl rfl rfl (Nat.le_of_ble_eq_true rfl) dX2_init_33 (fun H locs hw => ?_)
  have hw : ww D (TY cC cI cJ cZ cD) s A s.heap [(h0, .inr (4, [.ref q1, .ref q2, .ref q3, .ref q4, .null, .null, .null, .null, .null, .int (nI 0), .int (nI 0)])), (q1, .inl (cC, 40, .inl (fun _ => 0))), (q2, .inl (cI, 40, .inl (fun _ => 0))), (q3, .inl (cI, 40, .inl (fun _ => 0))), (q4, .inl (cI, 40, .inl (fun _ => 0)))] H locs := hw
  refine lv_aload_n hx hb dX2_init_36 rfl (lv_at hl 0 rfl) ?_
  refine lv_bipush (v := nI 40) hx hb dX2_init_37 (by decide) ?_
  refine r_newa_I cx hw lkX2_init_6 rfl (Nat.le_of_ble_eq_true rfl) rfl (Nat.le_of_ble_eq_true rfl) (Nat.le_of_ble_eq_true rfl) dX2_init_39 (fun q5 H hw => ?_)
  have hw : ww D (TY cC cI cJ cZ cD) s A s.heap [(h0, .inr (4, [.ref q1, .ref q2, .ref q3, .ref q4, .null, .null, .null, .null, .null, .int (nI 0), .int (nI 0)])), (q1, .inl (cC, 40, .inl (fun _ => 0))), (q2, .inl (cI, 40, .inl (fun _ => 0))), (q3, .inl (cI, 40, .inl (fun _ => 0))), (q4, .inl (cI, 40, .inl (fun _ => 0))), (q5, .inl (cI, 40, .inl (fun _ => 0)))] H locs := hw
  refine r_putF cx hw inX2_init_2 tyX2 tyX2_ok nmX2 0 4 rfl rfl (by decide) lkX2_init_10 rfl hnm rfl rfl rfl (Nat.le_of_ble_eq_true rfl) dX2_init_41 (fun H locs hw => ?_)
  have hw : ww D (TY cC cI cJ cZ cD) s A s.heap [(h0, .inr (4, [.ref q1, .ref q2, .ref q3, .ref q4, .ref q5, .null, .null, .null, .null, .int (nI 0), .int (nI 0)])), (q1, .inl (cC, 40, .inl (fun _ => 0))), (q2, .inl (cI, 40, .inl (fun _ => 0))), (q3, .inl (cI, 40, .inl (fun _ => 0))), (q4, .inl (cI, 40, .inl (fun _ => 0))), (q5, .inl (cI, 40, .inl (fun _ => 0)))] H locs := hw
  refine lv_aload_n hx hb dX2_init_44 rfl (lv_at hl 0 rfl) ?_
  refine lv_bipush (v := nI 40) hx hb dX2_init_45 (by decide) ?_
  refine r_newa_I cx hw lkX2_init_6 rfl (Nat.le_of_ble_eq_true rfl) rfl (Nat.le_of_ble_eq_true rfl) (Nat.le_of_ble_eq_true rfl) dX2_init_47 (fun q6 H hw => ?_)
  have hw : ww D (TY cC cI cJ cZ cD) s A s.heap [(h0, .inr (4, [.ref q1, .ref q2, .ref q3, .ref q4, .ref q5, .null, .null, .null, .null, .int (nI 0), .int (nI 0)])), (q1, .inl (cC, 40, .inl (fun _ => 0))), (q2, .inl (cI, 40, .inl (fun _ => 0))), (q3, .inl (cI, 40, .inl (fun _ => 0))), (q4, .inl (cI, 40, .inl (fun _ => 0))), (q5, .inl (cI, 40, .inl (fun _ => 0))), (q6, .inl (cI, 40, .inl (fun _ => 0)))] H locs := hw
  refine r_putF cx hw inX2_init_2 tyX2 tyX2_ok nmX2 0 5 rfl rfl (by decide) lkX2_init_11 rfl hnm rfl rfl rfl (Nat.le_of_ble_eq_true rfl) dX2_init_49 (fun H locs hw => ?_)
  have hw : ww D (TY cC cI cJ cZ cD) s A s.heap [(h0, .inr (4, [.ref q1, .ref q2, .ref q3, .ref q4, .ref q5, .ref q6, .null, .null, .null, .int (nI 0), .int (nI 0)])), (q1, .inl (cC, 40, .inl (fun _ => 0))), (q2, .inl (cI, 40, .inl (fun _ => 0))), (q3, .inl (cI, 40, .inl (fun _ => 0))), (q4, .inl (cI, 40, .inl (fun _ => 0))), (q5, .inl (cI, 40, .inl (fun _ => 0))), (q6, .inl (cI, 40, .inl (fun _ => 0)))] H locs := hw
  refine lv_aload_n hx hb dX2_init_52 rfl (lv_at hl 0 rfl) ?_
  refine lv_bipush (v := nI 40) hx hb dX2_init_53 (by decide) ?_
  refine r_newa_I cx hw lkX2_init_6 rfl (Nat.le_of_ble_eq_true rfl) rfl (Nat.le_of_ble_eq_true rfl) (Nat.le_of_ble_eq_true rfl) dX2_init_55 (fun q7 H hw => ?_)
  have hw : ww D (TY cC cI cJ cZ cD) s A s.heap [(h0, .inr (4, [.ref q1, .ref q2, .ref q3, .ref q4, .ref q5, .ref q6, .null, .null, .null, .int (nI 0), .int (nI 0)])), (q1, .inl (cC, 40, .inl (fun _ => 0))), (q2, .inl (cI, 40, .inl (fun _ => 0))), (q3, .inl (cI, 40, .inl (fun _ => 0))), (q4, .inl (cI, 40, .inl (fun _ => 0))), (q5, .inl (cI, 40, .inl (fun _ => 0))), (q6, .inl (cI, 40, .inl (fun _ => 0))), (q7, .inl (cI, 40, .inl (fun _ => 0)))] H locs := hw
  refine r_putF cx hw inX2_init_2 tyX2 tyX2_ok nmX2 0 6 rfl rfl (by decide) lkX2_init_12 rfl hnm rfl rfl rfl (Nat.le_of_ble_eq_true rfl) dX2_init_57 (fun H locs hw => ?_)
  have hw : ww D (TY cC cI cJ cZ cD) s A s.heap [(h0, .inr (4, [.ref q1, .ref q2, .ref q3, .ref q4, .ref q5, .ref q6, .ref q7, .null, .null, .int (nI 0), .int (nI 0)])), (q1, .inl (cC, 40, .inl (fun _ => 0))), (q2, .inl (cI, 40, .inl (fun _ => 0))), (q3, .inl (cI, 40, .inl (fun _ => 0))), (q4, .inl (cI, 40, .inl (fun _ => 0))), (q5, .inl (cI, 40, .inl (fun _ => 0))), (q6, .inl (cI, 40, .inl (fun _ => 0))), (q7, .inl (cI, 40, .inl (fun _ => 0)))] H locs := hw
  refine lv_aload_n hx hb dX2_init_60 rfl (lv_at hl 0 rfl) ?_
  refine lv_sipush (v := nI 800) hx hb dX2_init_61 (by decide) ?_
  refine r_newa_C cx hw lkX2_init_4 rfl (Nat.le_of_ble_eq_true rfl) rfl (Nat.le_of_ble_eq_true rfl) (Nat.le_of_ble_eq_true rfl) dX2_init_64 (fun q8 H hw => ?_)
  have hw : ww D (TY cC cI cJ cZ cD) s A s.heap [(h0, .inr (4, [.ref q1, .ref q2, .ref q3, .ref q4, .ref q5, .ref q6, .ref q7, .null, .null, .int (nI 0), .int (nI 0)])), (q1, .inl (cC, 40, .inl (fun _ => 0))), (q2, .inl (cI, 40, .inl (fun _ => 0))), (q3, .inl (cI, 40, .inl (fun _ => 0))), (q4, .inl (cI, 40, .inl (fun _ => 0))), (q5, .inl (cI, 40, .inl (fun _ => 0))), (q6, .inl (cI, 40, .inl (fun _ => 0))), (q7, .inl (cI, 40, .inl (fun _ => 0))), (q8, .inl (cC, 800, .inl (fun _ => 0)))] H locs := hw
  refine r_putF cx hw inX2_init_2 tyX2 tyX2_ok nmX2 0 7 rfl rfl (by decide) lkX2_init_13 rfl hnm rfl rfl rfl (Nat.le_of_ble_eq_true rfl) dX2_init_66 (fun H locs hw => ?_)
  have hw : ww D (TY cC cI cJ cZ cD) s A s.heap [(h0, .inr (4, [.ref q1, .ref q2, .ref q3, .ref q4, .ref q5, .ref q6, .ref q7, .ref q8, .null, .int (nI 0), .int (nI 0)])), (q1, .inl (cC, 40, .inl (fun _ => 0))), (q2, .inl (cI, 40, .inl (fun _ => 0))), (q3, .inl (cI, 40, .inl (fun _ => 0))), (q4, .inl (cI, 40, .inl (fun _ => 0))), (q5, .inl (cI, 40, .inl (fun _ => 0))), (q6, .inl (cI, 40, .inl (fun _ => 0))), (q7, .inl (cI, 40, .inl (fun _ => 0))), (q8, .inl (cC, 800, .inl (fun _ => 0)))] H locs := hw
  refine lv_aload_n hx hb dX2_init_69 rfl (lv_at hl 0 rfl) ?_
  refine lv_bipush (v := nI 40) hx hb dX2_init_70 (by decide) ?_
  refine r_newa_I cx hw lkX2_init_6 rfl (Nat.le_of_ble_eq_true rfl) rfl (Nat.le_of_ble_eq_true rfl) (Nat.le_of_ble_eq_true rfl) dX2_init_72 (fun q9 H hw => ?_)
  have hw : ww D (TY cC cI cJ cZ cD) s A s.heap [(h0, .inr (4, [.ref q1, .ref q2, .ref q3, .ref q4, .ref q5, .ref q6, .ref q7, .ref q8, .null, .int (nI 0), .int (nI 0)])), (q1, .inl (cC, 40, .inl (fun _ => 0))), (q2, .inl (cI, 40, .inl (fun _ => 0))), (q3, .inl (cI, 40, .inl (fun _ => 0))), (q4, .inl (cI, 40, .inl (fun _ => 0))), (q5, .inl (cI, 40, .inl (fun _ => 0))), (q6, .inl (cI, 40, .inl (fun _ => 0))), (q7, .inl (cI, 40, .inl (fun _ => 0))), (q8, .inl (cC, 800, .inl (fun _ => 0))), (q9, .inl (cI, 40, .inl (fun _ => 0)))] H locs := hw
  refine r_putF cx hw inX2_init_2 tyX2 tyX2_ok nmX2 0 8 rfl rfl (by decide) lkX2_init_14 rfl hnm rfl rfl rfl (Nat.le_of_ble_eq_true rfl) dX2_init_74 (fun H locs hw => ?_)
  have hw : ww D (TY cC cI cJ cZ cD) s A s.heap [(h0, .inr (4, [.ref q1, .ref q2, .ref q3, .ref q4, .ref q5, .ref q6, .ref q7, .ref q8, .ref q9, .int (nI 0), .int (nI 0)])), (q1, .inl (cC, 40, .inl (fun _ => 0))), (q2, .inl (cI, 40, .inl (fun _ => 0))), (q3, .inl (cI, 40, .inl (fun _ => 0))), (q4, .inl (cI, 40, .inl (fun _ => 0))), (q5, .inl (cI, 40, .inl (fun _ => 0))), (q6, .inl (cI, 40, .inl (fun _ => 0))), (q7, .inl (cI, 40, .inl (fun _ => 0))), (q8, .inl (cC, 800, .inl (fun _ => 0))), (q9, .inl (cI, 40, .inl (fun _ => 0)))] H locs := hw
  refine lv_aload_n hx hb dX2_init_77 rfl (lv_at hl 0 rfl) ?_
  refine lv_iconst (v := nI 0) hx hb dX2_init_78 (by decide) ?_
  refine r_put cx hw inX2_init_2 tyX2 tyX2_ok nmX2 0 9 rfl rfl (by decide) lkX2_init_15 rfl rfl rfl (Nat.le_of_ble_eq_true rfl) dX2_init_79 (fun H locs hw => ?_)
  have hw : ww D (TY cC cI cJ cZ cD) s A s.heap [(h0, .inr (4, [.ref q1, .ref q2, .ref q3, .ref q4, .ref q5, .ref q6, .ref q7, .ref q8, .ref q9, .int (nI 0), .int (nI 0)])), (q1, .inl (cC, 40, .inl (fun _ => 0))), (q2, .inl (cI, 40, .inl (fun _ => 0))), (q3, .inl (cI, 40, .inl (fun _ => 0))), (q4, .inl (cI, 40, .inl (fun _ => 0))), (q5, .inl (cI, 40, .inl (fun _ => 0))), (q6, .inl (cI, 40, .inl (fun _ => 0))), (q7, .inl (cI, 40, .inl (fun _ => 0))), (q8, .inl (cC, 800, .inl (fun _ => 0))), (q9, .inl (cI, 40, .inl (fun _ => 0)))] H locs := hw
  refine lv_aload_n hx hb dX2_init_82 rfl (lv_at hl 0 rfl) ?_
  refine lv_iconst (v := nI 0) hx hb dX2_init_83 (by decide) ?_
  refine r_put cx hw inX2_init_2 tyX2 tyX2_ok nmX2 0 10 rfl rfl (by decide) lkX2_init_16 rfl rfl rfl (Nat.le_of_ble_eq_true rfl) dX2_init_84 (fun H locs hw => ?_)
  have hw : ww D (TY cC cI cJ cZ cD) s A s.heap [(h0, .inr (4, [.ref q1, .ref q2, .ref q3, .ref q4, .ref q5, .ref q6, .ref q7, .ref q8, .ref q9, .int (nI 0), .int (nI 0)])), (q1, .inl (cC, 40, .inl (fun _ => 0))), (q2, .inl (cI, 40, .inl (fun _ => 0))), (q3, .inl (cI, 40, .inl (fun _ => 0))), (q4, .inl (cI, 40, .inl (fun _ => 0))), (q5, .inl (cI, 40, .inl (fun _ => 0))), (q6, .inl (cI, 40, .inl (fun _ => 0))), (q7, .inl (cI, 40, .inl (fun _ => 0))), (q8, .inl (cC, 800, .inl (fun _ => 0))), (q9, .inl (cI, 40, .inl (fun _ => 0)))] H locs := hw
  subst hQ
  exact r_retv cx hr hlk hw (Nat.le_of_ble_eq_true rfl) (Nat.le_of_ble_eq_true rfl) (q1, q2, q3, q4, q5, q6, q7, q8, q9) trivial [0, 1, 2, 3, 4, 5, 6, 7, 8, 9] (by decide) rfl dX2_init_87

theorem lkX2_isFull_1 : Cond.fieldLink RX2 40 "SignedDocument$EditLog" "size" "I" ∈ wsX2_isFull := List.mem_of_getElem? (i := 1) rfl
theorem inX2_isFull_2 : ∀ w ∈ u_ws RX2 TX2 11, w ∈ wsX2_isFull := fun _ h => List.mem_cons_of_mem _ (List.mem_append_right _ h)
set_option maxRecDepth 100000 in
set_option maxHeartbeats 4000000 in
theorem mX2_isFull (l : Launch) (D : va_G) (cC cI cJ cZ cD : ClassId) (h0 h0K h0A h0P h0C h0G h0O h0F h0L h0S : Nat) (ne lu : Nat) (eK eO eF eL : Nat → Int32) (eA eP eC eG eS : Nat → Nat) (sz : Nat) (hne : ne ≤ 40) : MI l yX2_isFull wsX2_isFull ({ frames := 0, cells := 0, slots := 0, locals := 0 }) [.ref h0] D (TY cC cI cJ cZ cD) [(h0, .inr (4, [.ref h0K, .ref h0A, .ref h0P, .ref h0C, .ref h0G, .ref h0O, .ref h0F, .ref h0L, .ref h0S, .int (nI ne), .int (nI lu)])), (h0K, .inl (cC, 40, .inl eK)), (h0A, .inl (cI, 40, .inl (fun k => nI (eA k)))), (h0P, .inl (cI, 40, .inl (fun k => nI (eP k)))), (h0C, .inl (cI, 40, .inl (fun k => nI (eC k)))), (h0G, .inl (cI, 40, .inl (fun k => nI (eG k)))), (h0O, .inl (cI, 40, .inl eO)), (h0F, .inl (cI, 40, .inl eF)), (h0L, .inl (cC, 800, .inl eL)), (h0S, .inl (cI, 40, .inl (fun k => nI (eS k))))] sz (fun (r : Int32) => fun (_ : Unit) => ((r = nI 1 ∧ (40 ≤ ne)) ∨ (r = nI 0 ∧ ¬ (40 ≤ ne)))) (fun (_ : Unit) => [(h0, .inr (4, [.ref h0K, .ref h0A, .ref h0P, .ref h0C, .ref h0G, .ref h0O, .ref h0F, .ref h0L, .ref h0S, .int (nI ne), .int (nI lu)])), (h0K, .inl (cC, 40, .inl eK)), (h0A, .inl (cI, 40, .inl (fun k => nI (eA k)))), (h0P, .inl (cI, 40, .inl (fun k => nI (eP k)))), (h0C, .inl (cI, 40, .inl (fun k => nI (eC k)))), (h0G, .inl (cI, 40, .inl (fun k => nI (eG k)))), (h0O, .inl (cI, 40, .inl eO)), (h0F, .inl (cI, 40, .inl eF)), (h0L, .inl (cC, 800, .inl eL)), (h0S, .inl (cI, 40, .inl (fun k => nI (eS k))))]) 0 0 := by
  refine mk_MI (cc := cX2_isFull) (maxL := 1) (ret := (some .boolean)) (by decide) rfl (Nat.le_of_ble_eq_true rfl) ?_
  intro p e s mI args below meth cO A cx hr hlk hnm hw ls hl
  have hx := cx.1
  have hb := cx.2.1
  have hw : ww D (TY cC cI cJ cZ cD) s A s.heap [(h0, .inr (4, [.ref h0K, .ref h0A, .ref h0P, .ref h0C, .ref h0G, .ref h0O, .ref h0F, .ref h0L, .ref h0S, .int (nI ne), .int (nI lu)])), (h0K, .inl (cC, 40, .inl eK)), (h0A, .inl (cI, 40, .inl (fun k => nI (eA k)))), (h0P, .inl (cI, 40, .inl (fun k => nI (eP k)))), (h0C, .inl (cI, 40, .inl (fun k => nI (eC k)))), (h0G, .inl (cI, 40, .inl (fun k => nI (eG k)))), (h0O, .inl (cI, 40, .inl eO)), (h0F, .inl (cI, 40, .inl eF)), (h0L, .inl (cC, 800, .inl eL)), (h0S, .inl (cI, 40, .inl (fun k => nI (eS k))))] s.heap [] := hw
  have hl : lv_has ls 1 [(0, .ref h0)] := hl
  generalize hQ : MQ _ _ _ _ _ _ _ = Q
  refine hp_start hw (fun H locs hw => ?_)
  refine lv_aload_n hx hb dX2_isFull_0 rfl (lv_at hl 0 rfl) ?_
  refine r_get cx hw inX2_isFull_2 0 9 rfl rfl (by decide) lkX2_isFull_1 rfl dX2_isFull_1 ?_
  refine lv_bipush (v := nI 40) hx hb dX2_isFull_4 (by decide) ?_
  refine r_icmp_lt cx 13 ne 40 rfl rfl (by omega) (by omega) dX2_isFull_6 (by decide) (fun c6 => ?_) (fun c6 => ?_)
  · refine lv_iconst (v := nI 0) hx hb dX2_isFull_13 (by decide) ?_
    subst hQ
    exact r_reti (v := nI 0) cx hr (by decide) hlk hw (Nat.le_of_ble_eq_true rfl) (Nat.le_of_ble_eq_true rfl) () (by right; exact ⟨rfl, by omega⟩) [0, 1, 2, 3, 4, 5, 6, 7, 8, 9] (by decide) rfl dX2_isFull_14
  · refine lv_iconst (v := nI 1) hx hb dX2_isFull_9 (by decide) ?_
    refine lv_goto (tgt := 14) hx hb dX2_isFull_10 (by decide) ?_
    subst hQ
    exact r_reti (v := nI 1) cx hr (by decide) hlk hw (Nat.le_of_ble_eq_true rfl) (Nat.le_of_ble_eq_true rfl) () (by left; exact ⟨rfl, by omega⟩) [0, 1, 2, 3, 4, 5, 6, 7, 8, 9] (by decide) rfl dX2_isFull_14

theorem lkX2_draft_1 : Cond.fieldLink RX2 9 "SignedDocument$EditLog" "kinds" "[C" ∈ wsX2_draft := List.mem_of_getElem? (i := 1) rfl
theorem inX2_draft_2 : ∀ w ∈ u_ws RX2 TX2 11, w ∈ wsX2_draft := fun _ h => List.mem_cons_of_mem _ (List.mem_append_left _ (List.mem_append_right _ h))
theorem lkX2_draft_2 : Cond.fieldLink RX2 40 "SignedDocument$EditLog" "size" "I" ∈ wsX2_draft := List.mem_of_getElem? (i := 2) rfl
theorem lkX2_draft_3 : Cond.fieldLink RX2 15 "SignedDocument$EditLog" "authors" "[I" ∈ wsX2_draft := List.mem_of_getElem? (i := 3) rfl
theorem lkX2_draft_4 : Cond.fieldLink RX2 19 "SignedDocument$EditLog" "positions" "[I" ∈ wsX2_draft := List.mem_of_getElem? (i := 4) rfl
theorem lkX2_draft_5 : Cond.fieldLink RX2 22 "SignedDocument$EditLog" "counts" "[I" ∈ wsX2_draft := List.mem_of_getElem? (i := 5) rfl
theorem lkX2_draft_6 : Cond.fieldLink RX2 25 "SignedDocument$EditLog" "goals" "[I" ∈ wsX2_draft := List.mem_of_getElem? (i := 6) rfl
theorem lkX2_draft_7 : Cond.fieldLink RX2 37 "SignedDocument$EditLog" "starts" "[I" ∈ wsX2_draft := List.mem_of_getElem? (i := 7) rfl
theorem lkX2_draft_8 : Cond.fieldLink RX2 44 "SignedDocument$EditLog" "lettersUsed" "I" ∈ wsX2_draft := List.mem_of_getElem? (i := 8) rfl
set_option maxRecDepth 100000 in
set_option maxHeartbeats 4000000 in
theorem mX2_draft (l : Launch) (D : va_G) (cC cI cJ cZ cD : ClassId) (h0 h0K h0A h0P h0C h0G h0O h0F h0L h0S : Nat) (ne lu : Nat) (eK eO eF eL : Nat → Int32) (eA eP eC eG eS : Nat → Nat) (kd : Int32) (a9 p9 c9 g9 : Nat) (sz : Nat) (hne : ne < 40) (hkd : vp_nar .char kd = kd) (heK : ∀ j, vp_nar .char (eK j) = eK j) : MV l yX2_draft wsX2_draft ({ frames := 1, cells := 0, slots := 0, locals := 20 }) [.ref h0, .int kd, .int (nI a9), .int (nI p9), .int (nI c9), .int (nI g9)] D (TY cC cI cJ cZ cD) [(h0, .inr (4, [.ref h0K, .ref h0A, .ref h0P, .ref h0C, .ref h0G, .ref h0O, .ref h0F, .ref h0L, .ref h0S, .int (nI ne), .int (nI lu)])), (h0K, .inl (cC, 40, .inl eK)), (h0A, .inl (cI, 40, .inl (fun k => nI (eA k)))), (h0P, .inl (cI, 40, .inl (fun k => nI (eP k)))), (h0C, .inl (cI, 40, .inl (fun k => nI (eC k)))), (h0G, .inl (cI, 40, .inl (fun k => nI (eG k)))), (h0O, .inl (cI, 40, .inl eO)), (h0F, .inl (cI, 40, .inl eF)), (h0L, .inl (cC, 800, .inl eL)), (h0S, .inl (cI, 40, .inl (fun k => nI (eS k))))] sz (fun (_ : Unit) => True) (fun (_ : Unit) => [(h0, .inr (4, [.ref h0K, .ref h0A, .ref h0P, .ref h0C, .ref h0G, .ref h0O, .ref h0F, .ref h0L, .ref h0S, .int (nI ne), .int (nI lu)])), (h0K, .inl (cC, 40, .inl (upd eK ne kd))), (h0A, .inl (cI, 40, .inl (fun k => nI ((va_up eA ne a9) k)))), (h0P, .inl (cI, 40, .inl (fun k => nI ((va_up eP ne p9) k)))), (h0C, .inl (cI, 40, .inl (fun k => nI ((va_up eC ne c9) k)))), (h0G, .inl (cI, 40, .inl (fun k => nI ((va_up eG ne g9) k)))), (h0O, .inl (cI, 40, .inl eO)), (h0F, .inl (cI, 40, .inl eF)), (h0L, .inl (cC, 800, .inl eL)), (h0S, .inl (cI, 40, .inl (fun k => nI ((va_up eS ne lu) k))))]) 0 0 := by
  refine mk_MV (cc := cX2_draft) (maxL := 6) (ret := none) (by decide) rfl (Nat.le_of_ble_eq_true rfl) ?_
  intro p e s mI args below meth cO A cx hr hlk hnm hw ls hl
  have hx := cx.1
  have hb := cx.2.1
  have hw : ww D (TY cC cI cJ cZ cD) s A s.heap [(h0, .inr (4, [.ref h0K, .ref h0A, .ref h0P, .ref h0C, .ref h0G, .ref h0O, .ref h0F, .ref h0L, .ref h0S, .int (nI ne), .int (nI lu)])), (h0K, .inl (cC, 40, .inl eK)), (h0A, .inl (cI, 40, .inl (fun k => nI (eA k)))), (h0P, .inl (cI, 40, .inl (fun k => nI (eP k)))), (h0C, .inl (cI, 40, .inl (fun k => nI (eC k)))), (h0G, .inl (cI, 40, .inl (fun k => nI (eG k)))), (h0O, .inl (cI, 40, .inl eO)), (h0F, .inl (cI, 40, .inl eF)), (h0L, .inl (cC, 800, .inl eL)), (h0S, .inl (cI, 40, .inl (fun k => nI (eS k))))] s.heap [] := hw
  have hl : lv_has ls 6 [(0, .ref h0), (1, .int kd), (2, .int (nI a9)), (3, .int (nI p9)), (4, .int (nI c9)), (5, .int (nI g9))] := hl
  generalize hQ : MQ _ _ _ _ _ _ _ = Q
  refine hp_start hw (fun H locs hw => ?_)
  refine lv_aload_n hx hb dX2_draft_0 rfl (lv_at hl 0 rfl) ?_
  refine r_callVi (n := 0) (wr := []) cx hw (mX2_isFull l D cC cI cJ cZ cD h0 h0K h0A h0P h0C h0G h0O h0F h0L h0S ne lu eK eO eF eL eA eP eC eG eS H.size (by omega)) [0, 1, 2, 3, 4, 5, 6, 7, 8, 9] [] gX2_draft_X2_isFull rfl rfl rfl (by decide +kernel) ⟨Nat.le_of_ble_eq_true rfl, Nat.le_of_ble_eq_true rfl⟩ (q0 := 0) rfl rfl rfl rfl (by decide) (by decide) (by decide) rfl rfl hl.1 (Nat.le_of_ble_eq_true rfl) dX2_draft_1 ⟨Nat.le_of_ble_eq_true rfl, Nat.le_of_ble_eq_true rfl⟩ (fun r_1 u H locs hp hw => ?_)
  have hw : ww D (TY cC cI cJ cZ cD) s A s.heap [(h0, .inr (4, [.ref h0K, .ref h0A, .ref h0P, .ref h0C, .ref h0G, .ref h0O, .ref h0F, .ref h0L, .ref h0S, .int (nI ne), .int (nI lu)])), (h0K, .inl (cC, 40, .inl eK)), (h0A, .inl (cI, 40, .inl (fun k => nI (eA k)))), (h0P, .inl (cI, 40, .inl (fun k => nI (eP k)))), (h0C, .inl (cI, 40, .inl (fun k => nI (eC k)))), (h0G, .inl (cI, 40, .inl (fun k => nI (eG k)))), (h0O, .inl (cI, 40, .inl eO)), (h0F, .inl (cI, 40, .inl eF)), (h0L, .inl (cC, 800, .inl eL)), (h0S, .inl (cI, 40, .inl (fun k => nI (eS k))))] H locs := hw
  try dsimp only at hp
  have hb9 := hp
  rcases hb9 with ⟨rfl, b1⟩ | ⟨rfl, b1⟩
  · omega
  · refine r_if_ne cx 72 0 rfl (by omega) dX2_draft_4 (by decide) (fun c4 => by exact absurd c4 (by decide)) (fun c4 => ?_)
    refine lv_aload_n hx hb dX2_draft_7 rfl (lv_at hl 0 rfl) ?_
    refine r_get cx hw inX2_draft_2 0 0 rfl rfl (by decide) lkX2_draft_1 rfl dX2_draft_8 ?_
    refine lv_aload_n hx hb dX2_draft_11 rfl (lv_at hl 0 rfl) ?_
    refine r_get cx hw inX2_draft_2 0 9 rfl rfl (by decide) lkX2_draft_2 rfl dX2_draft_12 ?_
    refine lv_iload_n hx hb dX2_draft_15 rfl (lv_at hl 1 rfl) ?_
    refine r_cast cx hw 1 0 rfl rfl ne rfl hkd (by omega) (by omega) dX2_draft_16 (fun H locs hw => ?_)
    have hw : ww D (TY cC cI cJ cZ cD) s A s.heap [(h0, .inr (4, [.ref h0K, .ref h0A, .ref h0P, .ref h0C, .ref h0G, .ref h0O, .ref h0F, .ref h0L, .ref h0S, .int (nI ne), .int (nI lu)])), (h0K, .inl (cC, 40, .inl (upd eK ne kd))), (h0A, .inl (cI, 40, .inl (fun k => nI (eA k)))), (h0P, .inl (cI, 40, .inl (fun k => nI (eP k)))), (h0C, .inl (cI, 40, .inl (fun k => nI (eC k)))), (h0G, .inl (cI, 40, .inl (fun k => nI (eG k)))), (h0O, .inl (cI, 40, .inl eO)), (h0F, .inl (cI, 40, .inl eF)), (h0L, .inl (cC, 800, .inl eL)), (h0S, .inl (cI, 40, .inl (fun k => nI (eS k))))] H locs := hw
    refine lv_aload_n hx hb dX2_draft_17 rfl (lv_at hl 0 rfl) ?_
    refine r_get cx hw inX2_draft_2 0 1 rfl rfl (by decide) lkX2_draft_3 rfl dX2_draft_18 ?_
    refine lv_aload_n hx hb dX2_draft_21 rfl (lv_at hl 0 rfl) ?_
    refine r_get cx hw inX2_draft_2 0 9 rfl rfl (by decide) lkX2_draft_2 rfl dX2_draft_22 ?_
    refine lv_iload_n hx hb dX2_draft_25 rfl (lv_at hl 2 rfl) ?_
    refine r_iastN cx hw 2 1 rfl rfl ne a9 rfl rfl (by omega) (by omega) dX2_draft_26 (fun H locs hw => ?_)
    have hw : ww D (TY cC cI cJ cZ cD) s A s.heap [(h0, .inr (4, [.ref h0K, .ref h0A, .ref h0P, .ref h0C, .ref h0G, .ref h0O, .ref h0F, .ref h0L, .ref h0S, .int (nI ne), .int (nI lu)])), (h0K, .inl (cC, 40, .inl (upd eK ne kd))), (h0A, .inl (cI, 40, .inl (fun k => nI ((va_up eA ne a9) k)))), (h0P, .inl (cI, 40, .inl (fun k => nI (eP k)))), (h0C, .inl (cI, 40, .inl (fun k => nI (eC k)))), (h0G, .inl (cI, 40, .inl (fun k => nI (eG k)))), (h0O, .inl (cI, 40, .inl eO)), (h0F, .inl (cI, 40, .inl eF)), (h0L, .inl (cC, 800, .inl eL)), (h0S, .inl (cI, 40, .inl (fun k => nI (eS k))))] H locs := hw
    refine lv_aload_n hx hb dX2_draft_27 rfl (lv_at hl 0 rfl) ?_
    refine r_get cx hw inX2_draft_2 0 2 rfl rfl (by decide) lkX2_draft_4 rfl dX2_draft_28 ?_
    refine lv_aload_n hx hb dX2_draft_31 rfl (lv_at hl 0 rfl) ?_
    refine r_get cx hw inX2_draft_2 0 9 rfl rfl (by decide) lkX2_draft_2 rfl dX2_draft_32 ?_
    refine lv_iload_n hx hb dX2_draft_35 rfl (lv_at hl 3 rfl) ?_
    refine r_iastN cx hw 3 1 rfl rfl ne p9 rfl rfl (by omega) (by omega) dX2_draft_36 (fun H locs hw => ?_)
    have hw : ww D (TY cC cI cJ cZ cD) s A s.heap [(h0, .inr (4, [.ref h0K, .ref h0A, .ref h0P, .ref h0C, .ref h0G, .ref h0O, .ref h0F, .ref h0L, .ref h0S, .int (nI ne), .int (nI lu)])), (h0K, .inl (cC, 40, .inl (upd eK ne kd))), (h0A, .inl (cI, 40, .inl (fun k => nI ((va_up eA ne a9) k)))), (h0P, .inl (cI, 40, .inl (fun k => nI ((va_up eP ne p9) k)))), (h0C, .inl (cI, 40, .inl (fun k => nI (eC k)))), (h0G, .inl (cI, 40, .inl (fun k => nI (eG k)))), (h0O, .inl (cI, 40, .inl eO)), (h0F, .inl (cI, 40, .inl eF)), (h0L, .inl (cC, 800, .inl eL)), (h0S, .inl (cI, 40, .inl (fun k => nI (eS k))))] H locs := hw
    refine lv_aload_n hx hb dX2_draft_37 rfl (lv_at hl 0 rfl) ?_
    refine r_get cx hw inX2_draft_2 0 3 rfl rfl (by decide) lkX2_draft_5 rfl dX2_draft_38 ?_
    refine lv_aload_n hx hb dX2_draft_41 rfl (lv_at hl 0 rfl) ?_
    refine r_get cx hw inX2_draft_2 0 9 rfl rfl (by decide) lkX2_draft_2 rfl dX2_draft_42 ?_
    refine lv_iload hx hb dX2_draft_45 (lv_at hl 4 rfl) ?_
    refine r_iastN cx hw 4 1 rfl rfl ne c9 rfl rfl (by omega) (by omega) dX2_draft_47 (fun H locs hw => ?_)
    have hw : ww D (TY cC cI cJ cZ cD) s A s.heap [(h0, .inr (4, [.ref h0K, .ref h0A, .ref h0P, .ref h0C, .ref h0G, .ref h0O, .ref h0F, .ref h0L, .ref h0S, .int (nI ne), .int (nI lu)])), (h0K, .inl (cC, 40, .inl (upd eK ne kd))), (h0A, .inl (cI, 40, .inl (fun k => nI ((va_up eA ne a9) k)))), (h0P, .inl (cI, 40, .inl (fun k => nI ((va_up eP ne p9) k)))), (h0C, .inl (cI, 40, .inl (fun k => nI ((va_up eC ne c9) k)))), (h0G, .inl (cI, 40, .inl (fun k => nI (eG k)))), (h0O, .inl (cI, 40, .inl eO)), (h0F, .inl (cI, 40, .inl eF)), (h0L, .inl (cC, 800, .inl eL)), (h0S, .inl (cI, 40, .inl (fun k => nI (eS k))))] H locs := hw
    refine lv_aload_n hx hb dX2_draft_48 rfl (lv_at hl 0 rfl) ?_
    refine r_get cx hw inX2_draft_2 0 4 rfl rfl (by decide) lkX2_draft_6 rfl dX2_draft_49 ?_
    refine lv_aload_n hx hb dX2_draft_52 rfl (lv_at hl 0 rfl) ?_
    refine r_get cx hw inX2_draft_2 0 9 rfl rfl (by decide) lkX2_draft_2 rfl dX2_draft_53 ?_
    refine lv_iload hx hb dX2_draft_56 (lv_at hl 5 rfl) ?_
    refine r_iastN cx hw 5 1 rfl rfl ne g9 rfl rfl (by omega) (by omega) dX2_draft_58 (fun H locs hw => ?_)
    have hw : ww D (TY cC cI cJ cZ cD) s A s.heap [(h0, .inr (4, [.ref h0K, .ref h0A, .ref h0P, .ref h0C, .ref h0G, .ref h0O, .ref h0F, .ref h0L, .ref h0S, .int (nI ne), .int (nI lu)])), (h0K, .inl (cC, 40, .inl (upd eK ne kd))), (h0A, .inl (cI, 40, .inl (fun k => nI ((va_up eA ne a9) k)))), (h0P, .inl (cI, 40, .inl (fun k => nI ((va_up eP ne p9) k)))), (h0C, .inl (cI, 40, .inl (fun k => nI ((va_up eC ne c9) k)))), (h0G, .inl (cI, 40, .inl (fun k => nI ((va_up eG ne g9) k)))), (h0O, .inl (cI, 40, .inl eO)), (h0F, .inl (cI, 40, .inl eF)), (h0L, .inl (cC, 800, .inl eL)), (h0S, .inl (cI, 40, .inl (fun k => nI (eS k))))] H locs := hw
    refine lv_aload_n hx hb dX2_draft_59 rfl (lv_at hl 0 rfl) ?_
    refine r_get cx hw inX2_draft_2 0 8 rfl rfl (by decide) lkX2_draft_7 rfl dX2_draft_60 ?_
    refine lv_aload_n hx hb dX2_draft_63 rfl (lv_at hl 0 rfl) ?_
    refine r_get cx hw inX2_draft_2 0 9 rfl rfl (by decide) lkX2_draft_2 rfl dX2_draft_64 ?_
    refine lv_aload_n hx hb dX2_draft_67 rfl (lv_at hl 0 rfl) ?_
    refine r_get cx hw inX2_draft_2 0 10 rfl rfl (by decide) lkX2_draft_8 rfl dX2_draft_68 ?_
    refine r_iastN cx hw 9 1 rfl rfl ne lu rfl rfl (by omega) (by omega) dX2_draft_71 (fun H locs hw => ?_)
    have hw : ww D (TY cC cI cJ cZ cD) s A s.heap [(h0, .inr (4, [.ref h0K, .ref h0A, .ref h0P, .ref h0C, .ref h0G, .ref h0O, .ref h0F, .ref h0L, .ref h0S, .int (nI ne), .int (nI lu)])), (h0K, .inl (cC, 40, .inl (upd eK ne kd))), (h0A, .inl (cI, 40, .inl (fun k => nI ((va_up eA ne a9) k)))), (h0P, .inl (cI, 40, .inl (fun k => nI ((va_up eP ne p9) k)))), (h0C, .inl (cI, 40, .inl (fun k => nI ((va_up eC ne c9) k)))), (h0G, .inl (cI, 40, .inl (fun k => nI ((va_up eG ne g9) k)))), (h0O, .inl (cI, 40, .inl eO)), (h0F, .inl (cI, 40, .inl eF)), (h0L, .inl (cC, 800, .inl eL)), (h0S, .inl (cI, 40, .inl (fun k => nI ((va_up eS ne lu) k))))] H locs := hw
    subst hQ
    exact r_retv cx hr hlk hw (Nat.le_of_ble_eq_true rfl) (Nat.le_of_ble_eq_true rfl) () trivial [0, 1, 2, 3, 4, 5, 6, 7, 8, 9] (by decide) rfl dX2_draft_72

theorem lkX2_draftLetters_1 : Cond.fieldLink RX2 51 "SignedDocument$Line" "size" "I" ∈ wsX2_draftLetters := List.mem_of_getElem? (i := 1) rfl
theorem inX2_draftLetters_3 : ∀ w ∈ u_ws RX3 TX3 2, w ∈ wsX2_draftLetters := fun _ h => List.mem_cons_of_mem _ (List.mem_append_left _ (List.mem_append_left _ (List.mem_append_right _ h)))
theorem lkX2_draftLetters_2 : Cond.fieldLink RX2 44 "SignedDocument$EditLog" "lettersUsed" "I" ∈ wsX2_draftLetters := List.mem_of_getElem? (i := 2) rfl
theorem inX2_draftLetters_2 : ∀ w ∈ u_ws RX2 TX2 11, w ∈ wsX2_draftLetters := fun _ h => List.mem_cons_of_mem _ (List.mem_append_left _ (List.mem_append_right _ h))
theorem lkX2_draftLetters_3 : Cond.fieldLink RX2 34 "SignedDocument$EditLog" "letters" "[C" ∈ wsX2_draftLetters := List.mem_of_getElem? (i := 3) rfl
theorem lkX2_draftLetters_4 : Cond.fieldLink RX2 54 "SignedDocument$Line" "signs" "[C" ∈ wsX2_draftLetters := List.mem_of_getElem? (i := 4) rfl
set_option maxRecDepth 100000 in
set_option maxHeartbeats 4000000 in
theorem mX2_draftLetters (l : Launch) (D : va_G) (cC cI cJ cZ cD : ClassId) (h0 h0K h0A h0P h0C h0G h0O h0F h0L h0S t0 t0S : Nat) (ne lu : Nat) (eK eO eF eL : Nat → Int32) (eA eP eC eG eS : Nat → Nat) (nb : Nat) (bF : Nat → Int32) (sz : Nat) (hnb : nb ≤ 20) (hlu : lu + nb ≤ 800) (hbF : ∀ j, vp_nar .char (bF j) = bF j) (heL : ∀ j, vp_nar .char (eL j) = eL j) : MV l yX2_draftLetters wsX2_draftLetters ({ frames := 0, cells := 0, slots := 0, locals := 0 }) [.ref h0, .ref t0] D (TY cC cI cJ cZ cD) [(h0, .inr (4, [.ref h0K, .ref h0A, .ref h0P, .ref h0C, .ref h0G, .ref h0O, .ref h0F, .ref h0L, .ref h0S, .int (nI ne), .int (nI lu)])), (h0K, .inl (cC, 40, .inl eK)), (h0A, .inl (cI, 40, .inl (fun k => nI (eA k)))), (h0P, .inl (cI, 40, .inl (fun k => nI (eP k)))), (h0C, .inl (cI, 40, .inl (fun k => nI (eC k)))), (h0G, .inl (cI, 40, .inl (fun k => nI (eG k)))), (h0O, .inl (cI, 40, .inl eO)), (h0F, .inl (cI, 40, .inl eF)), (h0L, .inl (cC, 800, .inl eL)), (h0S, .inl (cI, 40, .inl (fun k => nI (eS k)))), (t0, .inr (5, [.ref t0S, .int (nI nb)])), (t0S, .inl (cC, 20, .inl bF))] sz (fun (_ : Unit) => True) (fun (_ : Unit) => [(h0, .inr (4, [.ref h0K, .ref h0A, .ref h0P, .ref h0C, .ref h0G, .ref h0O, .ref h0F, .ref h0L, .ref h0S, .int (nI ne), .int (nI lu)])), (h0K, .inl (cC, 40, .inl eK)), (h0A, .inl (cI, 40, .inl (fun k => nI (eA k)))), (h0P, .inl (cI, 40, .inl (fun k => nI (eP k)))), (h0C, .inl (cI, 40, .inl (fun k => nI (eC k)))), (h0G, .inl (cI, 40, .inl (fun k => nI (eG k)))), (h0O, .inl (cI, 40, .inl eO)), (h0F, .inl (cI, 40, .inl eF)), (h0L, .inl (cC, 800, .inl (va_cpy bF eL 0 lu nb))), (h0S, .inl (cI, 40, .inl (fun k => nI (eS k)))), (t0, .inr (5, [.ref t0S, .int (nI nb)])), (t0S, .inl (cC, 20, .inl bF))]) 0 0 := by
  refine mk_MV (cc := cX2_draftLetters) (maxL := 3) (ret := none) (by decide) rfl (Nat.le_of_ble_eq_true rfl) ?_
  intro p e s mI args below meth cO A cx hr hlk hnm hw ls hl
  have hx := cx.1
  have hb := cx.2.1
  have hw : ww D (TY cC cI cJ cZ cD) s A s.heap [(h0, .inr (4, [.ref h0K, .ref h0A, .ref h0P, .ref h0C, .ref h0G, .ref h0O, .ref h0F, .ref h0L, .ref h0S, .int (nI ne), .int (nI lu)])), (h0K, .inl (cC, 40, .inl eK)), (h0A, .inl (cI, 40, .inl (fun k => nI (eA k)))), (h0P, .inl (cI, 40, .inl (fun k => nI (eP k)))), (h0C, .inl (cI, 40, .inl (fun k => nI (eC k)))), (h0G, .inl (cI, 40, .inl (fun k => nI (eG k)))), (h0O, .inl (cI, 40, .inl eO)), (h0F, .inl (cI, 40, .inl eF)), (h0L, .inl (cC, 800, .inl eL)), (h0S, .inl (cI, 40, .inl (fun k => nI (eS k)))), (t0, .inr (5, [.ref t0S, .int (nI nb)])), (t0S, .inl (cC, 20, .inl bF))] s.heap [] := hw
  have hl : lv_has ls 3 [(0, .ref h0), (1, .ref t0)] := hl
  generalize hQ : MQ _ _ _ _ _ _ _ = Q
  refine hp_start hw (fun H locs hw => ?_)
  refine lv_iconst (v := nI 0) hx hb dX2_draftLetters_0 (by decide) ?_
  refine lv_istore_n (lv' := [(2, .int (nI 0)), (0, .ref h0), (1, .ref t0)]) hx hb dX2_draftLetters_1 rfl hl (by decide) rfl (fun ls hl => ?_)
  have K2_0 : ∀ (f : Nat) (i : Nat) (L1 : Nat → Int32), (20 - i) < f → (i ≤ nb) → (L1 = va_cpy bF eL 0 lu i) → ∀ (H : Heap) (locs : List Loc), ww D (TY cC cI cJ cZ cD) s A s.heap [(h0, .inr (4, [.ref h0K, .ref h0A, .ref h0P, .ref h0C, .ref h0G, .ref h0O, .ref h0F, .ref h0L, .ref h0S, .int (nI ne), .int (nI lu)])), (h0K, .inl (cC, 40, .inl eK)), (h0A, .inl (cI, 40, .inl (fun k => nI (eA k)))), (h0P, .inl (cI, 40, .inl (fun k => nI (eP k)))), (h0C, .inl (cI, 40, .inl (fun k => nI (eC k)))), (h0G, .inl (cI, 40, .inl (fun k => nI (eG k)))), (h0O, .inl (cI, 40, .inl eO)), (h0F, .inl (cI, 40, .inl eF)), (h0L, .inl (cC, 800, .inl L1)), (h0S, .inl (cI, 40, .inl (fun k => nI (eS k)))), (t0, .inr (5, [.ref t0S, .int (nI nb)])), (t0S, .inl (cC, 20, .inl bF))] H locs → ∀ ls : Array Slot, lv_has ls 3 [(0, .ref h0), (1, .ref t0), (2, .int (nI i))] → W p l e ({ frames := 0, cells := 0, slots := 0, locals := 0 } : Room) s mI args below meth cO H locs 0 0 Q (F0 mI 2 ls []) := by
    intro f
    induction f with
    | zero => intro i L1 hms9; exact absurd hms9 (Nat.not_lt_zero _)
    | succ f ih2 =>
      intro i L1 hms9 hi hL1 H locs hw ls hl
      have hL1c : ∀ j, vp_nar .char (L1 j) = L1 j := by rw [hL1]; exact CA_cpy hbF heL _ _ _
      refine lv_iload_n hx hb dX2_draftLetters_2 rfl (lv_at hl 2 rfl) ?_
      refine lv_aload_n hx hb dX2_draftLetters_3 rfl (lv_at hl 1 rfl) ?_
      refine r_get cx hw inX2_draftLetters_3 10 1 rfl rfl (by decide) lkX2_draftLetters_1 rfl dX2_draftLetters_4 ?_
      refine r_icmp_ge cx 47 i nb rfl rfl (by omega) (by omega) dX2_draftLetters_7 (by decide) (fun c7 => ?_) (fun c7 => ?_)
      · rw [hL1, show i = nb by omega] at hw
        have hw : ww D (TY cC cI cJ cZ cD) s A s.heap [(h0, .inr (4, [.ref h0K, .ref h0A, .ref h0P, .ref h0C, .ref h0G, .ref h0O, .ref h0F, .ref h0L, .ref h0S, .int (nI ne), .int (nI lu)])), (h0K, .inl (cC, 40, .inl eK)), (h0A, .inl (cI, 40, .inl (fun k => nI (eA k)))), (h0P, .inl (cI, 40, .inl (fun k => nI (eP k)))), (h0C, .inl (cI, 40, .inl (fun k => nI (eC k)))), (h0G, .inl (cI, 40, .inl (fun k => nI (eG k)))), (h0O, .inl (cI, 40, .inl eO)), (h0F, .inl (cI, 40, .inl eF)), (h0L, .inl (cC, 800, .inl (va_cpy bF eL 0 lu nb))), (h0S, .inl (cI, 40, .inl (fun k => nI (eS k)))), (t0, .inr (5, [.ref t0S, .int (nI nb)])), (t0S, .inl (cC, 20, .inl bF))] H locs := hw
        subst hQ
        exact r_retv cx hr hlk hw (Nat.le_of_ble_eq_true rfl) (Nat.le_of_ble_eq_true rfl) () trivial [0, 1, 2, 3, 4, 5, 6, 7, 8, 9, 10, 11] (by decide) rfl dX2_draftLetters_47
      · refine lv_aload_n hx hb dX2_draftLetters_10 rfl (lv_at hl 0 rfl) ?_
        refine r_get cx hw inX2_draftLetters_2 0 10 rfl rfl (by decide) lkX2_draftLetters_2 rfl dX2_draftLetters_11 ?_
        refine lv_iload_n hx hb dX2_draftLetters_14 rfl (lv_at hl 2 rfl) ?_
        refine r_iadd cx lu i rfl rfl dX2_draftLetters_15 ?_
        refine lv_aload_n hx hb dX2_draftLetters_16 rfl (lv_at hl 0 rfl) ?_
        refine r_get cx hw inX2_draftLetters_2 0 7 rfl rfl (by decide) lkX2_draftLetters_3 rfl dX2_draftLetters_17 ?_
        refine r_alen cx hw 8 0 rfl rfl 800 rfl dX2_draftLetters_20 ?_
        refine r_icmp_ge cx 47 (lu + i) 800 rfl rfl (by omega) (by omega) dX2_draftLetters_21 (by decide) (fun c21 => by omega) (fun c21 => ?_)
        refine lv_aload_n hx hb dX2_draftLetters_24 rfl (lv_at hl 0 rfl) ?_
        refine r_get cx hw inX2_draftLetters_2 0 7 rfl rfl (by decide) lkX2_draftLetters_3 rfl dX2_draftLetters_25 ?_
        refine lv_aload_n hx hb dX2_draftLetters_28 rfl (lv_at hl 0 rfl) ?_
        refine r_get cx hw inX2_draftLetters_2 0 10 rfl rfl (by decide) lkX2_draftLetters_2 rfl dX2_draftLetters_29 ?_
        refine lv_iload_n hx hb dX2_draftLetters_32 rfl (lv_at hl 2 rfl) ?_
        refine r_iadd cx lu i rfl rfl dX2_draftLetters_33 ?_
        refine lv_aload_n hx hb dX2_draftLetters_34 rfl (lv_at hl 1 rfl) ?_
        refine r_get cx hw inX2_draftLetters_3 10 0 rfl rfl (by decide) lkX2_draftLetters_4 rfl dX2_draftLetters_35 ?_
        refine lv_iload_n hx hb dX2_draftLetters_38 rfl (lv_at hl 2 rfl) ?_
        refine r_cald cx hw 11 0 rfl rfl i rfl (by omega) (by omega) dX2_draftLetters_39 ?_
        refine r_cast cx hw 8 0 rfl rfl (lu + i) rfl (hbF i) (by omega) (by omega) dX2_draftLetters_40 (fun H locs hw => ?_)
        have hw : ww D (TY cC cI cJ cZ cD) s A s.heap [(h0, .inr (4, [.ref h0K, .ref h0A, .ref h0P, .ref h0C, .ref h0G, .ref h0O, .ref h0F, .ref h0L, .ref h0S, .int (nI ne), .int (nI lu)])), (h0K, .inl (cC, 40, .inl eK)), (h0A, .inl (cI, 40, .inl (fun k => nI (eA k)))), (h0P, .inl (cI, 40, .inl (fun k => nI (eP k)))), (h0C, .inl (cI, 40, .inl (fun k => nI (eC k)))), (h0G, .inl (cI, 40, .inl (fun k => nI (eG k)))), (h0O, .inl (cI, 40, .inl eO)), (h0F, .inl (cI, 40, .inl eF)), (h0L, .inl (cC, 800, .inl (upd L1 (lu + i) (bF i)))), (h0S, .inl (cI, 40, .inl (fun k => nI (eS k)))), (t0, .inr (5, [.ref t0S, .int (nI nb)])), (t0S, .inl (cC, 20, .inl bF))] H locs := hw
        refine lv_iinc (v := nI (i + 1)) (lv' := [(2, .int (nI (i + 1))), (0, .ref h0), (1, .ref t0)]) hx hb dX2_draftLetters_41 hl (k := 2) rfl (by rw [ii1, nI_1]) (by decide) rfl (fun ls hl => ?_)
        refine lv_goto (tgt := 2) hx hb dX2_draftLetters_44 (by decide) ?_
        exact ih2 (i + 1) (upd L1 (lu + i) (bF i)) (by omega) (by omega) (by rw [hL1, ← cpy_s, Nat.zero_add]) _ _ hw _ (lv_sub hl [1, 2, 0] rfl)
  exact K2_0 _ 0 eL (Nat.lt_succ_self _) (by omega) (by rw [cpy_0]) _ _ hw _ (lv_sub hl [1, 2, 0] rfl)

theorem lkX2_keepDraft_1 : Cond.fieldLink RX2 28 "SignedDocument$EditLog" "costs" "[I" ∈ wsX2_keepDraft := List.mem_of_getElem? (i := 1) rfl
theorem inX2_keepDraft_2 : ∀ w ∈ u_ws RX2 TX2 11, w ∈ wsX2_keepDraft := fun _ h => List.mem_cons_of_mem _ (List.mem_append_left _ (List.mem_append_right _ h))
theorem lkX2_keepDraft_2 : Cond.fieldLink RX2 40 "SignedDocument$EditLog" "size" "I" ∈ wsX2_keepDraft := List.mem_of_getElem? (i := 2) rfl
theorem lkX2_keepDraft_3 : Cond.fieldLink RX2 31 "SignedDocument$EditLog" "fees" "[I" ∈ wsX2_keepDraft := List.mem_of_getElem? (i := 3) rfl
theorem lkX2_keepDraft_4 : Cond.fieldLink RX2 9 "SignedDocument$EditLog" "kinds" "[C" ∈ wsX2_keepDraft := List.mem_of_getElem? (i := 4) rfl
theorem lkX2_keepDraft_5 : Cond.fieldLink RX2 44 "SignedDocument$EditLog" "lettersUsed" "I" ∈ wsX2_keepDraft := List.mem_of_getElem? (i := 5) rfl
theorem lkX2_keepDraft_6 : Cond.fieldLink RX2 22 "SignedDocument$EditLog" "counts" "[I" ∈ wsX2_keepDraft := List.mem_of_getElem? (i := 6) rfl
set_option maxRecDepth 100000 in
set_option maxHeartbeats 4000000 in
theorem mX2_keepDraft (l : Launch) (D : va_G) (cC cI cJ cZ cD : ClassId) (h0 h0K h0A h0P h0C h0G h0O h0F h0L h0S : Nat) (ne lu : Nat) (eK eO eF eL : Nat → Int32) (eA eP eC eG eS : Nat → Nat) (co9 fe9 : Int32) (sz : Nat) (hne : ne < 40) : MV l yX2_keepDraft wsX2_keepDraft ({ frames := 1, cells := 0, slots := 0, locals := 20 }) [.ref h0, .int co9, .int fe9] D (TY cC cI cJ cZ cD) [(h0, .inr (4, [.ref h0K, .ref h0A, .ref h0P, .ref h0C, .ref h0G, .ref h0O, .ref h0F, .ref h0L, .ref h0S, .int (nI ne), .int (nI lu)])), (h0K, .inl (cC, 40, .inl eK)), (h0A, .inl (cI, 40, .inl (fun k => nI (eA k)))), (h0P, .inl (cI, 40, .inl (fun k => nI (eP k)))), (h0C, .inl (cI, 40, .inl (fun k => nI (eC k)))), (h0G, .inl (cI, 40, .inl (fun k => nI (eG k)))), (h0O, .inl (cI, 40, .inl eO)), (h0F, .inl (cI, 40, .inl eF)), (h0L, .inl (cC, 800, .inl eL)), (h0S, .inl (cI, 40, .inl (fun k => nI (eS k))))] sz (fun (_ : Unit) => True) (fun (_ : Unit) => [(h0, .inr (4, [.ref h0K, .ref h0A, .ref h0P, .ref h0C, .ref h0G, .ref h0O, .ref h0F, .ref h0L, .ref h0S, .int (nI (ne + 1)), .int (nI (klu eK eC ne lu))])), (h0K, .inl (cC, 40, .inl eK)), (h0A, .inl (cI, 40, .inl (fun k => nI (eA k)))), (h0P, .inl (cI, 40, .inl (fun k => nI (eP k)))), (h0C, .inl (cI, 40, .inl (fun k => nI (eC k)))), (h0G, .inl (cI, 40, .inl (fun k => nI (eG k)))), (h0O, .inl (cI, 40, .inl (upd eO ne co9))), (h0F, .inl (cI, 40, .inl (upd eF ne fe9))), (h0L, .inl (cC, 800, .inl eL)), (h0S, .inl (cI, 40, .inl (fun k => nI (eS k))))]) 0 0 := by
  refine mk_MV (cc := cX2_keepDraft) (maxL := 3) (ret := none) (by decide) rfl (Nat.le_of_ble_eq_true rfl) ?_
  intro p e s mI args below meth cO A cx hr hlk hnm hw ls hl
  have hx := cx.1
  have hb := cx.2.1
  have hw : ww D (TY cC cI cJ cZ cD) s A s.heap [(h0, .inr (4, [.ref h0K, .ref h0A, .ref h0P, .ref h0C, .ref h0G, .ref h0O, .ref h0F, .ref h0L, .ref h0S, .int (nI ne), .int (nI lu)])), (h0K, .inl (cC, 40, .inl eK)), (h0A, .inl (cI, 40, .inl (fun k => nI (eA k)))), (h0P, .inl (cI, 40, .inl (fun k => nI (eP k)))), (h0C, .inl (cI, 40, .inl (fun k => nI (eC k)))), (h0G, .inl (cI, 40, .inl (fun k => nI (eG k)))), (h0O, .inl (cI, 40, .inl eO)), (h0F, .inl (cI, 40, .inl eF)), (h0L, .inl (cC, 800, .inl eL)), (h0S, .inl (cI, 40, .inl (fun k => nI (eS k))))] s.heap [] := hw
  have hl : lv_has ls 3 [(0, .ref h0), (1, .int co9), (2, .int fe9)] := hl
  generalize hQ : MQ _ _ _ _ _ _ _ = Q
  refine hp_start hw (fun H locs hw => ?_)
  refine lv_aload_n hx hb dX2_keepDraft_0 rfl (lv_at hl 0 rfl) ?_
  refine r_callVi (n := 0) (wr := []) cx hw (mX2_isFull l D cC cI cJ cZ cD h0 h0K h0A h0P h0C h0G h0O h0F h0L h0S ne lu eK eO eF eL eA eP eC eG eS H.size (by omega)) [0, 1, 2, 3, 4, 5, 6, 7, 8, 9] [] gX2_keepDraft_X2_isFull rfl rfl rfl (by decide +kernel) ⟨Nat.le_of_ble_eq_true rfl, Nat.le_of_ble_eq_true rfl⟩ (q0 := 0) rfl rfl rfl rfl (by decide) (by decide) (by decide) rfl rfl hl.1 (Nat.le_of_ble_eq_true rfl) dX2_keepDraft_1 ⟨Nat.le_of_ble_eq_true rfl, Nat.le_of_ble_eq_true rfl⟩ (fun r_1 u H locs hp hw => ?_)
  have hw : ww D (TY cC cI cJ cZ cD) s A s.heap [(h0, .inr (4, [.ref h0K, .ref h0A, .ref h0P, .ref h0C, .ref h0G, .ref h0O, .ref h0F, .ref h0L, .ref h0S, .int (nI ne), .int (nI lu)])), (h0K, .inl (cC, 40, .inl eK)), (h0A, .inl (cI, 40, .inl (fun k => nI (eA k)))), (h0P, .inl (cI, 40, .inl (fun k => nI (eP k)))), (h0C, .inl (cI, 40, .inl (fun k => nI (eC k)))), (h0G, .inl (cI, 40, .inl (fun k => nI (eG k)))), (h0O, .inl (cI, 40, .inl eO)), (h0F, .inl (cI, 40, .inl eF)), (h0L, .inl (cC, 800, .inl eL)), (h0S, .inl (cI, 40, .inl (fun k => nI (eS k))))] H locs := hw
  try dsimp only at hp
  have hb9 := hp
  rcases hb9 with ⟨rfl, b1⟩ | ⟨rfl, b1⟩
  · omega
  · refine r_if_ne cx 69 0 rfl (by omega) dX2_keepDraft_4 (by decide) (fun c4 => by exact absurd c4 (by decide)) (fun c4 => ?_)
    refine lv_aload_n hx hb dX2_keepDraft_7 rfl (lv_at hl 0 rfl) ?_
    refine r_get cx hw inX2_keepDraft_2 0 5 rfl rfl (by decide) lkX2_keepDraft_1 rfl dX2_keepDraft_8 ?_
    refine lv_aload_n hx hb dX2_keepDraft_11 rfl (lv_at hl 0 rfl) ?_
    refine r_get cx hw inX2_keepDraft_2 0 9 rfl rfl (by decide) lkX2_keepDraft_2 rfl dX2_keepDraft_12 ?_
    refine lv_iload_n hx hb dX2_keepDraft_15 rfl (lv_at hl 1 rfl) ?_
    refine r_iast cx hw 6 1 rfl rfl ne rfl (by omega) (by omega) dX2_keepDraft_16 (fun H locs hw => ?_)
    have hw : ww D (TY cC cI cJ cZ cD) s A s.heap [(h0, .inr (4, [.ref h0K, .ref h0A, .ref h0P, .ref h0C, .ref h0G, .ref h0O, .ref h0F, .ref h0L, .ref h0S, .int (nI ne), .int (nI lu)])), (h0K, .inl (cC, 40, .inl eK)), (h0A, .inl (cI, 40, .inl (fun k => nI (eA k)))), (h0P, .inl (cI, 40, .inl (fun k => nI (eP k)))), (h0C, .inl (cI, 40, .inl (fun k => nI (eC k)))), (h0G, .inl (cI, 40, .inl (fun k => nI (eG k)))), (h0O, .inl (cI, 40, .inl (upd eO ne co9))), (h0F, .inl (cI, 40, .inl eF)), (h0L, .inl (cC, 800, .inl eL)), (h0S, .inl (cI, 40, .inl (fun k => nI (eS k))))] H locs := hw
    refine lv_aload_n hx hb dX2_keepDraft_17 rfl (lv_at hl 0 rfl) ?_
    refine r_get cx hw inX2_keepDraft_2 0 6 rfl rfl (by decide) lkX2_keepDraft_3 rfl dX2_keepDraft_18 ?_
    refine lv_aload_n hx hb dX2_keepDraft_21 rfl (lv_at hl 0 rfl) ?_
    refine r_get cx hw inX2_keepDraft_2 0 9 rfl rfl (by decide) lkX2_keepDraft_2 rfl dX2_keepDraft_22 ?_
    refine lv_iload_n hx hb dX2_keepDraft_25 rfl (lv_at hl 2 rfl) ?_
    refine r_iast cx hw 7 1 rfl rfl ne rfl (by omega) (by omega) dX2_keepDraft_26 (fun H locs hw => ?_)
    have hw : ww D (TY cC cI cJ cZ cD) s A s.heap [(h0, .inr (4, [.ref h0K, .ref h0A, .ref h0P, .ref h0C, .ref h0G, .ref h0O, .ref h0F, .ref h0L, .ref h0S, .int (nI ne), .int (nI lu)])), (h0K, .inl (cC, 40, .inl eK)), (h0A, .inl (cI, 40, .inl (fun k => nI (eA k)))), (h0P, .inl (cI, 40, .inl (fun k => nI (eP k)))), (h0C, .inl (cI, 40, .inl (fun k => nI (eC k)))), (h0G, .inl (cI, 40, .inl (fun k => nI (eG k)))), (h0O, .inl (cI, 40, .inl (upd eO ne co9))), (h0F, .inl (cI, 40, .inl (upd eF ne fe9))), (h0L, .inl (cC, 800, .inl eL)), (h0S, .inl (cI, 40, .inl (fun k => nI (eS k))))] H locs := hw
    refine lv_aload_n hx hb dX2_keepDraft_27 rfl (lv_at hl 0 rfl) ?_
    refine r_get cx hw inX2_keepDraft_2 0 0 rfl rfl (by decide) lkX2_keepDraft_4 rfl dX2_keepDraft_28 ?_
    refine lv_aload_n hx hb dX2_keepDraft_31 rfl (lv_at hl 0 rfl) ?_
    refine r_get cx hw inX2_keepDraft_2 0 9 rfl rfl (by decide) lkX2_keepDraft_2 rfl dX2_keepDraft_32 ?_
    refine r_cald cx hw 1 0 rfl rfl ne rfl (by omega) (by omega) dX2_keepDraft_35 ?_
    refine lv_bipush (v := nI 105) hx hb dX2_keepDraft_36 (by decide) ?_
    refine lv_icmp_ne (tgt := 59) hx hb dX2_keepDraft_38 (by decide) (fun c38 => ?_) (fun c38 => ?_)
    · refine lv_aload_n hx hb dX2_keepDraft_59 rfl (lv_at hl 0 rfl) ?_
      refine lv_dup hx hb dX2_keepDraft_60 rfl ?_
      refine r_get cx hw inX2_keepDraft_2 0 9 rfl rfl (by decide) lkX2_keepDraft_2 rfl dX2_keepDraft_61 ?_
      refine lv_iconst (v := nI 1) hx hb dX2_keepDraft_64 (by decide) ?_
      refine r_iadd cx ne 1 rfl rfl dX2_keepDraft_65 ?_
      refine r_put cx hw inX2_keepDraft_2 tyX2 tyX2_ok nmX2 0 9 rfl rfl (by decide) lkX2_keepDraft_2 rfl rfl rfl (Nat.le_of_ble_eq_true rfl) dX2_keepDraft_66 (fun H locs hw => ?_)
      have hw : ww D (TY cC cI cJ cZ cD) s A s.heap [(h0, .inr (4, [.ref h0K, .ref h0A, .ref h0P, .ref h0C, .ref h0G, .ref h0O, .ref h0F, .ref h0L, .ref h0S, .int (nI (ne + 1)), .int (nI lu)])), (h0K, .inl (cC, 40, .inl eK)), (h0A, .inl (cI, 40, .inl (fun k => nI (eA k)))), (h0P, .inl (cI, 40, .inl (fun k => nI (eP k)))), (h0C, .inl (cI, 40, .inl (fun k => nI (eC k)))), (h0G, .inl (cI, 40, .inl (fun k => nI (eG k)))), (h0O, .inl (cI, 40, .inl (upd eO ne co9))), (h0F, .inl (cI, 40, .inl (upd eF ne fe9))), (h0L, .inl (cC, 800, .inl eL)), (h0S, .inl (cI, 40, .inl (fun k => nI (eS k))))] H locs := hw
      have e9 : klu eK eC ne lu = lu := if_neg c38
      have hw : ww D (TY cC cI cJ cZ cD) s A s.heap [(h0, .inr (4, [.ref h0K, .ref h0A, .ref h0P, .ref h0C, .ref h0G, .ref h0O, .ref h0F, .ref h0L, .ref h0S, .int (nI (ne + 1)), .int (nI (klu eK eC ne lu))])), (h0K, .inl (cC, 40, .inl eK)), (h0A, .inl (cI, 40, .inl (fun k => nI (eA k)))), (h0P, .inl (cI, 40, .inl (fun k => nI (eP k)))), (h0C, .inl (cI, 40, .inl (fun k => nI (eC k)))), (h0G, .inl (cI, 40, .inl (fun k => nI (eG k)))), (h0O, .inl (cI, 40, .inl (upd eO ne co9))), (h0F, .inl (cI, 40, .inl (upd eF ne fe9))), (h0L, .inl (cC, 800, .inl eL)), (h0S, .inl (cI, 40, .inl (fun k => nI (eS k))))] H locs := by rw [e9]; exact hw
      subst hQ
      exact r_retv cx hr hlk hw (Nat.le_of_ble_eq_true rfl) (Nat.le_of_ble_eq_true rfl) () trivial [0, 1, 2, 3, 4, 5, 6, 7, 8, 9] (by decide) rfl dX2_keepDraft_69
    · refine lv_aload_n hx hb dX2_keepDraft_41 rfl (lv_at hl 0 rfl) ?_
      refine lv_dup hx hb dX2_keepDraft_42 rfl ?_
      refine r_get cx hw inX2_keepDraft_2 0 10 rfl rfl (by decide) lkX2_keepDraft_5 rfl dX2_keepDraft_43 ?_
      refine lv_aload_n hx hb dX2_keepDraft_46 rfl (lv_at hl 0 rfl) ?_
      refine r_get cx hw inX2_keepDraft_2 0 3 rfl rfl (by decide) lkX2_keepDraft_6 rfl dX2_keepDraft_47 ?_
      refine lv_aload_n hx hb dX2_keepDraft_50 rfl (lv_at hl 0 rfl) ?_
      refine r_get cx hw inX2_keepDraft_2 0 9 rfl rfl (by decide) lkX2_keepDraft_2 rfl dX2_keepDraft_51 ?_
      refine r_iald cx hw 4 1 rfl rfl ne rfl (by omega) (by omega) dX2_keepDraft_54 ?_
      refine r_iadd cx lu (eC ne) rfl rfl dX2_keepDraft_55 ?_
      refine r_put cx hw inX2_keepDraft_2 tyX2 tyX2_ok nmX2 0 10 rfl rfl (by decide) lkX2_keepDraft_5 rfl rfl rfl (Nat.le_of_ble_eq_true rfl) dX2_keepDraft_56 (fun H locs hw => ?_)
      have hw : ww D (TY cC cI cJ cZ cD) s A s.heap [(h0, .inr (4, [.ref h0K, .ref h0A, .ref h0P, .ref h0C, .ref h0G, .ref h0O, .ref h0F, .ref h0L, .ref h0S, .int (nI ne), .int (nI (lu + (eC ne)))])), (h0K, .inl (cC, 40, .inl eK)), (h0A, .inl (cI, 40, .inl (fun k => nI (eA k)))), (h0P, .inl (cI, 40, .inl (fun k => nI (eP k)))), (h0C, .inl (cI, 40, .inl (fun k => nI (eC k)))), (h0G, .inl (cI, 40, .inl (fun k => nI (eG k)))), (h0O, .inl (cI, 40, .inl (upd eO ne co9))), (h0F, .inl (cI, 40, .inl (upd eF ne fe9))), (h0L, .inl (cC, 800, .inl eL)), (h0S, .inl (cI, 40, .inl (fun k => nI (eS k))))] H locs := hw
      refine lv_aload_n hx hb dX2_keepDraft_59 rfl (lv_at hl 0 rfl) ?_
      refine lv_dup hx hb dX2_keepDraft_60 rfl ?_
      refine r_get cx hw inX2_keepDraft_2 0 9 rfl rfl (by decide) lkX2_keepDraft_2 rfl dX2_keepDraft_61 ?_
      refine lv_iconst (v := nI 1) hx hb dX2_keepDraft_64 (by decide) ?_
      refine r_iadd cx ne 1 rfl rfl dX2_keepDraft_65 ?_
      refine r_put cx hw inX2_keepDraft_2 tyX2 tyX2_ok nmX2 0 9 rfl rfl (by decide) lkX2_keepDraft_2 rfl rfl rfl (Nat.le_of_ble_eq_true rfl) dX2_keepDraft_66 (fun H locs hw => ?_)
      have hw : ww D (TY cC cI cJ cZ cD) s A s.heap [(h0, .inr (4, [.ref h0K, .ref h0A, .ref h0P, .ref h0C, .ref h0G, .ref h0O, .ref h0F, .ref h0L, .ref h0S, .int (nI (ne + 1)), .int (nI (lu + (eC ne)))])), (h0K, .inl (cC, 40, .inl eK)), (h0A, .inl (cI, 40, .inl (fun k => nI (eA k)))), (h0P, .inl (cI, 40, .inl (fun k => nI (eP k)))), (h0C, .inl (cI, 40, .inl (fun k => nI (eC k)))), (h0G, .inl (cI, 40, .inl (fun k => nI (eG k)))), (h0O, .inl (cI, 40, .inl (upd eO ne co9))), (h0F, .inl (cI, 40, .inl (upd eF ne fe9))), (h0L, .inl (cC, 800, .inl eL)), (h0S, .inl (cI, 40, .inl (fun k => nI (eS k))))] H locs := hw
      have e9 : klu eK eC ne lu = lu + eC ne := if_pos c38
      have hw : ww D (TY cC cI cJ cZ cD) s A s.heap [(h0, .inr (4, [.ref h0K, .ref h0A, .ref h0P, .ref h0C, .ref h0G, .ref h0O, .ref h0F, .ref h0L, .ref h0S, .int (nI (ne + 1)), .int (nI (klu eK eC ne lu))])), (h0K, .inl (cC, 40, .inl eK)), (h0A, .inl (cI, 40, .inl (fun k => nI (eA k)))), (h0P, .inl (cI, 40, .inl (fun k => nI (eP k)))), (h0C, .inl (cI, 40, .inl (fun k => nI (eC k)))), (h0G, .inl (cI, 40, .inl (fun k => nI (eG k)))), (h0O, .inl (cI, 40, .inl (upd eO ne co9))), (h0F, .inl (cI, 40, .inl (upd eF ne fe9))), (h0L, .inl (cC, 800, .inl eL)), (h0S, .inl (cI, 40, .inl (fun k => nI (eS k))))] H locs := by rw [e9]; exact hw
      subst hQ
      exact r_retv cx hr hlk hw (Nat.le_of_ble_eq_true rfl) (Nat.le_of_ble_eq_true rfl) () trivial [0, 1, 2, 3, 4, 5, 6, 7, 8, 9] (by decide) rfl dX2_keepDraft_69

theorem lkX2_sumOfCosts_1 : Cond.fieldLink RX2 40 "SignedDocument$EditLog" "size" "I" ∈ wsX2_sumOfCosts := List.mem_of_getElem? (i := 1) rfl
theorem inX2_sumOfCosts_2 : ∀ w ∈ u_ws RX2 TX2 11, w ∈ wsX2_sumOfCosts := fun _ h => List.mem_cons_of_mem _ (List.mem_append_left _ (List.mem_append_right _ h))
theorem lkX2_sumOfCosts_2 : Cond.fieldLink RX2 28 "SignedDocument$EditLog" "costs" "[I" ∈ wsX2_sumOfCosts := List.mem_of_getElem? (i := 2) rfl
set_option maxRecDepth 100000 in
set_option maxHeartbeats 4000000 in
theorem mX2_sumOfCosts (l : Launch) (D : va_G) (cC cI cJ cZ cD : ClassId) (h0 h0K h0A h0P h0C h0G h0O h0F h0L h0S : Nat) (ne lu : Nat) (eK eO eF eL : Nat → Int32) (eA eP eC eG eS : Nat → Nat) (sz : Nat) (hne : ne ≤ 40) : ML l yX2_sumOfCosts wsX2_sumOfCosts ({ frames := 0, cells := 0, slots := 0, locals := 0 }) [.ref h0] D (TY cC cI cJ cZ cD) [(h0, .inr (4, [.ref h0K, .ref h0A, .ref h0P, .ref h0C, .ref h0G, .ref h0O, .ref h0F, .ref h0L, .ref h0S, .int (nI ne), .int (nI lu)])), (h0K, .inl (cC, 40, .inl eK)), (h0A, .inl (cI, 40, .inl (fun k => nI (eA k)))), (h0P, .inl (cI, 40, .inl (fun k => nI (eP k)))), (h0C, .inl (cI, 40, .inl (fun k => nI (eC k)))), (h0G, .inl (cI, 40, .inl (fun k => nI (eG k)))), (h0O, .inl (cI, 40, .inl eO)), (h0F, .inl (cI, 40, .inl eF)), (h0L, .inl (cC, 800, .inl eL)), (h0S, .inl (cI, 40, .inl (fun k => nI (eS k))))] sz (fun (r : Int64) => fun (_ : Unit) => r = sml eO ne) (fun (_ : Unit) => [(h0, .inr (4, [.ref h0K, .ref h0A, .ref h0P, .ref h0C, .ref h0G, .ref h0O, .ref h0F, .ref h0L, .ref h0S, .int (nI ne), .int (nI lu)])), (h0K, .inl (cC, 40, .inl eK)), (h0A, .inl (cI, 40, .inl (fun k => nI (eA k)))), (h0P, .inl (cI, 40, .inl (fun k => nI (eP k)))), (h0C, .inl (cI, 40, .inl (fun k => nI (eC k)))), (h0G, .inl (cI, 40, .inl (fun k => nI (eG k)))), (h0O, .inl (cI, 40, .inl eO)), (h0F, .inl (cI, 40, .inl eF)), (h0L, .inl (cC, 800, .inl eL)), (h0S, .inl (cI, 40, .inl (fun k => nI (eS k))))]) 0 0 := by
  refine mk_ML (cc := cX2_sumOfCosts) (maxL := 4) (ret := (some .long)) (by decide) rfl (Nat.le_of_ble_eq_true rfl) ?_
  intro p e s mI args below meth cO A cx hr hlk hnm hw ls hl
  have hx := cx.1
  have hb := cx.2.1
  have hw : ww D (TY cC cI cJ cZ cD) s A s.heap [(h0, .inr (4, [.ref h0K, .ref h0A, .ref h0P, .ref h0C, .ref h0G, .ref h0O, .ref h0F, .ref h0L, .ref h0S, .int (nI ne), .int (nI lu)])), (h0K, .inl (cC, 40, .inl eK)), (h0A, .inl (cI, 40, .inl (fun k => nI (eA k)))), (h0P, .inl (cI, 40, .inl (fun k => nI (eP k)))), (h0C, .inl (cI, 40, .inl (fun k => nI (eC k)))), (h0G, .inl (cI, 40, .inl (fun k => nI (eG k)))), (h0O, .inl (cI, 40, .inl eO)), (h0F, .inl (cI, 40, .inl eF)), (h0L, .inl (cC, 800, .inl eL)), (h0S, .inl (cI, 40, .inl (fun k => nI (eS k))))] s.heap [] := hw
  have hl : lv_has ls 4 [(0, .ref h0)] := hl
  generalize hQ : MQ _ _ _ _ _ _ _ = Q
  refine hp_start hw (fun H locs hw => ?_)
  refine lv_lconst (v := 0) hx hb dX2_sumOfCosts_0 (by decide) ?_
  refine lv_lstore_n (lv' := [(1, .long 0), (0, .ref h0)]) hx hb dX2_sumOfCosts_1 rfl hl (by decide) rfl (fun ls hl => ?_)
  refine lv_iconst (v := nI 0) hx hb dX2_sumOfCosts_2 (by decide) ?_
  refine lv_istore_n (lv' := [(3, .int (nI 0)), (1, .long 0), (0, .ref h0)]) hx hb dX2_sumOfCosts_3 rfl hl (by decide) rfl (fun ls hl => ?_)
  have K4_0 : ∀ (f : Nat) (q : Int64) (i : Nat), (40 - i) < f → (i ≤ ne) → (q = sml eO i) → ∀ (H : Heap) (locs : List Loc), ww D (TY cC cI cJ cZ cD) s A s.heap [(h0, .inr (4, [.ref h0K, .ref h0A, .ref h0P, .ref h0C, .ref h0G, .ref h0O, .ref h0F, .ref h0L, .ref h0S, .int (nI ne), .int (nI lu)])), (h0K, .inl (cC, 40, .inl eK)), (h0A, .inl (cI, 40, .inl (fun k => nI (eA k)))), (h0P, .inl (cI, 40, .inl (fun k => nI (eP k)))), (h0C, .inl (cI, 40, .inl (fun k => nI (eC k)))), (h0G, .inl (cI, 40, .inl (fun k => nI (eG k)))), (h0O, .inl (cI, 40, .inl eO)), (h0F, .inl (cI, 40, .inl eF)), (h0L, .inl (cC, 800, .inl eL)), (h0S, .inl (cI, 40, .inl (fun k => nI (eS k))))] H locs → ∀ ls : Array Slot, lv_has ls 4 [(0, .ref h0), (1, .long q), (3, .int (nI i))] → W p l e ({ frames := 0, cells := 0, slots := 0, locals := 0 } : Room) s mI args below meth cO H locs 0 0 Q (F0 mI 4 ls []) := by
    intro f
    induction f with
    | zero => intro q i hms9; exact absurd hms9 (Nat.not_lt_zero _)
    | succ f ih4 =>
      intro q i hms9 hi hq H locs hw ls hl
      refine lv_iload_n hx hb dX2_sumOfCosts_4 rfl (lv_at hl 2 rfl) ?_
      refine lv_aload_n hx hb dX2_sumOfCosts_5 rfl (lv_at hl 0 rfl) ?_
      refine r_get cx hw inX2_sumOfCosts_2 0 9 rfl rfl (by decide) lkX2_sumOfCosts_1 rfl dX2_sumOfCosts_6 ?_
      refine r_icmp_ge cx 28 i ne rfl rfl (by omega) (by omega) dX2_sumOfCosts_9 (by decide) (fun c9 => ?_) (fun c9 => ?_)
      · refine lv_lload_n hx hb dX2_sumOfCosts_28 rfl (lv_at hl 1 rfl) ?_
        subst hQ
        exact r_retl (v := q) cx hr hlk hw (Nat.le_of_ble_eq_true rfl) (Nat.le_of_ble_eq_true rfl) () (by rw [hq, show i = ne by omega]) [0, 1, 2, 3, 4, 5, 6, 7, 8, 9] (by decide) rfl dX2_sumOfCosts_29
      · refine lv_lload_n hx hb dX2_sumOfCosts_12 rfl (lv_at hl 1 rfl) ?_
        refine lv_aload_n hx hb dX2_sumOfCosts_13 rfl (lv_at hl 0 rfl) ?_
        refine r_get cx hw inX2_sumOfCosts_2 0 5 rfl rfl (by decide) lkX2_sumOfCosts_2 rfl dX2_sumOfCosts_14 ?_
        refine lv_iload_n hx hb dX2_sumOfCosts_17 rfl (lv_at hl 2 rfl) ?_
        refine r_iald cx hw 6 1 rfl rfl i rfl (by omega) (by omega) dX2_sumOfCosts_18 ?_
        refine lv_i2l (v := (eO i).toInt64) hx hb dX2_sumOfCosts_19 rfl ?_
        refine lv_ladd hx hb dX2_sumOfCosts_20 ?_
        refine lv_lstore_n (lv' := [(1, .long (q + ((eO i).toInt64))), (0, .ref h0), (3, .int (nI i))]) hx hb dX2_sumOfCosts_21 rfl hl (by decide) rfl (fun ls hl => ?_)
        refine lv_iinc (v := nI (i + 1)) (lv' := [(3, .int (nI (i + 1))), (1, .long (q + ((eO i).toInt64))), (0, .ref h0)]) hx hb dX2_sumOfCosts_22 hl (k := 2) rfl (by rw [ii1, nI_1]) (by decide) rfl (fun ls hl => ?_)
        refine lv_goto (tgt := 4) hx hb dX2_sumOfCosts_25 (by decide) ?_
        exact ih4 (q + ((eO i).toInt64)) (i + 1) (by omega) (by omega) (by rw [hq]; rfl) _ _ hw _ (lv_sub hl [2, 1, 0] rfl)
  exact K4_0 _ 0 0 (Nat.lt_succ_self _) (by omega) (by rfl) _ _ hw _ (lv_sub hl [2, 1, 0] rfl)

theorem lkX2_performInsertion_1 : Cond.fieldLink RX2 19 "SignedDocument$EditLog" "positions" "[I" ∈ wsX2_performInsertion := List.mem_of_getElem? (i := 1) rfl
theorem inX2_performInsertion_2 : ∀ w ∈ u_ws RX2 TX2 11, w ∈ wsX2_performInsertion := fun _ h => List.mem_cons_of_mem _ (List.mem_append_left _ (List.mem_append_left _ (List.mem_append_right _ h)))
theorem lkX2_performInsertion_2 : Cond.fieldLink RX2 37 "SignedDocument$EditLog" "starts" "[I" ∈ wsX2_performInsertion := List.mem_of_getElem? (i := 2) rfl
theorem lkX2_performInsertion_3 : Cond.fieldLink RX2 22 "SignedDocument$EditLog" "counts" "[I" ∈ wsX2_performInsertion := List.mem_of_getElem? (i := 3) rfl
theorem lkX2_performInsertion_6 : Cond.fieldLink RX2 70 "SignedDocument$Passage" "size" "I" ∈ wsX2_performInsertion := List.mem_of_getElem? (i := 6) rfl
theorem inX2_performInsertion_4 : ∀ w ∈ u_ws RX4 TX4 4, w ∈ wsX2_performInsertion := fun _ h => List.mem_cons_of_mem _ (List.mem_append_left _ (List.mem_append_right _ h))
theorem lkX2_performInsertion_4 : Cond.fieldLink RX2 34 "SignedDocument$EditLog" "letters" "[C" ∈ wsX2_performInsertion := List.mem_of_getElem? (i := 4) rfl
theorem lkX2_performInsertion_5 : Cond.fieldLink RX2 15 "SignedDocument$EditLog" "authors" "[I" ∈ wsX2_performInsertion := List.mem_of_getElem? (i := 5) rfl
set_option maxRecDepth 100000 in
set_option maxHeartbeats 4000000 in
theorem mX2_performInsertion (l : Launch) (D : va_G) (cC cI cJ cZ cD : ClassId) (l0 l0K l0A l0P l0C l0G l0O l0F l0L l0S h1 h1L h1A h1C h0 h0L h0A h0C : Nat) (ne lu : Nat) (eK eO eF eL : Nat → Int32) (eA eP eC eG eS : Nat → Nat) (m e9 : Nat) (fL fA fC gL gA gC : Nat → Int32) (sz : Nat) (he9 : e9 < 40) (hm : m ≤ 60) (hp9 : eP e9 ≤ m) (hc9 : m + eC e9 ≤ 60) (hs9 : eS e9 + eC e9 ≤ 800) (hfL : ∀ j, vp_nar .char (fL j) = fL j) (hgL : ∀ j, vp_nar .char (gL j) = gL j) (heL : ∀ j, vp_nar .char (eL j) = eL j) : MV l yX2_performInsertion wsX2_performInsertion ({ frames := 2, cells := 0, slots := 0, locals := 47 }) [.ref l0, .int (nI e9), .ref h1, .ref h0] D (TY cC cI cJ cZ cD) [(l0, .inr (4, [.ref l0K, .ref l0A, .ref l0P, .ref l0C, .ref l0G, .ref l0O, .ref l0F, .ref l0L, .ref l0S, .int (nI ne), .int (nI lu)])), (l0K, .inl (cC, 40, .inl eK)), (l0A, .inl (cI, 40, .inl (fun k => nI (eA k)))), (l0P, .inl (cI, 40, .inl (fun k => nI (eP k)))), (l0C, .inl (cI, 40, .inl (fun k => nI (eC k)))), (l0G, .inl (cI, 40, .inl (fun k => nI (eG k)))), (l0O, .inl (cI, 40, .inl eO)), (l0F, .inl (cI, 40, .inl eF)), (l0L, .inl (cC, 800, .inl eL)), (l0S, .inl (cI, 40, .inl (fun k => nI (eS k)))), (h1, .inr (6, [.ref h1L, .ref h1A, .ref h1C, .int (nI m)])), (h1L, .inl (cC, 60, .inl gL)), (h1A, .inl (cI, 60, .inl gA)), (h1C, .inl (cI, 60, .inl gC)), (h0, .inr (6, [.ref h0L, .ref h0A, .ref h0C, .int (nI 0)])), (h0L, .inl (cC, 60, .inl fL)), (h0A, .inl (cI, 60, .inl fA)), (h0C, .inl (cI, 60, .inl fC))] sz (fun (_ : Unit) => True) (fun (_ : Unit) => [(l0, .inr (4, [.ref l0K, .ref l0A, .ref l0P, .ref l0C, .ref l0G, .ref l0O, .ref l0F, .ref l0L, .ref l0S, .int (nI ne), .int (nI lu)])), (l0K, .inl (cC, 40, .inl eK)), (l0A, .inl (cI, 40, .inl (fun k => nI (eA k)))), (l0P, .inl (cI, 40, .inl (fun k => nI (eP k)))), (l0C, .inl (cI, 40, .inl (fun k => nI (eC k)))), (l0G, .inl (cI, 40, .inl (fun k => nI (eG k)))), (l0O, .inl (cI, 40, .inl eO)), (l0F, .inl (cI, 40, .inl eF)), (l0L, .inl (cC, 800, .inl eL)), (l0S, .inl (cI, 40, .inl (fun k => nI (eS k)))), (h1, .inr (6, [.ref h1L, .ref h1A, .ref h1C, .int (nI m)])), (h1L, .inl (cC, 60, .inl gL)), (h1A, .inl (cI, 60, .inl gA)), (h1C, .inl (cI, 60, .inl gC)), (h0, .inr (6, [.ref h0L, .ref h0A, .ref h0C, .int (nI (m + eC e9))])), (h0L, .inl (cC, 60, .inl (insR gL fL eL (eP e9) (eC e9) m (eS e9)))), (h0A, .inl (cI, 60, .inl (insK gA fA (nI (eA e9)) (eP e9) (eC e9) m))), (h0C, .inl (cI, 60, .inl (insK gC fC (ard gC m (eP e9) (eP e9)) (eP e9) (eC e9) m)))]) 0 0 := by
  refine mk_MV (cc := cX2_performInsertion) (maxL := 8) (ret := none) (by decide) rfl (Nat.le_of_ble_eq_true rfl) ?_
  intro p e s mI args below meth cO A cx hr hlk hnm hw ls hl
  have hx := cx.1
  have hb := cx.2.1
  have hw : ww D (TY cC cI cJ cZ cD) s A s.heap [(l0, .inr (4, [.ref l0K, .ref l0A, .ref l0P, .ref l0C, .ref l0G, .ref l0O, .ref l0F, .ref l0L, .ref l0S, .int (nI ne), .int (nI lu)])), (l0K, .inl (cC, 40, .inl eK)), (l0A, .inl (cI, 40, .inl (fun k => nI (eA k)))), (l0P, .inl (cI, 40, .inl (fun k => nI (eP k)))), (l0C, .inl (cI, 40, .inl (fun k => nI (eC k)))), (l0G, .inl (cI, 40, .inl (fun k => nI (eG k)))), (l0O, .inl (cI, 40, .inl eO)), (l0F, .inl (cI, 40, .inl eF)), (l0L, .inl (cC, 800, .inl eL)), (l0S, .inl (cI, 40, .inl (fun k => nI (eS k)))), (h1, .inr (6, [.ref h1L, .ref h1A, .ref h1C, .int (nI m)])), (h1L, .inl (cC, 60, .inl gL)), (h1A, .inl (cI, 60, .inl gA)), (h1C, .inl (cI, 60, .inl gC)), (h0, .inr (6, [.ref h0L, .ref h0A, .ref h0C, .int (nI 0)])), (h0L, .inl (cC, 60, .inl fL)), (h0A, .inl (cI, 60, .inl fA)), (h0C, .inl (cI, 60, .inl fC))] s.heap [] := hw
  have hl : lv_has ls 8 [(0, .ref l0), (1, .int (nI e9)), (2, .ref h1), (3, .ref h0)] := hl
  generalize hQ : MQ _ _ _ _ _ _ _ = Q
  refine hp_start hw (fun H locs hw => ?_)
  refine lv_aload_n hx hb dX2_performInsertion_0 rfl (lv_at hl 0 rfl) ?_
  refine r_get cx hw inX2_performInsertion_2 0 2 rfl rfl (by decide) lkX2_performInsertion_1 rfl dX2_performInsertion_1 ?_
  refine lv_iload_n hx hb dX2_performInsertion_4 rfl (lv_at hl 1 rfl) ?_
  refine r_iald cx hw 3 1 rfl rfl e9 rfl (by omega) (by omega) dX2_performInsertion_5 ?_
  refine lv_istore (lv' := [(4, .int (nI (eP e9))), (0, .ref l0), (1, .int (nI e9)), (2, .ref h1), (3, .ref h0)]) hx hb dX2_performInsertion_6 hl (by decide) rfl (fun ls hl => ?_)
  refine lv_aload_n hx hb dX2_performInsertion_8 rfl (lv_at hl 3 rfl) ?_
  refine lv_iload hx hb dX2_performInsertion_9 (lv_at hl 0 rfl) ?_
  refine lv_iload hx hb dX2_performInsertion_11 (lv_at hl 0 rfl) ?_
  refine r_callVi (n := 2) (wr := [(l0, .inr (4, [.ref l0K, .ref l0A, .ref l0P, .ref l0C, .ref l0G, .ref l0O, .ref l0F, .ref l0L, .ref l0S, .int (nI ne), .int (nI lu)])), (l0K, .inl (cC, 40, .inl eK)), (l0A, .inl (cI, 40, .inl (fun k => nI (eA k)))), (l0P, .inl (cI, 40, .inl (fun k => nI (eP k)))), (l0C, .inl (cI, 40, .inl (fun k => nI (eC k)))), (l0G, .inl (cI, 40, .inl (fun k => nI (eG k)))), (l0O, .inl (cI, 40, .inl eO)), (l0F, .inl (cI, 40, .inl eF)), (l0L, .inl (cC, 800, .inl eL)), (l0S, .inl (cI, 40, .inl (fun k => nI (eS k)))), (h0, .inr (6, [.ref h0L, .ref h0A, .ref h0C, .int (nI 0)])), (h0L, .inl (cC, 60, .inl fL)), (h0A, .inl (cI, 60, .inl fA)), (h0C, .inl (cI, 60, .inl fC))]) cx hw (mX4_clauseAround l D cC cI cJ cZ cD h1 h1L h1A h1C m gL gA gC (eP e9) (eP e9) H.size (by omega) hm (by omega)) [10, 11, 12, 13] [0, 1, 2, 3, 4, 5, 6, 7, 8, 9, 14, 15, 16, 17] gX2_performInsertion_X4_clauseAround rfl rfl rfl (by decide +kernel) ⟨Nat.le_of_ble_eq_true rfl, Nat.le_of_ble_eq_true rfl⟩ (q0 := 10) rfl rfl rfl rfl (by decide) (by decide) (by decide) rfl rfl hl.1 (Nat.le_of_ble_eq_true rfl) dX2_performInsertion_13 ⟨Nat.le_of_ble_eq_true rfl, Nat.le_of_ble_eq_true rfl⟩ (fun r_1 u H locs hp hw => ?_)
  have hw : ww D (TY cC cI cJ cZ cD) s A s.heap [(l0, .inr (4, [.ref l0K, .ref l0A, .ref l0P, .ref l0C, .ref l0G, .ref l0O, .ref l0F, .ref l0L, .ref l0S, .int (nI ne), .int (nI lu)])), (l0K, .inl (cC, 40, .inl eK)), (l0A, .inl (cI, 40, .inl (fun k => nI (eA k)))), (l0P, .inl (cI, 40, .inl (fun k => nI (eP k)))), (l0C, .inl (cI, 40, .inl (fun k => nI (eC k)))), (l0G, .inl (cI, 40, .inl (fun k => nI (eG k)))), (l0O, .inl (cI, 40, .inl eO)), (l0F, .inl (cI, 40, .inl eF)), (l0L, .inl (cC, 800, .inl eL)), (l0S, .inl (cI, 40, .inl (fun k => nI (eS k)))), (h0, .inr (6, [.ref h0L, .ref h0A, .ref h0C, .int (nI 0)])), (h0L, .inl (cC, 60, .inl fL)), (h0A, .inl (cI, 60, .inl fA)), (h0C, .inl (cI, 60, .inl fC)), (h1, .inr (6, [.ref h1L, .ref h1A, .ref h1C, .int (nI m)])), (h1L, .inl (cC, 60, .inl gL)), (h1A, .inl (cI, 60, .inl gA)), (h1C, .inl (cI, 60, .inl gC))] H locs := hw
  try dsimp only at hp
  subst hp
  refine lv_istore (lv' := [(5, .int (ard gC m (eP e9) (eP e9))), (4, .int (nI (eP e9))), (0, .ref l0), (1, .int (nI e9)), (2, .ref h1), (3, .ref h0)]) hx hb dX2_performInsertion_16 hl (by decide) rfl (fun ls hl => ?_)
  refine lv_aload_n hx hb dX2_performInsertion_18 rfl (lv_at hl 2 rfl) ?_
  refine r_get cx hw inX2_performInsertion_2 0 8 rfl rfl (by decide) lkX2_performInsertion_2 rfl dX2_performInsertion_19 ?_
  refine lv_iload_n hx hb dX2_performInsertion_22 rfl (lv_at hl 3 rfl) ?_
  refine r_iald cx hw 9 1 rfl rfl e9 rfl (by omega) (by omega) dX2_performInsertion_23 ?_
  refine lv_istore (lv' := [(6, .int (nI (eS e9))), (5, .int (ard gC m (eP e9) (eP e9))), (4, .int (nI (eP e9))), (0, .ref l0), (1, .int (nI e9)), (2, .ref h1), (3, .ref h0)]) hx hb dX2_performInsertion_24 hl (by decide) rfl (fun ls hl => ?_)
  refine lv_aload_n hx hb dX2_performInsertion_26 rfl (lv_at hl 6 rfl) ?_
  refine lv_aload_n hx hb dX2_performInsertion_27 rfl (lv_at hl 5 rfl) ?_
  refine lv_iconst (v := nI 0) hx hb dX2_performInsertion_28 (by decide) ?_
  refine lv_iload hx hb dX2_performInsertion_29 (lv_at hl 2 rfl) ?_
  refine r_callVv (n := 3) (wr := [(l0, .inr (4, [.ref l0K, .ref l0A, .ref l0P, .ref l0C, .ref l0G, .ref l0O, .ref l0F, .ref l0L, .ref l0S, .int (nI ne), .int (nI lu)])), (l0K, .inl (cC, 40, .inl eK)), (l0A, .inl (cI, 40, .inl (fun k => nI (eA k)))), (l0P, .inl (cI, 40, .inl (fun k => nI (eP k)))), (l0C, .inl (cI, 40, .inl (fun k => nI (eC k)))), (l0G, .inl (cI, 40, .inl (fun k => nI (eG k)))), (l0O, .inl (cI, 40, .inl eO)), (l0F, .inl (cI, 40, .inl eF)), (l0L, .inl (cC, 800, .inl eL)), (l0S, .inl (cI, 40, .inl (fun k => nI (eS k))))]) cx hw (mX4_append l D cC cI cJ cZ cD h0 h0L h0A h0C h1 h1L h1A h1C 0 m fL fA fC gL gA gC 0 (eP e9) H.size (by omega) (by omega) hm (by omega) hfL hgL) [10, 11, 12, 13, 14, 15, 16, 17] [0, 1, 2, 3, 4, 5, 6, 7, 8, 9] gX2_performInsertion_X4_append rfl rfl rfl (by decide +kernel) ⟨Nat.le_of_ble_eq_true rfl, Nat.le_of_ble_eq_true rfl⟩ (q0 := 10) rfl rfl rfl rfl (by decide) (by decide) (by decide) rfl rfl hl.1 (Nat.le_of_ble_eq_true rfl) dX2_performInsertion_31 ⟨Nat.le_of_ble_eq_true rfl, Nat.le_of_ble_eq_true rfl⟩ (fun u H locs hp hw => ?_)
  have hw : ww D (TY cC cI cJ cZ cD) s A s.heap [(l0, .inr (4, [.ref l0K, .ref l0A, .ref l0P, .ref l0C, .ref l0G, .ref l0O, .ref l0F, .ref l0L, .ref l0S, .int (nI ne), .int (nI lu)])), (l0K, .inl (cC, 40, .inl eK)), (l0A, .inl (cI, 40, .inl (fun k => nI (eA k)))), (l0P, .inl (cI, 40, .inl (fun k => nI (eP k)))), (l0C, .inl (cI, 40, .inl (fun k => nI (eC k)))), (l0G, .inl (cI, 40, .inl (fun k => nI (eG k)))), (l0O, .inl (cI, 40, .inl eO)), (l0F, .inl (cI, 40, .inl eF)), (l0L, .inl (cC, 800, .inl eL)), (l0S, .inl (cI, 40, .inl (fun k => nI (eS k)))), (h0, .inr (6, [.ref h0L, .ref h0A, .ref h0C, .int (nI (0 + ((eP e9) - 0)))])), (h0L, .inl (cC, 60, .inl (va_cpy gL fL 0 0 ((eP e9) - 0)))), (h0A, .inl (cI, 60, .inl (va_cpy gA fA 0 0 ((eP e9) - 0)))), (h0C, .inl (cI, 60, .inl (va_cpy gC fC 0 0 ((eP e9) - 0)))), (h1, .inr (6, [.ref h1L, .ref h1A, .ref h1C, .int (nI m)])), (h1L, .inl (cC, 60, .inl gL)), (h1A, .inl (cI, 60, .inl gA)), (h1C, .inl (cI, 60, .inl gC))] H locs := hw
  rw [Nat.sub_zero, Nat.zero_add] at hw
  have hw : ww D (TY cC cI cJ cZ cD) s A s.heap [(l0, .inr (4, [.ref l0K, .ref l0A, .ref l0P, .ref l0C, .ref l0G, .ref l0O, .ref l0F, .ref l0L, .ref l0S, .int (nI ne), .int (nI lu)])), (l0K, .inl (cC, 40, .inl eK)), (l0A, .inl (cI, 40, .inl (fun k => nI (eA k)))), (l0P, .inl (cI, 40, .inl (fun k => nI (eP k)))), (l0C, .inl (cI, 40, .inl (fun k => nI (eC k)))), (l0G, .inl (cI, 40, .inl (fun k => nI (eG k)))), (l0O, .inl (cI, 40, .inl eO)), (l0F, .inl (cI, 40, .inl eF)), (l0L, .inl (cC, 800, .inl eL)), (l0S, .inl (cI, 40, .inl (fun k => nI (eS k)))), (h0, .inr (6, [.ref h0L, .ref h0A, .ref h0C, .int (nI (eP e9))])), (h0L, .inl (cC, 60, .inl (va_cpy gL fL 0 0 (eP e9)))), (h0A, .inl (cI, 60, .inl (va_cpy gA fA 0 0 (eP e9)))), (h0C, .inl (cI, 60, .inl (va_cpy gC fC 0 0 (eP e9)))), (h1, .inr (6, [.ref h1L, .ref h1A, .ref h1C, .int (nI m)])), (h1L, .inl (cC, 60, .inl gL)), (h1A, .inl (cI, 60, .inl gA)), (h1C, .inl (cI, 60, .inl gC))] H locs := hw
  refine lv_iload hx hb dX2_performInsertion_34 (lv_at hl 0 rfl) ?_
  refine lv_istore (lv' := [(7, .int (nI (eS e9))), (6, .int (nI (eS e9))), (5, .int (ard gC m (eP e9) (eP e9))), (4, .int (nI (eP e9))), (0, .ref l0), (1, .int (nI e9)), (2, .ref h1), (3, .ref h0)]) hx hb dX2_performInsertion_36 hl (by decide) rfl (fun ls hl => ?_)
  have K38_2 : ∀ (f : Nat) (i : Nat) (o : Nat) (L1 : Nat → Int32) (A1 : Nat → Int32) (C1 : Nat → Int32), (801 - i) < f → (eS e9 ≤ i) → (i ≤ eS e9 + eC e9) → (o = eP e9 + (i - eS e9)) → (L1 = va_cpy eL (va_cpy gL fL 0 0 (eP e9)) (eS e9) (eP e9) (i - eS e9)) → (A1 = mk (va_cpy gA fA 0 0 (eP e9)) (eP e9) (i - eS e9) (nI (eA e9))) → (C1 = mk (va_cpy gC fC 0 0 (eP e9)) (eP e9) (i - eS e9) (ard gC m (eP e9) (eP e9))) → ∀ (H : Heap) (locs : List Loc), ww D (TY cC cI cJ cZ cD) s A s.heap [(l0, .inr (4, [.ref l0K, .ref l0A, .ref l0P, .ref l0C, .ref l0G, .ref l0O, .ref l0F, .ref l0L, .ref l0S, .int (nI ne), .int (nI lu)])), (l0K, .inl (cC, 40, .inl eK)), (l0A, .inl (cI, 40, .inl (fun k => nI (eA k)))), (l0P, .inl (cI, 40, .inl (fun k => nI (eP k)))), (l0C, .inl (cI, 40, .inl (fun k => nI (eC k)))), (l0G, .inl (cI, 40, .inl (fun k => nI (eG k)))), (l0O, .inl (cI, 40, .inl eO)), (l0F, .inl (cI, 40, .inl eF)), (l0L, .inl (cC, 800, .inl eL)), (l0S, .inl (cI, 40, .inl (fun k => nI (eS k)))), (h0, .inr (6, [.ref h0L, .ref h0A, .ref h0C, .int (nI o)])), (h0L, .inl (cC, 60, .inl L1)), (h0A, .inl (cI, 60, .inl A1)), (h0C, .inl (cI, 60, .inl C1)), (h1, .inr (6, [.ref h1L, .ref h1A, .ref h1C, .int (nI m)])), (h1L, .inl (cC, 60, .inl gL)), (h1A, .inl (cI, 60, .inl gA)), (h1C, .inl (cI, 60, .inl gC))] H locs → ∀ ls : Array Slot, lv_has ls 8 [(0, .ref l0), (1, .int (nI e9)), (2, .ref h1), (3, .ref h0), (4, .int (nI (eP e9))), (5, .int (ard gC m (eP e9) (eP e9))), (6, .int (nI (eS e9))), (7, .int (nI i))] → W p l e ({ frames := 2, cells := 0, slots := 0, locals := 47 } : Room) s mI args below meth cO H locs 0 0 Q (F0 mI 38 ls []) := by
    intro f
    induction f with
    | zero => intro i o L1 A1 C1 hms9; exact absurd hms9 (Nat.not_lt_zero _)
    | succ f ih38 =>
      intro i o L1 A1 C1 hms9 hi1 hi2 ho hL1 hA1 hC1 H locs hw ls hl
      have hL1c : ∀ j, vp_nar .char (L1 j) = L1 j := by rw [hL1]; exact CA_cpy heL (CA_cpy hgL hfL _ _ _) _ _ _
      refine lv_iload hx hb dX2_performInsertion_38 (lv_at hl 7 rfl) ?_
      refine lv_iload hx hb dX2_performInsertion_40 (lv_at hl 6 rfl) ?_
      refine lv_aload_n hx hb dX2_performInsertion_42 rfl (lv_at hl 0 rfl) ?_
      refine r_get cx hw inX2_performInsertion_2 0 3 rfl rfl (by decide) lkX2_performInsertion_3 rfl dX2_performInsertion_43 ?_
      refine lv_iload_n hx hb dX2_performInsertion_46 rfl (lv_at hl 1 rfl) ?_
      refine r_iald cx hw 4 1 rfl rfl e9 rfl (by omega) (by omega) dX2_performInsertion_47 ?_
      refine r_iadd cx (eS e9) (eC e9) rfl rfl dX2_performInsertion_48 ?_
      refine r_icmp_ge cx 87 i (eS e9 + (eC e9)) rfl rfl (by omega) (by omega) dX2_performInsertion_49 (by decide) (fun c49 => ?_) (fun c49 => ?_)
      · refine lv_aload_n hx hb dX2_performInsertion_87 rfl (lv_at hl 3 rfl) ?_
        refine lv_aload_n hx hb dX2_performInsertion_88 rfl (lv_at hl 2 rfl) ?_
        refine lv_iload hx hb dX2_performInsertion_89 (lv_at hl 4 rfl) ?_
        refine lv_aload_n hx hb dX2_performInsertion_91 rfl (lv_at hl 2 rfl) ?_
        refine r_get cx hw inX2_performInsertion_4 14 3 rfl rfl (by decide) lkX2_performInsertion_6 rfl dX2_performInsertion_92 ?_
        refine r_callVv (n := 3) (wr := [(l0, .inr (4, [.ref l0K, .ref l0A, .ref l0P, .ref l0C, .ref l0G, .ref l0O, .ref l0F, .ref l0L, .ref l0S, .int (nI ne), .int (nI lu)])), (l0K, .inl (cC, 40, .inl eK)), (l0A, .inl (cI, 40, .inl (fun k => nI (eA k)))), (l0P, .inl (cI, 40, .inl (fun k => nI (eP k)))), (l0C, .inl (cI, 40, .inl (fun k => nI (eC k)))), (l0G, .inl (cI, 40, .inl (fun k => nI (eG k)))), (l0O, .inl (cI, 40, .inl eO)), (l0F, .inl (cI, 40, .inl eF)), (l0L, .inl (cC, 800, .inl eL)), (l0S, .inl (cI, 40, .inl (fun k => nI (eS k))))]) cx hw (mX4_append l D cC cI cJ cZ cD h0 h0L h0A h0C h1 h1L h1A h1C o m L1 A1 C1 gL gA gC (eP e9) m H.size (by omega) (by omega) hm (by omega) hL1c hgL) [10, 11, 12, 13, 14, 15, 16, 17] [0, 1, 2, 3, 4, 5, 6, 7, 8, 9] gX2_performInsertion_X4_append rfl rfl rfl (by decide +kernel) ⟨Nat.le_of_ble_eq_true rfl, Nat.le_of_ble_eq_true rfl⟩ (q0 := 10) rfl rfl rfl rfl (by decide) (by decide) (by decide) rfl rfl hl.1 (Nat.le_of_ble_eq_true rfl) dX2_performInsertion_95 ⟨Nat.le_of_ble_eq_true rfl, Nat.le_of_ble_eq_true rfl⟩ (fun u H locs hp hw => ?_)
        have hw : ww D (TY cC cI cJ cZ cD) s A s.heap [(l0, .inr (4, [.ref l0K, .ref l0A, .ref l0P, .ref l0C, .ref l0G, .ref l0O, .ref l0F, .ref l0L, .ref l0S, .int (nI ne), .int (nI lu)])), (l0K, .inl (cC, 40, .inl eK)), (l0A, .inl (cI, 40, .inl (fun k => nI (eA k)))), (l0P, .inl (cI, 40, .inl (fun k => nI (eP k)))), (l0C, .inl (cI, 40, .inl (fun k => nI (eC k)))), (l0G, .inl (cI, 40, .inl (fun k => nI (eG k)))), (l0O, .inl (cI, 40, .inl eO)), (l0F, .inl (cI, 40, .inl eF)), (l0L, .inl (cC, 800, .inl eL)), (l0S, .inl (cI, 40, .inl (fun k => nI (eS k)))), (h0, .inr (6, [.ref h0L, .ref h0A, .ref h0C, .int (nI (o + (m - (eP e9))))])), (h0L, .inl (cC, 60, .inl (va_cpy gL L1 (eP e9) o (m - (eP e9))))), (h0A, .inl (cI, 60, .inl (va_cpy gA A1 (eP e9) o (m - (eP e9))))), (h0C, .inl (cI, 60, .inl (va_cpy gC C1 (eP e9) o (m - (eP e9))))), (h1, .inr (6, [.ref h1L, .ref h1A, .ref h1C, .int (nI m)])), (h1L, .inl (cC, 60, .inl gL)), (h1A, .inl (cI, 60, .inl gA)), (h1C, .inl (cI, 60, .inl gC))] H locs := hw
        have e8 : i - eS e9 = eC e9 := by omega
        rw [hL1, hA1, hC1, ho, e8, show eP e9 + eC e9 + (m - eP e9) = m + eC e9 by omega] at hw
        have hw : ww D (TY cC cI cJ cZ cD) s A s.heap [(l0, .inr (4, [.ref l0K, .ref l0A, .ref l0P, .ref l0C, .ref l0G, .ref l0O, .ref l0F, .ref l0L, .ref l0S, .int (nI ne), .int (nI lu)])), (l0K, .inl (cC, 40, .inl eK)), (l0A, .inl (cI, 40, .inl (fun k => nI (eA k)))), (l0P, .inl (cI, 40, .inl (fun k => nI (eP k)))), (l0C, .inl (cI, 40, .inl (fun k => nI (eC k)))), (l0G, .inl (cI, 40, .inl (fun k => nI (eG k)))), (l0O, .inl (cI, 40, .inl eO)), (l0F, .inl (cI, 40, .inl eF)), (l0L, .inl (cC, 800, .inl eL)), (l0S, .inl (cI, 40, .inl (fun k => nI (eS k)))), (h0, .inr (6, [.ref h0L, .ref h0A, .ref h0C, .int (nI (m + eC e9))])), (h0L, .inl (cC, 60, .inl (insR gL fL eL (eP e9) (eC e9) m (eS e9)))), (h0A, .inl (cI, 60, .inl (insK gA fA (nI (eA e9)) (eP e9) (eC e9) m))), (h0C, .inl (cI, 60, .inl (insK gC fC (ard gC m (eP e9) (eP e9)) (eP e9) (eC e9) m))), (h1, .inr (6, [.ref h1L, .ref h1A, .ref h1C, .int (nI m)])), (h1L, .inl (cC, 60, .inl gL)), (h1A, .inl (cI, 60, .inl gA)), (h1C, .inl (cI, 60, .inl gC))] H locs := hw
        subst hQ
        exact r_retv cx hr hlk hw (Nat.le_of_ble_eq_true rfl) (Nat.le_of_ble_eq_true rfl) () trivial [0, 1, 2, 3, 4, 5, 6, 7, 8, 9, 14, 15, 16, 17, 10, 11, 12, 13] (by decide) rfl dX2_performInsertion_98
      · refine lv_iload hx hb dX2_performInsertion_52 (lv_at hl 7 rfl) ?_
        refine lv_aload_n hx hb dX2_performInsertion_54 rfl (lv_at hl 0 rfl) ?_
        refine r_get cx hw inX2_performInsertion_2 0 7 rfl rfl (by decide) lkX2_performInsertion_4 rfl dX2_performInsertion_55 ?_
        refine r_alen cx hw 8 0 rfl rfl 800 rfl dX2_performInsertion_58 ?_
        refine r_icmp_ge cx 87 i 800 rfl rfl (by omega) (by omega) dX2_performInsertion_59 (by decide) (fun c59 => by omega) (fun c59 => ?_)
        refine lv_aload_n hx hb dX2_performInsertion_62 rfl (lv_at hl 3 rfl) ?_
        refine lv_aload_n hx hb dX2_performInsertion_63 rfl (lv_at hl 0 rfl) ?_
        refine r_get cx hw inX2_performInsertion_2 0 7 rfl rfl (by decide) lkX2_performInsertion_4 rfl dX2_performInsertion_64 ?_
        refine lv_iload hx hb dX2_performInsertion_67 (lv_at hl 7 rfl) ?_
        refine r_cald cx hw 8 0 rfl rfl i rfl (by omega) (by omega) dX2_performInsertion_69 ?_
        refine lv_aload_n hx hb dX2_performInsertion_70 rfl (lv_at hl 0 rfl) ?_
        refine r_get cx hw inX2_performInsertion_2 0 1 rfl rfl (by decide) lkX2_performInsertion_5 rfl dX2_performInsertion_71 ?_
        refine lv_iload_n hx hb dX2_performInsertion_74 rfl (lv_at hl 1 rfl) ?_
        refine r_iald cx hw 2 1 rfl rfl e9 rfl (by omega) (by omega) dX2_performInsertion_75 ?_
        refine lv_iload hx hb dX2_performInsertion_76 (lv_at hl 5 rfl) ?_
        refine r_callVv (n := 3) (wr := [(l0, .inr (4, [.ref l0K, .ref l0A, .ref l0P, .ref l0C, .ref l0G, .ref l0O, .ref l0F, .ref l0L, .ref l0S, .int (nI ne), .int (nI lu)])), (l0K, .inl (cC, 40, .inl eK)), (l0A, .inl (cI, 40, .inl (fun k => nI (eA k)))), (l0P, .inl (cI, 40, .inl (fun k => nI (eP k)))), (l0C, .inl (cI, 40, .inl (fun k => nI (eC k)))), (l0G, .inl (cI, 40, .inl (fun k => nI (eG k)))), (l0O, .inl (cI, 40, .inl eO)), (l0F, .inl (cI, 40, .inl eF)), (l0L, .inl (cC, 800, .inl eL)), (l0S, .inl (cI, 40, .inl (fun k => nI (eS k)))), (h1, .inr (6, [.ref h1L, .ref h1A, .ref h1C, .int (nI m)])), (h1L, .inl (cC, 60, .inl gL)), (h1A, .inl (cI, 60, .inl gA)), (h1C, .inl (cI, 60, .inl gC))]) cx hw (mX4_appendOne l D cC cI cJ cZ cD h0 h0L h0A h0C o L1 A1 C1 (eL i) (nI (eA e9)) (ard gC m (eP e9) (eP e9)) H.size (by omega) (heL i) hL1c) [10, 11, 12, 13] [0, 1, 2, 3, 4, 5, 6, 7, 8, 9, 14, 15, 16, 17] gX2_performInsertion_X4_appendOne rfl rfl rfl (by decide +kernel) ⟨Nat.le_of_ble_eq_true rfl, Nat.le_of_ble_eq_true rfl⟩ (q0 := 10) rfl rfl rfl rfl (by decide) (by decide) (by decide) rfl rfl hl.1 (Nat.le_of_ble_eq_true rfl) dX2_performInsertion_78 ⟨Nat.le_of_ble_eq_true rfl, Nat.le_of_ble_eq_true rfl⟩ (fun u H locs hp hw => ?_)
        have hw : ww D (TY cC cI cJ cZ cD) s A s.heap [(l0, .inr (4, [.ref l0K, .ref l0A, .ref l0P, .ref l0C, .ref l0G, .ref l0O, .ref l0F, .ref l0L, .ref l0S, .int (nI ne), .int (nI lu)])), (l0K, .inl (cC, 40, .inl eK)), (l0A, .inl (cI, 40, .inl (fun k => nI (eA k)))), (l0P, .inl (cI, 40, .inl (fun k => nI (eP k)))), (l0C, .inl (cI, 40, .inl (fun k => nI (eC k)))), (l0G, .inl (cI, 40, .inl (fun k => nI (eG k)))), (l0O, .inl (cI, 40, .inl eO)), (l0F, .inl (cI, 40, .inl eF)), (l0L, .inl (cC, 800, .inl eL)), (l0S, .inl (cI, 40, .inl (fun k => nI (eS k)))), (h1, .inr (6, [.ref h1L, .ref h1A, .ref h1C, .int (nI m)])), (h1L, .inl (cC, 60, .inl gL)), (h1A, .inl (cI, 60, .inl gA)), (h1C, .inl (cI, 60, .inl gC)), (h0, .inr (6, [.ref h0L, .ref h0A, .ref h0C, .int (nI (o + 1))])), (h0L, .inl (cC, 60, .inl (upd L1 o (eL i)))), (h0A, .inl (cI, 60, .inl (upd A1 o (nI (eA e9))))), (h0C, .inl (cI, 60, .inl (upd C1 o (ard gC m (eP e9) (eP e9)))))] H locs := hw
        refine lv_iinc (v := nI (i + 1)) (lv' := [(7, .int (nI (i + 1))), (0, .ref l0), (1, .int (nI e9)), (2, .ref h1), (3, .ref h0), (4, .int (nI (eP e9))), (5, .int (ard gC m (eP e9) (eP e9))), (6, .int (nI (eS e9)))]) hx hb dX2_performInsertion_81 hl (k := 7) rfl (by rw [ii1, nI_1]) (by decide) rfl (fun ls hl => ?_)
        refine lv_goto (tgt := 38) hx hb dX2_performInsertion_84 (by decide) ?_
        exact ih38 (i + 1) (o + 1) (upd L1 o (eL i)) (upd A1 o (nI (eA e9))) (upd C1 o (ard gC m (eP e9) (eP e9))) (by omega) (by omega) (by omega) (by omega) (by rw [hL1, ho, show i + 1 - eS e9 = (i - eS e9) + 1 by omega, ← cpy_s, show eS e9 + (i - eS e9) = i by omega]) (by rw [hA1, ho, show i + 1 - eS e9 = (i - eS e9) + 1 by omega, ← mk_s]) (by rw [hC1, ho, show i + 1 - eS e9 = (i - eS e9) + 1 by omega, ← mk_s]) _ _ (hw.pick [0, 1, 2, 3, 4, 5, 6, 7, 8, 9, 14, 15, 16, 17, 10, 11, 12, 13] (by decide) rfl) _ (lv_sub hl [1, 2, 3, 4, 5, 6, 7, 0] rfl)
  exact K38_2 _ (eS e9) (eP e9) (va_cpy gL fL 0 0 (eP e9)) (va_cpy gA fA 0 0 (eP e9)) (va_cpy gC fC 0 0 (eP e9)) (Nat.lt_succ_self _) (by omega) (by omega) (by omega) (by rw [Nat.sub_self, cpy_0]) (by rw [Nat.sub_self, mk_0]) (by rw [Nat.sub_self, mk_0]) _ _ hw _ (lv_sub hl [4, 5, 6, 7, 3, 2, 1, 0] rfl)

theorem lkX2_performMove_1 : Cond.fieldLink RX2 70 "SignedDocument$Passage" "size" "I" ∈ wsX2_performMove := List.mem_of_getElem? (i := 1) rfl
theorem inX2_performMove_4 : ∀ w ∈ u_ws RX4 TX4 4, w ∈ wsX2_performMove := fun _ h => List.mem_cons_of_mem _ (List.mem_append_left _ (List.mem_append_right _ h))
set_option maxRecDepth 100000 in
set_option maxHeartbeats 4000000 in
theorem mX2_performMove (l : Launch) (D : va_G) (cC cI cJ cZ cD : ClassId) (h1 h1L h1A h1C h0 h0L h0A h0C : Nat) (m p9 c9 q9 : Nat) (fL fA fC gL gA gC : Nat → Int32) (sz : Nat) (hm : m ≤ 60) (hpc : p9 + c9 ≤ m) (hq : q9 + c9 ≤ m) (hfL : ∀ j, vp_nar .char (fL j) = fL j) (hgL : ∀ j, vp_nar .char (gL j) = gL j) : MV l yX2_performMove wsX2_performMove ({ frames := 2, cells := 0, slots := 0, locals := 49 }) [.int (nI p9), .int (nI c9), .int (nI q9), .ref h1, .ref h0] D (TY cC cI cJ cZ cD) [(h1, .inr (6, [.ref h1L, .ref h1A, .ref h1C, .int (nI m)])), (h1L, .inl (cC, 60, .inl gL)), (h1A, .inl (cI, 60, .inl gA)), (h1C, .inl (cI, 60, .inl gC)), (h0, .inr (6, [.ref h0L, .ref h0A, .ref h0C, .int (nI 0)])), (h0L, .inl (cC, 60, .inl fL)), (h0A, .inl (cI, 60, .inl fA)), (h0C, .inl (cI, 60, .inl fC))] sz (fun (_ : Unit) => True) (fun (_ : Unit) => [(h1, .inr (6, [.ref h1L, .ref h1A, .ref h1C, .int (nI m)])), (h1L, .inl (cC, 60, .inl gL)), (h1A, .inl (cI, 60, .inl gA)), (h1C, .inl (cI, 60, .inl gC)), (h0, .inr (6, [.ref h0L, .ref h0A, .ref h0C, .int (nI m)])), (h0L, .inl (cC, 60, .inl (movR gL fL p9 c9 q9 m))), (h0A, .inl (cI, 60, .inl (movR gA fA p9 c9 q9 m))), (h0C, .inl (cI, 60, .inl (stp (movR gC fC p9 c9 q9 m) m q9 c9 (q9 + c9))))]) 0 0 := by
  refine mk_MV (cc := cX2_performMove) (maxL := 6) (ret := none) (by decide) rfl (Nat.le_of_ble_eq_true rfl) ?_
  intro p e s mI args below meth cO A cx hr hlk hnm hw ls hl
  have hx := cx.1
  have hb := cx.2.1
  have hw : ww D (TY cC cI cJ cZ cD) s A s.heap [(h1, .inr (6, [.ref h1L, .ref h1A, .ref h1C, .int (nI m)])), (h1L, .inl (cC, 60, .inl gL)), (h1A, .inl (cI, 60, .inl gA)), (h1C, .inl (cI, 60, .inl gC)), (h0, .inr (6, [.ref h0L, .ref h0A, .ref h0C, .int (nI 0)])), (h0L, .inl (cC, 60, .inl fL)), (h0A, .inl (cI, 60, .inl fA)), (h0C, .inl (cI, 60, .inl fC))] s.heap [] := hw
  have hl : lv_has ls 6 [(0, .int (nI p9)), (1, .int (nI c9)), (2, .int (nI q9)), (3, .ref h1), (4, .ref h0)] := hl
  generalize hQ : MQ _ _ _ _ _ _ _ = Q
  refine hp_start hw (fun H locs hw => ?_)
  refine lv_iload_n hx hb dX2_performMove_0 rfl (lv_at hl 0 rfl) ?_
  refine lv_iload_n hx hb dX2_performMove_1 rfl (lv_at hl 1 rfl) ?_
  refine r_iadd cx p9 c9 rfl rfl dX2_performMove_2 ?_
  refine lv_istore (lv' := [(5, .int (nI (p9 + c9))), (0, .int (nI p9)), (1, .int (nI c9)), (2, .int (nI q9)), (3, .ref h1), (4, .ref h0)]) hx hb dX2_performMove_3 hl (by decide) rfl (fun ls hl => ?_)
  refine lv_iload_n hx hb dX2_performMove_5 rfl (lv_at hl 3 rfl) ?_
  refine lv_iload_n hx hb dX2_performMove_6 rfl (lv_at hl 1 rfl) ?_
  refine r_icmp_gt cx 50 q9 p9 rfl rfl (by omega) (by omega) dX2_performMove_7 (by decide) (fun c7 => ?_) (fun c7 => ?_)
  · refine lv_aload hx hb dX2_performMove_50 (lv_at hl 5 rfl) ?_
    refine lv_aload_n hx hb dX2_performMove_52 rfl (lv_at hl 4 rfl) ?_
    refine lv_iconst (v := nI 0) hx hb dX2_performMove_53 (by decide) ?_
    refine lv_iload_n hx hb dX2_performMove_54 rfl (lv_at hl 1 rfl) ?_
    refine r_callVv (n := 3) (wr := []) cx hw (mX4_append l D cC cI cJ cZ cD h0 h0L h0A h0C h1 h1L h1A h1C 0 m fL fA fC gL gA gC 0 p9 H.size (by omega) (by omega) hm (by omega) hfL hgL) [4, 5, 6, 7, 0, 1, 2, 3] [] gX2_performMove_X4_append rfl rfl rfl (by decide +kernel) ⟨Nat.le_of_ble_eq_true rfl, Nat.le_of_ble_eq_true rfl⟩ (q0 := 4) rfl rfl rfl rfl (by decide) (by decide) (by decide) rfl rfl hl.1 (Nat.le_of_ble_eq_true rfl) dX2_performMove_55 ⟨Nat.le_of_ble_eq_true rfl, Nat.le_of_ble_eq_true rfl⟩ (fun u H locs hp hw => ?_)
    have hw : ww D (TY cC cI cJ cZ cD) s A s.heap [(h0, .inr (6, [.ref h0L, .ref h0A, .ref h0C, .int (nI (0 + (p9 - 0)))])), (h0L, .inl (cC, 60, .inl (va_cpy gL fL 0 0 (p9 - 0)))), (h0A, .inl (cI, 60, .inl (va_cpy gA fA 0 0 (p9 - 0)))), (h0C, .inl (cI, 60, .inl (va_cpy gC fC 0 0 (p9 - 0)))), (h1, .inr (6, [.ref h1L, .ref h1A, .ref h1C, .int (nI m)])), (h1L, .inl (cC, 60, .inl gL)), (h1A, .inl (cI, 60, .inl gA)), (h1C, .inl (cI, 60, .inl gC))] H locs := hw
    rw [Nat.sub_zero, Nat.zero_add] at hw
    have hw : ww D (TY cC cI cJ cZ cD) s A s.heap [(h0, .inr (6, [.ref h0L, .ref h0A, .ref h0C, .int (nI p9)])), (h0L, .inl (cC, 60, .inl (va_cpy gL fL 0 0 p9))), (h0A, .inl (cI, 60, .inl (va_cpy gA fA 0 0 p9))), (h0C, .inl (cI, 60, .inl (va_cpy gC fC 0 0 p9))), (h1, .inr (6, [.ref h1L, .ref h1A, .ref h1C, .int (nI m)])), (h1L, .inl (cC, 60, .inl gL)), (h1A, .inl (cI, 60, .inl gA)), (h1C, .inl (cI, 60, .inl gC))] H locs := hw
    refine lv_aload hx hb dX2_performMove_58 (lv_at hl 5 rfl) ?_
    refine lv_aload_n hx hb dX2_performMove_60 rfl (lv_at hl 4 rfl) ?_
    refine lv_iload hx hb dX2_performMove_61 (lv_at hl 0 rfl) ?_
    refine lv_iload_n hx hb dX2_performMove_63 rfl (lv_at hl 3 rfl) ?_
    refine lv_iload_n hx hb dX2_performMove_64 rfl (lv_at hl 2 rfl) ?_
    refine r_iadd cx q9 c9 rfl rfl dX2_performMove_65 ?_
    refine r_callVv (n := 3) (wr := []) cx hw (mX4_append l D cC cI cJ cZ cD h0 h0L h0A h0C h1 h1L h1A h1C p9 m (va_cpy gL fL 0 0 p9) (va_cpy gA fA 0 0 p9) (va_cpy gC fC 0 0 p9) gL gA gC (p9 + c9) (q9 + c9) H.size (by omega) (by omega) hm (by omega) (CA_cpy hgL hfL 0 0 p9) hgL) [0, 1, 2, 3, 4, 5, 6, 7] [] gX2_performMove_X4_append rfl rfl rfl (by decide +kernel) ⟨Nat.le_of_ble_eq_true rfl, Nat.le_of_ble_eq_true rfl⟩ (q0 := 0) rfl rfl rfl rfl (by decide) (by decide) (by decide) rfl rfl hl.1 (Nat.le_of_ble_eq_true rfl) dX2_performMove_66 ⟨Nat.le_of_ble_eq_true rfl, Nat.le_of_ble_eq_true rfl⟩ (fun u H locs hp hw => ?_)
    have hw : ww D (TY cC cI cJ cZ cD) s A s.heap [(h0, .inr (6, [.ref h0L, .ref h0A, .ref h0C, .int (nI (p9 + ((q9 + c9) - (p9 + c9))))])), (h0L, .inl (cC, 60, .inl (va_cpy gL (va_cpy gL fL 0 0 p9) (p9 + c9) p9 ((q9 + c9) - (p9 + c9))))), (h0A, .inl (cI, 60, .inl (va_cpy gA (va_cpy gA fA 0 0 p9) (p9 + c9) p9 ((q9 + c9) - (p9 + c9))))), (h0C, .inl (cI, 60, .inl (va_cpy gC (va_cpy gC fC 0 0 p9) (p9 + c9) p9 ((q9 + c9) - (p9 + c9))))), (h1, .inr (6, [.ref h1L, .ref h1A, .ref h1C, .int (nI m)])), (h1L, .inl (cC, 60, .inl gL)), (h1A, .inl (cI, 60, .inl gA)), (h1C, .inl (cI, 60, .inl gC))] H locs := hw
    rw [show q9 + c9 - (p9 + c9) = q9 - p9 by omega, show p9 + (q9 - p9) = q9 by omega] at hw
    have hw : ww D (TY cC cI cJ cZ cD) s A s.heap [(h0, .inr (6, [.ref h0L, .ref h0A, .ref h0C, .int (nI q9)])), (h0L, .inl (cC, 60, .inl (va_cpy gL (va_cpy gL fL 0 0 p9) (p9 + c9) p9 (q9 - p9)))), (h0A, .inl (cI, 60, .inl (va_cpy gA (va_cpy gA fA 0 0 p9) (p9 + c9) p9 (q9 - p9)))), (h0C, .inl (cI, 60, .inl (va_cpy gC (va_cpy gC fC 0 0 p9) (p9 + c9) p9 (q9 - p9)))), (h1, .inr (6, [.ref h1L, .ref h1A, .ref h1C, .int (nI m)])), (h1L, .inl (cC, 60, .inl gL)), (h1A, .inl (cI, 60, .inl gA)), (h1C, .inl (cI, 60, .inl gC))] H locs := hw
    refine lv_aload hx hb dX2_performMove_69 (lv_at hl 5 rfl) ?_
    refine lv_aload_n hx hb dX2_performMove_71 rfl (lv_at hl 4 rfl) ?_
    refine lv_iload_n hx hb dX2_performMove_72 rfl (lv_at hl 1 rfl) ?_
    refine lv_iload hx hb dX2_performMove_73 (lv_at hl 0 rfl) ?_
    refine r_callVv (n := 3) (wr := []) cx hw (mX4_append l D cC cI cJ cZ cD h0 h0L h0A h0C h1 h1L h1A h1C q9 m (va_cpy gL (va_cpy gL fL 0 0 p9) (p9 + c9) p9 (q9 - p9)) (va_cpy gA (va_cpy gA fA 0 0 p9) (p9 + c9) p9 (q9 - p9)) (va_cpy gC (va_cpy gC fC 0 0 p9) (p9 + c9) p9 (q9 - p9)) gL gA gC p9 (p9 + c9) H.size (by omega) (by omega) hm (by omega) (CA_cpy hgL (CA_cpy hgL hfL 0 0 p9) (p9 + c9) p9 (q9 - p9)) hgL) [0, 1, 2, 3, 4, 5, 6, 7] [] gX2_performMove_X4_append rfl rfl rfl (by decide +kernel) ⟨Nat.le_of_ble_eq_true rfl, Nat.le_of_ble_eq_true rfl⟩ (q0 := 0) rfl rfl rfl rfl (by decide) (by decide) (by decide) rfl rfl hl.1 (Nat.le_of_ble_eq_true rfl) dX2_performMove_75 ⟨Nat.le_of_ble_eq_true rfl, Nat.le_of_ble_eq_true rfl⟩ (fun u H locs hp hw => ?_)
    have hw : ww D (TY cC cI cJ cZ cD) s A s.heap [(h0, .inr (6, [.ref h0L, .ref h0A, .ref h0C, .int (nI (q9 + ((p9 + c9) - p9)))])), (h0L, .inl (cC, 60, .inl (va_cpy gL (va_cpy gL (va_cpy gL fL 0 0 p9) (p9 + c9) p9 (q9 - p9)) p9 q9 ((p9 + c9) - p9)))), (h0A, .inl (cI, 60, .inl (va_cpy gA (va_cpy gA (va_cpy gA fA 0 0 p9) (p9 + c9) p9 (q9 - p9)) p9 q9 ((p9 + c9) - p9)))), (h0C, .inl (cI, 60, .inl (va_cpy gC (va_cpy gC (va_cpy gC fC 0 0 p9) (p9 + c9) p9 (q9 - p9)) p9 q9 ((p9 + c9) - p9)))), (h1, .inr (6, [.ref h1L, .ref h1A, .ref h1C, .int (nI m)])), (h1L, .inl (cC, 60, .inl gL)), (h1A, .inl (cI, 60, .inl gA)), (h1C, .inl (cI, 60, .inl gC))] H locs := hw
    rw [Nat.add_sub_cancel_left] at hw
    have hw : ww D (TY cC cI cJ cZ cD) s A s.heap [(h0, .inr (6, [.ref h0L, .ref h0A, .ref h0C, .int (nI (q9 + c9))])), (h0L, .inl (cC, 60, .inl (va_cpy gL (va_cpy gL (va_cpy gL fL 0 0 p9) (p9 + c9) p9 (q9 - p9)) p9 q9 c9))), (h0A, .inl (cI, 60, .inl (va_cpy gA (va_cpy gA (va_cpy gA fA 0 0 p9) (p9 + c9) p9 (q9 - p9)) p9 q9 c9))), (h0C, .inl (cI, 60, .inl (va_cpy gC (va_cpy gC (va_cpy gC fC 0 0 p9) (p9 + c9) p9 (q9 - p9)) p9 q9 c9))), (h1, .inr (6, [.ref h1L, .ref h1A, .ref h1C, .int (nI m)])), (h1L, .inl (cC, 60, .inl gL)), (h1A, .inl (cI, 60, .inl gA)), (h1C, .inl (cI, 60, .inl gC))] H locs := hw
    refine lv_aload hx hb dX2_performMove_78 (lv_at hl 5 rfl) ?_
    refine lv_aload_n hx hb dX2_performMove_80 rfl (lv_at hl 4 rfl) ?_
    refine lv_iload_n hx hb dX2_performMove_81 rfl (lv_at hl 3 rfl) ?_
    refine lv_iload_n hx hb dX2_performMove_82 rfl (lv_at hl 2 rfl) ?_
    refine r_iadd cx q9 c9 rfl rfl dX2_performMove_83 ?_
    refine lv_aload_n hx hb dX2_performMove_84 rfl (lv_at hl 4 rfl) ?_
    refine r_get cx hw inX2_performMove_4 4 3 rfl rfl (by decide) lkX2_performMove_1 rfl dX2_performMove_85 ?_
    refine r_callVv (n := 3) (wr := []) cx hw (mX4_append l D cC cI cJ cZ cD h0 h0L h0A h0C h1 h1L h1A h1C (q9 + c9) m (va_cpy gL (va_cpy gL (va_cpy gL fL 0 0 p9) (p9 + c9) p9 (q9 - p9)) p9 q9 c9) (va_cpy gA (va_cpy gA (va_cpy gA fA 0 0 p9) (p9 + c9) p9 (q9 - p9)) p9 q9 c9) (va_cpy gC (va_cpy gC (va_cpy gC fC 0 0 p9) (p9 + c9) p9 (q9 - p9)) p9 q9 c9) gL gA gC (q9 + c9) m H.size (by omega) (by omega) hm (by omega) (CA_cpy hgL (CA_cpy hgL (CA_cpy hgL hfL 0 0 p9) (p9 + c9) p9 (q9 - p9)) p9 q9 c9) hgL) [0, 1, 2, 3, 4, 5, 6, 7] [] gX2_performMove_X4_append rfl rfl rfl (by decide +kernel) ⟨Nat.le_of_ble_eq_true rfl, Nat.le_of_ble_eq_true rfl⟩ (q0 := 0) rfl rfl rfl rfl (by decide) (by decide) (by decide) rfl rfl hl.1 (Nat.le_of_ble_eq_true rfl) dX2_performMove_88 ⟨Nat.le_of_ble_eq_true rfl, Nat.le_of_ble_eq_true rfl⟩ (fun u H locs hp hw => ?_)
    have hw : ww D (TY cC cI cJ cZ cD) s A s.heap [(h0, .inr (6, [.ref h0L, .ref h0A, .ref h0C, .int (nI ((q9 + c9) + (m - (q9 + c9))))])), (h0L, .inl (cC, 60, .inl (va_cpy gL (va_cpy gL (va_cpy gL (va_cpy gL fL 0 0 p9) (p9 + c9) p9 (q9 - p9)) p9 q9 c9) (q9 + c9) (q9 + c9) (m - (q9 + c9))))), (h0A, .inl (cI, 60, .inl (va_cpy gA (va_cpy gA (va_cpy gA (va_cpy gA fA 0 0 p9) (p9 + c9) p9 (q9 - p9)) p9 q9 c9) (q9 + c9) (q9 + c9) (m - (q9 + c9))))), (h0C, .inl (cI, 60, .inl (va_cpy gC (va_cpy gC (va_cpy gC (va_cpy gC fC 0 0 p9) (p9 + c9) p9 (q9 - p9)) p9 q9 c9) (q9 + c9) (q9 + c9) (m - (q9 + c9))))), (h1, .inr (6, [.ref h1L, .ref h1A, .ref h1C, .int (nI m)])), (h1L, .inl (cC, 60, .inl gL)), (h1A, .inl (cI, 60, .inl gA)), (h1C, .inl (cI, 60, .inl gC))] H locs := hw
    rw [show q9 + c9 + (m - (q9 + c9)) = m by omega] at hw
    have hw : ww D (TY cC cI cJ cZ cD) s A s.heap [(h0, .inr (6, [.ref h0L, .ref h0A, .ref h0C, .int (nI m)])), (h0L, .inl (cC, 60, .inl (va_cpy gL (va_cpy gL (va_cpy gL (va_cpy gL fL 0 0 p9) (p9 + c9) p9 (q9 - p9)) p9 q9 c9) (q9 + c9) (q9 + c9) (m - (q9 + c9))))), (h0A, .inl (cI, 60, .inl (va_cpy gA (va_cpy gA (va_cpy gA (va_cpy gA fA 0 0 p9) (p9 + c9) p9 (q9 - p9)) p9 q9 c9) (q9 + c9) (q9 + c9) (m - (q9 + c9))))), (h0C, .inl (cI, 60, .inl (va_cpy gC (va_cpy gC (va_cpy gC (va_cpy gC fC 0 0 p9) (p9 + c9) p9 (q9 - p9)) p9 q9 c9) (q9 + c9) (q9 + c9) (m - (q9 + c9))))), (h1, .inr (6, [.ref h1L, .ref h1A, .ref h1C, .int (nI m)])), (h1L, .inl (cC, 60, .inl gL)), (h1A, .inl (cI, 60, .inl gA)), (h1C, .inl (cI, 60, .inl gC))] H locs := hw
    have xeL : movR gL fL p9 c9 q9 m = va_cpy gL (va_cpy gL (va_cpy gL (va_cpy gL fL 0 0 p9) (p9 + c9) p9 (q9 - p9)) p9 q9 c9) (q9 + c9) (q9 + c9) (m - (q9 + c9)) := if_neg (by omega)
    have xeA : movR gA fA p9 c9 q9 m = va_cpy gA (va_cpy gA (va_cpy gA (va_cpy gA fA 0 0 p9) (p9 + c9) p9 (q9 - p9)) p9 q9 c9) (q9 + c9) (q9 + c9) (m - (q9 + c9)) := if_neg (by omega)
    have xeC : movR gC fC p9 c9 q9 m = va_cpy gC (va_cpy gC (va_cpy gC (va_cpy gC fC 0 0 p9) (p9 + c9) p9 (q9 - p9)) p9 q9 c9) (q9 + c9) (q9 + c9) (m - (q9 + c9)) := if_neg (by omega)
    rw [← xeL, ← xeA, ← xeC] at hw
    have hw : ww D (TY cC cI cJ cZ cD) s A s.heap [(h0, .inr (6, [.ref h0L, .ref h0A, .ref h0C, .int (nI m)])), (h0L, .inl (cC, 60, .inl (movR gL fL p9 c9 q9 m))), (h0A, .inl (cI, 60, .inl (movR gA fA p9 c9 q9 m))), (h0C, .inl (cI, 60, .inl (movR gC fC p9 c9 q9 m))), (h1, .inr (6, [.ref h1L, .ref h1A, .ref h1C, .int (nI m)])), (h1L, .inl (cC, 60, .inl gL)), (h1A, .inl (cI, 60, .inl gA)), (h1C, .inl (cI, 60, .inl gC))] H locs := hw
    refine lv_aload hx hb dX2_performMove_91 (lv_at hl 5 rfl) ?_
    refine lv_iload_n hx hb dX2_performMove_93 rfl (lv_at hl 3 rfl) ?_
    refine lv_iload_n hx hb dX2_performMove_94 rfl (lv_at hl 2 rfl) ?_
    refine r_callVv (n := 2) (wr := [(h1, .inr (6, [.ref h1L, .ref h1A, .ref h1C, .int (nI m)])), (h1L, .inl (cC, 60, .inl gL)), (h1A, .inl (cI, 60, .inl gA)), (h1C, .inl (cI, 60, .inl gC))]) cx hw (mX4_settle l D cC cI cJ cZ cD h0 h0L h0A h0C m (movR gL fL p9 c9 q9 m) (movR gA fA p9 c9 q9 m) (movR gC fC p9 c9 q9 m) q9 c9 H.size hq hm) [0, 1, 2, 3] [4, 5, 6, 7] gX2_performMove_X4_settle rfl rfl rfl (by decide +kernel) ⟨Nat.le_of_ble_eq_true rfl, Nat.le_of_ble_eq_true rfl⟩ (q0 := 0) rfl rfl rfl rfl (by decide) (by decide) (by decide) rfl rfl hl.1 (Nat.le_of_ble_eq_true rfl) dX2_performMove_95 ⟨Nat.le_of_ble_eq_true rfl, Nat.le_of_ble_eq_true rfl⟩ (fun u H locs hp hw => ?_)
    have hw : ww D (TY cC cI cJ cZ cD) s A s.heap [(h1, .inr (6, [.ref h1L, .ref h1A, .ref h1C, .int (nI m)])), (h1L, .inl (cC, 60, .inl gL)), (h1A, .inl (cI, 60, .inl gA)), (h1C, .inl (cI, 60, .inl gC)), (h0, .inr (6, [.ref h0L, .ref h0A, .ref h0C, .int (nI m)])), (h0L, .inl (cC, 60, .inl (movR gL fL p9 c9 q9 m))), (h0A, .inl (cI, 60, .inl (movR gA fA p9 c9 q9 m))), (h0C, .inl (cI, 60, .inl (stp (movR gC fC p9 c9 q9 m) m q9 c9 (q9 + c9))))] H locs := hw
    subst hQ
    exact r_retv cx hr hlk hw (Nat.le_of_ble_eq_true rfl) (Nat.le_of_ble_eq_true rfl) () trivial [0, 1, 2, 3, 4, 5, 6, 7] (by decide) rfl dX2_performMove_98
  · refine lv_aload hx hb dX2_performMove_10 (lv_at hl 5 rfl) ?_
    refine lv_aload_n hx hb dX2_performMove_12 rfl (lv_at hl 4 rfl) ?_
    refine lv_iconst (v := nI 0) hx hb dX2_performMove_13 (by decide) ?_
    refine lv_iload_n hx hb dX2_performMove_14 rfl (lv_at hl 3 rfl) ?_
    refine r_callVv (n := 3) (wr := []) cx hw (mX4_append l D cC cI cJ cZ cD h0 h0L h0A h0C h1 h1L h1A h1C 0 m fL fA fC gL gA gC 0 q9 H.size (by omega) (by omega) hm (by omega) hfL hgL) [4, 5, 6, 7, 0, 1, 2, 3] [] gX2_performMove_X4_append rfl rfl rfl (by decide +kernel) ⟨Nat.le_of_ble_eq_true rfl, Nat.le_of_ble_eq_true rfl⟩ (q0 := 4) rfl rfl rfl rfl (by decide) (by decide) (by decide) rfl rfl hl.1 (Nat.le_of_ble_eq_true rfl) dX2_performMove_15 ⟨Nat.le_of_ble_eq_true rfl, Nat.le_of_ble_eq_true rfl⟩ (fun u H locs hp hw => ?_)
    have hw : ww D (TY cC cI cJ cZ cD) s A s.heap [(h0, .inr (6, [.ref h0L, .ref h0A, .ref h0C, .int (nI (0 + (q9 - 0)))])), (h0L, .inl (cC, 60, .inl (va_cpy gL fL 0 0 (q9 - 0)))), (h0A, .inl (cI, 60, .inl (va_cpy gA fA 0 0 (q9 - 0)))), (h0C, .inl (cI, 60, .inl (va_cpy gC fC 0 0 (q9 - 0)))), (h1, .inr (6, [.ref h1L, .ref h1A, .ref h1C, .int (nI m)])), (h1L, .inl (cC, 60, .inl gL)), (h1A, .inl (cI, 60, .inl gA)), (h1C, .inl (cI, 60, .inl gC))] H locs := hw
    rw [Nat.sub_zero, Nat.zero_add] at hw
    have hw : ww D (TY cC cI cJ cZ cD) s A s.heap [(h0, .inr (6, [.ref h0L, .ref h0A, .ref h0C, .int (nI q9)])), (h0L, .inl (cC, 60, .inl (va_cpy gL fL 0 0 q9))), (h0A, .inl (cI, 60, .inl (va_cpy gA fA 0 0 q9))), (h0C, .inl (cI, 60, .inl (va_cpy gC fC 0 0 q9))), (h1, .inr (6, [.ref h1L, .ref h1A, .ref h1C, .int (nI m)])), (h1L, .inl (cC, 60, .inl gL)), (h1A, .inl (cI, 60, .inl gA)), (h1C, .inl (cI, 60, .inl gC))] H locs := hw
    refine lv_aload hx hb dX2_performMove_18 (lv_at hl 5 rfl) ?_
    refine lv_aload_n hx hb dX2_performMove_20 rfl (lv_at hl 4 rfl) ?_
    refine lv_iload_n hx hb dX2_performMove_21 rfl (lv_at hl 1 rfl) ?_
    refine lv_iload hx hb dX2_performMove_22 (lv_at hl 0 rfl) ?_
    refine r_callVv (n := 3) (wr := []) cx hw (mX4_append l D cC cI cJ cZ cD h0 h0L h0A h0C h1 h1L h1A h1C q9 m (va_cpy gL fL 0 0 q9) (va_cpy gA fA 0 0 q9) (va_cpy gC fC 0 0 q9) gL gA gC p9 (p9 + c9) H.size (by omega) (by omega) hm (by omega) (CA_cpy hgL hfL 0 0 q9) hgL) [0, 1, 2, 3, 4, 5, 6, 7] [] gX2_performMove_X4_append rfl rfl rfl (by decide +kernel) ⟨Nat.le_of_ble_eq_true rfl, Nat.le_of_ble_eq_true rfl⟩ (q0 := 0) rfl rfl rfl rfl (by decide) (by decide) (by decide) rfl rfl hl.1 (Nat.le_of_ble_eq_true rfl) dX2_performMove_24 ⟨Nat.le_of_ble_eq_true rfl, Nat.le_of_ble_eq_true rfl⟩ (fun u H locs hp hw => ?_)
    have hw : ww D (TY cC cI cJ cZ cD) s A s.heap [(h0, .inr (6, [.ref h0L, .ref h0A, .ref h0C, .int (nI (q9 + ((p9 + c9) - p9)))])), (h0L, .inl (cC, 60, .inl (va_cpy gL (va_cpy gL fL 0 0 q9) p9 q9 ((p9 + c9) - p9)))), (h0A, .inl (cI, 60, .inl (va_cpy gA (va_cpy gA fA 0 0 q9) p9 q9 ((p9 + c9) - p9)))), (h0C, .inl (cI, 60, .inl (va_cpy gC (va_cpy gC fC 0 0 q9) p9 q9 ((p9 + c9) - p9)))), (h1, .inr (6, [.ref h1L, .ref h1A, .ref h1C, .int (nI m)])), (h1L, .inl (cC, 60, .inl gL)), (h1A, .inl (cI, 60, .inl gA)), (h1C, .inl (cI, 60, .inl gC))] H locs := hw
    rw [Nat.add_sub_cancel_left] at hw
    have hw : ww D (TY cC cI cJ cZ cD) s A s.heap [(h0, .inr (6, [.ref h0L, .ref h0A, .ref h0C, .int (nI (q9 + c9))])), (h0L, .inl (cC, 60, .inl (va_cpy gL (va_cpy gL fL 0 0 q9) p9 q9 c9))), (h0A, .inl (cI, 60, .inl (va_cpy gA (va_cpy gA fA 0 0 q9) p9 q9 c9))), (h0C, .inl (cI, 60, .inl (va_cpy gC (va_cpy gC fC 0 0 q9) p9 q9 c9))), (h1, .inr (6, [.ref h1L, .ref h1A, .ref h1C, .int (nI m)])), (h1L, .inl (cC, 60, .inl gL)), (h1A, .inl (cI, 60, .inl gA)), (h1C, .inl (cI, 60, .inl gC))] H locs := hw
    refine lv_aload hx hb dX2_performMove_27 (lv_at hl 5 rfl) ?_
    refine lv_aload_n hx hb dX2_performMove_29 rfl (lv_at hl 4 rfl) ?_
    refine lv_iload_n hx hb dX2_performMove_30 rfl (lv_at hl 3 rfl) ?_
    refine lv_iload_n hx hb dX2_performMove_31 rfl (lv_at hl 1 rfl) ?_
    refine r_callVv (n := 3) (wr := []) cx hw (mX4_append l D cC cI cJ cZ cD h0 h0L h0A h0C h1 h1L h1A h1C (q9 + c9) m (va_cpy gL (va_cpy gL fL 0 0 q9) p9 q9 c9) (va_cpy gA (va_cpy gA fA 0 0 q9) p9 q9 c9) (va_cpy gC (va_cpy gC fC 0 0 q9) p9 q9 c9) gL gA gC q9 p9 H.size (by omega) (by omega) hm (by omega) (CA_cpy hgL (CA_cpy hgL hfL 0 0 q9) p9 q9 c9) hgL) [0, 1, 2, 3, 4, 5, 6, 7] [] gX2_performMove_X4_append rfl rfl rfl (by decide +kernel) ⟨Nat.le_of_ble_eq_true rfl, Nat.le_of_ble_eq_true rfl⟩ (q0 := 0) rfl rfl rfl rfl (by decide) (by decide) (by decide) rfl rfl hl.1 (Nat.le_of_ble_eq_true rfl) dX2_performMove_32 ⟨Nat.le_of_ble_eq_true rfl, Nat.le_of_ble_eq_true rfl⟩ (fun u H locs hp hw => ?_)
    have hw : ww D (TY cC cI cJ cZ cD) s A s.heap [(h0, .inr (6, [.ref h0L, .ref h0A, .ref h0C, .int (nI ((q9 + c9) + (p9 - q9)))])), (h0L, .inl (cC, 60, .inl (va_cpy gL (va_cpy gL (va_cpy gL fL 0 0 q9) p9 q9 c9) q9 (q9 + c9) (p9 - q9)))), (h0A, .inl (cI, 60, .inl (va_cpy gA (va_cpy gA (va_cpy gA fA 0 0 q9) p9 q9 c9) q9 (q9 + c9) (p9 - q9)))), (h0C, .inl (cI, 60, .inl (va_cpy gC (va_cpy gC (va_cpy gC fC 0 0 q9) p9 q9 c9) q9 (q9 + c9) (p9 - q9)))), (h1, .inr (6, [.ref h1L, .ref h1A, .ref h1C, .int (nI m)])), (h1L, .inl (cC, 60, .inl gL)), (h1A, .inl (cI, 60, .inl gA)), (h1C, .inl (cI, 60, .inl gC))] H locs := hw
    rw [show q9 + c9 + (p9 - q9) = p9 + c9 by omega] at hw
    have hw : ww D (TY cC cI cJ cZ cD) s A s.heap [(h0, .inr (6, [.ref h0L, .ref h0A, .ref h0C, .int (nI (p9 + c9))])), (h0L, .inl (cC, 60, .inl (va_cpy gL (va_cpy gL (va_cpy gL fL 0 0 q9) p9 q9 c9) q9 (q9 + c9) (p9 - q9)))), (h0A, .inl (cI, 60, .inl (va_cpy gA (va_cpy gA (va_cpy gA fA 0 0 q9) p9 q9 c9) q9 (q9 + c9) (p9 - q9)))), (h0C, .inl (cI, 60, .inl (va_cpy gC (va_cpy gC (va_cpy gC fC 0 0 q9) p9 q9 c9) q9 (q9 + c9) (p9 - q9)))), (h1, .inr (6, [.ref h1L, .ref h1A, .ref h1C, .int (nI m)])), (h1L, .inl (cC, 60, .inl gL)), (h1A, .inl (cI, 60, .inl gA)), (h1C, .inl (cI, 60, .inl gC))] H locs := hw
    refine lv_aload hx hb dX2_performMove_35 (lv_at hl 5 rfl) ?_
    refine lv_aload_n hx hb dX2_performMove_37 rfl (lv_at hl 4 rfl) ?_
    refine lv_iload hx hb dX2_performMove_38 (lv_at hl 0 rfl) ?_
    refine lv_aload_n hx hb dX2_performMove_40 rfl (lv_at hl 4 rfl) ?_
    refine r_get cx hw inX2_performMove_4 4 3 rfl rfl (by decide) lkX2_performMove_1 rfl dX2_performMove_41 ?_
    refine r_callVv (n := 3) (wr := []) cx hw (mX4_append l D cC cI cJ cZ cD h0 h0L h0A h0C h1 h1L h1A h1C (p9 + c9) m (va_cpy gL (va_cpy gL (va_cpy gL fL 0 0 q9) p9 q9 c9) q9 (q9 + c9) (p9 - q9)) (va_cpy gA (va_cpy gA (va_cpy gA fA 0 0 q9) p9 q9 c9) q9 (q9 + c9) (p9 - q9)) (va_cpy gC (va_cpy gC (va_cpy gC fC 0 0 q9) p9 q9 c9) q9 (q9 + c9) (p9 - q9)) gL gA gC (p9 + c9) m H.size (by omega) (by omega) hm (by omega) (CA_cpy hgL (CA_cpy hgL (CA_cpy hgL hfL 0 0 q9) p9 q9 c9) q9 (q9 + c9) (p9 - q9)) hgL) [0, 1, 2, 3, 4, 5, 6, 7] [] gX2_performMove_X4_append rfl rfl rfl (by decide +kernel) ⟨Nat.le_of_ble_eq_true rfl, Nat.le_of_ble_eq_true rfl⟩ (q0 := 0) rfl rfl rfl rfl (by decide) (by decide) (by decide) rfl rfl hl.1 (Nat.le_of_ble_eq_true rfl) dX2_performMove_44 ⟨Nat.le_of_ble_eq_true rfl, Nat.le_of_ble_eq_true rfl⟩ (fun u H locs hp hw => ?_)
    have hw : ww D (TY cC cI cJ cZ cD) s A s.heap [(h0, .inr (6, [.ref h0L, .ref h0A, .ref h0C, .int (nI ((p9 + c9) + (m - (p9 + c9))))])), (h0L, .inl (cC, 60, .inl (va_cpy gL (va_cpy gL (va_cpy gL (va_cpy gL fL 0 0 q9) p9 q9 c9) q9 (q9 + c9) (p9 - q9)) (p9 + c9) (p9 + c9) (m - (p9 + c9))))), (h0A, .inl (cI, 60, .inl (va_cpy gA (va_cpy gA (va_cpy gA (va_cpy gA fA 0 0 q9) p9 q9 c9) q9 (q9 + c9) (p9 - q9)) (p9 + c9) (p9 + c9) (m - (p9 + c9))))), (h0C, .inl (cI, 60, .inl (va_cpy gC (va_cpy gC (va_cpy gC (va_cpy gC fC 0 0 q9) p9 q9 c9) q9 (q9 + c9) (p9 - q9)) (p9 + c9) (p9 + c9) (m - (p9 + c9))))), (h1, .inr (6, [.ref h1L, .ref h1A, .ref h1C, .int (nI m)])), (h1L, .inl (cC, 60, .inl gL)), (h1A, .inl (cI, 60, .inl gA)), (h1C, .inl (cI, 60, .inl gC))] H locs := hw
    rw [show p9 + c9 + (m - (p9 + c9)) = m by omega] at hw
    have hw : ww D (TY cC cI cJ cZ cD) s A s.heap [(h0, .inr (6, [.ref h0L, .ref h0A, .ref h0C, .int (nI m)])), (h0L, .inl (cC, 60, .inl (va_cpy gL (va_cpy gL (va_cpy gL (va_cpy gL fL 0 0 q9) p9 q9 c9) q9 (q9 + c9) (p9 - q9)) (p9 + c9) (p9 + c9) (m - (p9 + c9))))), (h0A, .inl (cI, 60, .inl (va_cpy gA (va_cpy gA (va_cpy gA (va_cpy gA fA 0 0 q9) p9 q9 c9) q9 (q9 + c9) (p9 - q9)) (p9 + c9) (p9 + c9) (m - (p9 + c9))))), (h0C, .inl (cI, 60, .inl (va_cpy gC (va_cpy gC (va_cpy gC (va_cpy gC fC 0 0 q9) p9 q9 c9) q9 (q9 + c9) (p9 - q9)) (p9 + c9) (p9 + c9) (m - (p9 + c9))))), (h1, .inr (6, [.ref h1L, .ref h1A, .ref h1C, .int (nI m)])), (h1L, .inl (cC, 60, .inl gL)), (h1A, .inl (cI, 60, .inl gA)), (h1C, .inl (cI, 60, .inl gC))] H locs := hw
    refine lv_goto (tgt := 91) hx hb dX2_performMove_47 (by decide) ?_
    have xeL : movR gL fL p9 c9 q9 m = va_cpy gL (va_cpy gL (va_cpy gL (va_cpy gL fL 0 0 q9) p9 q9 c9) q9 (q9 + c9) (p9 - q9)) (p9 + c9) (p9 + c9) (m - (p9 + c9)) := if_pos (by omega)
    have xeA : movR gA fA p9 c9 q9 m = va_cpy gA (va_cpy gA (va_cpy gA (va_cpy gA fA 0 0 q9) p9 q9 c9) q9 (q9 + c9) (p9 - q9)) (p9 + c9) (p9 + c9) (m - (p9 + c9)) := if_pos (by omega)
    have xeC : movR gC fC p9 c9 q9 m = va_cpy gC (va_cpy gC (va_cpy gC (va_cpy gC fC 0 0 q9) p9 q9 c9) q9 (q9 + c9) (p9 - q9)) (p9 + c9) (p9 + c9) (m - (p9 + c9)) := if_pos (by omega)
    rw [← xeL, ← xeA, ← xeC] at hw
    have hw : ww D (TY cC cI cJ cZ cD) s A s.heap [(h0, .inr (6, [.ref h0L, .ref h0A, .ref h0C, .int (nI m)])), (h0L, .inl (cC, 60, .inl (movR gL fL p9 c9 q9 m))), (h0A, .inl (cI, 60, .inl (movR gA fA p9 c9 q9 m))), (h0C, .inl (cI, 60, .inl (movR gC fC p9 c9 q9 m))), (h1, .inr (6, [.ref h1L, .ref h1A, .ref h1C, .int (nI m)])), (h1L, .inl (cC, 60, .inl gL)), (h1A, .inl (cI, 60, .inl gA)), (h1C, .inl (cI, 60, .inl gC))] H locs := hw
    refine lv_aload hx hb dX2_performMove_91 (lv_at hl 5 rfl) ?_
    refine lv_iload_n hx hb dX2_performMove_93 rfl (lv_at hl 3 rfl) ?_
    refine lv_iload_n hx hb dX2_performMove_94 rfl (lv_at hl 2 rfl) ?_
    refine r_callVv (n := 2) (wr := [(h1, .inr (6, [.ref h1L, .ref h1A, .ref h1C, .int (nI m)])), (h1L, .inl (cC, 60, .inl gL)), (h1A, .inl (cI, 60, .inl gA)), (h1C, .inl (cI, 60, .inl gC))]) cx hw (mX4_settle l D cC cI cJ cZ cD h0 h0L h0A h0C m (movR gL fL p9 c9 q9 m) (movR gA fA p9 c9 q9 m) (movR gC fC p9 c9 q9 m) q9 c9 H.size hq hm) [0, 1, 2, 3] [4, 5, 6, 7] gX2_performMove_X4_settle rfl rfl rfl (by decide +kernel) ⟨Nat.le_of_ble_eq_true rfl, Nat.le_of_ble_eq_true rfl⟩ (q0 := 0) rfl rfl rfl rfl (by decide) (by decide) (by decide) rfl rfl hl.1 (Nat.le_of_ble_eq_true rfl) dX2_performMove_95 ⟨Nat.le_of_ble_eq_true rfl, Nat.le_of_ble_eq_true rfl⟩ (fun u H locs hp hw => ?_)
    have hw : ww D (TY cC cI cJ cZ cD) s A s.heap [(h1, .inr (6, [.ref h1L, .ref h1A, .ref h1C, .int (nI m)])), (h1L, .inl (cC, 60, .inl gL)), (h1A, .inl (cI, 60, .inl gA)), (h1C, .inl (cI, 60, .inl gC)), (h0, .inr (6, [.ref h0L, .ref h0A, .ref h0C, .int (nI m)])), (h0L, .inl (cC, 60, .inl (movR gL fL p9 c9 q9 m))), (h0A, .inl (cI, 60, .inl (movR gA fA p9 c9 q9 m))), (h0C, .inl (cI, 60, .inl (stp (movR gC fC p9 c9 q9 m) m q9 c9 (q9 + c9))))] H locs := hw
    subst hQ
    exact r_retv cx hr hlk hw (Nat.le_of_ble_eq_true rfl) (Nat.le_of_ble_eq_true rfl) () trivial [0, 1, 2, 3, 4, 5, 6, 7] (by decide) rfl dX2_performMove_98

theorem lkX2_perform_1 : Cond.fieldLink RX2 9 "SignedDocument$EditLog" "kinds" "[C" ∈ wsX2_perform := List.mem_of_getElem? (i := 1) rfl
theorem inX2_perform_2 : ∀ w ∈ u_ws RX2 TX2 11, w ∈ wsX2_perform := fun _ h => List.mem_cons_of_mem _ (List.mem_append_left _ (List.mem_append_left _ (List.mem_append_right _ h)))
theorem lkX2_perform_2 : Cond.fieldLink RX2 19 "SignedDocument$EditLog" "positions" "[I" ∈ wsX2_perform := List.mem_of_getElem? (i := 2) rfl
theorem lkX2_perform_3 : Cond.fieldLink RX2 22 "SignedDocument$EditLog" "counts" "[I" ∈ wsX2_perform := List.mem_of_getElem? (i := 3) rfl
theorem lkX2_perform_5 : Cond.fieldLink RX2 25 "SignedDocument$EditLog" "goals" "[I" ∈ wsX2_perform := List.mem_of_getElem? (i := 5) rfl
theorem lkX2_perform_4 : Cond.fieldLink RX2 70 "SignedDocument$Passage" "size" "I" ∈ wsX2_perform := List.mem_of_getElem? (i := 4) rfl
theorem inX2_perform_4 : ∀ w ∈ u_ws RX4 TX4 4, w ∈ wsX2_perform := fun _ h => List.mem_cons_of_mem _ (List.mem_append_left _ (List.mem_append_right _ h))
set_option maxRecDepth 100000 in
set_option maxHeartbeats 4000000 in
theorem mX2_perform (l : Launch) (D : va_G) (cC cI cJ cZ cD : ClassId) (l0 l0K l0A l0P l0C l0G l0O l0F l0L l0S h1 h1L h1A h1C h0 h0L h0A h0C : Nat) (ne lu : Nat) (eK eO eF eL : Nat → Int32) (eA eP eC eG eS : Nat → Nat) (m n e9 : Nat) (fL fA fC gL gA gC : Nat → Int32) (sz : Nat) (he9 : e9 < 40) (hm : m ≤ 60) (hn : n ≤ 60) (hpc : eK e9 = nI 105 ∧ eP e9 ≤ m ∧ m + eC e9 ≤ 60 ∧ eS e9 + eC e9 ≤ 800 ∨ ¬ eK e9 = nI 105 ∧ eP e9 + eC e9 ≤ m ∧ (eK e9 = nI 100 ∨ eG e9 + eC e9 ≤ m)) (hfL : ∀ j, vp_nar .char (fL j) = fL j) (hgL : ∀ j, vp_nar .char (gL j) = gL j) (heL : ∀ j, vp_nar .char (eL j) = eL j) : MV l yX2_perform wsX2_perform ({ frames := 3, cells := 0, slots := 0, locals := 74 }) [.ref l0, .int (nI e9), .ref h1, .ref h0] D (TY cC cI cJ cZ cD) [(l0, .inr (4, [.ref l0K, .ref l0A, .ref l0P, .ref l0C, .ref l0G, .ref l0O, .ref l0F, .ref l0L, .ref l0S, .int (nI ne), .int (nI lu)])), (l0K, .inl (cC, 40, .inl eK)), (l0A, .inl (cI, 40, .inl (fun k => nI (eA k)))), (l0P, .inl (cI, 40, .inl (fun k => nI (eP k)))), (l0C, .inl (cI, 40, .inl (fun k => nI (eC k)))), (l0G, .inl (cI, 40, .inl (fun k => nI (eG k)))), (l0O, .inl (cI, 40, .inl eO)), (l0F, .inl (cI, 40, .inl eF)), (l0L, .inl (cC, 800, .inl eL)), (l0S, .inl (cI, 40, .inl (fun k => nI (eS k)))), (h1, .inr (6, [.ref h1L, .ref h1A, .ref h1C, .int (nI m)])), (h1L, .inl (cC, 60, .inl gL)), (h1A, .inl (cI, 60, .inl gA)), (h1C, .inl (cI, 60, .inl gC)), (h0, .inr (6, [.ref h0L, .ref h0A, .ref h0C, .int (nI n)])), (h0L, .inl (cC, 60, .inl fL)), (h0A, .inl (cI, 60, .inl fA)), (h0C, .inl (cI, 60, .inl fC))] sz (fun (_ : Unit) => True) (fun (_ : Unit) => [(l0, .inr (4, [.ref l0K, .ref l0A, .ref l0P, .ref l0C, .ref l0G, .ref l0O, .ref l0F, .ref l0L, .ref l0S, .int (nI ne), .int (nI lu)])), (l0K, .inl (cC, 40, .inl eK)), (l0A, .inl (cI, 40, .inl (fun k => nI (eA k)))), (l0P, .inl (cI, 40, .inl (fun k => nI (eP k)))), (l0C, .inl (cI, 40, .inl (fun k => nI (eC k)))), (l0G, .inl (cI, 40, .inl (fun k => nI (eG k)))), (l0O, .inl (cI, 40, .inl eO)), (l0F, .inl (cI, 40, .inl eF)), (l0L, .inl (cC, 800, .inl eL)), (l0S, .inl (cI, 40, .inl (fun k => nI (eS k)))), (h1, .inr (6, [.ref h1L, .ref h1A, .ref h1C, .int (nI m)])), (h1L, .inl (cC, 60, .inl gL)), (h1A, .inl (cI, 60, .inl gA)), (h1C, .inl (cI, 60, .inl gC)), (h0, .inr (6, [.ref h0L, .ref h0A, .ref h0C, .int (nI (pfn (eK e9) m (eC e9)))])), (h0L, .inl (cC, 60, .inl (pfL (eK e9) gL fL eL (eP e9) (eC e9) (eG e9) m (eS e9)))), (h0A, .inl (cI, 60, .inl (pfA (eK e9) gA fA (nI (eA e9)) (eP e9) (eC e9) (eG e9) m))), (h0C, .inl (cI, 60, .inl (pfC (eK e9) gC fC (eP e9) (eC e9) (eG e9) m)))]) 0 0 := by
  refine mk_MV (cc := cX2_perform) (maxL := 4) (ret := none) (by decide) rfl (Nat.le_of_ble_eq_true rfl) ?_
  intro p e s mI args below meth cO A cx hr hlk hnm hw ls hl
  have hx := cx.1
  have hb := cx.2.1
  have hw : ww D (TY cC cI cJ cZ cD) s A s.heap [(l0, .inr (4, [.ref l0K, .ref l0A, .ref l0P, .ref l0C, .ref l0G, .ref l0O, .ref l0F, .ref l0L, .ref l0S, .int (nI ne), .int (nI lu)])), (l0K, .inl (cC, 40, .inl eK)), (l0A, .inl (cI, 40, .inl (fun k => nI (eA k)))), (l0P, .inl (cI, 40, .inl (fun k => nI (eP k)))), (l0C, .inl (cI, 40, .inl (fun k => nI (eC k)))), (l0G, .inl (cI, 40, .inl (fun k => nI (eG k)))), (l0O, .inl (cI, 40, .inl eO)), (l0F, .inl (cI, 40, .inl eF)), (l0L, .inl (cC, 800, .inl eL)), (l0S, .inl (cI, 40, .inl (fun k => nI (eS k)))), (h1, .inr (6, [.ref h1L, .ref h1A, .ref h1C, .int (nI m)])), (h1L, .inl (cC, 60, .inl gL)), (h1A, .inl (cI, 60, .inl gA)), (h1C, .inl (cI, 60, .inl gC)), (h0, .inr (6, [.ref h0L, .ref h0A, .ref h0C, .int (nI n)])), (h0L, .inl (cC, 60, .inl fL)), (h0A, .inl (cI, 60, .inl fA)), (h0C, .inl (cI, 60, .inl fC))] s.heap [] := hw
  have hl : lv_has ls 4 [(0, .ref l0), (1, .int (nI e9)), (2, .ref h1), (3, .ref h0)] := hl
  generalize hQ : MQ _ _ _ _ _ _ _ = Q
  refine hp_start hw (fun H locs hw => ?_)
  refine lv_aload_n hx hb dX2_perform_0 rfl (lv_at hl 3 rfl) ?_
  refine r_callVv (n := 0) (wr := [(l0, .inr (4, [.ref l0K, .ref l0A, .ref l0P, .ref l0C, .ref l0G, .ref l0O, .ref l0F, .ref l0L, .ref l0S, .int (nI ne), .int (nI lu)])), (l0K, .inl (cC, 40, .inl eK)), (l0A, .inl (cI, 40, .inl (fun k => nI (eA k)))), (l0P, .inl (cI, 40, .inl (fun k => nI (eP k)))), (l0C, .inl (cI, 40, .inl (fun k => nI (eC k)))), (l0G, .inl (cI, 40, .inl (fun k => nI (eG k)))), (l0O, .inl (cI, 40, .inl eO)), (l0F, .inl (cI, 40, .inl eF)), (l0L, .inl (cC, 800, .inl eL)), (l0S, .inl (cI, 40, .inl (fun k => nI (eS k)))), (h1, .inr (6, [.ref h1L, .ref h1A, .ref h1C, .int (nI m)])), (h1L, .inl (cC, 60, .inl gL)), (h1A, .inl (cI, 60, .inl gA)), (h1C, .inl (cI, 60, .inl gC))]) cx hw (mX4_clear l D cC cI cJ cZ cD h0 h0L h0A h0C n fL fA fC H.size) [14, 15, 16, 17] [0, 1, 2, 3, 4, 5, 6, 7, 8, 9, 10, 11, 12, 13] gX2_perform_X4_clear rfl rfl rfl (by decide +kernel) ⟨Nat.le_of_ble_eq_true rfl, Nat.le_of_ble_eq_true rfl⟩ (q0 := 14) rfl rfl rfl rfl (by decide) (by decide) (by decide) rfl rfl hl.1 (Nat.le_of_ble_eq_true rfl) dX2_perform_1 ⟨Nat.le_of_ble_eq_true rfl, Nat.le_of_ble_eq_true rfl⟩ (fun u H locs hp hw => ?_)
  have hw : ww D (TY cC cI cJ cZ cD) s A s.heap [(l0, .inr (4, [.ref l0K, .ref l0A, .ref l0P, .ref l0C, .ref l0G, .ref l0O, .ref l0F, .ref l0L, .ref l0S, .int (nI ne), .int (nI lu)])), (l0K, .inl (cC, 40, .inl eK)), (l0A, .inl (cI, 40, .inl (fun k => nI (eA k)))), (l0P, .inl (cI, 40, .inl (fun k => nI (eP k)))), (l0C, .inl (cI, 40, .inl (fun k => nI (eC k)))), (l0G, .inl (cI, 40, .inl (fun k => nI (eG k)))), (l0O, .inl (cI, 40, .inl eO)), (l0F, .inl (cI, 40, .inl eF)), (l0L, .inl (cC, 800, .inl eL)), (l0S, .inl (cI, 40, .inl (fun k => nI (eS k)))), (h1, .inr (6, [.ref h1L, .ref h1A, .ref h1C, .int (nI m)])), (h1L, .inl (cC, 60, .inl gL)), (h1A, .inl (cI, 60, .inl gA)), (h1C, .inl (cI, 60, .inl gC)), (h0, .inr (6, [.ref h0L, .ref h0A, .ref h0C, .int (nI 0)])), (h0L, .inl (cC, 60, .inl fL)), (h0A, .inl (cI, 60, .inl fA)), (h0C, .inl (cI, 60, .inl fC))] H locs := hw
  refine lv_aload_n hx hb dX2_perform_4 rfl (lv_at hl 0 rfl) ?_
  refine r_get cx hw inX2_perform_2 0 0 rfl rfl (by decide) lkX2_perform_1 rfl dX2_perform_5 ?_
  refine lv_iload_n hx hb dX2_perform_8 rfl (lv_at hl 1 rfl) ?_
  refine r_cald cx hw 1 0 rfl rfl e9 rfl (by omega) (by omega) dX2_perform_9 ?_
  refine lv_bipush (v := nI 105) hx hb dX2_perform_10 (by decide) ?_
  refine lv_icmp_ne (tgt := 25) hx hb dX2_perform_12 (by decide) (fun c12 => ?_) (fun c12 => ?_)
  · refine lv_aload_n hx hb dX2_perform_25 rfl (lv_at hl 0 rfl) ?_
    refine r_get cx hw inX2_perform_2 0 0 rfl rfl (by decide) lkX2_perform_1 rfl dX2_perform_26 ?_
    refine lv_iload_n hx hb dX2_perform_29 rfl (lv_at hl 1 rfl) ?_
    refine r_cald cx hw 1 0 rfl rfl e9 rfl (by omega) (by omega) dX2_perform_30 ?_
    refine lv_bipush (v := nI 100) hx hb dX2_perform_31 (by decide) ?_
    refine lv_icmp_ne (tgt := 73) hx hb dX2_perform_33 (by decide) (fun c33 => ?_) (fun c33 => ?_)
    · refine lv_aload_n hx hb dX2_perform_73 rfl (lv_at hl 0 rfl) ?_
      refine r_get cx hw inX2_perform_2 0 2 rfl rfl (by decide) lkX2_perform_2 rfl dX2_perform_74 ?_
      refine lv_iload_n hx hb dX2_perform_77 rfl (lv_at hl 1 rfl) ?_
      refine r_iald cx hw 3 1 rfl rfl e9 rfl (by omega) (by omega) dX2_perform_78 ?_
      refine lv_aload_n hx hb dX2_perform_79 rfl (lv_at hl 0 rfl) ?_
      refine r_get cx hw inX2_perform_2 0 3 rfl rfl (by decide) lkX2_perform_3 rfl dX2_perform_80 ?_
      refine lv_iload_n hx hb dX2_perform_83 rfl (lv_at hl 1 rfl) ?_
      refine r_iald cx hw 4 1 rfl rfl e9 rfl (by omega) (by omega) dX2_perform_84 ?_
      refine lv_aload_n hx hb dX2_perform_85 rfl (lv_at hl 0 rfl) ?_
      refine r_get cx hw inX2_perform_2 0 4 rfl rfl (by decide) lkX2_perform_5 rfl dX2_perform_86 ?_
      refine lv_iload_n hx hb dX2_perform_89 rfl (lv_at hl 1 rfl) ?_
      refine r_iald cx hw 5 1 rfl rfl e9 rfl (by omega) (by omega) dX2_perform_90 ?_
      refine lv_aload_n hx hb dX2_perform_91 rfl (lv_at hl 2 rfl) ?_
      refine lv_aload_n hx hb dX2_perform_92 rfl (lv_at hl 3 rfl) ?_
      refine r_callSv (n := 5) (wr := [(l0, .inr (4, [.ref l0K, .ref l0A, .ref l0P, .ref l0C, .ref l0G, .ref l0O, .ref l0F, .ref l0L, .ref l0S, .int (nI ne), .int (nI lu)])), (l0K, .inl (cC, 40, .inl eK)), (l0A, .inl (cI, 40, .inl (fun k => nI (eA k)))), (l0P, .inl (cI, 40, .inl (fun k => nI (eP k)))), (l0C, .inl (cI, 40, .inl (fun k => nI (eC k)))), (l0G, .inl (cI, 40, .inl (fun k => nI (eG k)))), (l0O, .inl (cI, 40, .inl eO)), (l0F, .inl (cI, 40, .inl eF)), (l0L, .inl (cC, 800, .inl eL)), (l0S, .inl (cI, 40, .inl (fun k => nI (eS k))))]) cx hw (mX2_performMove l D cC cI cJ cZ cD h1 h1L h1A h1C h0 h0L h0A h0C m (eP e9) (eC e9) (eG e9) fL fA fC gL gA gC H.size hm (by rcases hpc with q | q; exact absurd q.1 c12; exact q.2.1) (by rcases hpc with q | q; exact absurd q.1 c12; rcases q.2.2 with r | r; exact absurd r c33; exact r) hfL hgL) [10, 11, 12, 13, 14, 15, 16, 17] [0, 1, 2, 3, 4, 5, 6, 7, 8, 9] gX2_perform_X2_performMove rfl rfl rfl (by decide +kernel) ⟨Nat.le_of_ble_eq_true rfl, Nat.le_of_ble_eq_true rfl⟩ rfl rfl (by decide) (by decide) (by decide) rfl rfl hl.1 (Nat.le_of_ble_eq_true rfl) dX2_perform_93 ⟨Nat.le_of_ble_eq_true rfl, Nat.le_of_ble_eq_true rfl⟩ (fun u H locs hp hw => ?_)
      have hw : ww D (TY cC cI cJ cZ cD) s A s.heap [(l0, .inr (4, [.ref l0K, .ref l0A, .ref l0P, .ref l0C, .ref l0G, .ref l0O, .ref l0F, .ref l0L, .ref l0S, .int (nI ne), .int (nI lu)])), (l0K, .inl (cC, 40, .inl eK)), (l0A, .inl (cI, 40, .inl (fun k => nI (eA k)))), (l0P, .inl (cI, 40, .inl (fun k => nI (eP k)))), (l0C, .inl (cI, 40, .inl (fun k => nI (eC k)))), (l0G, .inl (cI, 40, .inl (fun k => nI (eG k)))), (l0O, .inl (cI, 40, .inl eO)), (l0F, .inl (cI, 40, .inl eF)), (l0L, .inl (cC, 800, .inl eL)), (l0S, .inl (cI, 40, .inl (fun k => nI (eS k)))), (h1, .inr (6, [.ref h1L, .ref h1A, .ref h1C, .int (nI m)])), (h1L, .inl (cC, 60, .inl gL)), (h1A, .inl (cI, 60, .inl gA)), (h1C, .inl (cI, 60, .inl gC)), (h0, .inr (6, [.ref h0L, .ref h0A, .ref h0C, .int (nI m)])), (h0L, .inl (cC, 60, .inl (movR gL fL (eP e9) (eC e9) (eG e9) m))), (h0A, .inl (cI, 60, .inl (movR gA fA (eP e9) (eC e9) (eG e9) m))), (h0C, .inl (cI, 60, .inl (stp (movR gC fC (eP e9) (eC e9) (eG e9) m) m (eG e9) (eC e9) ((eG e9) + (eC e9)))))] H locs := hw
      have xen : pfn (eK e9) m (eC e9) = m := (if_neg c12).trans (if_neg c33)
      have xeL : pfL (eK e9) gL fL eL (eP e9) (eC e9) (eG e9) m (eS e9) = movR gL fL (eP e9) (eC e9) (eG e9) m := (if_neg c12).trans (if_neg c33)
      have xeA : pfA (eK e9) gA fA (nI (eA e9)) (eP e9) (eC e9) (eG e9) m = movR gA fA (eP e9) (eC e9) (eG e9) m := (if_neg c12).trans (if_neg c33)
      have xeC : pfC (eK e9) gC fC (eP e9) (eC e9) (eG e9) m = stp (movR gC fC (eP e9) (eC e9) (eG e9) m) m (eG e9) (eC e9) ((eG e9) + (eC e9)) := (if_neg c12).trans (if_neg c33)
      have hw : ww D (TY cC cI cJ cZ cD) s A s.heap [(l0, .inr (4, [.ref l0K, .ref l0A, .ref l0P, .ref l0C, .ref l0G, .ref l0O, .ref l0F, .ref l0L, .ref l0S, .int (nI ne), .int (nI lu)])), (l0K, .inl (cC, 40, .inl eK)), (l0A, .inl (cI, 40, .inl (fun k => nI (eA k)))), (l0P, .inl (cI, 40, .inl (fun k => nI (eP k)))), (l0C, .inl (cI, 40, .inl (fun k => nI (eC k)))), (l0G, .inl (cI, 40, .inl (fun k => nI (eG k)))), (l0O, .inl (cI, 40, .inl eO)), (l0F, .inl (cI, 40, .inl eF)), (l0L, .inl (cC, 800, .inl eL)), (l0S, .inl (cI, 40, .inl (fun k => nI (eS k)))), (h1, .inr (6, [.ref h1L, .ref h1A, .ref h1C, .int (nI m)])), (h1L, .inl (cC, 60, .inl gL)), (h1A, .inl (cI, 60, .inl gA)), (h1C, .inl (cI, 60, .inl gC)), (h0, .inr (6, [.ref h0L, .ref h0A, .ref h0C, .int (nI (pfn (eK e9) m (eC e9)))])), (h0L, .inl (cC, 60, .inl (pfL (eK e9) gL fL eL (eP e9) (eC e9) (eG e9) m (eS e9)))), (h0A, .inl (cI, 60, .inl (pfA (eK e9) gA fA (nI (eA e9)) (eP e9) (eC e9) (eG e9) m))), (h0C, .inl (cI, 60, .inl (pfC (eK e9) gC fC (eP e9) (eC e9) (eG e9) m)))] H locs := by rw [xen, xeL, xeA, xeC]; exact hw
      subst hQ
      exact r_retv cx hr hlk hw (Nat.le_of_ble_eq_true rfl) (Nat.le_of_ble_eq_true rfl) () trivial [0, 1, 2, 3, 4, 5, 6, 7, 8, 9, 10, 11, 12, 13, 14, 15, 16, 17] (by decide) rfl dX2_perform_96
    · refine lv_aload_n hx hb dX2_perform_36 rfl (lv_at hl 3 rfl) ?_
      refine lv_aload_n hx hb dX2_perform_37 rfl (lv_at hl 2 rfl) ?_
      refine lv_iconst (v := nI 0) hx hb dX2_perform_38 (by decide) ?_
      refine lv_aload_n hx hb dX2_perform_39 rfl (lv_at hl 0 rfl) ?_
      refine r_get cx hw inX2_perform_2 0 2 rfl rfl (by decide) lkX2_perform_2 rfl dX2_perform_40 ?_
      refine lv_iload_n hx hb dX2_perform_43 rfl (lv_at hl 1 rfl) ?_
      refine r_iald cx hw 3 1 rfl rfl e9 rfl (by omega) (by omega) dX2_perform_44 ?_
      refine r_callVv (n := 3) (wr := [(l0, .inr (4, [.ref l0K, .ref l0A, .ref l0P, .ref l0C, .ref l0G, .ref l0O, .ref l0F, .ref l0L, .ref l0S, .int (nI ne), .int (nI lu)])), (l0K, .inl (cC, 40, .inl eK)), (l0A, .inl (cI, 40, .inl (fun k => nI (eA k)))), (l0P, .inl (cI, 40, .inl (fun k => nI (eP k)))), (l0C, .inl (cI, 40, .inl (fun k => nI (eC k)))), (l0G, .inl (cI, 40, .inl (fun k => nI (eG k)))), (l0O, .inl (cI, 40, .inl eO)), (l0F, .inl (cI, 40, .inl eF)), (l0L, .inl (cC, 800, .inl eL)), (l0S, .inl (cI, 40, .inl (fun k => nI (eS k))))]) cx hw (mX4_append l D cC cI cJ cZ cD h0 h0L h0A h0C h1 h1L h1A h1C 0 m fL fA fC gL gA gC 0 (eP e9) H.size (by rcases hpc with q | q; exact absurd q.1 c12; omega) (by rcases hpc with q | q; exact absurd q.1 c12; omega) hm (by omega) hfL hgL) [14, 15, 16, 17, 10, 11, 12, 13] [0, 1, 2, 3, 4, 5, 6, 7, 8, 9] gX2_perform_X4_append rfl rfl rfl (by decide +kernel) ⟨Nat.le_of_ble_eq_true rfl, Nat.le_of_ble_eq_true rfl⟩ (q0 := 14) rfl rfl rfl rfl (by decide) (by decide) (by decide) rfl rfl hl.1 (Nat.le_of_ble_eq_true rfl) dX2_perform_45 ⟨Nat.le_of_ble_eq_true rfl, Nat.le_of_ble_eq_true rfl⟩ (fun u H locs hp hw => ?_)
      have hw : ww D (TY cC cI cJ cZ cD) s A s.heap [(l0, .inr (4, [.ref l0K, .ref l0A, .ref l0P, .ref l0C, .ref l0G, .ref l0O, .ref l0F, .ref l0L, .ref l0S, .int (nI ne), .int (nI lu)])), (l0K, .inl (cC, 40, .inl eK)), (l0A, .inl (cI, 40, .inl (fun k => nI (eA k)))), (l0P, .inl (cI, 40, .inl (fun k => nI (eP k)))), (l0C, .inl (cI, 40, .inl (fun k => nI (eC k)))), (l0G, .inl (cI, 40, .inl (fun k => nI (eG k)))), (l0O, .inl (cI, 40, .inl eO)), (l0F, .inl (cI, 40, .inl eF)), (l0L, .inl (cC, 800, .inl eL)), (l0S, .inl (cI, 40, .inl (fun k => nI (eS k)))), (h0, .inr (6, [.ref h0L, .ref h0A, .ref h0C, .int (nI (0 + ((eP e9) - 0)))])), (h0L, .inl (cC, 60, .inl (va_cpy gL fL 0 0 ((eP e9) - 0)))), (h0A, .inl (cI, 60, .inl (va_cpy gA fA 0 0 ((eP e9) - 0)))), (h0C, .inl (cI, 60, .inl (va_cpy gC fC 0 0 ((eP e9) - 0)))), (h1, .inr (6, [.ref h1L, .ref h1A, .ref h1C, .int (nI m)])), (h1L, .inl (cC, 60, .inl gL)), (h1A, .inl (cI, 60, .inl gA)), (h1C, .inl (cI, 60, .inl gC))] H locs := hw
      rw [Nat.sub_zero, Nat.zero_add] at hw
      have hw : ww D (TY cC cI cJ cZ cD) s A s.heap [(l0, .inr (4, [.ref l0K, .ref l0A, .ref l0P, .ref l0C, .ref l0G, .ref l0O, .ref l0F, .ref l0L, .ref l0S, .int (nI ne), .int (nI lu)])), (l0K, .inl (cC, 40, .inl eK)), (l0A, .inl (cI, 40, .inl (fun k => nI (eA k)))), (l0P, .inl (cI, 40, .inl (fun k => nI (eP k)))), (l0C, .inl (cI, 40, .inl (fun k => nI (eC k)))), (l0G, .inl (cI, 40, .inl (fun k => nI (eG k)))), (l0O, .inl (cI, 40, .inl eO)), (l0F, .inl (cI, 40, .inl eF)), (l0L, .inl (cC, 800, .inl eL)), (l0S, .inl (cI, 40, .inl (fun k => nI (eS k)))), (h0, .inr (6, [.ref h0L, .ref h0A, .ref h0C, .int (nI (eP e9))])), (h0L, .inl (cC, 60, .inl (va_cpy gL fL 0 0 (eP e9)))), (h0A, .inl (cI, 60, .inl (va_cpy gA fA 0 0 (eP e9)))), (h0C, .inl (cI, 60, .inl (va_cpy gC fC 0 0 (eP e9)))), (h1, .inr (6, [.ref h1L, .ref h1A, .ref h1C, .int (nI m)])), (h1L, .inl (cC, 60, .inl gL)), (h1A, .inl (cI, 60, .inl gA)), (h1C, .inl (cI, 60, .inl gC))] H locs := hw
      refine lv_aload_n hx hb dX2_perform_48 rfl (lv_at hl 3 rfl) ?_
      refine lv_aload_n hx hb dX2_perform_49 rfl (lv_at hl 2 rfl) ?_
      refine lv_aload_n hx hb dX2_perform_50 rfl (lv_at hl 0 rfl) ?_
      refine r_get cx hw inX2_perform_2 0 2 rfl rfl (by decide) lkX2_perform_2 rfl dX2_perform_51 ?_
      refine lv_iload_n hx hb dX2_perform_54 rfl (lv_at hl 1 rfl) ?_
      refine r_iald cx hw 3 1 rfl rfl e9 rfl (by omega) (by omega) dX2_perform_55 ?_
      refine lv_aload_n hx hb dX2_perform_56 rfl (lv_at hl 0 rfl) ?_
      refine r_get cx hw inX2_perform_2 0 3 rfl rfl (by decide) lkX2_perform_3 rfl dX2_perform_57 ?_
      refine lv_iload_n hx hb dX2_perform_60 rfl (lv_at hl 1 rfl) ?_
      refine r_iald cx hw 4 1 rfl rfl e9 rfl (by omega) (by omega) dX2_perform_61 ?_
      refine r_iadd cx (eP e9) (eC e9) rfl rfl dX2_perform_62 ?_
      refine lv_aload_n hx hb dX2_perform_63 rfl (lv_at hl 2 rfl) ?_
      refine r_get cx hw inX2_perform_4 14 3 rfl rfl (by decide) lkX2_perform_4 rfl dX2_perform_64 ?_
      refine r_callVv (n := 3) (wr := [(l0, .inr (4, [.ref l0K, .ref l0A, .ref l0P, .ref l0C, .ref l0G, .ref l0O, .ref l0F, .ref l0L, .ref l0S, .int (nI ne), .int (nI lu)])), (l0K, .inl (cC, 40, .inl eK)), (l0A, .inl (cI, 40, .inl (fun k => nI (eA k)))), (l0P, .inl (cI, 40, .inl (fun k => nI (eP k)))), (l0C, .inl (cI, 40, .inl (fun k => nI (eC k)))), (l0G, .inl (cI, 40, .inl (fun k => nI (eG k)))), (l0O, .inl (cI, 40, .inl eO)), (l0F, .inl (cI, 40, .inl eF)), (l0L, .inl (cC, 800, .inl eL)), (l0S, .inl (cI, 40, .inl (fun k => nI (eS k))))]) cx hw (mX4_append l D cC cI cJ cZ cD h0 h0L h0A h0C h1 h1L h1A h1C (eP e9) m (va_cpy gL fL 0 0 (eP e9)) (va_cpy gA fA 0 0 (eP e9)) (va_cpy gC fC 0 0 (eP e9)) gL gA gC (eP e9 + (eC e9)) m H.size (by omega) (by rcases hpc with q | q; exact absurd q.1 c12; omega) hm (by rcases hpc with q | q; exact absurd q.1 c12; omega) (CA_cpy hgL hfL 0 0 (eP e9)) hgL) [10, 11, 12, 13, 14, 15, 16, 17] [0, 1, 2, 3, 4, 5, 6, 7, 8, 9] gX2_perform_X4_append rfl rfl rfl (by decide +kernel) ⟨Nat.le_of_ble_eq_true rfl, Nat.le_of_ble_eq_true rfl⟩ (q0 := 10) rfl rfl rfl rfl (by decide) (by decide) (by decide) rfl rfl hl.1 (Nat.le_of_ble_eq_true rfl) dX2_perform_67 ⟨Nat.le_of_ble_eq_true rfl, Nat.le_of_ble_eq_true rfl⟩ (fun u H locs hp hw => ?_)
      have hw : ww D (TY cC cI cJ cZ cD) s A s.heap [(l0, .inr (4, [.ref l0K, .ref l0A, .ref l0P, .ref l0C, .ref l0G, .ref l0O, .ref l0F, .ref l0L, .ref l0S, .int (nI ne), .int (nI lu)])), (l0K, .inl (cC, 40, .inl eK)), (l0A, .inl (cI, 40, .inl (fun k => nI (eA k)))), (l0P, .inl (cI, 40, .inl (fun k => nI (eP k)))), (l0C, .inl (cI, 40, .inl (fun k => nI (eC k)))), (l0G, .inl (cI, 40, .inl (fun k => nI (eG k)))), (l0O, .inl (cI, 40, .inl eO)), (l0F, .inl (cI, 40, .inl eF)), (l0L, .inl (cC, 800, .inl eL)), (l0S, .inl (cI, 40, .inl (fun k => nI (eS k)))), (h0, .inr (6, [.ref h0L, .ref h0A, .ref h0C, .int (nI ((eP e9) + (m - (eP e9 + (eC e9)))))])), (h0L, .inl (cC, 60, .inl (va_cpy gL (va_cpy gL fL 0 0 (eP e9)) (eP e9 + (eC e9)) (eP e9) (m - (eP e9 + (eC e9)))))), (h0A, .inl (cI, 60, .inl (va_cpy gA (va_cpy gA fA 0 0 (eP e9)) (eP e9 + (eC e9)) (eP e9) (m - (eP e9 + (eC e9)))))), (h0C, .inl (cI, 60, .inl (va_cpy gC (va_cpy gC fC 0 0 (eP e9)) (eP e9 + (eC e9)) (eP e9) (m - (eP e9 + (eC e9)))))), (h1, .inr (6, [.ref h1L, .ref h1A, .ref h1C, .int (nI m)])), (h1L, .inl (cC, 60, .inl gL)), (h1A, .inl (cI, 60, .inl gA)), (h1C, .inl (cI, 60, .inl gC))] H locs := hw
      have q9 : eP e9 + eC e9 ≤ m := by rcases hpc with q | q; exact absurd q.1 c12; exact q.2.1
      rw [show eP e9 + (m - (eP e9 + eC e9)) = m - eC e9 by omega] at hw
      have hw : ww D (TY cC cI cJ cZ cD) s A s.heap [(l0, .inr (4, [.ref l0K, .ref l0A, .ref l0P, .ref l0C, .ref l0G, .ref l0O, .ref l0F, .ref l0L, .ref l0S, .int (nI ne), .int (nI lu)])), (l0K, .inl (cC, 40, .inl eK)), (l0A, .inl (cI, 40, .inl (fun k => nI (eA k)))), (l0P, .inl (cI, 40, .inl (fun k => nI (eP k)))), (l0C, .inl (cI, 40, .inl (fun k => nI (eC k)))), (l0G, .inl (cI, 40, .inl (fun k => nI (eG k)))), (l0O, .inl (cI, 40, .inl eO)), (l0F, .inl (cI, 40, .inl eF)), (l0L, .inl (cC, 800, .inl eL)), (l0S, .inl (cI, 40, .inl (fun k => nI (eS k)))), (h0, .inr (6, [.ref h0L, .ref h0A, .ref h0C, .int (nI (m - eC e9))])), (h0L, .inl (cC, 60, .inl (delR gL fL (eP e9) (eC e9) m))), (h0A, .inl (cI, 60, .inl (delR gA fA (eP e9) (eC e9) m))), (h0C, .inl (cI, 60, .inl (delR gC fC (eP e9) (eC e9) m))), (h1, .inr (6, [.ref h1L, .ref h1A, .ref h1C, .int (nI m)])), (h1L, .inl (cC, 60, .inl gL)), (h1A, .inl (cI, 60, .inl gA)), (h1C, .inl (cI, 60, .inl gC))] H locs := hw
      refine lv_goto (tgt := 96) hx hb dX2_perform_70 (by decide) ?_
      have xen : pfn (eK e9) m (eC e9) = m - eC e9 := (if_neg c12).trans (if_pos c33)
      have xeL : pfL (eK e9) gL fL eL (eP e9) (eC e9) (eG e9) m (eS e9) = delR gL fL (eP e9) (eC e9) m := (if_neg c12).trans (if_pos c33)
      have xeA : pfA (eK e9) gA fA (nI (eA e9)) (eP e9) (eC e9) (eG e9) m = delR gA fA (eP e9) (eC e9) m := (if_neg c12).trans (if_pos c33)
      have xeC : pfC (eK e9) gC fC (eP e9) (eC e9) (eG e9) m = delR gC fC (eP e9) (eC e9) m := (if_neg c12).trans (if_pos c33)
      have hw : ww D (TY cC cI cJ cZ cD) s A s.heap [(l0, .inr (4, [.ref l0K, .ref l0A, .ref l0P, .ref l0C, .ref l0G, .ref l0O, .ref l0F, .ref l0L, .ref l0S, .int (nI ne), .int (nI lu)])), (l0K, .inl (cC, 40, .inl eK)), (l0A, .inl (cI, 40, .inl (fun k => nI (eA k)))), (l0P, .inl (cI, 40, .inl (fun k => nI (eP k)))), (l0C, .inl (cI, 40, .inl (fun k => nI (eC k)))), (l0G, .inl (cI, 40, .inl (fun k => nI (eG k)))), (l0O, .inl (cI, 40, .inl eO)), (l0F, .inl (cI, 40, .inl eF)), (l0L, .inl (cC, 800, .inl eL)), (l0S, .inl (cI, 40, .inl (fun k => nI (eS k)))), (h0, .inr (6, [.ref h0L, .ref h0A, .ref h0C, .int (nI (pfn (eK e9) m (eC e9)))])), (h0L, .inl (cC, 60, .inl (pfL (eK e9) gL fL eL (eP e9) (eC e9) (eG e9) m (eS e9)))), (h0A, .inl (cI, 60, .inl (pfA (eK e9) gA fA (nI (eA e9)) (eP e9) (eC e9) (eG e9) m))), (h0C, .inl (cI, 60, .inl (pfC (eK e9) gC fC (eP e9) (eC e9) (eG e9) m))), (h1, .inr (6, [.ref h1L, .ref h1A, .ref h1C, .int (nI m)])), (h1L, .inl (cC, 60, .inl gL)), (h1A, .inl (cI, 60, .inl gA)), (h1C, .inl (cI, 60, .inl gC))] H locs := by rw [xen, xeL, xeA, xeC]; exact hw
      subst hQ
      exact r_retv cx hr hlk hw (Nat.le_of_ble_eq_true rfl) (Nat.le_of_ble_eq_true rfl) () trivial [0, 1, 2, 3, 4, 5, 6, 7, 8, 9, 14, 15, 16, 17, 10, 11, 12, 13] (by decide) rfl dX2_perform_96
  · refine lv_aload_n hx hb dX2_perform_15 rfl (lv_at hl 0 rfl) ?_
    refine lv_iload_n hx hb dX2_perform_16 rfl (lv_at hl 1 rfl) ?_
    refine lv_aload_n hx hb dX2_perform_17 rfl (lv_at hl 2 rfl) ?_
    refine lv_aload_n hx hb dX2_perform_18 rfl (lv_at hl 3 rfl) ?_
    refine r_callVv (n := 3) (wr := []) cx hw (mX2_performInsertion l D cC cI cJ cZ cD l0 l0K l0A l0P l0C l0G l0O l0F l0L l0S h1 h1L h1A h1C h0 h0L h0A h0C ne lu eK eO eF eL eA eP eC eG eS m e9 fL fA fC gL gA gC H.size he9 hm (by rcases hpc with q | q; exact q.2.1; exact absurd c12 q.1) (by rcases hpc with q | q; exact q.2.2.1; exact absurd c12 q.1) (by rcases hpc with q | q; exact q.2.2.2; exact absurd c12 q.1) hfL hgL heL) [0, 1, 2, 3, 4, 5, 6, 7, 8, 9, 10, 11, 12, 13, 14, 15, 16, 17] [] gX2_perform_X2_performInsertion rfl rfl rfl (by decide +kernel) ⟨Nat.le_of_ble_eq_true rfl, Nat.le_of_ble_eq_true rfl⟩ (q0 := 0) rfl rfl rfl rfl (by decide) (by decide) (by decide) rfl rfl hl.1 (Nat.le_of_ble_eq_true rfl) dX2_perform_19 ⟨Nat.le_of_ble_eq_true rfl, Nat.le_of_ble_eq_true rfl⟩ (fun u H locs hp hw => ?_)
    have hw : ww D (TY cC cI cJ cZ cD) s A s.heap [(l0, .inr (4, [.ref l0K, .ref l0A, .ref l0P, .ref l0C, .ref l0G, .ref l0O, .ref l0F, .ref l0L, .ref l0S, .int (nI ne), .int (nI lu)])), (l0K, .inl (cC, 40, .inl eK)), (l0A, .inl (cI, 40, .inl (fun k => nI (eA k)))), (l0P, .inl (cI, 40, .inl (fun k => nI (eP k)))), (l0C, .inl (cI, 40, .inl (fun k => nI (eC k)))), (l0G, .inl (cI, 40, .inl (fun k => nI (eG k)))), (l0O, .inl (cI, 40, .inl eO)), (l0F, .inl (cI, 40, .inl eF)), (l0L, .inl (cC, 800, .inl eL)), (l0S, .inl (cI, 40, .inl (fun k => nI (eS k)))), (h1, .inr (6, [.ref h1L, .ref h1A, .ref h1C, .int (nI m)])), (h1L, .inl (cC, 60, .inl gL)), (h1A, .inl (cI, 60, .inl gA)), (h1C, .inl (cI, 60, .inl gC)), (h0, .inr (6, [.ref h0L, .ref h0A, .ref h0C, .int (nI (m + eC e9))])), (h0L, .inl (cC, 60, .inl (insR gL fL eL (eP e9) (eC e9) m (eS e9)))), (h0A, .inl (cI, 60, .inl (insK gA fA (nI (eA e9)) (eP e9) (eC e9) m))), (h0C, .inl (cI, 60, .inl (insK gC fC (ard gC m (eP e9) (eP e9)) (eP e9) (eC e9) m)))] H locs := hw
    refine lv_goto (tgt := 96) hx hb dX2_perform_22 (by decide) ?_
    have xen : pfn (eK e9) m (eC e9) = m + eC e9 := if_pos c12
    have xeL : pfL (eK e9) gL fL eL (eP e9) (eC e9) (eG e9) m (eS e9) = insR gL fL eL (eP e9) (eC e9) m (eS e9) := if_pos c12
    have xeA : pfA (eK e9) gA fA (nI (eA e9)) (eP e9) (eC e9) (eG e9) m = insK gA fA (nI (eA e9)) (eP e9) (eC e9) m := if_pos c12
    have xeC : pfC (eK e9) gC fC (eP e9) (eC e9) (eG e9) m = insK gC fC (ard gC m (eP e9) (eP e9)) (eP e9) (eC e9) m := if_pos c12
    have hw : ww D (TY cC cI cJ cZ cD) s A s.heap [(l0, .inr (4, [.ref l0K, .ref l0A, .ref l0P, .ref l0C, .ref l0G, .ref l0O, .ref l0F, .ref l0L, .ref l0S, .int (nI ne), .int (nI lu)])), (l0K, .inl (cC, 40, .inl eK)), (l0A, .inl (cI, 40, .inl (fun k => nI (eA k)))), (l0P, .inl (cI, 40, .inl (fun k => nI (eP k)))), (l0C, .inl (cI, 40, .inl (fun k => nI (eC k)))), (l0G, .inl (cI, 40, .inl (fun k => nI (eG k)))), (l0O, .inl (cI, 40, .inl eO)), (l0F, .inl (cI, 40, .inl eF)), (l0L, .inl (cC, 800, .inl eL)), (l0S, .inl (cI, 40, .inl (fun k => nI (eS k)))), (h1, .inr (6, [.ref h1L, .ref h1A, .ref h1C, .int (nI m)])), (h1L, .inl (cC, 60, .inl gL)), (h1A, .inl (cI, 60, .inl gA)), (h1C, .inl (cI, 60, .inl gC)), (h0, .inr (6, [.ref h0L, .ref h0A, .ref h0C, .int (nI (pfn (eK e9) m (eC e9)))])), (h0L, .inl (cC, 60, .inl (pfL (eK e9) gL fL eL (eP e9) (eC e9) (eG e9) m (eS e9)))), (h0A, .inl (cI, 60, .inl (pfA (eK e9) gA fA (nI (eA e9)) (eP e9) (eC e9) (eG e9) m))), (h0C, .inl (cI, 60, .inl (pfC (eK e9) gC fC (eP e9) (eC e9) (eG e9) m)))] H locs := by rw [xen, xeL, xeA, xeC]; exact hw
    subst hQ
    exact r_retv cx hr hlk hw (Nat.le_of_ble_eq_true rfl) (Nat.le_of_ble_eq_true rfl) () trivial [0, 1, 2, 3, 4, 5, 6, 7, 8, 9, 10, 11, 12, 13, 14, 15, 16, 17] (by decide) rfl dX2_perform_96

