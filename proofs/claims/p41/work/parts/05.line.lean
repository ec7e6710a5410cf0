theorem lkX3_init_1 : Cond.methodLink RX3 1 objectInit ∈ wsX3_init := List.mem_of_getElem? (i := 1) rfl
theorem lkX3_init_2 : Cond.instanceMethod objectInit ∈ wsX3_init := List.mem_of_getElem? (i := 2) rfl
theorem lkX3_init_3 : Cond.code objectInit ⟨#[0xb1]⟩ 1 none ∈ wsX3_init := List.mem_of_getElem? (i := 3) rfl
theorem lkX3_init_4 : Cond.fieldLink RX3 7 "SignedDocument$Line" "signs" "[C" ∈ wsX3_init := List.mem_of_getElem? (i := 4) rfl
theorem inX3_init_3 : ∀ w ∈ u_ws RX3 TX3 2, w ∈ wsX3_init := fun _ h => List.mem_cons_of_mem _ (List.mem_append_right _ h)
theorem lkX3_init_5 : Cond.fieldLink RX3 13 "SignedDocument$Line" "size" "I" ∈ wsX3_init := List.mem_of_getElem? (i := 5) rfl
set_option maxRecDepth 100000 in
set_option maxHeartbeats 4000000 in
theorem mX3_init (l : Launch) (D : va_G) (cC cI cJ cZ cD : ClassId) (h0 q0 : Nat) (sz : Nat) : MV l yX3_init wsX3_init ({ frames := 1, cells := 0, slots := 0, locals := 20 }) [.ref h0, .ref q0] D (TY cC cI cJ cZ cD) [(h0, .inr (5, [.null, .int (nI 0)]))] sz (fun (_ : Unit) => True) (fun (_ : Unit) => [(h0, .inr (5, [.ref q0, .int (nI 0)]))]) 0 0 := by
  refine mk_MV (cc := cX3_init) (maxL := 2) (ret := none) (by decide) rfl (Nat.le_of_ble_eq_true rfl) ?_
  intro p e s mI args below meth cO A cx hr hlk hnm hw ls hl
  have hx := cx.1
  have hb := cx.2.1
  have hw : ww D (TY cC cI cJ cZ cD) s A s.heap [(h0, .inr (5, [.null, .int (nI 0)]))] s.heap [] := hw
  have hl : lv_has ls 2 [(0, .ref h0), (1, .ref q0)] := hl
  generalize hQ : MQ _ _ _ _ _ _ _ = Q
  refine hp_start hw (fun H locs hw => ?_)
  refine lv_aload_n hx hb dX3_init_0 rfl (lv_at hl 0 rfl) ?_
  refine W.objInit hx hb cx.2.2.2.1 (cx.2.2.2.2 _ lkX3_init_1) (cx.2.2.2.2 _ lkX3_init_2) (cx.2.2.2.2 _ lkX3_init_3) rfl (by rw [cx.2.2.1]; exact hl.1) rfl dX3_init_1 (Nat.le_of_ble_eq_true rfl) (Nat.le_of_ble_eq_true rfl) ?_
  refine W.eq (g2 := F0 mI 4 ls []) rfl ?_
  refine lv_aload_n hx hb dX3_init_4 rfl (lv_at hl 0 rfl) ?_
  refine lv_aload_n hx hb dX3_init_5 rfl (lv_at hl 1 rfl) ?_
  refine r_putF cx hw inX3_init_3 tyX3 tyX3_ok nmX3 0 0 rfl rfl (by decide) lkX3_init_4 rfl hnm rfl rfl rfl (Nat.le_of_ble_eq_true rfl) dX3_init_6 (fun H locs hw => ?_)
  have hw : ww D (TY cC cI cJ cZ cD) s A s.heap [(h0, .inr (5, [.ref q0, .int (nI 0)]))] H locs := hw
  refine lv_aload_n hx hb dX3_init_9 rfl (lv_at hl 0 rfl) ?_
  refine lv_iconst (v := nI 0) hx hb dX3_init_10 (by decide) ?_
  refine r_put cx hw inX3_init_3 tyX3 tyX3_ok nmX3 0 1 rfl rfl (by decide) lkX3_init_5 rfl rfl rfl (Nat.le_of_ble_eq_true rfl) dX3_init_11 (fun H locs hw => ?_)
  have hw : ww D (TY cC cI cJ cZ cD) s A s.heap [(h0, .inr (5, [.ref q0, .int (nI 0)]))] H locs := hw
  subst hQ
  exact r_retv cx hr hlk hw (Nat.le_of_ble_eq_true rfl) (Nat.le_of_ble_eq_true rfl) () trivial [0] (by decide) rfl dX3_init_14

theorem lkX3_isFull_1 : Cond.fieldLink RX3 13 "SignedDocument$Line" "size" "I" ∈ wsX3_isFull := List.mem_of_getElem? (i := 1) rfl
theorem inX3_isFull_3 : ∀ w ∈ u_ws RX3 TX3 2, w ∈ wsX3_isFull := fun _ h => List.mem_cons_of_mem _ (List.mem_append_right _ h)
theorem lkX3_isFull_2 : Cond.fieldLink RX3 7 "SignedDocument$Line" "signs" "[C" ∈ wsX3_isFull := List.mem_of_getElem? (i := 2) rfl
set_option maxRecDepth 100000 in
set_option maxHeartbeats 4000000 in
theorem mX3_isFull (l : Launch) (D : va_G) (cC cI cJ cZ cD : ClassId) (h0 h0S : Nat) (cap n : Nat) (f : Nat → Int32) (sz : Nat) (hc : cap ≤ 400) (hn : n ≤ cap) : MI l yX3_isFull wsX3_isFull ({ frames := 0, cells := 0, slots := 0, locals := 0 }) [.ref h0] D (TY cC cI cJ cZ cD) [(h0, .inr (5, [.ref h0S, .int (nI n)])), (h0S, .inl (cC, cap, .inl f))] sz (fun (r : Int32) => fun (_ : Unit) => ((r = nI 1 ∧ (cap ≤ n)) ∨ (r = nI 0 ∧ ¬ (cap ≤ n)))) (fun (_ : Unit) => [(h0, .inr (5, [.ref h0S, .int (nI n)])), (h0S, .inl (cC, cap, .inl f))]) 0 0 := by
  refine mk_MI (cc := cX3_isFull) (maxL := 1) (ret := (some .boolean)) (by decide) rfl (Nat.le_of_ble_eq_true rfl) ?_
  intro p e s mI args below meth cO A cx hr hlk hnm hw ls hl
  have hx := cx.1
  have hb := cx.2.1
  have hw : ww D (TY cC cI cJ cZ cD) s A s.heap [(h0, .inr (5, [.ref h0S, .int (nI n)])), (h0S, .inl (cC, cap, .inl f))] s.heap [] := hw
  have hl : lv_has ls 1 [(0, .ref h0)] := hl
  generalize hQ : MQ _ _ _ _ _ _ _ = Q
  refine hp_start hw (fun H locs hw => ?_)
  refine lv_aload_n hx hb dX3_isFull_0 rfl (lv_at hl 0 rfl) ?_
  refine r_get cx hw inX3_isFull_3 0 1 rfl rfl (by decide) lkX3_isFull_1 rfl dX3_isFull_1 ?_
  refine lv_aload_n hx hb dX3_isFull_4 rfl (lv_at hl 0 rfl) ?_
  refine r_get cx hw inX3_isFull_3 0 0 rfl rfl (by decide) lkX3_isFull_2 rfl dX3_isFull_5 ?_
  refine r_alen cx hw 1 0 rfl rfl cap rfl dX3_isFull_8 ?_
  refine r_icmp_lt cx 16 n cap rfl rfl (by omega) (by omega) dX3_isFull_9 (by decide) (fun c9 => ?_) (fun c9 => ?_)
  · refine lv_iconst (v := nI 0) hx hb dX3_isFull_16 (by decide) ?_
    subst hQ
    exact r_reti (v := nI 0) cx hr (by decide) hlk hw (Nat.le_of_ble_eq_true rfl) (Nat.le_of_ble_eq_true rfl) () (by right; exact ⟨rfl, by omega⟩) [0, 1] (by decide) rfl dX3_isFull_17
  · refine lv_iconst (v := nI 1) hx hb dX3_isFull_12 (by decide) ?_
    refine lv_goto (tgt := 17) hx hb dX3_isFull_13 (by decide) ?_
    subst hQ
    exact r_reti (v := nI 1) cx hr (by decide) hlk hw (Nat.le_of_ble_eq_true rfl) (Nat.le_of_ble_eq_true rfl) () (by left; exact ⟨rfl, by omega⟩) [0, 1] (by decide) rfl dX3_isFull_17

theorem lkX3_put_1 : Cond.fieldLink RX3 7 "SignedDocument$Line" "signs" "[C" ∈ wsX3_put := List.mem_of_getElem? (i := 1) rfl
theorem inX3_put_3 : ∀ w ∈ u_ws RX3 TX3 2, w ∈ wsX3_put := fun _ h => List.mem_cons_of_mem _ (List.mem_append_left _ (List.mem_append_right _ h))
theorem lkX3_put_2 : Cond.fieldLink RX3 13 "SignedDocument$Line" "size" "I" ∈ wsX3_put := List.mem_of_getElem? (i := 2) rfl
set_option maxRecDepth 100000 in
set_option maxHeartbeats 4000000 in
theorem mX3_put (l : Launch) (D : va_G) (cC cI cJ cZ cD : ClassId) (h0 h0S : Nat) (cap n : Nat) (f : Nat → Int32) (x : Int32) (sz : Nat) (hc : cap ≤ 400) (hn : n < cap) (hx9 : vp_nar .char x = x) (hf : ∀ j, vp_nar .char (f j) = f j) : MV l yX3_put wsX3_put ({ frames := 1, cells := 0, slots := 0, locals := 20 }) [.ref h0, .int x] D (TY cC cI cJ cZ cD) [(h0, .inr (5, [.ref h0S, .int (nI n)])), (h0S, .inl (cC, cap, .inl f))] sz (fun (_ : Unit) => True) (fun (_ : Unit) => [(h0, .inr (5, [.ref h0S, .int (nI (n + 1))])), (h0S, .inl (cC, cap, .inl (upd f n x)))]) 0 0 := by
  refine mk_MV (cc := cX3_put) (maxL := 2) (ret := none) (by decide) rfl (Nat.le_of_ble_eq_true rfl) ?_
  intro p e s mI args below meth cO A cx hr hlk hnm hw ls hl
  have hx := cx.1
  have hb := cx.2.1
  have hw : ww D (TY cC cI cJ cZ cD) s A s.heap [(h0, .inr (5, [.ref h0S, .int (nI n)])), (h0S, .inl (cC, cap, .inl f))] s.heap [] := hw
  have hl : lv_has ls 2 [(0, .ref h0), (1, .int x)] := hl
  generalize hQ : MQ _ _ _ _ _ _ _ = Q
  refine hp_start hw (fun H locs hw => ?_)
  refine lv_aload_n hx hb dX3_put_0 rfl (lv_at hl 0 rfl) ?_
  refine r_callVi (n := 0) (wr := []) cx hw (mX3_isFull l D cC cI cJ cZ cD h0 h0S cap n f H.size hc (by omega)) [0, 1] [] gX3_put_X3_isFull rfl rfl rfl (by decide +kernel) ⟨Nat.le_of_ble_eq_true rfl, Nat.le_of_ble_eq_true rfl⟩ (q0 := 0) rfl rfl rfl rfl (by decide) (by decide) (by decide) rfl rfl hl.1 (Nat.le_of_ble_eq_true rfl) dX3_put_1 ⟨Nat.le_of_ble_eq_true rfl, Nat.le_of_ble_eq_true rfl⟩ (fun r_1 u H locs hp hw => ?_)
  have hw : ww D (TY cC cI cJ cZ cD) s A s.heap [(h0, .inr (5, [.ref h0S, .int (nI n)])), (h0S, .inl (cC, cap, .inl f))] H locs := hw
  try dsimp only at hp
  have hb9 := hp
  rcases hb9 with ⟨rfl, b1⟩ | ⟨rfl, b1⟩
  · exact absurd b1 (by omega)
  · refine r_if_ne cx 27 0 rfl (by omega) dX3_put_4 (by decide) (fun c4 => by exact absurd c4 (by decide)) (fun c4 => ?_)
    refine lv_aload_n hx hb dX3_put_7 rfl (lv_at hl 0 rfl) ?_
    refine r_get cx hw inX3_put_3 0 0 rfl rfl (by decide) lkX3_put_1 rfl dX3_put_8 ?_
    refine lv_aload_n hx hb dX3_put_11 rfl (lv_at hl 0 rfl) ?_
    refine r_get cx hw inX3_put_3 0 1 rfl rfl (by decide) lkX3_put_2 rfl dX3_put_12 ?_
    refine lv_iload_n hx hb dX3_put_15 rfl (lv_at hl 1 rfl) ?_
    refine r_cast cx hw 1 0 rfl rfl n rfl hx9 (by omega) (by omega) dX3_put_16 (fun H locs hw => ?_)
    have hw : ww D (TY cC cI cJ cZ cD) s A s.heap [(h0, .inr (5, [.ref h0S, .int (nI n)])), (h0S, .inl (cC, cap, .inl (upd f n x)))] H locs := hw
    refine lv_aload_n hx hb dX3_put_17 rfl (lv_at hl 0 rfl) ?_
    refine lv_dup hx hb dX3_put_18 rfl ?_
    refine r_get cx hw inX3_put_3 0 1 rfl rfl (by decide) lkX3_put_2 rfl dX3_put_19 ?_
    refine lv_iconst (v := nI 1) hx hb dX3_put_22 (by decide) ?_
    refine r_iadd cx n 1 rfl rfl dX3_put_23 ?_
    refine r_put cx hw inX3_put_3 tyX3 tyX3_ok nmX3 0 1 rfl rfl (by decide) lkX3_put_2 rfl rfl rfl (Nat.le_of_ble_eq_true rfl) dX3_put_24 (fun H locs hw => ?_)
    have hw : ww D (TY cC cI cJ cZ cD) s A s.heap [(h0, .inr (5, [.ref h0S, .int (nI (n + 1))])), (h0S, .inl (cC, cap, .inl (upd f n x)))] H locs := hw
    subst hQ
    exact r_retv cx hr hlk hw (Nat.le_of_ble_eq_true rfl) (Nat.le_of_ble_eq_true rfl) () trivial [0, 1] (by decide) rfl dX3_put_27

theorem lkX3_clear_1 : Cond.fieldLink RX3 13 "SignedDocument$Line" "size" "I" ∈ wsX3_clear := List.mem_of_getElem? (i := 1) rfl
theorem inX3_clear_3 : ∀ w ∈ u_ws RX3 TX3 2, w ∈ wsX3_clear := fun _ h => List.mem_cons_of_mem _ (List.mem_append_right _ h)
set_option maxRecDepth 100000 in
set_option maxHeartbeats 4000000 in
theorem mX3_clear (l : Launch) (D : va_G) (cC cI cJ cZ cD : ClassId) (h0 h0S : Nat) (cap n : Nat) (f : Nat → Int32) (sz : Nat) : MV l yX3_clear wsX3_clear ({ frames := 0, cells := 0, slots := 0, locals := 0 }) [.ref h0] D (TY cC cI cJ cZ cD) [(h0, .inr (5, [.ref h0S, .int (nI n)])), (h0S, .inl (cC, cap, .inl f))] sz (fun (_ : Unit) => True) (fun (_ : Unit) => [(h0, .inr (5, [.ref h0S, .int (nI 0)])), (h0S, .inl (cC, cap, .inl f))]) 0 0 := by
  refine mk_MV (cc := cX3_clear) (maxL := 1) (ret := none) (by decide) rfl (Nat.le_of_ble_eq_true rfl) ?_
  intro p e s mI args below meth cO A cx hr hlk hnm hw ls hl
  have hx := cx.1
  have hb := cx.2.1
  have hw : ww D (TY cC cI cJ cZ cD) s A s.heap [(h0, .inr (5, [.ref h0S, .int (nI n)])), (h0S, .inl (cC, cap, .inl f))] s.heap [] := hw
  have hl : lv_has ls 1 [(0, .ref h0)] := hl
  generalize hQ : MQ _ _ _ _ _ _ _ = Q
  refine hp_start hw (fun H locs hw => ?_)
  refine lv_aload_n hx hb dX3_clear_0 rfl (lv_at hl 0 rfl) ?_
  refine lv_iconst (v := nI 0) hx hb dX3_clear_1 (by decide) ?_
  refine r_put cx hw inX3_clear_3 tyX3 tyX3_ok nmX3 0 1 rfl rfl (by decide) lkX3_clear_1 rfl rfl rfl (Nat.le_of_ble_eq_true rfl) dX3_clear_2 (fun H locs hw => ?_)
  have hw : ww D (TY cC cI cJ cZ cD) s A s.heap [(h0, .inr (5, [.ref h0S, .int (nI 0)])), (h0S, .inl (cC, cap, .inl f))] H locs := hw
  subst hQ
  exact r_retv cx hr hlk hw (Nat.le_of_ble_eq_true rfl) (Nat.le_of_ble_eq_true rfl) () trivial [0, 1] (by decide) rfl dX3_clear_5

