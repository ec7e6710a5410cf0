theorem lkX7_needAuthor_1 : Cond.classLink RX7 118 "java/lang/IndexOutOfBoundsException" ∈ wsX7_needAuthor := List.mem_of_getElem? (i := 1) rfl
theorem lkX7_needAuthor_2 : Cond.initialized "java/lang/IndexOutOfBoundsException" ∈ wsX7_needAuthor := List.mem_of_getElem? (i := 2) rfl
theorem lkX7_needAuthor_3 : Cond.fieldLink RX7 12 "SignedDocument" "authorBook" "LSignedDocument$AuthorBook;" ∈ wsX7_needAuthor := List.mem_of_getElem? (i := 3) rfl
theorem inX7_needAuthor_7 : ∀ w ∈ u_ws RX7 TX7 13, w ∈ wsX7_needAuthor := fun _ h => List.mem_cons_of_mem _ (List.mem_append_left _ (List.mem_append_left _ (List.mem_append_right _ h)))
theorem lkX7_needAuthor_4 : Cond.fieldLink RX7 293 "SignedDocument$AuthorBook" "size" "I" ∈ wsX7_needAuthor := List.mem_of_getElem? (i := 4) rfl
theorem inX7_needAuthor_0 : ∀ w ∈ u_ws RX0 TX0 4, w ∈ wsX7_needAuthor := fun _ h => List.mem_cons_of_mem _ (List.mem_append_left _ (List.mem_append_right _ h))
set_option maxRecDepth 100000 in
set_option maxHeartbeats 4000000 in
theorem mX7_needAuthor (l : Launch) (hfl : l.stackTraces = false) (D : va_G) (cC cI cJ cZ cD : ClassId) (x ab cb sb lg pr pp rd ty ou abS abR abB : Nat) (stc lr lz : Int32) (fee : Nat) (na : Nat) (sS sR : Nat → Int32) (sB : Nat → Int64) (v : Int32) (sz : Nat) (hna : na ≤ 5) : YV l yX7_needAuthor wsX7_needAuthor ({ frames := 6, cells := 1, slots := 6, locals := 90 }) [.ref x, .int v] D (TY cC cI cJ cZ cD) [(x, .inr (9, [.ref ab, .ref cb, .ref sb, .ref lg, .ref pr, .ref pp, .ref rd, .ref ty, .ref ou, .int stc, .int (nI fee), .int lr, .int lz])), (ab, .inr (2, [.ref abS, .ref abR, .ref abB, .int (nI na)])), (abS, .inl (cI, 5, .inl sS)), (abR, .inl (cI, 5, .inl sR)), (abB, .inl (cJ, 5, .inr (.inl sB)))] sz (fun (k : Nat) => k < na ∧ v = nI k) (fun (k : Nat) => [(x, .inr (9, [.ref ab, .ref cb, .ref sb, .ref lg, .ref pr, .ref pp, .ref rd, .ref ty, .ref ou, .int stc, .int (nI fee), .int lr, .int lz])), (ab, .inr (2, [.ref abS, .ref abR, .ref abB, .int (nI na)])), (abS, .inl (cI, 5, .inl sS)), (abR, .inl (cI, 5, .inl sR)), (abB, .inl (cJ, 5, .inr (.inl sB)))]) (fun (E : String) => fun (_ : Unit) => (E = "java/lang/IndexOutOfBoundsException" ∧ (¬ ix v na))) (fun (_ : Unit) => [(x, .inr (9, [.ref ab, .ref cb, .ref sb, .ref lg, .ref pr, .ref pp, .ref rd, .ref ty, .ref ou, .int stc, .int (nI fee), .int lr, .int lz])), (ab, .inr (2, [.ref abS, .ref abR, .ref abB, .int (nI na)])), (abS, .inl (cI, 5, .inl sS)), (abR, .inl (cI, 5, .inl sR)), (abB, .inl (cJ, 5, .inr (.inl sB)))]) 1 6 := by
  refine mk_YV (cc := cX7_needAuthor) (maxL := 2) (ret := none) (by decide) rfl (Nat.le_of_ble_eq_true rfl) ?_
  intro p e s mI args below meth cO A cx hr hlk htab hxs hw ls hl
  have hx := cx.1
  have hb := cx.2.1
  have hw : ww D (TY cC cI cJ cZ cD) s A s.heap [(x, .inr (9, [.ref ab, .ref cb, .ref sb, .ref lg, .ref pr, .ref pp, .ref rd, .ref ty, .ref ou, .int stc, .int (nI fee), .int lr, .int lz])), (ab, .inr (2, [.ref abS, .ref abR, .ref abB, .int (nI na)])), (abS, .inl (cI, 5, .inl sS)), (abR, .inl (cI, 5, .inl sR)), (abB, .inl (cJ, 5, .inr (.inl sB)))] s.heap [] := hw
  have hl : lv_has ls 2 [(0, .ref x), (1, .int v)] := hl
  generalize hQ : vx_MQ _ _ _ _ _ _ _ _ = Q
  refine hp_start hw (fun H locs hw => ?_)
  refine lv_iload_n hx hb dX7_needAuthor_0 rfl (lv_at hl 1 rfl) ?_
  refine lv_if_lt (tgt := 15) hx hb dX7_needAuthor_1 (by decide) (fun c1 => ?_) (fun c1 => ?_)
  · subst hQ
    exact r_ythrowW (text := "no such author") (names := ["java/lang/RuntimeException", "java/lang/Exception"]) cx hfl hxs 15 rfl (by decide +kernel) (by decide +kernel) lkX7_needAuthor_1 lkX7_needAuthor_2 (fun w h => List.mem_cons_of_mem _ (List.mem_append_right _ h)) (by decide +kernel) (by decide +kernel) hw hl.1 dX7_needAuthor_15 dX7_needAuthor_18 dX7_needAuthor_19 dX7_needAuthor_22 dX7_needAuthor_25 htab (Nat.le_of_ble_eq_true rfl) (Nat.le_of_ble_eq_true rfl) (Nat.le_of_ble_eq_true rfl) (Nat.le_of_ble_eq_true rfl) hlk (Nat.le_of_ble_eq_true rfl) (Nat.le_of_ble_eq_true rfl) () (by exact ⟨rfl, by first | exact ix_neg c1 | exact ix_big (by omega) c12⟩) [0, 1, 2, 3, 4] (by decide) rfl
  · refine lv_iload_n hx hb dX7_needAuthor_4 rfl (lv_at hl 1 rfl) ?_
    refine lv_aload_n hx hb dX7_needAuthor_5 rfl (lv_at hl 0 rfl) ?_
    refine r_get cx hw inX7_needAuthor_7 0 0 rfl rfl (by decide) lkX7_needAuthor_3 rfl dX7_needAuthor_6 ?_
    refine r_get cx hw inX7_needAuthor_0 1 3 rfl rfl (by decide) lkX7_needAuthor_4 rfl dX7_needAuthor_9 ?_
    refine lv_icmp_lt (tgt := 26) hx hb dX7_needAuthor_12 (by decide) (fun c12 => ?_) (fun c12 => ?_)
    · obtain ⟨k9, hk9, e9⟩ := nI_of_ix (ix_ok (by omega) c1 c12)
      subst hQ
      exact vx_ret (r_retv cx hr hlk hw (Nat.le_of_ble_eq_true rfl) (Nat.le_of_ble_eq_true rfl) k9 ⟨hk9, e9⟩ [0, 1, 2, 3, 4] (by decide) rfl dX7_needAuthor_26)
    · subst hQ
      exact r_ythrowW (text := "no such author") (names := ["java/lang/RuntimeException", "java/lang/Exception"]) cx hfl hxs 15 rfl (by decide +kernel) (by decide +kernel) lkX7_needAuthor_1 lkX7_needAuthor_2 (fun w h => List.mem_cons_of_mem _ (List.mem_append_right _ h)) (by decide +kernel) (by decide +kernel) hw hl.1 dX7_needAuthor_15 dX7_needAuthor_18 dX7_needAuthor_19 dX7_needAuthor_22 dX7_needAuthor_25 htab (Nat.le_of_ble_eq_true rfl) (Nat.le_of_ble_eq_true rfl) (Nat.le_of_ble_eq_true rfl) (Nat.le_of_ble_eq_true rfl) hlk (Nat.le_of_ble_eq_true rfl) (Nat.le_of_ble_eq_true rfl) () (by exact ⟨rfl, by first | exact ix_neg c1 | exact ix_big (by omega) c12⟩) [0, 1, 2, 3, 4] (by decide) rfl


theorem lkX7_needClause_1 : Cond.classLink RX7 118 "java/lang/IndexOutOfBoundsException" ∈ wsX7_needClause := List.mem_of_getElem? (i := 1) rfl
theorem lkX7_needClause_2 : Cond.initialized "java/lang/IndexOutOfBoundsException" ∈ wsX7_needClause := List.mem_of_getElem? (i := 2) rfl
theorem lkX7_needClause_3 : Cond.fieldLink RX7 19 "SignedDocument" "clauseBook" "LSignedDocument$ClauseBook;" ∈ wsX7_needClause := List.mem_of_getElem? (i := 3) rfl
theorem inX7_needClause_7 : ∀ w ∈ u_ws RX7 TX7 13, w ∈ wsX7_needClause := fun _ h => List.mem_cons_of_mem _ (List.mem_append_left _ (List.mem_append_left _ (List.mem_append_right _ h)))
theorem lkX7_needClause_4 : Cond.fieldLink RX7 216 "SignedDocument$ClauseBook" "size" "I" ∈ wsX7_needClause := List.mem_of_getElem? (i := 4) rfl
theorem inX7_needClause_1 : ∀ w ∈ u_ws RX1 TX1 5, w ∈ wsX7_needClause := fun _ h => List.mem_cons_of_mem _ (List.mem_append_left _ (List.mem_append_right _ h))
set_option maxRecDepth 100000 in
set_option maxHeartbeats 4000000 in
theorem mX7_needClause (l : Launch) (hfl : l.stackTraces = false) (D : va_G) (cC cI cJ cZ cD : ClassId) (x ab cb sb lg pr pp rd ty ou cbP cbK cbE cbZ : Nat) (stc lr lz : Int32) (fee : Nat) (nc : Nat) (gP gK gE : Nat → Nat) (kZ : Nat → Int32) (v : Int32) (sz : Nat) (hnc : nc ≤ 6) : YV l yX7_needClause wsX7_needClause ({ frames := 6, cells := 1, slots := 6, locals := 90 }) [.ref x, .int v] D (TY cC cI cJ cZ cD) [(x, .inr (9, [.ref ab, .ref cb, .ref sb, .ref lg, .ref pr, .ref pp, .ref rd, .ref ty, .ref ou, .int stc, .int (nI fee), .int lr, .int lz])), (cb, .inr (3, [.ref cbP, .ref cbK, .ref cbE, .ref cbZ, .int (nI nc)])), (cbP, .inl (cI, 6, .inl (fun jj => nI (gP jj)))), (cbK, .inl (cI, 6, .inl (fun jj => nI (gK jj)))), (cbE, .inl (cI, 6, .inl (fun jj => nI (gE jj)))), (cbZ, .inl (cZ, 6, .inl kZ))] sz (fun (k : Nat) => k < nc ∧ v = nI k) (fun (k : Nat) => [(x, .inr (9, [.ref ab, .ref cb, .ref sb, .ref lg, .ref pr, .ref pp, .ref rd, .ref ty, .ref ou, .int stc, .int (nI fee), .int lr, .int lz])), (cb, .inr (3, [.ref cbP, .ref cbK, .ref cbE, .ref cbZ, .int (nI nc)])), (cbP, .inl (cI, 6, .inl (fun jj => nI (gP jj)))), (cbK, .inl (cI, 6, .inl (fun jj => nI (gK jj)))), (cbE, .inl (cI, 6, .inl (fun jj => nI (gE jj)))), (cbZ, .inl (cZ, 6, .inl kZ))]) (fun (E : String) => fun (_ : Unit) => (E = "java/lang/IndexOutOfBoundsException" ∧ (¬ ix v nc))) (fun (_ : Unit) => [(x, .inr (9, [.ref ab, .ref cb, .ref sb, .ref lg, .ref pr, .ref pp, .ref rd, .ref ty, .ref ou, .int stc, .int (nI fee), .int lr, .int lz])), (cb, .inr (3, [.ref cbP, .ref cbK, .ref cbE, .ref cbZ, .int (nI nc)])), (cbP, .inl (cI, 6, .inl (fun jj => nI (gP jj)))), (cbK, .inl (cI, 6, .inl (fun jj => nI (gK jj)))), (cbE, .inl (cI, 6, .inl (fun jj => nI (gE jj)))), (cbZ, .inl (cZ, 6, .inl kZ))]) 1 6 := by
  refine mk_YV (cc := cX7_needClause) (maxL := 2) (ret := none) (by decide) rfl (Nat.le_of_ble_eq_true rfl) ?_
  intro p e s mI args below meth cO A cx hr hlk htab hxs hw ls hl
  have hx := cx.1
  have hb := cx.2.1
  have hw : ww D (TY cC cI cJ cZ cD) s A s.heap [(x, .inr (9, [.ref ab, .ref cb, .ref sb, .ref lg, .ref pr, .ref pp, .ref rd, .ref ty, .ref ou, .int stc, .int (nI fee), .int lr, .int lz])), (cb, .inr (3, [.ref cbP, .ref cbK, .ref cbE, .ref cbZ, .int (nI nc)])), (cbP, .inl (cI, 6, .inl (fun jj => nI (gP jj)))), (cbK, .inl (cI, 6, .inl (fun jj => nI (gK jj)))), (cbE, .inl (cI, 6, .inl (fun jj => nI (gE jj)))), (cbZ, .inl (cZ, 6, .inl kZ))] s.heap [] := hw
  have hl : lv_has ls 2 [(0, .ref x), (1, .int v)] := hl
  generalize hQ : vx_MQ _ _ _ _ _ _ _ _ = Q
  refine hp_start hw (fun H locs hw => ?_)
  refine lv_iload_n hx hb dX7_needClause_0 rfl (lv_at hl 1 rfl) ?_
  refine lv_if_lt (tgt := 15) hx hb dX7_needClause_1 (by decide) (fun c1 => ?_) (fun c1 => ?_)
  · subst hQ
    exact r_ythrowW (text := "no such clause") (names := ["java/lang/RuntimeException", "java/lang/Exception"]) cx hfl hxs 16 rfl (by decide +kernel) (by decide +kernel) lkX7_needClause_1 lkX7_needClause_2 (fun w h => List.mem_cons_of_mem _ (List.mem_append_right _ h)) (by decide +kernel) (by decide +kernel) hw hl.1 dX7_needClause_15 dX7_needClause_18 dX7_needClause_19 dX7_needClause_22 dX7_needClause_25 htab (Nat.le_of_ble_eq_true rfl) (Nat.le_of_ble_eq_true rfl) (Nat.le_of_ble_eq_true rfl) (Nat.le_of_ble_eq_true rfl) hlk (Nat.le_of_ble_eq_true rfl) (Nat.le_of_ble_eq_true rfl) () (by exact ⟨rfl, by first | exact ix_neg c1 | exact ix_big (by omega) c12⟩) [0, 1, 2, 3, 4, 5] (by decide) rfl
  · refine lv_iload_n hx hb dX7_needClause_4 rfl (lv_at hl 1 rfl) ?_
    refine lv_aload_n hx hb dX7_needClause_5 rfl (lv_at hl 0 rfl) ?_
    refine r_get cx hw inX7_needClause_7 0 1 rfl rfl (by decide) lkX7_needClause_3 rfl dX7_needClause_6 ?_
    refine r_get cx hw inX7_needClause_1 1 4 rfl rfl (by decide) lkX7_needClause_4 rfl dX7_needClause_9 ?_
    refine lv_icmp_lt (tgt := 26) hx hb dX7_needClause_12 (by decide) (fun c12 => ?_) (fun c12 => ?_)
    · obtain ⟨k9, hk9, e9⟩ := nI_of_ix (ix_ok (by omega) c1 c12)
      subst hQ
      exact vx_ret (r_retv cx hr hlk hw (Nat.le_of_ble_eq_true rfl) (Nat.le_of_ble_eq_true rfl) k9 ⟨hk9, e9⟩ [0, 1, 2, 3, 4, 5] (by decide) rfl dX7_needClause_26)
    · subst hQ
      exact r_ythrowW (text := "no such clause") (names := ["java/lang/RuntimeException", "java/lang/Exception"]) cx hfl hxs 16 rfl (by decide +kernel) (by decide +kernel) lkX7_needClause_1 lkX7_needClause_2 (fun w h => List.mem_cons_of_mem _ (List.mem_append_right _ h)) (by decide +kernel) (by decide +kernel) hw hl.1 dX7_needClause_15 dX7_needClause_18 dX7_needClause_19 dX7_needClause_22 dX7_needClause_25 htab (Nat.le_of_ble_eq_true rfl) (Nat.le_of_ble_eq_true rfl) (Nat.le_of_ble_eq_true rfl) (Nat.le_of_ble_eq_true rfl) hlk (Nat.le_of_ble_eq_true rfl) (Nat.le_of_ble_eq_true rfl) () (by exact ⟨rfl, by first | exact ix_neg c1 | exact ix_big (by omega) c12⟩) [0, 1, 2, 3, 4, 5] (by decide) rfl

theorem lkX7_needSignature_1 : Cond.classLink RX7 118 "java/lang/IndexOutOfBoundsException" ∈ wsX7_needSignature := List.mem_of_getElem? (i := 1) rfl
theorem lkX7_needSignature_2 : Cond.initialized "java/lang/IndexOutOfBoundsException" ∈ wsX7_needSignature := List.mem_of_getElem? (i := 2) rfl
theorem lkX7_needSignature_3 : Cond.fieldLink RX7 26 "SignedDocument" "signatureBook" "LSignedDocument$SignatureBook;" ∈ wsX7_needSignature := List.mem_of_getElem? (i := 3) rfl
theorem inX7_needSignature_7 : ∀ w ∈ u_ws RX7 TX7 13, w ∈ wsX7_needSignature := fun _ h => List.mem_cons_of_mem _ (List.mem_append_left _ (List.mem_append_left _ (List.mem_append_right _ h)))
theorem lkX7_needSignature_4 : Cond.fieldLink RX7 246 "SignedDocument$SignatureBook" "size" "I" ∈ wsX7_needSignature := List.mem_of_getElem? (i := 4) rfl
theorem inX7_needSignature_6 : ∀ w ∈ u_ws RX6 TX6 6, w ∈ wsX7_needSignature := fun _ h => List.mem_cons_of_mem _ (List.mem_append_left _ (List.mem_append_right _ h))
set_option maxRecDepth 100000 in
set_option maxHeartbeats 4000000 in
theorem mX7_needSignature (l : Launch) (hfl : l.stackTraces = false) (D : va_G) (cC cI cJ cZ cD : ClassId) (x ab cb sb lg pr pp rd ty ou sbA sbX sbE sbV sbT : Nat) (stc lr lz : Int32) (fee : Nat) (ns : Nat) (gA gX gV gT : Nat → Int32) (gF : Nat → Nat) (v : Int32) (sz : Nat) (hns : ns ≤ 12) : YV l yX7_needSignature wsX7_needSignature ({ frames := 6, cells := 1, slots := 6, locals := 90 }) [.ref x, .int v] D (TY cC cI cJ cZ cD) [(x, .inr (9, [.ref ab, .ref cb, .ref sb, .ref lg, .ref pr, .ref pp, .ref rd, .ref ty, .ref ou, .int stc, .int (nI fee), .int lr, .int lz])), (sb, .inr (8, [.ref sbA, .ref sbX, .ref sbE, .ref sbV, .ref sbT, .int (nI ns)])), (sbA, .inl (cI, 12, .inl gA)), (sbX, .inl (cI, 12, .inl gX)), (sbE, .inl (cI, 12, .inl (fun jj => nI (gF jj)))), (sbV, .inl (cI, 12, .inl gV)), (sbT, .inl (cC, 12, .inl gT))] sz (fun (k : Nat) => k < ns ∧ v = nI k) (fun (k : Nat) => [(x, .inr (9, [.ref ab, .ref cb, .ref sb, .ref lg, .ref pr, .ref pp, .ref rd, .ref ty, .ref ou, .int stc, .int (nI fee), .int lr, .int lz])), (sb, .inr (8, [.ref sbA, .ref sbX, .ref sbE, .ref sbV, .ref sbT, .int (nI ns)])), (sbA, .inl (cI, 12, .inl gA)), (sbX, .inl (cI, 12, .inl gX)), (sbE, .inl (cI, 12, .inl (fun jj => nI (gF jj)))), (sbV, .inl (cI, 12, .inl gV)), (sbT, .inl (cC, 12, .inl gT))]) (fun (E : String) => fun (_ : Unit) => (E = "java/lang/IndexOutOfBoundsException" ∧ (¬ ix v ns))) (fun (_ : Unit) => [(x, .inr (9, [.ref ab, .ref cb, .ref sb, .ref lg, .ref pr, .ref pp, .ref rd, .ref ty, .ref ou, .int stc, .int (nI fee), .int lr, .int lz])), (sb, .inr (8, [.ref sbA, .ref sbX, .ref sbE, .ref sbV, .ref sbT, .int (nI ns)])), (sbA, .inl (cI, 12, .inl gA)), (sbX, .inl (cI, 12, .inl gX)), (sbE, .inl (cI, 12, .inl (fun jj => nI (gF jj)))), (sbV, .inl (cI, 12, .inl gV)), (sbT, .inl (cC, 12, .inl gT))]) 1 6 := by
  refine mk_YV (cc := cX7_needSignature) (maxL := 2) (ret := none) (by decide) rfl (Nat.le_of_ble_eq_true rfl) ?_
  intro p e s mI args below meth cO A cx hr hlk htab hxs hw ls hl
  have hx := cx.1
  have hb := cx.2.1
  have hw : ww D (TY cC cI cJ cZ cD) s A s.heap [(x, .inr (9, [.ref ab, .ref cb, .ref sb, .ref lg, .ref pr, .ref pp, .ref rd, .ref ty, .ref ou, .int stc, .int (nI fee), .int lr, .int lz])), (sb, .inr (8, [.ref sbA, .ref sbX, .ref sbE, .ref sbV, .ref sbT, .int (nI ns)])), (sbA, .inl (cI, 12, .inl gA)), (sbX, .inl (cI, 12, .inl gX)), (sbE, .inl (cI, 12, .inl (fun jj => nI (gF jj)))), (sbV, .inl (cI, 12, .inl gV)), (sbT, .inl (cC, 12, .inl gT))] s.heap [] := hw
  have hl : lv_has ls 2 [(0, .ref x), (1, .int v)] := hl
  generalize hQ : vx_MQ _ _ _ _ _ _ _ _ = Q
  refine hp_start hw (fun H locs hw => ?_)
  refine lv_iload_n hx hb dX7_needSignature_0 rfl (lv_at hl 1 rfl) ?_
  refine lv_if_lt (tgt := 15) hx hb dX7_needSignature_1 (by decide) (fun c1 => ?_) (fun c1 => ?_)
  · subst hQ
    exact r_ythrowW (text := "no such signature") (names := ["java/lang/RuntimeException", "java/lang/Exception"]) cx hfl hxs 17 rfl (by decide +kernel) (by decide +kernel) lkX7_needSignature_1 lkX7_needSignature_2 (fun w h => List.mem_cons_of_mem _ (List.mem_append_right _ h)) (by decide +kernel) (by decide +kernel) hw hl.1 dX7_needSignature_15 dX7_needSignature_18 dX7_needSignature_19 dX7_needSignature_22 dX7_needSignature_25 htab (Nat.le_of_ble_eq_true rfl) (Nat.le_of_ble_eq_true rfl) (Nat.le_of_ble_eq_true rfl) (Nat.le_of_ble_eq_true rfl) hlk (Nat.le_of_ble_eq_true rfl) (Nat.le_of_ble_eq_true rfl) () (by exact ⟨rfl, by first | exact ix_neg c1 | exact ix_big (by omega) c12⟩) [0, 1, 2, 3, 4, 5, 6] (by decide) rfl
  · refine lv_iload_n hx hb dX7_needSignature_4 rfl (lv_at hl 1 rfl) ?_
    refine lv_aload_n hx hb dX7_needSignature_5 rfl (lv_at hl 0 rfl) ?_
    refine r_get cx hw inX7_needSignature_7 0 2 rfl rfl (by decide) lkX7_needSignature_3 rfl dX7_needSignature_6 ?_
    refine r_get cx hw inX7_needSignature_6 1 5 rfl rfl (by decide) lkX7_needSignature_4 rfl dX7_needSignature_9 ?_
    refine lv_icmp_lt (tgt := 26) hx hb dX7_needSignature_12 (by decide) (fun c12 => ?_) (fun c12 => ?_)
    · obtain ⟨k9, hk9, e9⟩ := nI_of_ix (ix_ok (by omega) c1 c12)
      subst hQ
      exact vx_ret (r_retv cx hr hlk hw (Nat.le_of_ble_eq_true rfl) (Nat.le_of_ble_eq_true rfl) k9 ⟨hk9, e9⟩ [0, 1, 2, 3, 4, 5, 6] (by decide) rfl dX7_needSignature_26)
    · subst hQ
      exact r_ythrowW (text := "no such signature") (names := ["java/lang/RuntimeException", "java/lang/Exception"]) cx hfl hxs 17 rfl (by decide +kernel) (by decide +kernel) lkX7_needSignature_1 lkX7_needSignature_2 (fun w h => List.mem_cons_of_mem _ (List.mem_append_right _ h)) (by decide +kernel) (by decide +kernel) hw hl.1 dX7_needSignature_15 dX7_needSignature_18 dX7_needSignature_19 dX7_needSignature_22 dX7_needSignature_25 htab (Nat.le_of_ble_eq_true rfl) (Nat.le_of_ble_eq_true rfl) (Nat.le_of_ble_eq_true rfl) (Nat.le_of_ble_eq_true rfl) hlk (Nat.le_of_ble_eq_true rfl) (Nat.le_of_ble_eq_true rfl) () (by exact ⟨rfl, by first | exact ix_neg c1 | exact ix_big (by omega) c12⟩) [0, 1, 2, 3, 4, 5, 6] (by decide) rfl

theorem lkX7_needPosition_1 : Cond.classLink RX7 118 "java/lang/IndexOutOfBoundsException" ∈ wsX7_needPosition := List.mem_of_getElem? (i := 1) rfl
theorem lkX7_needPosition_2 : Cond.initialized "java/lang/IndexOutOfBoundsException" ∈ wsX7_needPosition := List.mem_of_getElem? (i := 2) rfl
theorem lkX7_needPosition_3 : Cond.fieldLink RX7 117 "SignedDocument$Passage" "size" "I" ∈ wsX7_needPosition := List.mem_of_getElem? (i := 3) rfl
theorem inX7_needPosition_4 : ∀ w ∈ u_ws RX4 TX4 4, w ∈ wsX7_needPosition := fun _ h => List.mem_cons_of_mem _ (List.mem_append_left _ (List.mem_append_right _ h))
set_option maxRecDepth 100000 in
set_option maxHeartbeats 4000000 in
theorem mX7_needPosition (l : Launch) (hfl : l.stackTraces = false) (D : va_G) (cC cI cJ cZ cD : ClassId) (x ab cb sb lg pr pp rd ty ou tx txL txA txC : Nat) (stc lr lz : Int32) (fee : Nat) (n : Nat) (pL pA pC : Nat → Int32) (v : Int32) (sz : Nat) (hn : n ≤ 60) : YV l yX7_needPosition wsX7_needPosition ({ frames := 6, cells := 1, slots := 6, locals := 90 }) [.ref x, .int v, .ref tx] D (TY cC cI cJ cZ cD) [(x, .inr (9, [.ref ab, .ref cb, .ref sb, .ref lg, .ref pr, .ref pp, .ref rd, .ref ty, .ref ou, .int stc, .int (nI fee), .int lr, .int lz])), (tx, .inr (6, [.ref txL, .ref txA, .ref txC, .int (nI n)])), (txL, .inl (cC, 60, .inl pL)), (txA, .inl (cI, 60, .inl pA)), (txC, .inl (cI, 60, .inl pC))] sz (fun (k : Nat) => k < n ∧ v = nI k) (fun (k : Nat) => [(x, .inr (9, [.ref ab, .ref cb, .ref sb, .ref lg, .ref pr, .ref pp, .ref rd, .ref ty, .ref ou, .int stc, .int (nI fee), .int lr, .int lz])), (tx, .inr (6, [.ref txL, .ref txA, .ref txC, .int (nI n)])), (txL, .inl (cC, 60, .inl pL)), (txA, .inl (cI, 60, .inl pA)), (txC, .inl (cI, 60, .inl pC))]) (fun (E : String) => fun (_ : Unit) => (E = "java/lang/IndexOutOfBoundsException" ∧ (¬ ix v n))) (fun (_ : Unit) => [(x, .inr (9, [.ref ab, .ref cb, .ref sb, .ref lg, .ref pr, .ref pp, .ref rd, .ref ty, .ref ou, .int stc, .int (nI fee), .int lr, .int lz])), (tx, .inr (6, [.ref txL, .ref txA, .ref txC, .int (nI n)])), (txL, .inl (cC, 60, .inl pL)), (txA, .inl (cI, 60, .inl pA)), (txC, .inl (cI, 60, .inl pC))]) 1 6 := by
  refine mk_YV (cc := cX7_needPosition) (maxL := 3) (ret := none) (by decide) rfl (Nat.le_of_ble_eq_true rfl) ?_
  intro p e s mI args below meth cO A cx hr hlk htab hxs hw ls hl
  have hx := cx.1
  have hb := cx.2.1
  have hw : ww D (TY cC cI cJ cZ cD) s A s.heap [(x, .inr (9, [.ref ab, .ref cb, .ref sb, .ref lg, .ref pr, .ref pp, .ref rd, .ref ty, .ref ou, .int stc, .int (nI fee), .int lr, .int lz])), (tx, .inr (6, [.ref txL, .ref txA, .ref txC, .int (nI n)])), (txL, .inl (cC, 60, .inl pL)), (txA, .inl (cI, 60, .inl pA)), (txC, .inl (cI, 60, .inl pC))] s.heap [] := hw
  have hl : lv_has ls 3 [(0, .ref x), (1, .int v), (2, .ref tx)] := hl
  generalize hQ : vx_MQ _ _ _ _ _ _ _ _ = Q
  refine hp_start hw (fun H locs hw => ?_)
  refine lv_iload_n hx hb dX7_needPosition_0 rfl (lv_at hl 1 rfl) ?_
  refine lv_if_lt (tgt := 12) hx hb dX7_needPosition_1 (by decide) (fun c1 => ?_) (fun c1 => ?_)
  · subst hQ
    exact r_ythrow (text := "no such position") (names := ["java/lang/RuntimeException", "java/lang/Exception"]) cx hfl hxs 4 rfl (by decide +kernel) (by decide +kernel) lkX7_needPosition_1 lkX7_needPosition_2 (fun w h => List.mem_cons_of_mem _ (List.mem_append_right _ h)) (by decide +kernel) (by decide +kernel) hw hl.1 dX7_needPosition_12 dX7_needPosition_15 dX7_needPosition_16 dX7_needPosition_18 dX7_needPosition_21 htab (Nat.le_of_ble_eq_true rfl) (Nat.le_of_ble_eq_true rfl) (Nat.le_of_ble_eq_true rfl) (Nat.le_of_ble_eq_true rfl) hlk (Nat.le_of_ble_eq_true rfl) (Nat.le_of_ble_eq_true rfl) () (by exact ⟨rfl, by first | exact ix_neg c1 | exact ix_big (by omega) c9⟩) [0, 1, 2, 3, 4] (by decide) rfl
  · refine lv_iload_n hx hb dX7_needPosition_4 rfl (lv_at hl 1 rfl) ?_
    refine lv_aload_n hx hb dX7_needPosition_5 rfl (lv_at hl 2 rfl) ?_
    refine r_get cx hw inX7_needPosition_4 1 3 rfl rfl (by decide) lkX7_needPosition_3 rfl dX7_needPosition_6 ?_
    refine lv_icmp_lt (tgt := 22) hx hb dX7_needPosition_9 (by decide) (fun c9 => ?_) (fun c9 => ?_)
    · obtain ⟨k9, hk9, e9⟩ := nI_of_ix (ix_ok (by omega) c1 c9)
      subst hQ
      exact vx_ret (r_retv cx hr hlk hw (Nat.le_of_ble_eq_true rfl) (Nat.le_of_ble_eq_true rfl) k9 ⟨hk9, e9⟩ [0, 1, 2, 3, 4] (by decide) rfl dX7_needPosition_22)
    · subst hQ
      exact r_ythrow (text := "no such position") (names := ["java/lang/RuntimeException", "java/lang/Exception"]) cx hfl hxs 4 rfl (by decide +kernel) (by decide +kernel) lkX7_needPosition_1 lkX7_needPosition_2 (fun w h => List.mem_cons_of_mem _ (List.mem_append_right _ h)) (by decide +kernel) (by decide +kernel) hw hl.1 dX7_needPosition_12 dX7_needPosition_15 dX7_needPosition_16 dX7_needPosition_18 dX7_needPosition_21 htab (Nat.le_of_ble_eq_true rfl) (Nat.le_of_ble_eq_true rfl) (Nat.le_of_ble_eq_true rfl) (Nat.le_of_ble_eq_true rfl) hlk (Nat.le_of_ble_eq_true rfl) (Nat.le_of_ble_eq_true rfl) () (by exact ⟨rfl, by first | exact ix_neg c1 | exact ix_big (by omega) c9⟩) [0, 1, 2, 3, 4] (by decide) rfl

theorem lkX7_needRange_1 : Cond.classLink RX7 118 "java/lang/IndexOutOfBoundsException" ∈ wsX7_needRange := List.mem_of_getElem? (i := 1) rfl
theorem lkX7_needRange_2 : Cond.initialized "java/lang/IndexOutOfBoundsException" ∈ wsX7_needRange := List.mem_of_getElem? (i := 2) rfl
theorem lkX7_needRange_3 : Cond.fieldLink RX7 40 "SignedDocument" "present" "LSignedDocument$Passage;" ∈ wsX7_needRange := List.mem_of_getElem? (i := 3) rfl
theorem inX7_needRange_7 : ∀ w ∈ u_ws RX7 TX7 13, w ∈ wsX7_needRange := fun _ h => List.mem_cons_of_mem _ (List.mem_append_left _ (List.mem_append_left _ (List.mem_append_right _ h)))
theorem lkX7_needRange_4 : Cond.fieldLink RX7 117 "SignedDocument$Passage" "size" "I" ∈ wsX7_needRange := List.mem_of_getElem? (i := 4) rfl
theorem inX7_needRange_4 : ∀ w ∈ u_ws RX4 TX4 4, w ∈ wsX7_needRange := fun _ h => List.mem_cons_of_mem _ (List.mem_append_left _ (List.mem_append_right _ h))
set_option maxRecDepth 100000 in
set_option maxHeartbeats 4000000 in
theorem mX7_needRange (l : Launch) (hfl : l.stackTraces = false) (D : va_G) (cC cI cJ cZ cD : ClassId) (x ab cb sb lg pr pp rd ty ou prL prA prC : Nat) (stc lr lz : Int32) (fee : Nat) (n : Nat) (pL pA pC : Nat → Int32) (v k9 : Int32) (sz : Nat) (hn : n ≤ 60) : YV l yX7_needRange wsX7_needRange ({ frames := 6, cells := 1, slots := 6, locals := 90 }) [.ref x, .int v, .int k9] D (TY cC cI cJ cZ cD) [(x, .inr (9, [.ref ab, .ref cb, .ref sb, .ref lg, .ref pr, .ref pp, .ref rd, .ref ty, .ref ou, .int stc, .int (nI fee), .int lr, .int lz])), (pr, .inr (6, [.ref prL, .ref prA, .ref prC, .int (nI n)])), (prL, .inl (cC, 60, .inl pL)), (prA, .inl (cI, 60, .inl pA)), (prC, .inl (cI, 60, .inl pC))] sz (fun (uu : Nat × Nat) => match uu with | (i, j) => 1 ≤ j ∧ i + j ≤ n ∧ v = nI i ∧ k9 = nI j) (fun (uu : Nat × Nat) => match uu with | (i, j) => [(x, .inr (9, [.ref ab, .ref cb, .ref sb, .ref lg, .ref pr, .ref pp, .ref rd, .ref ty, .ref ou, .int stc, .int (nI fee), .int lr, .int lz])), (pr, .inr (6, [.ref prL, .ref prA, .ref prC, .int (nI n)])), (prL, .inl (cC, 60, .inl pL)), (prA, .inl (cI, 60, .inl pA)), (prC, .inl (cI, 60, .inl pC))]) (fun (E : String) => fun (_ : Unit) => (E = "java/lang/IndexOutOfBoundsException" ∧ (¬ rng v k9 n))) (fun (_ : Unit) => [(x, .inr (9, [.ref ab, .ref cb, .ref sb, .ref lg, .ref pr, .ref pp, .ref rd, .ref ty, .ref ou, .int stc, .int (nI fee), .int lr, .int lz])), (pr, .inr (6, [.ref prL, .ref prA, .ref prC, .int (nI n)])), (prL, .inl (cC, 60, .inl pL)), (prA, .inl (cI, 60, .inl pA)), (prC, .inl (cI, 60, .inl pC))]) 1 6 := by
  refine mk_YV (cc := cX7_needRange) (maxL := 3) (ret := none) (by decide) rfl (Nat.le_of_ble_eq_true rfl) ?_
  intro p e s mI args below meth cO A cx hr hlk htab hxs hw ls hl
  have hx := cx.1
  have hb := cx.2.1
  have hw : ww D (TY cC cI cJ cZ cD) s A s.heap [(x, .inr (9, [.ref ab, .ref cb, .ref sb, .ref lg, .ref pr, .ref pp, .ref rd, .ref ty, .ref ou, .int stc, .int (nI fee), .int lr, .int lz])), (pr, .inr (6, [.ref prL, .ref prA, .ref prC, .int (nI n)])), (prL, .inl (cC, 60, .inl pL)), (prA, .inl (cI, 60, .inl pA)), (prC, .inl (cI, 60, .inl pC))] s.heap [] := hw
  have hl : lv_has ls 3 [(0, .ref x), (1, .int v), (2, .int k9)] := hl
  generalize hQ : vx_MQ _ _ _ _ _ _ _ _ = Q
  refine hp_start hw (fun H locs hw => ?_)
  refine lv_iload_n hx hb dX7_needRange_0 rfl (lv_at hl 1 rfl) ?_
  refine lv_if_lt (tgt := 33) hx hb dX7_needRange_1 (by decide) (fun c1 => ?_) (fun c1 => ?_)
  · subst hQ
    exact r_ythrowW (text := "no such characters") (names := ["java/lang/RuntimeException", "java/lang/Exception"]) cx hfl hxs 18 rfl (by decide +kernel) (by decide +kernel) lkX7_needRange_1 lkX7_needRange_2 (fun w h => List.mem_cons_of_mem _ (List.mem_append_right _ h)) (by decide +kernel) (by decide +kernel) hw hl.1 dX7_needRange_33 dX7_needRange_36 dX7_needRange_37 dX7_needRange_40 dX7_needRange_43 htab (Nat.le_of_ble_eq_true rfl) (Nat.le_of_ble_eq_true rfl) (Nat.le_of_ble_eq_true rfl) (Nat.le_of_ble_eq_true rfl) hlk (Nat.le_of_ble_eq_true rfl) (Nat.le_of_ble_eq_true rfl) () (by exact ⟨rfl, by first | exact rng_no1 (ixl_neg c1) | exact rng_no1 (ixl_big (by omega) c12) | exact rng_no2 c17 | exact rng_no3 (by omega) hi9 c30⟩) [0, 1, 2, 3, 4] (by decide) rfl
  · refine lv_iload_n hx hb dX7_needRange_4 rfl (lv_at hl 1 rfl) ?_
    refine lv_aload_n hx hb dX7_needRange_5 rfl (lv_at hl 0 rfl) ?_
    refine r_get cx hw inX7_needRange_7 0 4 rfl rfl (by decide) lkX7_needRange_3 rfl dX7_needRange_6 ?_
    refine r_get cx hw inX7_needRange_4 1 3 rfl rfl (by decide) lkX7_needRange_4 rfl dX7_needRange_9 ?_
    refine lv_icmp_gt (tgt := 33) hx hb dX7_needRange_12 (by decide) (fun c12 => ?_) (fun c12 => ?_)
    · subst hQ
      exact r_ythrowW (text := "no such characters") (names := ["java/lang/RuntimeException", "java/lang/Exception"]) cx hfl hxs 18 rfl (by decide +kernel) (by decide +kernel) lkX7_needRange_1 lkX7_needRange_2 (fun w h => List.mem_cons_of_mem _ (List.mem_append_right _ h)) (by decide +kernel) (by decide +kernel) hw hl.1 dX7_needRange_33 dX7_needRange_36 dX7_needRange_37 dX7_needRange_40 dX7_needRange_43 htab (Nat.le_of_ble_eq_true rfl) (Nat.le_of_ble_eq_true rfl) (Nat.le_of_ble_eq_true rfl) (Nat.le_of_ble_eq_true rfl) hlk (Nat.le_of_ble_eq_true rfl) (Nat.le_of_ble_eq_true rfl) () (by exact ⟨rfl, by first | exact rng_no1 (ixl_neg c1) | exact rng_no1 (ixl_big (by omega) c12) | exact rng_no2 c17 | exact rng_no3 (by omega) hi9 c30⟩) [0, 1, 2, 3, 4] (by decide) rfl
    · obtain ⟨i9, hi9, rfl⟩ := nI_of_ixl (ixl_ok (by omega) c1 c12)
      refine lv_iload_n hx hb dX7_needRange_15 rfl (lv_at hl 2 rfl) ?_
      refine lv_iconst (v := nI 1) hx hb dX7_needRange_16 (by decide) ?_
      refine lv_icmp_lt (tgt := 33) hx hb dX7_needRange_17 (by decide) (fun c17 => ?_) (fun c17 => ?_)
      · subst hQ
        exact r_ythrowW (text := "no such characters") (names := ["java/lang/RuntimeException", "java/lang/Exception"]) cx hfl hxs 18 rfl (by decide +kernel) (by decide +kernel) lkX7_needRange_1 lkX7_needRange_2 (fun w h => List.mem_cons_of_mem _ (List.mem_append_right _ h)) (by decide +kernel) (by decide +kernel) hw hl.1 dX7_needRange_33 dX7_needRange_36 dX7_needRange_37 dX7_needRange_40 dX7_needRange_43 htab (Nat.le_of_ble_eq_true rfl) (Nat.le_of_ble_eq_true rfl) (Nat.le_of_ble_eq_true rfl) (Nat.le_of_ble_eq_true rfl) hlk (Nat.le_of_ble_eq_true rfl) (Nat.le_of_ble_eq_true rfl) () (by exact ⟨rfl, by first | exact rng_no1 (ixl_neg c1) | exact rng_no1 (ixl_big (by omega) c12) | exact rng_no2 c17 | exact rng_no3 (by omega) hi9 c30⟩) [0, 1, 2, 3, 4] (by decide) rfl
      · refine lv_iload_n hx hb dX7_needRange_20 rfl (lv_at hl 2 rfl) ?_
        refine lv_aload_n hx hb dX7_needRange_21 rfl (lv_at hl 0 rfl) ?_
        refine r_get cx hw inX7_needRange_7 0 4 rfl rfl (by decide) lkX7_needRange_3 rfl dX7_needRange_22 ?_
        refine r_get cx hw inX7_needRange_4 1 3 rfl rfl (by decide) lkX7_needRange_4 rfl dX7_needRange_25 ?_
        refine lv_iload_n hx hb dX7_needRange_28 rfl (lv_at hl 1 rfl) ?_
        refine r_isub cx n i9 rfl rfl (by omega) dX7_needRange_29 ?_
        refine lv_icmp_le (tgt := 44) hx hb dX7_needRange_30 (by decide) (fun c30 => ?_) (fun c30 => ?_)
        · obtain ⟨i8, j8, g1, g2, g3, g4⟩ := nI_of_rng (rng_ok (n := n) (by omega) hi9 c17 c30)
          subst hQ
          exact vx_ret (r_retv cx hr hlk hw (Nat.le_of_ble_eq_true rfl) (Nat.le_of_ble_eq_true rfl) (i8, j8) ⟨g1, g2, g3, g4⟩ [0, 1, 2, 3, 4] (by decide) rfl dX7_needRange_44)
        · subst hQ
          exact r_ythrowW (text := "no such characters") (names := ["java/lang/RuntimeException", "java/lang/Exception"]) cx hfl hxs 18 rfl (by decide +kernel) (by decide +kernel) lkX7_needRange_1 lkX7_needRange_2 (fun w h => List.mem_cons_of_mem _ (List.mem_append_right _ h)) (by decide +kernel) (by decide +kernel) hw hl.1 dX7_needRange_33 dX7_needRange_36 dX7_needRange_37 dX7_needRange_40 dX7_needRange_43 htab (Nat.le_of_ble_eq_true rfl) (Nat.le_of_ble_eq_true rfl) (Nat.le_of_ble_eq_true rfl) (Nat.le_of_ble_eq_true rfl) hlk (Nat.le_of_ble_eq_true rfl) (Nat.le_of_ble_eq_true rfl) () (by exact ⟨rfl, by first | exact rng_no1 (ixl_neg c1) | exact rng_no1 (ixl_big (by omega) c12) | exact rng_no2 c17 | exact rng_no3 (by omega) hi9 c30⟩) [0, 1, 2, 3, 4] (by decide) rfl

theorem lkX7_needRoomForEdit_3 : Cond.fieldLink RX7 33 "SignedDocument" "log" "LSignedDocument$EditLog;" ∈ wsX7_needRoomForEdit := List.mem_of_getElem? (i := 3) rfl
theorem inX7_needRoomForEdit_7 : ∀ w ∈ u_ws RX7 TX7 13, w ∈ wsX7_needRoomForEdit := fun _ h => List.mem_cons_of_mem _ (List.mem_append_left _ (List.mem_append_left _ (List.mem_append_right _ h)))
theorem lkX7_needRoomForEdit_1 : Cond.classLink RX7 92 "java/lang/IllegalStateException" ∈ wsX7_needRoomForEdit := List.mem_of_getElem? (i := 1) rfl
theorem lkX7_needRoomForEdit_2 : Cond.initialized "java/lang/IllegalStateException" ∈ wsX7_needRoomForEdit := List.mem_of_getElem? (i := 2) rfl
set_option maxRecDepth 100000 in
set_option maxHeartbeats 4000000 in
theorem mX7_needRoomForEdit (l : Launch) (hfl : l.stackTraces = false) (D : va_G) (cC cI cJ cZ cD : ClassId) (x ab cb sb lg pr pp rd ty ou lgK lgA lgP lgC lgG lgO lgF lgL lgS : Nat) (stc lr lz : Int32) (fee : Nat) (ne lu : Nat) (eK eO eF eL : Nat → Int32) (eA eP eC eG eS : Nat → Nat) (sz : Nat) (hne : ne ≤ 40) : YV l yX7_needRoomForEdit wsX7_needRoomForEdit ({ frames := 6, cells := 1, slots := 6, locals := 90 }) [.ref x] D (TY cC cI cJ cZ cD) [(x, .inr (9, [.ref ab, .ref cb, .ref sb, .ref lg, .ref pr, .ref pp, .ref rd, .ref ty, .ref ou, .int stc, .int (nI fee), .int lr, .int lz])), (lg, .inr (4, [.ref lgK, .ref lgA, .ref lgP, .ref lgC, .ref lgG, .ref lgO, .ref lgF, .ref lgL, .ref lgS, .int (nI ne), .int (nI lu)])), (lgK, .inl (cC, 40, .inl eK)), (lgA, .inl (cI, 40, .inl (fun jj => nI (eA jj)))), (lgP, .inl (cI, 40, .inl (fun jj => nI (eP jj)))), (lgC, .inl (cI, 40, .inl (fun jj => nI (eC jj)))), (lgG, .inl (cI, 40, .inl (fun jj => nI (eG jj)))), (lgO, .inl (cI, 40, .inl eO)), (lgF, .inl (cI, 40, .inl eF)), (lgL, .inl (cC, 800, .inl eL)), (lgS, .inl (cI, 40, .inl (fun jj => nI (eS jj))))] sz (fun (_ : Unit) => ne < 40) (fun (_ : Unit) => [(x, .inr (9, [.ref ab, .ref cb, .ref sb, .ref lg, .ref pr, .ref pp, .ref rd, .ref ty, .ref ou, .int stc, .int (nI fee), .int lr, .int lz])), (lg, .inr (4, [.ref lgK, .ref lgA, .ref lgP, .ref lgC, .ref lgG, .ref lgO, .ref lgF, .ref lgL, .ref lgS, .int (nI ne), .int (nI lu)])), (lgK, .inl (cC, 40, .inl eK)), (lgA, .inl (cI, 40, .inl (fun jj => nI (eA jj)))), (lgP, .inl (cI, 40, .inl (fun jj => nI (eP jj)))), (lgC, .inl (cI, 40, .inl (fun jj => nI (eC jj)))), (lgG, .inl (cI, 40, .inl (fun jj => nI (eG jj)))), (lgO, .inl (cI, 40, .inl eO)), (lgF, .inl (cI, 40, .inl eF)), (lgL, .inl (cC, 800, .inl eL)), (lgS, .inl (cI, 40, .inl (fun jj => nI (eS jj))))]) (fun (E : String) => fun (_ : Unit) => (E = "java/lang/IllegalStateException" ∧ (ne = 40))) (fun (_ : Unit) => [(x, .inr (9, [.ref ab, .ref cb, .ref sb, .ref lg, .ref pr, .ref pp, .ref rd, .ref ty, .ref ou, .int stc, .int (nI fee), .int lr, .int lz])), (lg, .inr (4, [.ref lgK, .ref lgA, .ref lgP, .ref lgC, .ref lgG, .ref lgO, .ref lgF, .ref lgL, .ref lgS, .int (nI ne), .int (nI lu)])), (lgK, .inl (cC, 40, .inl eK)), (lgA, .inl (cI, 40, .inl (fun jj => nI (eA jj)))), (lgP, .inl (cI, 40, .inl (fun jj => nI (eP jj)))), (lgC, .inl (cI, 40, .inl (fun jj => nI (eC jj)))), (lgG, .inl (cI, 40, .inl (fun jj => nI (eG jj)))), (lgO, .inl (cI, 40, .inl eO)), (lgF, .inl (cI, 40, .inl eF)), (lgL, .inl (cC, 800, .inl eL)), (lgS, .inl (cI, 40, .inl (fun jj => nI (eS jj))))]) 1 6 := by
  refine mk_YV (cc := cX7_needRoomForEdit) (maxL := 1) (ret := none) (by decide) rfl (Nat.le_of_ble_eq_true rfl) ?_
  intro p e s mI args below meth cO A cx hr hlk htab hxs hw ls hl
  have hx := cx.1
  have hb := cx.2.1
  have hw : ww D (TY cC cI cJ cZ cD) s A s.heap [(x, .inr (9, [.ref ab, .ref cb, .ref sb, .ref lg, .ref pr, .ref pp, .ref rd, .ref ty, .ref ou, .int stc, .int (nI fee), .int lr, .int lz])), (lg, .inr (4, [.ref lgK, .ref lgA, .ref lgP, .ref lgC, .ref lgG, .ref lgO, .ref lgF, .ref lgL, .ref lgS, .int (nI ne), .int (nI lu)])), (lgK, .inl (cC, 40, .inl eK)), (lgA, .inl (cI, 40, .inl (fun jj => nI (eA jj)))), (lgP, .inl (cI, 40, .inl (fun jj => nI (eP jj)))), (lgC, .inl (cI, 40, .inl (fun jj => nI (eC jj)))), (lgG, .inl (cI, 40, .inl (fun jj => nI (eG jj)))), (lgO, .inl (cI, 40, .inl eO)), (lgF, .inl (cI, 40, .inl eF)), (lgL, .inl (cC, 800, .inl eL)), (lgS, .inl (cI, 40, .inl (fun jj => nI (eS jj))))] s.heap [] := hw
  have hl : lv_has ls 1 [(0, .ref x)] := hl
  generalize hQ : vx_MQ _ _ _ _ _ _ _ _ = Q
  refine hp_start hw (fun H locs hw => ?_)
  refine lv_aload_n hx hb dX7_needRoomForEdit_0 rfl (lv_at hl 0 rfl) ?_
  refine r_get cx hw inX7_needRoomForEdit_7 0 3 rfl rfl (by decide) lkX7_needRoomForEdit_3 rfl dX7_needRoomForEdit_1 ?_
  refine r_callVi (n := 0) (wr := [(x, .inr (9, [.ref ab, .ref cb, .ref sb, .ref lg, .ref pr, .ref pp, .ref rd, .ref ty, .ref ou, .int stc, .int (nI fee), .int lr, .int lz]))]) cx hw (mX2_isFull l D cC cI cJ cZ cD lg lgK lgA lgP lgC lgG lgO lgF lgL lgS ne lu eK eO eF eL eA eP eC eG eS H.size hne) [1, 2, 3, 4, 5, 6, 7, 8, 9, 10] [0] gX7_needRoomForEdit_X2_isFull rfl rfl rfl (by decide +kernel) ⟨Nat.le_of_ble_eq_true rfl, Nat.le_of_ble_eq_true rfl⟩ (q0 := 1) rfl rfl rfl rfl (by decide) (by decide) (by decide) rfl rfl hl.1 (Nat.le_of_ble_eq_true rfl) dX7_needRoomForEdit_4 ⟨Nat.le_of_ble_eq_true rfl, Nat.le_of_ble_eq_true rfl⟩ (fun r_1 u H locs hp hw => ?_)
  have hw : ww D (TY cC cI cJ cZ cD) s A s.heap [(x, .inr (9, [.ref ab, .ref cb, .ref sb, .ref lg, .ref pr, .ref pp, .ref rd, .ref ty, .ref ou, .int stc, .int (nI fee), .int lr, .int lz])), (lg, .inr (4, [.ref lgK, .ref lgA, .ref lgP, .ref lgC, .ref lgG, .ref lgO, .ref lgF, .ref lgL, .ref lgS, .int (nI ne), .int (nI lu)])), (lgK, .inl (cC, 40, .inl eK)), (lgA, .inl (cI, 40, .inl (fun jj => nI (eA jj)))), (lgP, .inl (cI, 40, .inl (fun jj => nI (eP jj)))), (lgC, .inl (cI, 40, .inl (fun jj => nI (eC jj)))), (lgG, .inl (cI, 40, .inl (fun jj => nI (eG jj)))), (lgO, .inl (cI, 40, .inl eO)), (lgF, .inl (cI, 40, .inl eF)), (lgL, .inl (cC, 800, .inl eL)), (lgS, .inl (cI, 40, .inl (fun jj => nI (eS jj))))] H locs := hw
  try dsimp only at hp
  have hb9 := hp
  rcases hb9 with ⟨rfl, b4⟩ | ⟨rfl, b4⟩
  · refine r_if_eq cx 21 1 rfl (by omega) dX7_needRoomForEdit_7 (by decide) (fun c7 => by exact absurd c7 (by decide)) (fun c7 => ?_)
    subst hQ
    exact r_ythrowW (text := "too many edits") (names := ["java/lang/RuntimeException", "java/lang/Exception"]) cx hfl hxs 19 rfl (by decide +kernel) (by decide +kernel) lkX7_needRoomForEdit_1 lkX7_needRoomForEdit_2 (fun w h => List.mem_cons_of_mem _ (List.mem_append_right _ h)) (by decide +kernel) (by decide +kernel) hw hl.1 dX7_needRoomForEdit_10 dX7_needRoomForEdit_13 dX7_needRoomForEdit_14 dX7_needRoomForEdit_17 dX7_needRoomForEdit_20 htab (Nat.le_of_ble_eq_true rfl) (Nat.le_of_ble_eq_true rfl) (Nat.le_of_ble_eq_true rfl) (Nat.le_of_ble_eq_true rfl) hlk (Nat.le_of_ble_eq_true rfl) (Nat.le_of_ble_eq_true rfl) () (by exact ⟨rfl, by omega⟩) [0, 1, 2, 3, 4, 5, 6, 7, 8, 9, 10] (by decide) rfl
  · refine r_if_eq cx 21 0 rfl (by omega) dX7_needRoomForEdit_7 (by decide) (fun c7 => ?_) (fun c7 => by exact absurd c7 (by decide))
    subst hQ
    exact vx_ret (r_retv cx hr hlk hw (Nat.le_of_ble_eq_true rfl) (Nat.le_of_ble_eq_true rfl) () (by omega) [0, 1, 2, 3, 4, 5, 6, 7, 8, 9, 10] (by decide) rfl dX7_needRoomForEdit_21)

theorem lkX7_needRefusal_3 : Cond.fieldLink RX7 74 "SignedDocument" "lastReason" "C" ∈ wsX7_needRefusal := List.mem_of_getElem? (i := 3) rfl
theorem inX7_needRefusal_7 : ∀ w ∈ u_ws RX7 TX7 13, w ∈ wsX7_needRefusal := fun _ h => List.mem_cons_of_mem _ (List.mem_append_left _ (List.mem_append_right _ h))
theorem lkX7_needRefusal_1 : Cond.classLink RX7 251 "java/util/NoSuchElementException" ∈ wsX7_needRefusal := List.mem_of_getElem? (i := 1) rfl
theorem lkX7_needRefusal_2 : Cond.initialized "java/util/NoSuchElementException" ∈ wsX7_needRefusal := List.mem_of_getElem? (i := 2) rfl
set_option maxRecDepth 100000 in
set_option maxHeartbeats 4000000 in
theorem mX7_needRefusal (l : Launch) (hfl : l.stackTraces = false) (D : va_G) (cC cI cJ cZ cD : ClassId) (x ab cb sb lg pr pp rd ty ou : Nat) (stc lr lz : Int32) (fee : Nat) (sz : Nat) : YV l yX7_needRefusal wsX7_needRefusal ({ frames := 6, cells := 1, slots := 6, locals := 90 }) [.ref x] D (TY cC cI cJ cZ cD) [(x, .inr (9, [.ref ab, .ref cb, .ref sb, .ref lg, .ref pr, .ref pp, .ref rd, .ref ty, .ref ou, .int stc, .int (nI fee), .int lr, .int lz]))] sz (fun (_ : Unit) => ¬ lr = nI 45) (fun (_ : Unit) => [(x, .inr (9, [.ref ab, .ref cb, .ref sb, .ref lg, .ref pr, .ref pp, .ref rd, .ref ty, .ref ou, .int stc, .int (nI fee), .int lr, .int lz]))]) (fun (E : String) => fun (_ : Unit) => (E = "java/util/NoSuchElementException" ∧ (lr = nI 45))) (fun (_ : Unit) => [(x, .inr (9, [.ref ab, .ref cb, .ref sb, .ref lg, .ref pr, .ref pp, .ref rd, .ref ty, .ref ou, .int stc, .int (nI fee), .int lr, .int lz]))]) 1 6 := by
  refine mk_YV (cc := cX7_needRefusal) (maxL := 1) (ret := none) (by decide) rfl (Nat.le_of_ble_eq_true rfl) ?_
  intro p e s mI args below meth cO A cx hr hlk htab hxs hw ls hl
  have hx := cx.1
  have hb := cx.2.1
  have hw : ww D (TY cC cI cJ cZ cD) s A s.heap [(x, .inr (9, [.ref ab, .ref cb, .ref sb, .ref lg, .ref pr, .ref pp, .ref rd, .ref ty, .ref ou, .int stc, .int (nI fee), .int lr, .int lz]))] s.heap [] := hw
  have hl : lv_has ls 1 [(0, .ref x)] := hl
  generalize hQ : vx_MQ _ _ _ _ _ _ _ _ = Q
  refine hp_start hw (fun H locs hw => ?_)
  refine lv_aload_n hx hb dX7_needRefusal_0 rfl (lv_at hl 0 rfl) ?_
  refine r_get cx hw inX7_needRefusal_7 0 11 rfl rfl (by decide) lkX7_needRefusal_3 rfl dX7_needRefusal_1 ?_
  refine lv_bipush (v := nI 45) hx hb dX7_needRefusal_4 (by decide) ?_
  refine lv_icmp_ne (tgt := 20) hx hb dX7_needRefusal_6 (by decide) (fun c6 => ?_) (fun c6 => ?_)
  · subst hQ
    exact vx_ret (r_retv cx hr hlk hw (Nat.le_of_ble_eq_true rfl) (Nat.le_of_ble_eq_true rfl) () c6 [0] (by decide) rfl dX7_needRefusal_20)
  · subst hQ
    exact r_ythrowNW (text := "no edit was refused") cx hfl hxs 20 rfl rfl lkX7_needRefusal_1 lkX7_needRefusal_2 (fun w h => List.mem_cons_of_mem _ (List.mem_append_right _ h)) (by decide +kernel) (by decide +kernel) hw hl.1 dX7_needRefusal_9 dX7_needRefusal_12 dX7_needRefusal_13 dX7_needRefusal_16 dX7_needRefusal_19 htab (Nat.le_of_ble_eq_true rfl) (Nat.le_of_ble_eq_true rfl) (Nat.le_of_ble_eq_true rfl) (Nat.le_of_ble_eq_true rfl) hlk (Nat.le_of_ble_eq_true rfl) (Nat.le_of_ble_eq_true rfl) () (by exact ⟨rfl, c6⟩) [0] (by decide) rfl


theorem lkX7_length_1 : Cond.fieldLink RX7 40 "SignedDocument" "present" "LSignedDocument$Passage;" ∈ wsX7_length := List.mem_of_getElem? (i := 1) rfl
theorem inX7_length_7 : ∀ w ∈ u_ws RX7 TX7 13, w ∈ wsX7_length := fun _ h => List.mem_cons_of_mem _ (List.mem_append_left _ (List.mem_append_right _ h))
theorem lkX7_length_2 : Cond.fieldLink RX7 117 "SignedDocument$Passage" "size" "I" ∈ wsX7_length := List.mem_of_getElem? (i := 2) rfl
theorem inX7_length_4 : ∀ w ∈ u_ws RX4 TX4 4, w ∈ wsX7_length := fun _ h => List.mem_cons_of_mem _ (List.mem_append_right _ h)
set_option maxRecDepth 100000 in
set_option maxHeartbeats 4000000 in
theorem mX7_length (l : Launch) (D : va_G) (cC cI cJ cZ cD : ClassId) (x ab cb sb lg pr pp rd ty ou prL prA prC : Nat) (stc lr lz : Int32) (fee : Nat) (n : Nat) (pL pA pC : Nat → Int32) (sz : Nat) : MI l yX7_length wsX7_length ({ frames := 0, cells := 0, slots := 0, locals := 0 }) [.ref x] D (TY cC cI cJ cZ cD) [(x, .inr (9, [.ref ab, .ref cb, .ref sb, .ref lg, .ref pr, .ref pp, .ref rd, .ref ty, .ref ou, .int stc, .int (nI fee), .int lr, .int lz])), (pr, .inr (6, [.ref prL, .ref prA, .ref prC, .int (nI n)])), (prL, .inl (cC, 60, .inl pL)), (prA, .inl (cI, 60, .inl pA)), (prC, .inl (cI, 60, .inl pC))] sz (fun (r : Int32) => fun (_ : Unit) => r = nI n) (fun (_ : Unit) => [(x, .inr (9, [.ref ab, .ref cb, .ref sb, .ref lg, .ref pr, .ref pp, .ref rd, .ref ty, .ref ou, .int stc, .int (nI fee), .int lr, .int lz])), (pr, .inr (6, [.ref prL, .ref prA, .ref prC, .int (nI n)])), (prL, .inl (cC, 60, .inl pL)), (prA, .inl (cI, 60, .inl pA)), (prC, .inl (cI, 60, .inl pC))]) 0 0 := by
  refine mk_MI (cc := cX7_length) (maxL := 1) (ret := (some .int)) (by decide) rfl (Nat.le_of_ble_eq_true rfl) ?_
  intro p e s mI args below meth cO A cx hr hlk hnm hw ls hl
  have hx := cx.1
  have hb := cx.2.1
  have hw : ww D (TY cC cI cJ cZ cD) s A s.heap [(x, .inr (9, [.ref ab, .ref cb, .ref sb, .ref lg, .ref pr, .ref pp, .ref rd, .ref ty, .ref ou, .int stc, .int (nI fee), .int lr, .int lz])), (pr, .inr (6, [.ref prL, .ref prA, .ref prC, .int (nI n)])), (prL, .inl (cC, 60, .inl pL)), (prA, .inl (cI, 60, .inl pA)), (prC, .inl (cI, 60, .inl pC))] s.heap [] := hw
  have hl : lv_has ls 1 [(0, .ref x)] := hl
  generalize hQ : MQ _ _ _ _ _ _ _ = Q
  refine hp_start hw (fun H locs hw => ?_)
  refine lv_aload_n hx hb dX7_length_0 rfl (lv_at hl 0 rfl) ?_
  refine r_get cx hw inX7_length_7 0 4 rfl rfl (by decide) lkX7_length_1 rfl dX7_length_1 ?_
  refine r_get cx hw inX7_length_4 1 3 rfl rfl (by decide) lkX7_length_2 rfl dX7_length_4 ?_
  subst hQ
  exact r_reti (v := nI n) cx hr rfl hlk hw (Nat.le_of_ble_eq_true rfl) (Nat.le_of_ble_eq_true rfl) () rfl [0, 1, 2, 3, 4] (by decide) rfl dX7_length_7

theorem lkX7_clauses_1 : Cond.fieldLink RX7 19 "SignedDocument" "clauseBook" "LSignedDocument$ClauseBook;" ∈ wsX7_clauses := List.mem_of_getElem? (i := 1) rfl
theorem inX7_clauses_7 : ∀ w ∈ u_ws RX7 TX7 13, w ∈ wsX7_clauses := fun _ h => List.mem_cons_of_mem _ (List.mem_append_left _ (List.mem_append_right _ h))
theorem lkX7_clauses_2 : Cond.fieldLink RX7 216 "SignedDocument$ClauseBook" "size" "I" ∈ wsX7_clauses := List.mem_of_getElem? (i := 2) rfl
theorem inX7_clauses_1 : ∀ w ∈ u_ws RX1 TX1 5, w ∈ wsX7_clauses := fun _ h => List.mem_cons_of_mem _ (List.mem_append_right _ h)
set_option maxRecDepth 100000 in
set_option maxHeartbeats 4000000 in
theorem mX7_clauses (l : Launch) (D : va_G) (cC cI cJ cZ cD : ClassId) (x ab cb sb lg pr pp rd ty ou cbP cbK cbE cbZ : Nat) (stc lr lz : Int32) (fee : Nat) (nc : Nat) (gP gK gE : Nat → Nat) (kZ : Nat → Int32) (sz : Nat) : MI l yX7_clauses wsX7_clauses ({ frames := 0, cells := 0, slots := 0, locals := 0 }) [.ref x] D (TY cC cI cJ cZ cD) [(x, .inr (9, [.ref ab, .ref cb, .ref sb, .ref lg, .ref pr, .ref pp, .ref rd, .ref ty, .ref ou, .int stc, .int (nI fee), .int lr, .int lz])), (cb, .inr (3, [.ref cbP, .ref cbK, .ref cbE, .ref cbZ, .int (nI nc)])), (cbP, .inl (cI, 6, .inl (fun jj => nI (gP jj)))), (cbK, .inl (cI, 6, .inl (fun jj => nI (gK jj)))), (cbE, .inl (cI, 6, .inl (fun jj => nI (gE jj)))), (cbZ, .inl (cZ, 6, .inl kZ))] sz (fun (r : Int32) => fun (_ : Unit) => r = nI nc) (fun (_ : Unit) => [(x, .inr (9, [.ref ab, .ref cb, .ref sb, .ref lg, .ref pr, .ref pp, .ref rd, .ref ty, .ref ou, .int stc, .int (nI fee), .int lr, .int lz])), (cb, .inr (3, [.ref cbP, .ref cbK, .ref cbE, .ref cbZ, .int (nI nc)])), (cbP, .inl (cI, 6, .inl (fun jj => nI (gP jj)))), (cbK, .inl (cI, 6, .inl (fun jj => nI (gK jj)))), (cbE, .inl (cI, 6, .inl (fun jj => nI (gE jj)))), (cbZ, .inl (cZ, 6, .inl kZ))]) 0 0 := by
  refine mk_MI (cc := cX7_clauses) (maxL := 1) (ret := (some .int)) (by decide) rfl (Nat.le_of_ble_eq_true rfl) ?_
  intro p e s mI args below meth cO A cx hr hlk hnm hw ls hl
  have hx := cx.1
  have hb := cx.2.1
  have hw : ww D (TY cC cI cJ cZ cD) s A s.heap [(x, .inr (9, [.ref ab, .ref cb, .ref sb, .ref lg, .ref pr, .ref pp, .ref rd, .ref ty, .ref ou, .int stc, .int (nI fee), .int lr, .int lz])), (cb, .inr (3, [.ref cbP, .ref cbK, .ref cbE, .ref cbZ, .int (nI nc)])), (cbP, .inl (cI, 6, .inl (fun jj => nI (gP jj)))), (cbK, .inl (cI, 6, .inl (fun jj => nI (gK jj)))), (cbE, .inl (cI, 6, .inl (fun jj => nI (gE jj)))), (cbZ, .inl (cZ, 6, .inl kZ))] s.heap [] := hw
  have hl : lv_has ls 1 [(0, .ref x)] := hl
  generalize hQ : MQ _ _ _ _ _ _ _ = Q
  refine hp_start hw (fun H locs hw => ?_)
  refine lv_aload_n hx hb dX7_clauses_0 rfl (lv_at hl 0 rfl) ?_
  refine r_get cx hw inX7_clauses_7 0 1 rfl rfl (by decide) lkX7_clauses_1 rfl dX7_clauses_1 ?_
  refine r_get cx hw inX7_clauses_1 1 4 rfl rfl (by decide) lkX7_clauses_2 rfl dX7_clauses_4 ?_
  subst hQ
  exact r_reti (v := nI nc) cx hr rfl hlk hw (Nat.le_of_ble_eq_true rfl) (Nat.le_of_ble_eq_true rfl) () rfl [0, 1, 2, 3, 4, 5] (by decide) rfl dX7_clauses_7


theorem lkX7_setStrict_1 : Cond.fieldLink RX7 66 "SignedDocument" "strict" "Z" ∈ wsX7_setStrict := List.mem_of_getElem? (i := 1) rfl
theorem inX7_setStrict_7 : ∀ w ∈ u_ws RX7 TX7 13, w ∈ wsX7_setStrict := fun _ h => List.mem_cons_of_mem _ (List.mem_append_right _ h)
set_option maxRecDepth 100000 in
set_option maxHeartbeats 4000000 in
theorem mX7_setStrict (l : Launch) (D : va_G) (cC cI cJ cZ cD : ClassId) (x ab cb sb lg pr pp rd ty ou : Nat) (stc lr lz : Int32) (fee : Nat) (v : Int32) (sz : Nat) (hst : stc = 0 ∨ stc = 1) (hv9 : v = 0 ∨ v = 1) : MI l yX7_setStrict wsX7_setStrict ({ frames := 0, cells := 0, slots := 0, locals := 0 }) [.ref x, .int v] D (TY cC cI cJ cZ cD) [(x, .inr (9, [.ref ab, .ref cb, .ref sb, .ref lg, .ref pr, .ref pp, .ref rd, .ref ty, .ref ou, .int stc, .int (nI fee), .int lr, .int lz]))] sz (fun (r : Int32) => fun (_ : Unit) => r = stc) (fun (_ : Unit) => [(x, .inr (9, [.ref ab, .ref cb, .ref sb, .ref lg, .ref pr, .ref pp, .ref rd, .ref ty, .ref ou, .int v, .int (nI fee), .int lr, .int lz]))]) 0 0 := by
  refine mk_MI (cc := cX7_setStrict) (maxL := 3) (ret := (some .boolean)) (by decide) rfl (Nat.le_of_ble_eq_true rfl) ?_
  intro p e s mI args below meth cO A cx hr hlk hnm hw ls hl
  have hx := cx.1
  have hb := cx.2.1
  have hw : ww D (TY cC cI cJ cZ cD) s A s.heap [(x, .inr (9, [.ref ab, .ref cb, .ref sb, .ref lg, .ref pr, .ref pp, .ref rd, .ref ty, .ref ou, .int stc, .int (nI fee), .int lr, .int lz]))] s.heap [] := hw
  have hl : lv_has ls 3 [(0, .ref x), (1, .int v)] := hl
  generalize hQ : MQ _ _ _ _ _ _ _ = Q
  refine hp_start hw (fun H locs hw => ?_)
  refine lv_aload_n hx hb dX7_setStrict_0 rfl (lv_at hl 0 rfl) ?_
  refine r_get cx hw inX7_setStrict_7 0 9 rfl rfl (by decide) lkX7_setStrict_1 rfl dX7_setStrict_1 ?_
  refine lv_istore_n (lv' := [(2, .int stc), (0, .ref x), (1, .int v)]) hx hb dX7_setStrict_4 rfl hl (by decide) rfl (fun ls hl => ?_)
  refine lv_aload_n hx hb dX7_setStrict_5 rfl (lv_at hl 1 rfl) ?_
  refine lv_iload_n hx hb dX7_setStrict_6 rfl (lv_at hl 2 rfl) ?_
  refine r_put cx hw inX7_setStrict_7 tyX7 tyX7_ok nmX7 0 9 rfl rfl (by decide) lkX7_setStrict_1 rfl (nrZ hv9) (ftZ hv9) (Nat.le_of_ble_eq_true rfl) dX7_setStrict_7 (fun H locs hw => ?_)
  have hw : ww D (TY cC cI cJ cZ cD) s A s.heap [(x, .inr (9, [.ref ab, .ref cb, .ref sb, .ref lg, .ref pr, .ref pp, .ref rd, .ref ty, .ref ou, .int v, .int (nI fee), .int lr, .int lz]))] H locs := hw
  refine lv_iload_n hx hb dX7_setStrict_10 rfl (lv_at hl 0 rfl) ?_
  subst hQ
  exact r_reti (v := stc) cx hr (nrZ hst) hlk hw (Nat.le_of_ble_eq_true rfl) (Nat.le_of_ble_eq_true rfl) () rfl [0] (by decide) rfl dX7_setStrict_11

theorem lkX7_setFee_1 : Cond.classLink RX7 81 "java/lang/IllegalArgumentException" ∈ wsX7_setFee := List.mem_of_getElem? (i := 1) rfl
theorem lkX7_setFee_2 : Cond.initialized "java/lang/IllegalArgumentException" ∈ wsX7_setFee := List.mem_of_getElem? (i := 2) rfl
theorem lkX7_setFee_3 : Cond.fieldLink RX7 70 "SignedDocument" "fee" "I" ∈ wsX7_setFee := List.mem_of_getElem? (i := 3) rfl
theorem inX7_setFee_7 : ∀ w ∈ u_ws RX7 TX7 13, w ∈ wsX7_setFee := fun _ h => List.mem_cons_of_mem _ (List.mem_append_left _ (List.mem_append_right _ h))
set_option maxRecDepth 100000 in
set_option maxHeartbeats 4000000 in
theorem mX7_setFee (l : Launch) (hfl : l.stackTraces = false) (D : va_G) (cC cI cJ cZ cD : ClassId) (x ab cb sb lg pr pp rd ty ou : Nat) (stc lr lz : Int32) (fee : Nat) (v : Int32) (sz : Nat) : YI l yX7_setFee wsX7_setFee ({ frames := 6, cells := 1, slots := 6, locals := 90 }) [.ref x, .int v] D (TY cC cI cJ cZ cD) [(x, .inr (9, [.ref ab, .ref cb, .ref sb, .ref lg, .ref pr, .ref pp, .ref rd, .ref ty, .ref ou, .int stc, .int (nI fee), .int lr, .int lz]))] sz (fun (r : Int32) => fun (f : Nat) => r = nI fee ∧ f ≤ 999 ∧ v = nI f) (fun (f : Nat) => [(x, .inr (9, [.ref ab, .ref cb, .ref sb, .ref lg, .ref pr, .ref pp, .ref rd, .ref ty, .ref ou, .int stc, .int (nI f), .int lr, .int lz]))]) (fun (E : String) => fun (_ : Unit) => (E = "java/lang/IllegalArgumentException" ∧ (¬ ixl v 999))) (fun (_ : Unit) => [(x, .inr (9, [.ref ab, .ref cb, .ref sb, .ref lg, .ref pr, .ref pp, .ref rd, .ref ty, .ref ou, .int stc, .int (nI fee), .int lr, .int lz]))]) 1 6 := by
  refine mk_YI (cc := cX7_setFee) (maxL := 3) (ret := (some .int)) (by decide) rfl (Nat.le_of_ble_eq_true rfl) ?_
  intro p e s mI args below meth cO A cx hr hlk htab hxs hw ls hl
  have hx := cx.1
  have hb := cx.2.1
  have hw : ww D (TY cC cI cJ cZ cD) s A s.heap [(x, .inr (9, [.ref ab, .ref cb, .ref sb, .ref lg, .ref pr, .ref pp, .ref rd, .ref ty, .ref ou, .int stc, .int (nI fee), .int lr, .int lz]))] s.heap [] := hw
  have hl : lv_has ls 3 [(0, .ref x), (1, .int v)] := hl
  generalize hQ : vx_MQ _ _ _ _ _ _ _ _ = Q
  refine hp_start hw (fun H locs hw => ?_)
  refine lv_iload_n hx hb dX7_setFee_0 rfl (lv_at hl 1 rfl) ?_
  refine lv_if_lt (tgt := 11) hx hb dX7_setFee_1 (by decide) (fun c1 => ?_) (fun c1 => ?_)
  · subst hQ
    exact r_ythrowW (text := "fee out of range") (names := ["java/lang/RuntimeException", "java/lang/Exception"]) cx hfl hxs 14 rfl (by decide +kernel) (by decide +kernel) lkX7_setFee_1 lkX7_setFee_2 (fun w h => List.mem_cons_of_mem _ (List.mem_append_right _ h)) (by decide +kernel) (by decide +kernel) hw hl.1 dX7_setFee_11 dX7_setFee_14 dX7_setFee_15 dX7_setFee_18 dX7_setFee_21 htab (Nat.le_of_ble_eq_true rfl) (Nat.le_of_ble_eq_true rfl) (Nat.le_of_ble_eq_true rfl) (Nat.le_of_ble_eq_true rfl) hlk (Nat.le_of_ble_eq_true rfl) (Nat.le_of_ble_eq_true rfl) () (by exact ⟨rfl, by first | exact ixl_neg c1 | exact ixl_bigb (by decide) c8⟩) [0] (by decide) rfl
  · refine lv_iload_n hx hb dX7_setFee_4 rfl (lv_at hl 1 rfl) ?_
    refine lv_sipush (v := nI 999) hx hb dX7_setFee_5 (by decide) ?_
    refine lv_icmp_le (tgt := 22) hx hb dX7_setFee_8 (by decide) (fun c8 => ?_) (fun c8 => ?_)
    · have e9 := ixl_okb (n := 999) (by decide) c1 c8
      obtain ⟨f9, hf9, rfl⟩ := nI_of_ixl e9
      refine lv_aload_n hx hb dX7_setFee_22 rfl (lv_at hl 0 rfl) ?_
      refine r_get cx hw inX7_setFee_7 0 10 rfl rfl (by decide) lkX7_setFee_3 rfl dX7_setFee_23 ?_
      refine lv_istore_n (lv' := [(2, .int (nI fee)), (0, .ref x), (1, .int (nI f9))]) hx hb dX7_setFee_26 rfl hl (by decide) rfl (fun ls hl => ?_)
      refine lv_aload_n hx hb dX7_setFee_27 rfl (lv_at hl 1 rfl) ?_
      refine lv_iload_n hx hb dX7_setFee_28 rfl (lv_at hl 2 rfl) ?_
      refine r_put cx hw inX7_setFee_7 tyX7 tyX7_ok nmX7 0 10 rfl rfl (by decide) lkX7_setFee_3 rfl rfl rfl (Nat.le_of_ble_eq_true rfl) dX7_setFee_29 (fun H locs hw => ?_)
      have hw : ww D (TY cC cI cJ cZ cD) s A s.heap [(x, .inr (9, [.ref ab, .ref cb, .ref sb, .ref lg, .ref pr, .ref pp, .ref rd, .ref ty, .ref ou, .int stc, .int (nI f9), .int lr, .int lz]))] H locs := hw
      refine lv_iload_n hx hb dX7_setFee_32 rfl (lv_at hl 0 rfl) ?_
      subst hQ
      exact vx_ret (r_reti (v := nI fee) cx hr rfl hlk hw (Nat.le_of_ble_eq_true rfl) (Nat.le_of_ble_eq_true rfl) f9 ⟨rfl, ⟨hf9, rfl⟩⟩ [0] (by decide) rfl dX7_setFee_33)
    · subst hQ
      exact r_ythrowW (text := "fee out of range") (names := ["java/lang/RuntimeException", "java/lang/Exception"]) cx hfl hxs 14 rfl (by decide +kernel) (by decide +kernel) lkX7_setFee_1 lkX7_setFee_2 (fun w h => List.mem_cons_of_mem _ (List.mem_append_right _ h)) (by decide +kernel) (by decide +kernel) hw hl.1 dX7_setFee_11 dX7_setFee_14 dX7_setFee_15 dX7_setFee_18 dX7_setFee_21 htab (Nat.le_of_ble_eq_true rfl) (Nat.le_of_ble_eq_true rfl) (Nat.le_of_ble_eq_true rfl) (Nat.le_of_ble_eq_true rfl) hlk (Nat.le_of_ble_eq_true rfl) (Nat.le_of_ble_eq_true rfl) () (by exact ⟨rfl, by first | exact ixl_neg c1 | exact ixl_bigb (by decide) c8⟩) [0] (by decide) rfl




theorem lkX7_charAt_1 : Cond.fieldLink RX7 40 "SignedDocument" "present" "LSignedDocument$Passage;" ∈ wsX7_charAt := List.mem_of_getElem? (i := 1) rfl
theorem inX7_charAt_7 : ∀ w ∈ u_ws RX7 TX7 13, w ∈ wsX7_charAt := fun _ h => List.mem_cons_of_mem _ (List.mem_append_left _ (List.mem_append_left _ (List.mem_append_left _ (List.mem_append_right _ h))))
theorem lkX7_charAt_2 : Cond.fieldLink RX7 172 "SignedDocument$Passage" "letters" "[C" ∈ wsX7_charAt := List.mem_of_getElem? (i := 2) rfl
theorem inX7_charAt_4 : ∀ w ∈ u_ws RX4 TX4 4, w ∈ wsX7_charAt := fun _ h => List.mem_cons_of_mem _ (List.mem_append_left _ (List.mem_append_left _ (List.mem_append_right _ h)))
set_option maxRecDepth 100000 in
set_option maxHeartbeats 4000000 in
theorem mX7_charAt (l : Launch) (hfl : l.stackTraces = false) (D : va_G) (cC cI cJ cZ cD : ClassId) (x ab cb sb lg pr pp rd ty ou prL prA prC : Nat) (stc lr lz : Int32) (fee : Nat) (n : Nat) (pL pA pC : Nat → Int32) (v : Int32) (sz : Nat) (hn : n ≤ 60) (hpL : ∀ j, vp_nar .char (pL j) = pL j) : YI l yX7_charAt wsX7_charAt ({ frames := 7, cells := 1, slots := 6, locals := 112 }) [.ref x, .int v] D (TY cC cI cJ cZ cD) [(x, .inr (9, [.ref ab, .ref cb, .ref sb, .ref lg, .ref pr, .ref pp, .ref rd, .ref ty, .ref ou, .int stc, .int (nI fee), .int lr, .int lz])), (pr, .inr (6, [.ref prL, .ref prA, .ref prC, .int (nI n)])), (prL, .inl (cC, 60, .inl pL)), (prA, .inl (cI, 60, .inl pA)), (prC, .inl (cI, 60, .inl pC))] sz (fun (r : Int32) => fun (k : Nat) => r = pL k ∧ k < n ∧ v = nI k) (fun (k : Nat) => [(x, .inr (9, [.ref ab, .ref cb, .ref sb, .ref lg, .ref pr, .ref pp, .ref rd, .ref ty, .ref ou, .int stc, .int (nI fee), .int lr, .int lz])), (pr, .inr (6, [.ref prL, .ref prA, .ref prC, .int (nI n)])), (prL, .inl (cC, 60, .inl pL)), (prA, .inl (cI, 60, .inl pA)), (prC, .inl (cI, 60, .inl pC))]) (fun (E : String) => fun (_ : Unit) => (E = "java/lang/IndexOutOfBoundsException" ∧ (¬ ix v n))) (fun (_ : Unit) => [(x, .inr (9, [.ref ab, .ref cb, .ref sb, .ref lg, .ref pr, .ref pp, .ref rd, .ref ty, .ref ou, .int stc, .int (nI fee), .int lr, .int lz])), (pr, .inr (6, [.ref prL, .ref prA, .ref prC, .int (nI n)])), (prL, .inl (cC, 60, .inl pL)), (prA, .inl (cI, 60, .inl pA)), (prC, .inl (cI, 60, .inl pC))]) 1 6 := by
  refine mk_YI (cc := cX7_charAt) (maxL := 2) (ret := (some .char)) (by decide) rfl (Nat.le_of_ble_eq_true rfl) ?_
  intro p e s mI args below meth cO A cx hr hlk htab hxs hw ls hl
  have hx := cx.1
  have hb := cx.2.1
  have hw : ww D (TY cC cI cJ cZ cD) s A s.heap [(x, .inr (9, [.ref ab, .ref cb, .ref sb, .ref lg, .ref pr, .ref pp, .ref rd, .ref ty, .ref ou, .int stc, .int (nI fee), .int lr, .int lz])), (pr, .inr (6, [.ref prL, .ref prA, .ref prC, .int (nI n)])), (prL, .inl (cC, 60, .inl pL)), (prA, .inl (cI, 60, .inl pA)), (prC, .inl (cI, 60, .inl pC))] s.heap [] := hw
  have hl : lv_has ls 2 [(0, .ref x), (1, .int v)] := hl
  generalize hQ : vx_MQ _ _ _ _ _ _ _ _ = Q
  refine hp_start hw (fun H locs hw => ?_)
  refine lv_aload_n hx hb dX7_charAt_0 rfl (lv_at hl 0 rfl) ?_
  refine lv_iload_n hx hb dX7_charAt_1 rfl (lv_at hl 1 rfl) ?_
  refine lv_aload_n hx hb dX7_charAt_2 rfl (lv_at hl 0 rfl) ?_
  refine r_get cx hw inX7_charAt_7 0 4 rfl rfl (by decide) lkX7_charAt_1 rfl dX7_charAt_3 ?_
  refine r_ycallVv (n := 2) (wr := []) cx hxs hw (mX7_needPosition l hfl D cC cI cJ cZ cD x ab cb sb lg pr pp rd ty ou pr prL prA prC stc lr lz fee n pL pA pC v H.size hn) [0, 1, 2, 3, 4] [] gX7_charAt_X7_needPosition rfl rfl rfl (by decide +kernel) ⟨Nat.le_of_ble_eq_true rfl, Nat.le_of_ble_eq_true rfl⟩ (q0 := 0) rfl rfl rfl rfl (by decide) (by decide) (by decide) rfl rfl hl.1 (Nat.le_of_ble_eq_true rfl) dX7_charAt_6 ⟨Nat.le_of_ble_eq_true rfl, Nat.le_of_ble_eq_true rfl⟩ (fun E ce q9 u H locs hp hw hce hcv hcl => ?_) (fun u H locs hp hw => ?_)
  · have hw : ww D (TY cC cI cJ cZ cD) s A s.heap [(x, .inr (9, [.ref ab, .ref cb, .ref sb, .ref lg, .ref pr, .ref pp, .ref rd, .ref ty, .ref ou, .int stc, .int (nI fee), .int lr, .int lz])), (pr, .inr (6, [.ref prL, .ref prA, .ref prC, .int (nI n)])), (prL, .inl (cC, 60, .inl pL)), (prA, .inl (cI, 60, .inl pA)), (prC, .inl (cI, 60, .inl pC))] H locs := hw
    try dsimp only at hp
    subst hQ
    exact r_yout cx htab hlk hw hce hcv hcl (Nat.le_of_ble_eq_true rfl) (Nat.le_of_ble_eq_true rfl) () (by exact hp) [0, 1, 2, 3, 4] (by decide) rfl
  · obtain ⟨k_1, rfl⟩ : ∃ z, z = u := ⟨_, rfl⟩
    have hw : ww D (TY cC cI cJ cZ cD) s A s.heap [(x, .inr (9, [.ref ab, .ref cb, .ref sb, .ref lg, .ref pr, .ref pp, .ref rd, .ref ty, .ref ou, .int stc, .int (nI fee), .int lr, .int lz])), (pr, .inr (6, [.ref prL, .ref prA, .ref prC, .int (nI n)])), (prL, .inl (cC, 60, .inl pL)), (prA, .inl (cI, 60, .inl pA)), (prC, .inl (cI, 60, .inl pC))] H locs := hw
    have hp6 := hp
    obtain ⟨h6, rfl⟩ := hp6
    refine lv_aload_n hx hb dX7_charAt_9 rfl (lv_at hl 0 rfl) ?_
    refine r_get cx hw inX7_charAt_7 0 4 rfl rfl (by decide) lkX7_charAt_1 rfl dX7_charAt_10 ?_
    refine r_get cx hw inX7_charAt_4 1 0 rfl rfl (by decide) lkX7_charAt_2 rfl dX7_charAt_13 ?_
    refine lv_iload_n hx hb dX7_charAt_16 rfl (lv_at hl 1 rfl) ?_
    refine r_cald cx hw 2 0 rfl rfl k_1 rfl (by omega) (by omega) dX7_charAt_17 ?_
    subst hQ
    exact vx_ret (r_reti (v := pL k_1) cx hr (nrC (hpL k_1)) hlk hw (Nat.le_of_ble_eq_true rfl) (Nat.le_of_ble_eq_true rfl) k_1 ⟨rfl, ⟨h6, rfl⟩⟩ [0, 1, 2, 3, 4] (by decide) rfl dX7_charAt_18)

theorem lkX7_authorOf_1 : Cond.fieldLink RX7 40 "SignedDocument" "present" "LSignedDocument$Passage;" ∈ wsX7_authorOf := List.mem_of_getElem? (i := 1) rfl
theorem inX7_authorOf_7 : ∀ w ∈ u_ws RX7 TX7 13, w ∈ wsX7_authorOf := fun _ h => List.mem_cons_of_mem _ (List.mem_append_left _ (List.mem_append_left _ (List.mem_append_left _ (List.mem_append_right _ h))))
theorem lkX7_authorOf_2 : Cond.fieldLink RX7 175 "SignedDocument$Passage" "authors" "[I" ∈ wsX7_authorOf := List.mem_of_getElem? (i := 2) rfl
theorem inX7_authorOf_4 : ∀ w ∈ u_ws RX4 TX4 4, w ∈ wsX7_authorOf := fun _ h => List.mem_cons_of_mem _ (List.mem_append_left _ (List.mem_append_left _ (List.mem_append_right _ h)))
set_option maxRecDepth 100000 in
set_option maxHeartbeats 4000000 in
theorem mX7_authorOf (l : Launch) (hfl : l.stackTraces = false) (D : va_G) (cC cI cJ cZ cD : ClassId) (x ab cb sb lg pr pp rd ty ou prL prA prC : Nat) (stc lr lz : Int32) (fee : Nat) (n : Nat) (pL pA pC : Nat → Int32) (v : Int32) (sz : Nat) (hn : n ≤ 60) : YI l yX7_authorOf wsX7_authorOf ({ frames := 7, cells := 1, slots := 6, locals := 112 }) [.ref x, .int v] D (TY cC cI cJ cZ cD) [(x, .inr (9, [.ref ab, .ref cb, .ref sb, .ref lg, .ref pr, .ref pp, .ref rd, .ref ty, .ref ou, .int stc, .int (nI fee), .int lr, .int lz])), (pr, .inr (6, [.ref prL, .ref prA, .ref prC, .int (nI n)])), (prL, .inl (cC, 60, .inl pL)), (prA, .inl (cI, 60, .inl pA)), (prC, .inl (cI, 60, .inl pC))] sz (fun (r : Int32) => fun (k : Nat) => r = pA k ∧ k < n ∧ v = nI k) (fun (k : Nat) => [(x, .inr (9, [.ref ab, .ref cb, .ref sb, .ref lg, .ref pr, .ref pp, .ref rd, .ref ty, .ref ou, .int stc, .int (nI fee), .int lr, .int lz])), (pr, .inr (6, [.ref prL, .ref prA, .ref prC, .int (nI n)])), (prL, .inl (cC, 60, .inl pL)), (prA, .inl (cI, 60, .inl pA)), (prC, .inl (cI, 60, .inl pC))]) (fun (E : String) => fun (_ : Unit) => (E = "java/lang/IndexOutOfBoundsException" ∧ (¬ ix v n))) (fun (_ : Unit) => [(x, .inr (9, [.ref ab, .ref cb, .ref sb, .ref lg, .ref pr, .ref pp, .ref rd, .ref ty, .ref ou, .int stc, .int (nI fee), .int lr, .int lz])), (pr, .inr (6, [.ref prL, .ref prA, .ref prC, .int (nI n)])), (prL, .inl (cC, 60, .inl pL)), (prA, .inl (cI, 60, .inl pA)), (prC, .inl (cI, 60, .inl pC))]) 1 6 := by
  refine mk_YI (cc := cX7_authorOf) (maxL := 2) (ret := (some .int)) (by decide) rfl (Nat.le_of_ble_eq_true rfl) ?_
  intro p e s mI args below meth cO A cx hr hlk htab hxs hw ls hl
  have hx := cx.1
  have hb := cx.2.1
  have hw : ww D (TY cC cI cJ cZ cD) s A s.heap [(x, .inr (9, [.ref ab, .ref cb, .ref sb, .ref lg, .ref pr, .ref pp, .ref rd, .ref ty, .ref ou, .int stc, .int (nI fee), .int lr, .int lz])), (pr, .inr (6, [.ref prL, .ref prA, .ref prC, .int (nI n)])), (prL, .inl (cC, 60, .inl pL)), (prA, .inl (cI, 60, .inl pA)), (prC, .inl (cI, 60, .inl pC))] s.heap [] := hw
  have hl : lv_has ls 2 [(0, .ref x), (1, .int v)] := hl
  generalize hQ : vx_MQ _ _ _ _ _ _ _ _ = Q
  refine hp_start hw (fun H locs hw => ?_)
  refine lv_aload_n hx hb dX7_authorOf_0 rfl (lv_at hl 0 rfl) ?_
  refine lv_iload_n hx hb dX7_authorOf_1 rfl (lv_at hl 1 rfl) ?_
  refine lv_aload_n hx hb dX7_authorOf_2 rfl (lv_at hl 0 rfl) ?_
  refine r_get cx hw inX7_authorOf_7 0 4 rfl rfl (by decide) lkX7_authorOf_1 rfl dX7_authorOf_3 ?_
  refine r_ycallVv (n := 2) (wr := []) cx hxs hw (mX7_needPosition l hfl D cC cI cJ cZ cD x ab cb sb lg pr pp rd ty ou pr prL prA prC stc lr lz fee n pL pA pC v H.size hn) [0, 1, 2, 3, 4] [] gX7_authorOf_X7_needPosition rfl rfl rfl (by decide +kernel) ⟨Nat.le_of_ble_eq_true rfl, Nat.le_of_ble_eq_true rfl⟩ (q0 := 0) rfl rfl rfl rfl (by decide) (by decide) (by decide) rfl rfl hl.1 (Nat.le_of_ble_eq_true rfl) dX7_authorOf_6 ⟨Nat.le_of_ble_eq_true rfl, Nat.le_of_ble_eq_true rfl⟩ (fun E ce q9 u H locs hp hw hce hcv hcl => ?_) (fun u H locs hp hw => ?_)
  · have hw : ww D (TY cC cI cJ cZ cD) s A s.heap [(x, .inr (9, [.ref ab, .ref cb, .ref sb, .ref lg, .ref pr, .ref pp, .ref rd, .ref ty, .ref ou, .int stc, .int (nI fee), .int lr, .int lz])), (pr, .inr (6, [.ref prL, .ref prA, .ref prC, .int (nI n)])), (prL, .inl (cC, 60, .inl pL)), (prA, .inl (cI, 60, .inl pA)), (prC, .inl (cI, 60, .inl pC))] H locs := hw
    try dsimp only at hp
    subst hQ
    exact r_yout cx htab hlk hw hce hcv hcl (Nat.le_of_ble_eq_true rfl) (Nat.le_of_ble_eq_true rfl) () (by exact hp) [0, 1, 2, 3, 4] (by decide) rfl
  · obtain ⟨k_1, rfl⟩ : ∃ z, z = u := ⟨_, rfl⟩
    have hw : ww D (TY cC cI cJ cZ cD) s A s.heap [(x, .inr (9, [.ref ab, .ref cb, .ref sb, .ref lg, .ref pr, .ref pp, .ref rd, .ref ty, .ref ou, .int stc, .int (nI fee), .int lr, .int lz])), (pr, .inr (6, [.ref prL, .ref prA, .ref prC, .int (nI n)])), (prL, .inl (cC, 60, .inl pL)), (prA, .inl (cI, 60, .inl pA)), (prC, .inl (cI, 60, .inl pC))] H locs := hw
    have hp6 := hp
    obtain ⟨h6, rfl⟩ := hp6
    refine lv_aload_n hx hb dX7_authorOf_9 rfl (lv_at hl 0 rfl) ?_
    refine r_get cx hw inX7_authorOf_7 0 4 rfl rfl (by decide) lkX7_authorOf_1 rfl dX7_authorOf_10 ?_
    refine r_get cx hw inX7_authorOf_4 1 1 rfl rfl (by decide) lkX7_authorOf_2 rfl dX7_authorOf_13 ?_
    refine lv_iload_n hx hb dX7_authorOf_16 rfl (lv_at hl 1 rfl) ?_
    refine r_iald cx hw 3 1 rfl rfl k_1 rfl (by omega) (by omega) dX7_authorOf_17 ?_
    subst hQ
    exact vx_ret (r_reti (v := pA k_1) cx hr rfl hlk hw (Nat.le_of_ble_eq_true rfl) (Nat.le_of_ble_eq_true rfl) k_1 ⟨rfl, ⟨h6, rfl⟩⟩ [0, 1, 2, 3, 4] (by decide) rfl dX7_authorOf_18)

theorem lkX7_clauseOf_1 : Cond.fieldLink RX7 40 "SignedDocument" "present" "LSignedDocument$Passage;" ∈ wsX7_clauseOf := List.mem_of_getElem? (i := 1) rfl
theorem inX7_clauseOf_7 : ∀ w ∈ u_ws RX7 TX7 13, w ∈ wsX7_clauseOf := fun _ h => List.mem_cons_of_mem _ (List.mem_append_left _ (List.mem_append_left _ (List.mem_append_left _ (List.mem_append_right _ h))))
theorem lkX7_clauseOf_2 : Cond.fieldLink RX7 176 "SignedDocument$Passage" "clauses" "[I" ∈ wsX7_clauseOf := List.mem_of_getElem? (i := 2) rfl
theorem inX7_clauseOf_4 : ∀ w ∈ u_ws RX4 TX4 4, w ∈ wsX7_clauseOf := fun _ h => List.mem_cons_of_mem _ (List.mem_append_left _ (List.mem_append_left _ (List.mem_append_right _ h)))
set_option maxRecDepth 100000 in
set_option maxHeartbeats 4000000 in
theorem mX7_clauseOf (l : Launch) (hfl : l.stackTraces = false) (D : va_G) (cC cI cJ cZ cD : ClassId) (x ab cb sb lg pr pp rd ty ou prL prA prC : Nat) (stc lr lz : Int32) (fee : Nat) (n : Nat) (pL pA pC : Nat → Int32) (v : Int32) (sz : Nat) (hn : n ≤ 60) : YI l yX7_clauseOf wsX7_clauseOf ({ frames := 7, cells := 1, slots := 6, locals := 112 }) [.ref x, .int v] D (TY cC cI cJ cZ cD) [(x, .inr (9, [.ref ab, .ref cb, .ref sb, .ref lg, .ref pr, .ref pp, .ref rd, .ref ty, .ref ou, .int stc, .int (nI fee), .int lr, .int lz])), (pr, .inr (6, [.ref prL, .ref prA, .ref prC, .int (nI n)])), (prL, .inl (cC, 60, .inl pL)), (prA, .inl (cI, 60, .inl pA)), (prC, .inl (cI, 60, .inl pC))] sz (fun (r : Int32) => fun (k : Nat) => r = pC k ∧ k < n ∧ v = nI k) (fun (k : Nat) => [(x, .inr (9, [.ref ab, .ref cb, .ref sb, .ref lg, .ref pr, .ref pp, .ref rd, .ref ty, .ref ou, .int stc, .int (nI fee), .int lr, .int lz])), (pr, .inr (6, [.ref prL, .ref prA, .ref prC, .int (nI n)])), (prL, .inl (cC, 60, .inl pL)), (prA, .inl (cI, 60, .inl pA)), (prC, .inl (cI, 60, .inl pC))]) (fun (E : String) => fun (_ : Unit) => (E = "java/lang/IndexOutOfBoundsException" ∧ (¬ ix v n))) (fun (_ : Unit) => [(x, .inr (9, [.ref ab, .ref cb, .ref sb, .ref lg, .ref pr, .ref pp, .ref rd, .ref ty, .ref ou, .int stc, .int (nI fee), .int lr, .int lz])), (pr, .inr (6, [.ref prL, .ref prA, .ref prC, .int (nI n)])), (prL, .inl (cC, 60, .inl pL)), (prA, .inl (cI, 60, .inl pA)), (prC, .inl (cI, 60, .inl pC))]) 1 6 := by
  refine mk_YI (cc := cX7_clauseOf) (maxL := 2) (ret := (some .int)) (by decide) rfl (Nat.le_of_ble_eq_true rfl) ?_
  intro p e s mI args below meth cO A cx hr hlk htab hxs hw ls hl
  have hx := cx.1
  have hb := cx.2.1
  have hw : ww D (TY cC cI cJ cZ cD) s A s.heap [(x, .inr (9, [.ref ab, .ref cb, .ref sb, .ref lg, .ref pr, .ref pp, .ref rd, .ref ty, .ref ou, .int stc, .int (nI fee), .int lr, .int lz])), (pr, .inr (6, [.ref prL, .ref prA, .ref prC, .int (nI n)])), (prL, .inl (cC, 60, .inl pL)), (prA, .inl (cI, 60, .inl pA)), (prC, .inl (cI, 60, .inl pC))] s.heap [] := hw
  have hl : lv_has ls 2 [(0, .ref x), (1, .int v)] := hl
  generalize hQ : vx_MQ _ _ _ _ _ _ _ _ = Q
  refine hp_start hw (fun H locs hw => ?_)
  refine lv_aload_n hx hb dX7_clauseOf_0 rfl (lv_at hl 0 rfl) ?_
  refine lv_iload_n hx hb dX7_clauseOf_1 rfl (lv_at hl 1 rfl) ?_
  refine lv_aload_n hx hb dX7_clauseOf_2 rfl (lv_at hl 0 rfl) ?_
  refine r_get cx hw inX7_clauseOf_7 0 4 rfl rfl (by decide) lkX7_clauseOf_1 rfl dX7_clauseOf_3 ?_
  refine r_ycallVv (n := 2) (wr := []) cx hxs hw (mX7_needPosition l hfl D cC cI cJ cZ cD x ab cb sb lg pr pp rd ty ou pr prL prA prC stc lr lz fee n pL pA pC v H.size hn) [0, 1, 2, 3, 4] [] gX7_clauseOf_X7_needPosition rfl rfl rfl (by decide +kernel) ⟨Nat.le_of_ble_eq_true rfl, Nat.le_of_ble_eq_true rfl⟩ (q0 := 0) rfl rfl rfl rfl (by decide) (by decide) (by decide) rfl rfl hl.1 (Nat.le_of_ble_eq_true rfl) dX7_clauseOf_6 ⟨Nat.le_of_ble_eq_true rfl, Nat.le_of_ble_eq_true rfl⟩ (fun E ce q9 u H locs hp hw hce hcv hcl => ?_) (fun u H locs hp hw => ?_)
  · have hw : ww D (TY cC cI cJ cZ cD) s A s.heap [(x, .inr (9, [.ref ab, .ref cb, .ref sb, .ref lg, .ref pr, .ref pp, .ref rd, .ref ty, .ref ou, .int stc, .int (nI fee), .int lr, .int lz])), (pr, .inr (6, [.ref prL, .ref prA, .ref prC, .int (nI n)])), (prL, .inl (cC, 60, .inl pL)), (prA, .inl (cI, 60, .inl pA)), (prC, .inl (cI, 60, .inl pC))] H locs := hw
    try dsimp only at hp
    subst hQ
    exact r_yout cx htab hlk hw hce hcv hcl (Nat.le_of_ble_eq_true rfl) (Nat.le_of_ble_eq_true rfl) () (by exact hp) [0, 1, 2, 3, 4] (by decide) rfl
  · obtain ⟨k_1, rfl⟩ : ∃ z, z = u := ⟨_, rfl⟩
    have hw : ww D (TY cC cI cJ cZ cD) s A s.heap [(x, .inr (9, [.ref ab, .ref cb, .ref sb, .ref lg, .ref pr, .ref pp, .ref rd, .ref ty, .ref ou, .int stc, .int (nI fee), .int lr, .int lz])), (pr, .inr (6, [.ref prL, .ref prA, .ref prC, .int (nI n)])), (prL, .inl (cC, 60, .inl pL)), (prA, .inl (cI, 60, .inl pA)), (prC, .inl (cI, 60, .inl pC))] H locs := hw
    have hp6 := hp
    obtain ⟨h6, rfl⟩ := hp6
    refine lv_aload_n hx hb dX7_clauseOf_9 rfl (lv_at hl 0 rfl) ?_
    refine r_get cx hw inX7_clauseOf_7 0 4 rfl rfl (by decide) lkX7_clauseOf_1 rfl dX7_clauseOf_10 ?_
    refine r_get cx hw inX7_clauseOf_4 1 2 rfl rfl (by decide) lkX7_clauseOf_2 rfl dX7_clauseOf_13 ?_
    refine lv_iload_n hx hb dX7_clauseOf_16 rfl (lv_at hl 1 rfl) ?_
    refine r_iald cx hw 4 1 rfl rfl k_1 rfl (by omega) (by omega) dX7_clauseOf_17 ?_
    subst hQ
    exact vx_ret (r_reti (v := pC k_1) cx hr rfl hlk hw (Nat.le_of_ble_eq_true rfl) (Nat.le_of_ble_eq_true rfl) k_1 ⟨rfl, ⟨h6, rfl⟩⟩ [0, 1, 2, 3, 4] (by decide) rfl dX7_clauseOf_18)



theorem lkX7_clauseLength_1 : Cond.fieldLink RX7 40 "SignedDocument" "present" "LSignedDocument$Passage;" ∈ wsX7_clauseLength := List.mem_of_getElem? (i := 1) rfl
theorem inX7_clauseLength_7 : ∀ w ∈ u_ws RX7 TX7 13, w ∈ wsX7_clauseLength := fun _ h => List.mem_cons_of_mem _ (List.mem_append_left _ (List.mem_append_left _ (List.mem_append_left _ (List.mem_append_left _ (List.mem_append_right _ h)))))
set_option maxRecDepth 100000 in
set_option maxHeartbeats 4000000 in
theorem mX7_clauseLength (l : Launch) (hfl : l.stackTraces = false) (D : va_G) (cC cI cJ cZ cD : ClassId) (x ab cb sb lg pr pp rd ty ou cbP cbK cbE cbZ prL prA prC : Nat) (stc lr lz : Int32) (fee : Nat) (nc : Nat) (gP gK gE : Nat → Nat) (kZ : Nat → Int32) (n : Nat) (pL pA pC : Nat → Int32) (v : Int32) (sz : Nat) (hnc : nc ≤ 6) (hn : n ≤ 60) : YI l yX7_clauseLength wsX7_clauseLength ({ frames := 7, cells := 1, slots := 6, locals := 111 }) [.ref x, .int v] D (TY cC cI cJ cZ cD) [(x, .inr (9, [.ref ab, .ref cb, .ref sb, .ref lg, .ref pr, .ref pp, .ref rd, .ref ty, .ref ou, .int stc, .int (nI fee), .int lr, .int lz])), (cb, .inr (3, [.ref cbP, .ref cbK, .ref cbE, .ref cbZ, .int (nI nc)])), (cbP, .inl (cI, 6, .inl (fun jj => nI (gP jj)))), (cbK, .inl (cI, 6, .inl (fun jj => nI (gK jj)))), (cbE, .inl (cI, 6, .inl (fun jj => nI (gE jj)))), (cbZ, .inl (cZ, 6, .inl kZ)), (pr, .inr (6, [.ref prL, .ref prA, .ref prC, .int (nI n)])), (prL, .inl (cC, 60, .inl pL)), (prA, .inl (cI, 60, .inl pA)), (prC, .inl (cI, 60, .inl pC))] sz (fun (r : Int32) => fun (k : Nat) => r = nI (ct (fun j => decide (pC j = nI k)) n) ∧ k < nc ∧ v = nI k) (fun (k : Nat) => [(x, .inr (9, [.ref ab, .ref cb, .ref sb, .ref lg, .ref pr, .ref pp, .ref rd, .ref ty, .ref ou, .int stc, .int (nI fee), .int lr, .int lz])), (cb, .inr (3, [.ref cbP, .ref cbK, .ref cbE, .ref cbZ, .int (nI nc)])), (cbP, .inl (cI, 6, .inl (fun jj => nI (gP jj)))), (cbK, .inl (cI, 6, .inl (fun jj => nI (gK jj)))), (cbE, .inl (cI, 6, .inl (fun jj => nI (gE jj)))), (cbZ, .inl (cZ, 6, .inl kZ)), (pr, .inr (6, [.ref prL, .ref prA, .ref prC, .int (nI n)])), (prL, .inl (cC, 60, .inl pL)), (prA, .inl (cI, 60, .inl pA)), (prC, .inl (cI, 60, .inl pC))]) (fun (E : String) => fun (_ : Unit) => (E = "java/lang/IndexOutOfBoundsException" ∧ (¬ ix v nc))) (fun (_ : Unit) => [(x, .inr (9, [.ref ab, .ref cb, .ref sb, .ref lg, .ref pr, .ref pp, .ref rd, .ref ty, .ref ou, .int stc, .int (nI fee), .int lr, .int lz])), (cb, .inr (3, [.ref cbP, .ref cbK, .ref cbE, .ref cbZ, .int (nI nc)])), (cbP, .inl (cI, 6, .inl (fun jj => nI (gP jj)))), (cbK, .inl (cI, 6, .inl (fun jj => nI (gK jj)))), (cbE, .inl (cI, 6, .inl (fun jj => nI (gE jj)))), (cbZ, .inl (cZ, 6, .inl kZ)), (pr, .inr (6, [.ref prL, .ref prA, .ref prC, .int (nI n)])), (prL, .inl (cC, 60, .inl pL)), (prA, .inl (cI, 60, .inl pA)), (prC, .inl (cI, 60, .inl pC))]) 1 6 := by
  refine mk_YI (cc := cX7_clauseLength) (maxL := 2) (ret := (some .int)) (by decide) rfl (Nat.le_of_ble_eq_true rfl) ?_
  intro p e s mI args below meth cO A cx hr hlk htab hxs hw ls hl
  have hx := cx.1
  have hb := cx.2.1
  have hw : ww D (TY cC cI cJ cZ cD) s A s.heap [(x, .inr (9, [.ref ab, .ref cb, .ref sb, .ref lg, .ref pr, .ref pp, .ref rd, .ref ty, .ref ou, .int stc, .int (nI fee), .int lr, .int lz])), (cb, .inr (3, [.ref cbP, .ref cbK, .ref cbE, .ref cbZ, .int (nI nc)])), (cbP, .inl (cI, 6, .inl (fun jj => nI (gP jj)))), (cbK, .inl (cI, 6, .inl (fun jj => nI (gK jj)))), (cbE, .inl (cI, 6, .inl (fun jj => nI (gE jj)))), (cbZ, .inl (cZ, 6, .inl kZ)), (pr, .inr (6, [.ref prL, .ref prA, .ref prC, .int (nI n)])), (prL, .inl (cC, 60, .inl pL)), (prA, .inl (cI, 60, .inl pA)), (prC, .inl (cI, 60, .inl pC))] s.heap [] := hw
  have hl : lv_has ls 2 [(0, .ref x), (1, .int v)] := hl
  generalize hQ : vx_MQ _ _ _ _ _ _ _ _ = Q
  refine hp_start hw (fun H locs hw => ?_)
  refine lv_aload_n hx hb dX7_clauseLength_0 rfl (lv_at hl 0 rfl) ?_
  refine lv_iload_n hx hb dX7_clauseLength_1 rfl (lv_at hl 1 rfl) ?_
  refine r_ycallVv (n := 1) (wr := [(pr, .inr (6, [.ref prL, .ref prA, .ref prC, .int (nI n)])), (prL, .inl (cC, 60, .inl pL)), (prA, .inl (cI, 60, .inl pA)), (prC, .inl (cI, 60, .inl pC))]) cx hxs hw (mX7_needClause l hfl D cC cI cJ cZ cD x ab cb sb lg pr pp rd ty ou cbP cbK cbE cbZ stc lr lz fee nc gP gK gE kZ v H.size hnc) [0, 1, 2, 3, 4, 5] [6, 7, 8, 9] gX7_clauseLength_X7_needClause rfl rfl rfl (by decide +kernel) ⟨Nat.le_of_ble_eq_true rfl, Nat.le_of_ble_eq_true rfl⟩ (q0 := 0) rfl rfl rfl rfl (by decide) (by decide) (by decide) rfl rfl hl.1 (Nat.le_of_ble_eq_true rfl) dX7_clauseLength_2 ⟨Nat.le_of_ble_eq_true rfl, Nat.le_of_ble_eq_true rfl⟩ (fun E ce q9 u H locs hp hw hce hcv hcl => ?_) (fun u H locs hp hw => ?_)
  · have hw : ww D (TY cC cI cJ cZ cD) s A s.heap [(pr, .inr (6, [.ref prL, .ref prA, .ref prC, .int (nI n)])), (prL, .inl (cC, 60, .inl pL)), (prA, .inl (cI, 60, .inl pA)), (prC, .inl (cI, 60, .inl pC)), (x, .inr (9, [.ref ab, .ref cb, .ref sb, .ref lg, .ref pr, .ref pp, .ref rd, .ref ty, .ref ou, .int stc, .int (nI fee), .int lr, .int lz])), (cb, .inr (3, [.ref cbP, .ref cbK, .ref cbE, .ref cbZ, .int (nI nc)])), (cbP, .inl (cI, 6, .inl (fun jj => nI (gP jj)))), (cbK, .inl (cI, 6, .inl (fun jj => nI (gK jj)))), (cbE, .inl (cI, 6, .inl (fun jj => nI (gE jj)))), (cbZ, .inl (cZ, 6, .inl kZ))] H locs := hw
    try dsimp only at hp
    subst hQ
    exact r_yout cx htab hlk hw hce hcv hcl (Nat.le_of_ble_eq_true rfl) (Nat.le_of_ble_eq_true rfl) () (by exact hp) [4, 5, 6, 7, 8, 9, 0, 1, 2, 3] (by decide) rfl
  · obtain ⟨k_1, rfl⟩ : ∃ z, z = u := ⟨_, rfl⟩
    have hw : ww D (TY cC cI cJ cZ cD) s A s.heap [(pr, .inr (6, [.ref prL, .ref prA, .ref prC, .int (nI n)])), (prL, .inl (cC, 60, .inl pL)), (prA, .inl (cI, 60, .inl pA)), (prC, .inl (cI, 60, .inl pC)), (x, .inr (9, [.ref ab, .ref cb, .ref sb, .ref lg, .ref pr, .ref pp, .ref rd, .ref ty, .ref ou, .int stc, .int (nI fee), .int lr, .int lz])), (cb, .inr (3, [.ref cbP, .ref cbK, .ref cbE, .ref cbZ, .int (nI nc)])), (cbP, .inl (cI, 6, .inl (fun jj => nI (gP jj)))), (cbK, .inl (cI, 6, .inl (fun jj => nI (gK jj)))), (cbE, .inl (cI, 6, .inl (fun jj => nI (gE jj)))), (cbZ, .inl (cZ, 6, .inl kZ))] H locs := hw
    have hp2 := hp
    obtain ⟨h2, rfl⟩ := hp2
    refine lv_aload_n hx hb dX7_clauseLength_5 rfl (lv_at hl 0 rfl) ?_
    refine r_get cx hw inX7_clauseLength_7 4 4 rfl rfl (by decide) lkX7_clauseLength_1 rfl dX7_clauseLength_6 ?_
    refine lv_iload_n hx hb dX7_clauseLength_9 rfl (lv_at hl 1 rfl) ?_
    refine r_callVi (n := 1) (wr := [(x, .inr (9, [.ref ab, .ref cb, .ref sb, .ref lg, .ref pr, .ref pp, .ref rd, .ref ty, .ref ou, .int stc, .int (nI fee), .int lr, .int lz])), (cb, .inr (3, [.ref cbP, .ref cbK, .ref cbE, .ref cbZ, .int (nI nc)])), (cbP, .inl (cI, 6, .inl (fun jj => nI (gP jj)))), (cbK, .inl (cI, 6, .inl (fun jj => nI (gK jj)))), (cbE, .inl (cI, 6, .inl (fun jj => nI (gE jj)))), (cbZ, .inl (cZ, 6, .inl kZ))]) cx hw (mX4_countOfClause l D cC cI cJ cZ cD pr prL prA prC n pL pA pC (nI k_1) H.size hn) [0, 1, 2, 3] [4, 5, 6, 7, 8, 9] gX7_clauseLength_X4_countOfClause rfl rfl rfl (by decide +kernel) ⟨Nat.le_of_ble_eq_true rfl, Nat.le_of_ble_eq_true rfl⟩ (q0 := 0) rfl rfl rfl rfl (by decide) (by decide) (by decide) rfl rfl hl.1 (Nat.le_of_ble_eq_true rfl) dX7_clauseLength_10 ⟨Nat.le_of_ble_eq_true rfl, Nat.le_of_ble_eq_true rfl⟩ (fun r_4 u H locs hp hw => ?_)
    have hw : ww D (TY cC cI cJ cZ cD) s A s.heap [(x, .inr (9, [.ref ab, .ref cb, .ref sb, .ref lg, .ref pr, .ref pp, .ref rd, .ref ty, .ref ou, .int stc, .int (nI fee), .int lr, .int lz])), (cb, .inr (3, [.ref cbP, .ref cbK, .ref cbE, .ref cbZ, .int (nI nc)])), (cbP, .inl (cI, 6, .inl (fun jj => nI (gP jj)))), (cbK, .inl (cI, 6, .inl (fun jj => nI (gK jj)))), (cbE, .inl (cI, 6, .inl (fun jj => nI (gE jj)))), (cbZ, .inl (cZ, 6, .inl kZ)), (pr, .inr (6, [.ref prL, .ref prA, .ref prC, .int (nI n)])), (prL, .inl (cC, 60, .inl pL)), (prA, .inl (cI, 60, .inl pA)), (prC, .inl (cI, 60, .inl pC))] H locs := hw
    try dsimp only at hp
    subst hp
    subst hQ
    exact vx_ret (r_reti (v := nI (ct (fun j => decide (pC j = (nI k_1))) n)) cx hr rfl hlk hw (Nat.le_of_ble_eq_true rfl) (Nat.le_of_ble_eq_true rfl) k_1 ⟨rfl, ⟨h2, rfl⟩⟩ [0, 1, 2, 3, 4, 5, 6, 7, 8, 9] (by decide) rfl dX7_clauseLength_13)


theorem lkX7_refusalReason_1 : Cond.fieldLink RX7 74 "SignedDocument" "lastReason" "C" ∈ wsX7_refusalReason := List.mem_of_getElem? (i := 1) rfl
theorem inX7_refusalReason_7 : ∀ w ∈ u_ws RX7 TX7 13, w ∈ wsX7_refusalReason := fun _ h => List.mem_cons_of_mem _ (List.mem_append_left _ (List.mem_append_right _ h))
set_option maxRecDepth 100000 in
set_option maxHeartbeats 4000000 in
theorem mX7_refusalReason (l : Launch) (hfl : l.stackTraces = false) (D : va_G) (cC cI cJ cZ cD : ClassId) (x ab cb sb lg pr pp rd ty ou : Nat) (stc lr lz : Int32) (fee : Nat) (sz : Nat) (hlr : vp_nar .char lr = lr) : YI l yX7_refusalReason wsX7_refusalReason ({ frames := 7, cells := 1, slots := 6, locals := 110 }) [.ref x] D (TY cC cI cJ cZ cD) [(x, .inr (9, [.ref ab, .ref cb, .ref sb, .ref lg, .ref pr, .ref pp, .ref rd, .ref ty, .ref ou, .int stc, .int (nI fee), .int lr, .int lz]))] sz (fun (r : Int32) => fun (_ : Unit) => r = lr ∧ ¬ lr = nI 45) (fun (_ : Unit) => [(x, .inr (9, [.ref ab, .ref cb, .ref sb, .ref lg, .ref pr, .ref pp, .ref rd, .ref ty, .ref ou, .int stc, .int (nI fee), .int lr, .int lz]))]) (fun (E : String) => fun (_ : Unit) => (E = "java/util/NoSuchElementException" ∧ (lr = nI 45))) (fun (_ : Unit) => [(x, .inr (9, [.ref ab, .ref cb, .ref sb, .ref lg, .ref pr, .ref pp, .ref rd, .ref ty, .ref ou, .int stc, .int (nI fee), .int lr, .int lz]))]) 1 6 := by
  refine mk_YI (cc := cX7_refusalReason) (maxL := 1) (ret := (some .char)) (by decide) rfl (Nat.le_of_ble_eq_true rfl) ?_
  intro p e s mI args below meth cO A cx hr hlk htab hxs hw ls hl
  have hx := cx.1
  have hb := cx.2.1
  have hw : ww D (TY cC cI cJ cZ cD) s A s.heap [(x, .inr (9, [.ref ab, .ref cb, .ref sb, .ref lg, .ref pr, .ref pp, .ref rd, .ref ty, .ref ou, .int stc, .int (nI fee), .int lr, .int lz]))] s.heap [] := hw
  have hl : lv_has ls 1 [(0, .ref x)] := hl
  generalize hQ : vx_MQ _ _ _ _ _ _ _ _ = Q
  refine hp_start hw (fun H locs hw => ?_)
  refine lv_aload_n hx hb dX7_refusalReason_0 rfl (lv_at hl 0 rfl) ?_
  refine r_ycallVv (n := 0) (wr := []) cx hxs hw (mX7_needRefusal l hfl D cC cI cJ cZ cD x ab cb sb lg pr pp rd ty ou stc lr lz fee H.size) [0] [] gX7_refusalReason_X7_needRefusal rfl rfl rfl (by decide +kernel) ⟨Nat.le_of_ble_eq_true rfl, Nat.le_of_ble_eq_true rfl⟩ (q0 := 0) rfl rfl rfl rfl (by decide) (by decide) (by decide) rfl rfl hl.1 (Nat.le_of_ble_eq_true rfl) dX7_refusalReason_1 ⟨Nat.le_of_ble_eq_true rfl, Nat.le_of_ble_eq_true rfl⟩ (fun E ce q9 u H locs hp hw hce hcv hcl => ?_) (fun u H locs hp hw => ?_)
  · have hw : ww D (TY cC cI cJ cZ cD) s A s.heap [(x, .inr (9, [.ref ab, .ref cb, .ref sb, .ref lg, .ref pr, .ref pp, .ref rd, .ref ty, .ref ou, .int stc, .int (nI fee), .int lr, .int lz]))] H locs := hw
    try dsimp only at hp
    subst hQ
    exact r_yout cx htab hlk hw hce hcv hcl (Nat.le_of_ble_eq_true rfl) (Nat.le_of_ble_eq_true rfl) () (by exact hp) [0] (by decide) rfl
  · have hw : ww D (TY cC cI cJ cZ cD) s A s.heap [(x, .inr (9, [.ref ab, .ref cb, .ref sb, .ref lg, .ref pr, .ref pp, .ref rd, .ref ty, .ref ou, .int stc, .int (nI fee), .int lr, .int lz]))] H locs := hw
    have hp1 := hp
    refine lv_aload_n hx hb dX7_refusalReason_4 rfl (lv_at hl 0 rfl) ?_
    refine r_get cx hw inX7_refusalReason_7 0 11 rfl rfl (by decide) lkX7_refusalReason_1 rfl dX7_refusalReason_5 ?_
    subst hQ
    exact vx_ret (r_reti (v := lr) cx hr (nrC hlr) hlk hw (Nat.le_of_ble_eq_true rfl) (Nat.le_of_ble_eq_true rfl) () ⟨rfl, hp1⟩ [0] (by decide) rfl dX7_refusalReason_8)

theorem lkX7_refusalSubject_1 : Cond.fieldLink RX7 78 "SignedDocument" "lastSubject" "I" ∈ wsX7_refusalSubject := List.mem_of_getElem? (i := 1) rfl
theorem inX7_refusalSubject_7 : ∀ w ∈ u_ws RX7 TX7 13, w ∈ wsX7_refusalSubject := fun _ h => List.mem_cons_of_mem _ (List.mem_append_left _ (List.mem_append_right _ h))
set_option maxRecDepth 100000 in
set_option maxHeartbeats 4000000 in
theorem mX7_refusalSubject (l : Launch) (hfl : l.stackTraces = false) (D : va_G) (cC cI cJ cZ cD : ClassId) (x ab cb sb lg pr pp rd ty ou : Nat) (stc lr lz : Int32) (fee : Nat) (sz : Nat) : YI l yX7_refusalSubject wsX7_refusalSubject ({ frames := 7, cells := 1, slots := 6, locals := 110 }) [.ref x] D (TY cC cI cJ cZ cD) [(x, .inr (9, [.ref ab, .ref cb, .ref sb, .ref lg, .ref pr, .ref pp, .ref rd, .ref ty, .ref ou, .int stc, .int (nI fee), .int lr, .int lz]))] sz (fun (r : Int32) => fun (_ : Unit) => r = lz ∧ ¬ lr = nI 45) (fun (_ : Unit) => [(x, .inr (9, [.ref ab, .ref cb, .ref sb, .ref lg, .ref pr, .ref pp, .ref rd, .ref ty, .ref ou, .int stc, .int (nI fee), .int lr, .int lz]))]) (fun (E : String) => fun (_ : Unit) => (E = "java/util/NoSuchElementException" ∧ (lr = nI 45))) (fun (_ : Unit) => [(x, .inr (9, [.ref ab, .ref cb, .ref sb, .ref lg, .ref pr, .ref pp, .ref rd, .ref ty, .ref ou, .int stc, .int (nI fee), .int lr, .int lz]))]) 1 6 := by
  refine mk_YI (cc := cX7_refusalSubject) (maxL := 1) (ret := (some .int)) (by decide) rfl (Nat.le_of_ble_eq_true rfl) ?_
  intro p e s mI args below meth cO A cx hr hlk htab hxs hw ls hl
  have hx := cx.1
  have hb := cx.2.1
  have hw : ww D (TY cC cI cJ cZ cD) s A s.heap [(x, .inr (9, [.ref ab, .ref cb, .ref sb, .ref lg, .ref pr, .ref pp, .ref rd, .ref ty, .ref ou, .int stc, .int (nI fee), .int lr, .int lz]))] s.heap [] := hw
  have hl : lv_has ls 1 [(0, .ref x)] := hl
  generalize hQ : vx_MQ _ _ _ _ _ _ _ _ = Q
  refine hp_start hw (fun H locs hw => ?_)
  refine lv_aload_n hx hb dX7_refusalSubject_0 rfl (lv_at hl 0 rfl) ?_
  refine r_ycallVv (n := 0) (wr := []) cx hxs hw (mX7_needRefusal l hfl D cC cI cJ cZ cD x ab cb sb lg pr pp rd ty ou stc lr lz fee H.size) [0] [] gX7_refusalSubject_X7_needRefusal rfl rfl rfl (by decide +kernel) ⟨Nat.le_of_ble_eq_true rfl, Nat.le_of_ble_eq_true rfl⟩ (q0 := 0) rfl rfl rfl rfl (by decide) (by decide) (by decide) rfl rfl hl.1 (Nat.le_of_ble_eq_true rfl) dX7_refusalSubject_1 ⟨Nat.le_of_ble_eq_true rfl, Nat.le_of_ble_eq_true rfl⟩ (fun E ce q9 u H locs hp hw hce hcv hcl => ?_) (fun u H locs hp hw => ?_)
  · have hw : ww D (TY cC cI cJ cZ cD) s A s.heap [(x, .inr (9, [.ref ab, .ref cb, .ref sb, .ref lg, .ref pr, .ref pp, .ref rd, .ref ty, .ref ou, .int stc, .int (nI fee), .int lr, .int lz]))] H locs := hw
    try dsimp only at hp
    subst hQ
    exact r_yout cx htab hlk hw hce hcv hcl (Nat.le_of_ble_eq_true rfl) (Nat.le_of_ble_eq_true rfl) () (by exact hp) [0] (by decide) rfl
  · have hw : ww D (TY cC cI cJ cZ cD) s A s.heap [(x, .inr (9, [.ref ab, .ref cb, .ref sb, .ref lg, .ref pr, .ref pp, .ref rd, .ref ty, .ref ou, .int stc, .int (nI fee), .int lr, .int lz]))] H locs := hw
    have hp1 := hp
    refine lv_aload_n hx hb dX7_refusalSubject_4 rfl (lv_at hl 0 rfl) ?_
    refine r_get cx hw inX7_refusalSubject_7 0 12 rfl rfl (by decide) lkX7_refusalSubject_1 rfl dX7_refusalSubject_5 ?_
    subst hQ
    exact vx_ret (r_reti (v := lz) cx hr rfl hlk hw (Nat.le_of_ble_eq_true rfl) (Nat.le_of_ble_eq_true rfl) () ⟨rfl, hp1⟩ [0] (by decide) rfl dX7_refusalSubject_8)

theorem lkX7_lock_1 : Cond.fieldLink RX7 19 "SignedDocument" "clauseBook" "LSignedDocument$ClauseBook;" ∈ wsX7_lock := List.mem_of_getElem? (i := 1) rfl
theorem inX7_lock_7 : ∀ w ∈ u_ws RX7 TX7 13, w ∈ wsX7_lock := fun _ h => List.mem_cons_of_mem _ (List.mem_append_left _ (List.mem_append_left _ (List.mem_append_left _ (List.mem_append_right _ h))))
theorem lkX7_lock_2 : Cond.fieldLink RX7 221 "SignedDocument$ClauseBook" "locked" "[Z" ∈ wsX7_lock := List.mem_of_getElem? (i := 2) rfl
theorem inX7_lock_1 : ∀ w ∈ u_ws RX1 TX1 5, w ∈ wsX7_lock := fun _ h => List.mem_cons_of_mem _ (List.mem_append_left _ (List.mem_append_left _ (List.mem_append_right _ h)))
set_option maxRecDepth 100000 in
set_option maxHeartbeats 4000000 in
theorem mX7_lock (l : Launch) (hfl : l.stackTraces = false) (D : va_G) (cC cI cJ cZ cD : ClassId) (x ab cb sb lg pr pp rd ty ou cbP cbK cbE cbZ : Nat) (stc lr lz : Int32) (fee : Nat) (nc : Nat) (gP gK gE : Nat → Nat) (kZ : Nat → Int32) (v z : Int32) (sz : Nat) (hnc : nc ≤ 6) (hz9 : z = 0 ∨ z = 1) (hkZ : ∀ j, kZ j = 0 ∨ kZ j = 1) : YI l yX7_lock wsX7_lock ({ frames := 7, cells := 1, slots := 6, locals := 111 }) [.ref x, .int v, .int z] D (TY cC cI cJ cZ cD) [(x, .inr (9, [.ref ab, .ref cb, .ref sb, .ref lg, .ref pr, .ref pp, .ref rd, .ref ty, .ref ou, .int stc, .int (nI fee), .int lr, .int lz])), (cb, .inr (3, [.ref cbP, .ref cbK, .ref cbE, .ref cbZ, .int (nI nc)])), (cbP, .inl (cI, 6, .inl (fun jj => nI (gP jj)))), (cbK, .inl (cI, 6, .inl (fun jj => nI (gK jj)))), (cbE, .inl (cI, 6, .inl (fun jj => nI (gE jj)))), (cbZ, .inl (cZ, 6, .inl kZ))] sz (fun (r : Int32) => fun (k : Nat) => r = kZ k ∧ k < nc ∧ v = nI k) (fun (k : Nat) => [(x, .inr (9, [.ref ab, .ref cb, .ref sb, .ref lg, .ref pr, .ref pp, .ref rd, .ref ty, .ref ou, .int stc, .int (nI fee), .int lr, .int lz])), (cb, .inr (3, [.ref cbP, .ref cbK, .ref cbE, .ref cbZ, .int (nI nc)])), (cbP, .inl (cI, 6, .inl (fun jj => nI (gP jj)))), (cbK, .inl (cI, 6, .inl (fun jj => nI (gK jj)))), (cbE, .inl (cI, 6, .inl (fun jj => nI (gE jj)))), (cbZ, .inl (cZ, 6, .inl (upd kZ k z)))]) (fun (E : String) => fun (_ : Unit) => (E = "java/lang/IndexOutOfBoundsException" ∧ (¬ ix v nc))) (fun (_ : Unit) => [(x, .inr (9, [.ref ab, .ref cb, .ref sb, .ref lg, .ref pr, .ref pp, .ref rd, .ref ty, .ref ou, .int stc, .int (nI fee), .int lr, .int lz])), (cb, .inr (3, [.ref cbP, .ref cbK, .ref cbE, .ref cbZ, .int (nI nc)])), (cbP, .inl (cI, 6, .inl (fun jj => nI (gP jj)))), (cbK, .inl (cI, 6, .inl (fun jj => nI (gK jj)))), (cbE, .inl (cI, 6, .inl (fun jj => nI (gE jj)))), (cbZ, .inl (cZ, 6, .inl kZ))]) 1 6 := by
  refine mk_YI (cc := cX7_lock) (maxL := 4) (ret := (some .boolean)) (by decide) rfl (Nat.le_of_ble_eq_true rfl) ?_
  intro p e s mI args below meth cO A cx hr hlk htab hxs hw ls hl
  have hx := cx.1
  have hb := cx.2.1
  have hw : ww D (TY cC cI cJ cZ cD) s A s.heap [(x, .inr (9, [.ref ab, .ref cb, .ref sb, .ref lg, .ref pr, .ref pp, .ref rd, .ref ty, .ref ou, .int stc, .int (nI fee), .int lr, .int lz])), (cb, .inr (3, [.ref cbP, .ref cbK, .ref cbE, .ref cbZ, .int (nI nc)])), (cbP, .inl (cI, 6, .inl (fun jj => nI (gP jj)))), (cbK, .inl (cI, 6, .inl (fun jj => nI (gK jj)))), (cbE, .inl (cI, 6, .inl (fun jj => nI (gE jj)))), (cbZ, .inl (cZ, 6, .inl kZ))] s.heap [] := hw
  have hl : lv_has ls 4 [(0, .ref x), (1, .int v), (2, .int z)] := hl
  generalize hQ : vx_MQ _ _ _ _ _ _ _ _ = Q
  refine hp_start hw (fun H locs hw => ?_)
  refine lv_aload_n hx hb dX7_lock_0 rfl (lv_at hl 0 rfl) ?_
  refine lv_iload_n hx hb dX7_lock_1 rfl (lv_at hl 1 rfl) ?_
  refine r_ycallVv (n := 1) (wr := []) cx hxs hw (mX7_needClause l hfl D cC cI cJ cZ cD x ab cb sb lg pr pp rd ty ou cbP cbK cbE cbZ stc lr lz fee nc gP gK gE kZ v H.size hnc) [0, 1, 2, 3, 4, 5] [] gX7_lock_X7_needClause rfl rfl rfl (by decide +kernel) ⟨Nat.le_of_ble_eq_true rfl, Nat.le_of_ble_eq_true rfl⟩ (q0 := 0) rfl rfl rfl rfl (by decide) (by decide) (by decide) rfl rfl hl.1 (Nat.le_of_ble_eq_true rfl) dX7_lock_2 ⟨Nat.le_of_ble_eq_true rfl, Nat.le_of_ble_eq_true rfl⟩ (fun E ce q9 u H locs hp hw hce hcv hcl => ?_) (fun u H locs hp hw => ?_)
  · have hw : ww D (TY cC cI cJ cZ cD) s A s.heap [(x, .inr (9, [.ref ab, .ref cb, .ref sb, .ref lg, .ref pr, .ref pp, .ref rd, .ref ty, .ref ou, .int stc, .int (nI fee), .int lr, .int lz])), (cb, .inr (3, [.ref cbP, .ref cbK, .ref cbE, .ref cbZ, .int (nI nc)])), (cbP, .inl (cI, 6, .inl (fun jj => nI (gP jj)))), (cbK, .inl (cI, 6, .inl (fun jj => nI (gK jj)))), (cbE, .inl (cI, 6, .inl (fun jj => nI (gE jj)))), (cbZ, .inl (cZ, 6, .inl kZ))] H locs := hw
    try dsimp only at hp
    subst hQ
    exact r_yout cx htab hlk hw hce hcv hcl (Nat.le_of_ble_eq_true rfl) (Nat.le_of_ble_eq_true rfl) () (by exact hp) [0, 1, 2, 3, 4, 5] (by decide) rfl
  · obtain ⟨k_1, rfl⟩ : ∃ z, z = u := ⟨_, rfl⟩
    have hw : ww D (TY cC cI cJ cZ cD) s A s.heap [(x, .inr (9, [.ref ab, .ref cb, .ref sb, .ref lg, .ref pr, .ref pp, .ref rd, .ref ty, .ref ou, .int stc, .int (nI fee), .int lr, .int lz])), (cb, .inr (3, [.ref cbP, .ref cbK, .ref cbE, .ref cbZ, .int (nI nc)])), (cbP, .inl (cI, 6, .inl (fun jj => nI (gP jj)))), (cbK, .inl (cI, 6, .inl (fun jj => nI (gK jj)))), (cbE, .inl (cI, 6, .inl (fun jj => nI (gE jj)))), (cbZ, .inl (cZ, 6, .inl kZ))] H locs := hw
    have hp2 := hp
    obtain ⟨h2, rfl⟩ := hp2
    refine lv_aload_n hx hb dX7_lock_5 rfl (lv_at hl 0 rfl) ?_
    refine r_get cx hw inX7_lock_7 0 1 rfl rfl (by decide) lkX7_lock_1 rfl dX7_lock_6 ?_
    refine r_get cx hw inX7_lock_1 1 3 rfl rfl (by decide) lkX7_lock_2 rfl dX7_lock_9 ?_
    refine lv_iload_n hx hb dX7_lock_12 rfl (lv_at hl 1 rfl) ?_
    refine r_zald cx hw 5 3 rfl rfl k_1 rfl (by omega) (by omega) dX7_lock_13 ?_
    refine lv_istore_n (lv' := [(3, .int (kZ k_1)), (0, .ref x), (1, .int (nI k_1)), (2, .int z)]) hx hb dX7_lock_14 rfl hl (by decide) rfl (fun ls hl => ?_)
    refine lv_aload_n hx hb dX7_lock_15 rfl (lv_at hl 1 rfl) ?_
    refine r_get cx hw inX7_lock_7 0 1 rfl rfl (by decide) lkX7_lock_1 rfl dX7_lock_16 ?_
    refine r_get cx hw inX7_lock_1 1 3 rfl rfl (by decide) lkX7_lock_2 rfl dX7_lock_19 ?_
    refine lv_iload_n hx hb dX7_lock_22 rfl (lv_at hl 2 rfl) ?_
    refine lv_iload_n hx hb dX7_lock_23 rfl (lv_at hl 3 rfl) ?_
    refine r_zast cx hw 5 3 rfl rfl k_1 rfl (vpZ hz9) (by omega) (by omega) dX7_lock_24 (fun H locs hw => ?_)
    have hw : ww D (TY cC cI cJ cZ cD) s A s.heap [(x, .inr (9, [.ref ab, .ref cb, .ref sb, .ref lg, .ref pr, .ref pp, .ref rd, .ref ty, .ref ou, .int stc, .int (nI fee), .int lr, .int lz])), (cb, .inr (3, [.ref cbP, .ref cbK, .ref cbE, .ref cbZ, .int (nI nc)])), (cbP, .inl (cI, 6, .inl (fun jj => nI (gP jj)))), (cbK, .inl (cI, 6, .inl (fun jj => nI (gK jj)))), (cbE, .inl (cI, 6, .inl (fun jj => nI (gE jj)))), (cbZ, .inl (cZ, 6, .inl (upd kZ k_1 z)))] H locs := hw
    refine lv_iload_n hx hb dX7_lock_25 rfl (lv_at hl 0 rfl) ?_
    subst hQ
    exact vx_ret (r_reti (v := kZ k_1) cx hr (nrZ (hkZ _)) hlk hw (Nat.le_of_ble_eq_true rfl) (Nat.le_of_ble_eq_true rfl) k_1 ⟨rfl, ⟨h2, rfl⟩⟩ [0, 1, 2, 3, 4, 5] (by decide) rfl dX7_lock_26)

theorem lkX7_outputAt_1 : Cond.classLink RX7 118 "java/lang/IndexOutOfBoundsException" ∈ wsX7_outputAt := List.mem_of_getElem? (i := 1) rfl
theorem lkX7_outputAt_2 : Cond.initialized "java/lang/IndexOutOfBoundsException" ∈ wsX7_outputAt := List.mem_of_getElem? (i := 2) rfl
theorem lkX7_outputAt_3 : Cond.fieldLink RX7 63 "SignedDocument" "output" "LSignedDocument$Line;" ∈ wsX7_outputAt := List.mem_of_getElem? (i := 3) rfl
theorem inX7_outputAt_7 : ∀ w ∈ u_ws RX7 TX7 13, w ∈ wsX7_outputAt := fun _ h => List.mem_cons_of_mem _ (List.mem_append_left _ (List.mem_append_left _ (List.mem_append_left _ (List.mem_append_right _ h))))
theorem lkX7_outputAt_4 : Cond.fieldLink RX7 110 "SignedDocument$Line" "size" "I" ∈ wsX7_outputAt := List.mem_of_getElem? (i := 4) rfl
theorem inX7_outputAt_3 : ∀ w ∈ u_ws RX3 TX3 2, w ∈ wsX7_outputAt := fun _ h => List.mem_cons_of_mem _ (List.mem_append_left _ (List.mem_append_left _ (List.mem_append_right _ h)))
theorem lkX7_outputAt_5 : Cond.fieldLink RX7 197 "SignedDocument$Line" "signs" "[C" ∈ wsX7_outputAt := List.mem_of_getElem? (i := 5) rfl
set_option maxRecDepth 100000 in
set_option maxHeartbeats 4000000 in
theorem mX7_outputAt (l : Launch) (hfl : l.stackTraces = false) (D : va_G) (cC cI cJ cZ cD : ClassId) (x ab cb sb lg pr pp rd ty ou ouS : Nat) (stc lr lz : Int32) (fee : Nat) (no : Nat) (oF : Nat → Int32) (v : Int32) (sz : Nat) (hno : no ≤ 300) (hoF : ∀ j, vp_nar .char (oF j) = oF j) : YI l yX7_outputAt wsX7_outputAt ({ frames := 6, cells := 1, slots := 6, locals := 90 }) [.ref x, .int v] D (TY cC cI cJ cZ cD) [(x, .inr (9, [.ref ab, .ref cb, .ref sb, .ref lg, .ref pr, .ref pp, .ref rd, .ref ty, .ref ou, .int stc, .int (nI fee), .int lr, .int lz])), (ou, .inr (5, [.ref ouS, .int (nI no)])), (ouS, .inl (cC, 300, .inl oF))] sz (fun (r : Int32) => fun (k : Nat) => r = oF k ∧ k < no ∧ v = nI k) (fun (k : Nat) => [(x, .inr (9, [.ref ab, .ref cb, .ref sb, .ref lg, .ref pr, .ref pp, .ref rd, .ref ty, .ref ou, .int stc, .int (nI fee), .int lr, .int lz])), (ou, .inr (5, [.ref ouS, .int (nI no)])), (ouS, .inl (cC, 300, .inl oF))]) (fun (E : String) => fun (_ : Unit) => (E = "java/lang/IndexOutOfBoundsException" ∧ (¬ ix v no))) (fun (_ : Unit) => [(x, .inr (9, [.ref ab, .ref cb, .ref sb, .ref lg, .ref pr, .ref pp, .ref rd, .ref ty, .ref ou, .int stc, .int (nI fee), .int lr, .int lz])), (ou, .inr (5, [.ref ouS, .int (nI no)])), (ouS, .inl (cC, 300, .inl oF))]) 1 6 := by
  refine mk_YI (cc := cX7_outputAt) (maxL := 2) (ret := (some .char)) (by decide) rfl (Nat.le_of_ble_eq_true rfl) ?_
  intro p e s mI args below meth cO A cx hr hlk htab hxs hw ls hl
  have hx := cx.1
  have hb := cx.2.1
  have hw : ww D (TY cC cI cJ cZ cD) s A s.heap [(x, .inr (9, [.ref ab, .ref cb, .ref sb, .ref lg, .ref pr, .ref pp, .ref rd, .ref ty, .ref ou, .int stc, .int (nI fee), .int lr, .int lz])), (ou, .inr (5, [.ref ouS, .int (nI no)])), (ouS, .inl (cC, 300, .inl oF))] s.heap [] := hw
  have hl : lv_has ls 2 [(0, .ref x), (1, .int v)] := hl
  generalize hQ : vx_MQ _ _ _ _ _ _ _ _ = Q
  refine hp_start hw (fun H locs hw => ?_)
  refine lv_iload_n hx hb dX7_outputAt_0 rfl (lv_at hl 1 rfl) ?_
  refine lv_if_lt (tgt := 15) hx hb dX7_outputAt_1 (by decide) (fun c1 => ?_) (fun c1 => ?_)
  · subst hQ
    exact r_ythrow (text := "no such index") (names := ["java/lang/RuntimeException", "java/lang/Exception"]) cx hfl hxs 8 rfl (by decide +kernel) (by decide +kernel) lkX7_outputAt_1 lkX7_outputAt_2 (fun w h => List.mem_cons_of_mem _ (List.mem_append_left _ (List.mem_append_right _ h))) (by decide +kernel) (by decide +kernel) hw hl.1 dX7_outputAt_15 dX7_outputAt_18 dX7_outputAt_19 dX7_outputAt_21 dX7_outputAt_24 htab (Nat.le_of_ble_eq_true rfl) (Nat.le_of_ble_eq_true rfl) (Nat.le_of_ble_eq_true rfl) (Nat.le_of_ble_eq_true rfl) hlk (Nat.le_of_ble_eq_true rfl) (Nat.le_of_ble_eq_true rfl) () (by exact ⟨rfl, by first | exact ix_neg c1 | exact ix_big (by omega) c12⟩) [0, 1, 2] (by decide) rfl
  · refine lv_iload_n hx hb dX7_outputAt_4 rfl (lv_at hl 1 rfl) ?_
    refine lv_aload_n hx hb dX7_outputAt_5 rfl (lv_at hl 0 rfl) ?_
    refine r_get cx hw inX7_outputAt_7 0 8 rfl rfl (by decide) lkX7_outputAt_3 rfl dX7_outputAt_6 ?_
    refine r_get cx hw inX7_outputAt_3 1 1 rfl rfl (by decide) lkX7_outputAt_4 rfl dX7_outputAt_9 ?_
    refine lv_icmp_lt (tgt := 25) hx hb dX7_outputAt_12 (by decide) (fun c12 => ?_) (fun c12 => ?_)
    · obtain ⟨i9, hi9, rfl⟩ := nI_of_ix (ix_ok (by omega) c1 c12)
      refine lv_aload_n hx hb dX7_outputAt_25 rfl (lv_at hl 0 rfl) ?_
      refine r_get cx hw inX7_outputAt_7 0 8 rfl rfl (by decide) lkX7_outputAt_3 rfl dX7_outputAt_26 ?_
      refine r_get cx hw inX7_outputAt_3 1 0 rfl rfl (by decide) lkX7_outputAt_5 rfl dX7_outputAt_29 ?_
      refine lv_iload_n hx hb dX7_outputAt_32 rfl (lv_at hl 1 rfl) ?_
      refine r_cald cx hw 2 0 rfl rfl i9 rfl (by omega) (by omega) dX7_outputAt_33 ?_
      subst hQ
      exact vx_ret (r_reti (v := oF i9) cx hr (nrC (hoF i9)) hlk hw (Nat.le_of_ble_eq_true rfl) (Nat.le_of_ble_eq_true rfl) i9 ⟨rfl, ⟨hi9, rfl⟩⟩ [0, 1, 2] (by decide) rfl dX7_outputAt_34)
    · subst hQ
      exact r_ythrow (text := "no such index") (names := ["java/lang/RuntimeException", "java/lang/Exception"]) cx hfl hxs 8 rfl (by decide +kernel) (by decide +kernel) lkX7_outputAt_1 lkX7_outputAt_2 (fun w h => List.mem_cons_of_mem _ (List.mem_append_left _ (List.mem_append_right _ h))) (by decide +kernel) (by decide +kernel) hw hl.1 dX7_outputAt_15 dX7_outputAt_18 dX7_outputAt_19 dX7_outputAt_21 dX7_outputAt_24 htab (Nat.le_of_ble_eq_true rfl) (Nat.le_of_ble_eq_true rfl) (Nat.le_of_ble_eq_true rfl) (Nat.le_of_ble_eq_true rfl) hlk (Nat.le_of_ble_eq_true rfl) (Nat.le_of_ble_eq_true rfl) () (by exact ⟨rfl, by first | exact ix_neg c1 | exact ix_big (by omega) c12⟩) [0, 1, 2] (by decide) rfl

