theorem and63 (x : Int32) : ∃ j, j < 64 ∧ x &&& nI 63 = nI j := by
  refine ⟨(x &&& nI 63).toBitVec.toNat, ?_, ?_⟩
  · rw [Int32.toBitVec_and, BitVec.toNat_and]
    have : (nI 63).toBitVec.toNat = 63 := by decide
    rw [this]
    exact Nat.lt_of_le_of_lt Nat.and_le_right (by decide)
  · rw [← Int32.toBitVec_inj]
    show _ = (Int32.ofNat _).toBitVec
    rw [Int32.toBitVec_ofNat']
    simp
theorem sub5 {L : Nat} (h : L ≤ 2560) : (nI L - nI 5).toInt = (L : Int) - 5 := by
  rw [Int32.toInt_sub, tn (by omega), tn (by decide), Int.bmod_def]
  omega

set_option maxRecDepth 100000 in
set_option maxHeartbeats 8000000 in
theorem law_loop {p : Program} {l : Launch} {e : Env} {s : State} {m : MethodId} {args : Array Value} {below : List Frame} {meth : Method} {c : Code} {Q : State → Prop} {D : va_G} {cC cI cJ cZ cD : ClassId} {A : Nat → Prop} {b L : Nat} {xs : Nat → Int32} {x ab abS abR abB cb cbP cbK cbE cbZ sb sbA sbX sbE sbV sbT lg lgK lgA lgP lgC lgG lgO lgF lgL lgS pr prL prA prC pp ppL ppA ppC rd rdT rdTL rdTA rdTC rdB rdBL rdBA rdBC rdG ty tyS ou ouS my ya yb yc yd ye yf yg yh yi yj yk yl ym yn yo yp yq yr ys yt o8 d8 : Nat} (hC : LCX p l s m args c A b L xs)
    (hE : ∀ (H : Heap) (locs : List Loc) (ls : Array Slot) (ws : va_W), ww D (TY cC cI cJ cZ cD) s A s.heap ws H locs → W p l e room_1 s m args below meth c H locs 3170 122323 Q (F0 m 2187 ls [])) :
    ∀ (f t : Nat), 512 < t + f → t ≤ 512 → KK p l e s m args below meth c Q D cC cI cJ cZ cD A b x ab abS abR abB cb cbP cbK cbE cbZ sb sbA sbX sbE sbV sbT lg lgK lgA lgP lgC lgG lgO lgF lgL lgS pr prL prA prC pp ppL ppA ppC rd rdT rdTL rdTA rdTC rdB rdBL rdBA rdBC rdG ty tyS ou ouS my ya yb yc yd ye yf yg yh yi yj yk yl ym yn yo yp yq yr ys yt o8 d8 (5 * t) (71 + 4 * t) (3700 + 24 * t) 28 := by
  intro f
  induction f with
  | zero => intro t h1 h2; omega
  | succ f ihf =>
    intro t h1 h2
    intro stc lr lz mj th fee na nc ns ne lu n nq n1 n2 nx nb no sS sR kZ gA gX gV gT eK eO eF eL pL pA pC qL qA qC tL tA tC uL uA uC dG bF oF yL yA yC zL zA zC lF mK mA mV mW sB gP gK gE gF eA eP eC eG eS oL oD hR H locs ls hw hl
    have hL := hC.2.2.2.2.2.2.1
    have cx := hC.1
    have hX := hC.2.2.2.1
    have hbl := hC.2.2.2.2.1
    have hbA := hC.2.2.2.2.2.1
    have hx := cx.1
    have hb := cx.2.1
    refine lv_iload hx hb dL_law_28 (lv_at hl 5 rfl) ?_
    refine lv_aload_n hx hb dL_law_30 rfl (lv_at hl 0 rfl) ?_
    refine r_slen cx hw hX hbl hbA dL_law_31 ?_
    refine lv_iconst (v := nI 5) hx hb dL_law_32 (by decide) ?_
    refine lv_isub hx hb dL_law_33 ?_
    refine lv_icmp_gt (tgt := 2187) hx hb dL_law_34 (by decide) (fun c34 => ?_) (fun c34 => ?_)
    · refine W.widen (k := 3170) (n := 122323) (by omega) (by omega) ?_
      exact hE H locs ls _ hw
    · have hi : 5 * t + 5 ≤ L := by
        rw [i32_lt, sub5 hL, tn (by omega)] at c34
        omega
      refine lv_aload_n hx hb dL_law_37 rfl (lv_at hl 0 rfl) ?_
      refine lv_iload hx hb dL_law_38 (lv_at hl 5 rfl) ?_
      refine r_sld cx hw hX hbl hbA (5 * t) rfl (by omega) hL dL_law_40 ?_
      refine lv_bipush (v := nI 63) hx hb dL_law_41 (by decide) ?_
      refine lv_iand hx hb dL_law_43 ?_
      have hK : KK p l e s m args below meth c Q D cC cI cJ cZ cD A b x ab abS abR abB cb cbP cbK cbE cbZ sb sbA sbX sbE sbV sbT lg lgK lgA lgP lgC lgG lgO lgF lgL lgS pr prL prA prC pp ppL ppA ppC rd rdT rdTL rdTA rdTC rdB rdBL rdBA rdBC rdG ty tyS ou ouS my ya yb yc yd ye yf yg yh yi yj yk yl ym yn yo yp yq yr ys yt o8 d8 (5 * t) (71 + 4 * t + 4) (3700 + 24 * t + 24) 2181 := by
        intro stc lr lz mj th fee na nc ns ne lu n nq n1 n2 nx nb no sS sR kZ gA gX gV gT eK eO eF eL pL pA pC qL qA qC tL tA tC uL uA uC dG bF oF yL yA yC zL zA zC lF mK mA mV mW sB gP gK gE gF eA eP eC eG eS oL oD hR H locs ls hw hl
        refine lv_iinc (v := nI (5 * (t + 1))) (lv' := [(5, .int (nI (5 * (t + 1)))), (0, .ref b), (1, .ref x), (2, .ref my), (3, .ref o8), (4, .ref d8)]) hx hb dL_law_2181 hl (k := 5) rfl (nI_add (5 * t) 5) (by decide) rfl (fun ls hl => ?_)
        refine lv_goto (tgt := 28) hx hb dL_law_2184 (by decide) ?_
        exact ihf (t + 1) (by omega) (by omega) stc lr lz mj th fee na nc ns ne lu n nq n1 n2 nx nb no sS sR kZ gA gX gV gT eK eO eF eL pL pA pC qL qA qC tL tA tC uL uA uC dG bF oF yL yA yC zL zA zC lF mK mA mV mW sB gP gK gE gF eA eP eC eG eS oL oD hR H locs ls hw (lv_sub hl [1, 2, 3, 4, 5, 0] rfl)
      obtain ⟨j, hj, ej⟩ := and63 (xs (5 * t))
      rw [ej]
      have hcB : 71 + 4 * t + 4 ≤ 3170 := by omega
      have hsB : 3700 + 24 * t + 24 ≤ 122323 := by omega
      have hjt : (nI j).toInt = (j : Int) := tn (by omega)
      rcases Nat.lt_or_ge j 38 with q | q
      · have h0 : ¬ (nI j).toInt < 0 := by omega
        have h9 : ¬ (37 : Int) < (nI j).toInt := by omega
        match j, q, h0, h9 with
        | 0, _, h0, h9 => exact lv_tableIn (off := 168) (tgt := 212) hx hb dL_law_44 h0 h9 (by decide) (by decide) (cs_addAuthor hC hi hcB hsB hR hK hw hl)
        | 1, _, h0, h9 => exact lv_tableIn (off := 236) (tgt := 280) hx hb dL_law_44 h0 h9 (by decide) (by decide) (cs_type hC hi hcB hsB hR hK hw hl)
        | 2, _, h0, h9 => exact lv_tableIn (off := 294) (tgt := 338) hx hb dL_law_44 h0 h9 (by decide) (by decide) (cs_insert hC hi hcB hsB hR hK hw hl)
        | 3, _, h0, h9 => exact lv_tableIn (off := 362) (tgt := 406) hx hb dL_law_44 h0 h9 (by decide) (by decide) (cs_delete hC hi hcB hsB hR hK hw hl)
        | 4, _, h0, h9 => exact lv_tableIn (off := 442) (tgt := 486) hx hb dL_law_44 h0 h9 (by decide) (by decide) (cs_move hC hi hcB hsB hR hK hw hl)
        | 5, _, h0, h9 => exact lv_tableIn (off := 534) (tgt := 578) hx hb dL_law_44 h0 h9 (by decide) (by decide) (cs_edits hC hi hcB hsB hR hK hw hl)
        | 6, _, h0, h9 => exact lv_tableIn (off := 547) (tgt := 591) hx hb dL_law_44 h0 h9 (by decide) (by decide) (cs_editKind hC hi hcB hsB hR hK hw hl)
        | 7, _, h0, h9 => exact lv_tableIn (off := 603) (tgt := 647) hx hb dL_law_44 h0 h9 (by decide) (by decide) (cs_editAuthor hC hi hcB hsB hR hK hw hl)
        | 8, _, h0, h9 => exact lv_tableIn (off := 659) (tgt := 703) hx hb dL_law_44 h0 h9 (by decide) (by decide) (cs_editCost hC hi hcB hsB hR hK hw hl)
        | 9, _, h0, h9 => exact lv_tableIn (off := 715) (tgt := 759) hx hb dL_law_44 h0 h9 (by decide) (by decide) (cs_refusalReason hC hi hcB hsB hR hK hw hl)
        | 10, _, h0, h9 => exact lv_tableIn (off := 759) (tgt := 803) hx hb dL_law_44 h0 h9 (by decide) (by decide) (cs_refusalSubject hC hi hcB hsB hR hK hw hl)
        | 11, _, h0, h9 => exact lv_tableIn (off := 803) (tgt := 847) hx hb dL_law_44 h0 h9 (by decide) (by decide) (cs_length hC hi hcB hsB hR hK hw hl)
        | 12, _, h0, h9 => exact lv_tableIn (off := 816) (tgt := 860) hx hb dL_law_44 h0 h9 (by decide) (by decide) (cs_charAt hC hi hcB hsB hR hK hw hl)
        | 13, _, h0, h9 => exact lv_tableIn (off := 872) (tgt := 916) hx hb dL_law_44 h0 h9 (by decide) (by decide) (cs_authorOf hC hi hcB hsB hR hK hw hl)
        | 14, _, h0, h9 => exact lv_tableIn (off := 928) (tgt := 972) hx hb dL_law_44 h0 h9 (by decide) (by decide) (cs_clauseOf hC hi hcB hsB hR hK hw hl)
        | 15, _, h0, h9 => exact lv_tableIn (off := 984) (tgt := 1028) hx hb dL_law_44 h0 h9 (by decide) (by decide) (cs_lengthAgain hC hi hcB hsB hR hK hw hl)
        | 16, _, h0, h9 => exact lv_tableIn (off := 997) (tgt := 1041) hx hb dL_law_44 h0 h9 (by decide) (by decide) (cs_charAgain hC hi hcB hsB hR hK hw hl)
        | 17, _, h0, h9 => exact lv_tableIn (off := 1053) (tgt := 1097) hx hb dL_law_44 h0 h9 (by decide) (by decide) (cs_writeText hC hi hcB hsB hR hK hw hl)
        | 18, _, h0, h9 => exact lv_tableIn (off := 1066) (tgt := 1110) hx hb dL_law_44 h0 h9 (by decide) (by decide) (cs_writeClause hC hi hcB hsB hR hK hw hl)
        | 19, _, h0, h9 => exact lv_tableIn (off := 1122) (tgt := 1166) hx hb dL_law_44 h0 h9 (by decide) (by decide) (cs_outputAt hC hi hcB hsB hR hK hw hl)
        | 20, _, h0, h9 => exact lv_tableIn (off := 1178) (tgt := 1222) hx hb dL_law_44 h0 h9 (by decide) (by decide) (cs_addClause hC hi hcB hsB hR hK hw hl)
        | 21, _, h0, h9 => exact lv_tableIn (off := 1246) (tgt := 1290) hx hb dL_law_44 h0 h9 (by decide) (by decide) (cs_clauses hC hi hcB hsB hR hK hw hl)
        | 22, _, h0, h9 => exact lv_tableIn (off := 1259) (tgt := 1303) hx hb dL_law_44 h0 h9 (by decide) (by decide) (cs_clauseLength hC hi hcB hsB hR hK hw hl)
        | 23, _, h0, h9 => exact lv_tableIn (off := 1315) (tgt := 1359) hx hb dL_law_44 h0 h9 (by decide) (by decide) (cs_lock hC hi hcB hsB hR hK hw hl)
        | 24, _, h0, h9 => exact lv_tableIn (off := 1406) (tgt := 1450) hx hb dL_law_44 h0 h9 (by decide) (by decide) (cs_signers hC hi hcB hsB hR hK hw hl)
        | 25, _, h0, h9 => exact lv_tableIn (off := 1462) (tgt := 1506) hx hb dL_law_44 h0 h9 (by decide) (by decide) (cs_sign hC hi hcB hsB hR hK hw hl)
        | 26, _, h0, h9 => exact lv_tableIn (off := 1530) (tgt := 1574) hx hb dL_law_44 h0 h9 (by decide) (by decide) (cs_withdraw hC hi hcB hsB hR hK hw hl)
        | 27, _, h0, h9 => exact lv_tableIn (off := 1586) (tgt := 1630) hx hb dL_law_44 h0 h9 (by decide) (by decide) (cs_signatures hC hi hcB hsB hR hK hw hl)
        | 28, _, h0, h9 => exact lv_tableIn (off := 1599) (tgt := 1643) hx hb dL_law_44 h0 h9 (by decide) (by decide) (cs_state hC hi hcB hsB hR hK hw hl)
        | 29, _, h0, h9 => exact lv_tableIn (off := 1655) (tgt := 1699) hx hb dL_law_44 h0 h9 (by decide) (by decide) (cs_isUntouched hC hi hcB hsB hR hK hw hl)
        | 30, _, h0, h9 => exact lv_tableIn (off := 1718) (tgt := 1762) hx hb dL_law_44 h0 h9 (by decide) (by decide) (cs_voidedBy hC hi hcB hsB hR hK hw hl)
        | 31, _, h0, h9 => exact lv_tableIn (off := 1774) (tgt := 1818) hx hb dL_law_44 h0 h9 (by decide) (by decide) (cs_setStrict hC hi hcB hsB hR hK hw hl)
        | 32, _, h0, h9 => exact lv_tableIn (off := 1815) (tgt := 1859) hx hb dL_law_44 h0 h9 (by decide) (by decide) (cs_setFee hC hi hcB hsB hR hK hw hl)
        | 33, _, h0, h9 => exact lv_tableIn (off := 1871) (tgt := 1915) hx hb dL_law_44 h0 h9 (by decide) (by decide) (cs_bill hC hi hcB hsB hR hK hw hl)
        | 34, _, h0, h9 => exact lv_tableIn (off := 1926) (tgt := 1970) hx hb dL_law_44 h0 h9 (by decide) (by decide) (cs_billAgain hC hi hcB hsB hR hK hw hl)
        | 35, _, h0, h9 => exact lv_tableIn (off := 1981) (tgt := 2025) hx hb dL_law_44 h0 h9 (by decide) (by decide) (cs_share hC hi hcB hsB hR hK hw hl)
        | 36, _, h0, h9 => exact lv_tableIn (off := 2059) (tgt := 2103) hx hb dL_law_44 h0 h9 (by decide) (by decide) (cs_meanCost hC hi hcB hsB hR hK hw hl)
        | 37, _, h0, h9 => exact lv_tableIn (off := 2124) (tgt := 2168) hx hb dL_law_44 h0 h9 (by decide) (by decide) (cs_isConsistent hC hi hcB hsB hR hK hw hl)
        | k + 38, q, _, _ => omega
      · refine lv_tableOut (tgt := 2181) hx hb dL_law_44 (Or.inr (by omega)) (by decide) ?_
        refine W.widen (k := 71 + 4 * t + 4) (n := 3700 + 24 * t + 24) (by omega) (by omega) ?_
        exact hK stc lr lz mj th fee na nc ns ne lu n nq n1 n2 nx nb no sS sR kZ gA gX gV gT eK eO eF eL pL pA pC qL qA qC tL tA tC uL uA uC dG bF oF yL yA yC zL zA zC lF mK mA mV mW sB gP gK gE gF eA eP eC eG eS oL oD hR H locs ls hw hl

