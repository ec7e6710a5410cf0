theorem sc_ok {sc ra : Int32} (h1 : ¬ sc < 0) (h2 : ¬ nI 3 < sc) (h3 : ¬ ra < 0) (h4 : ra ≤ nI 999) : scok sc ra :=
  have a := ixl_ok (n := 3) (by decide) h1 h2
  have b := ixl_okb (n := 999) (by decide) h3 h4
  ⟨a.1, a.2, b.1, b.2⟩
theorem sc_no {sc ra : Int32} (h : sc < 0 ∨ nI 3 < sc ∨ ra < 0 ∨ ¬ ra ≤ nI 999) : ¬ scok sc ra := by
  rintro ⟨a, b, c, d⟩
  rcases h with h | h | h | h
  · exact ixl_neg h ⟨a, b⟩
  · exact ixl_big (n := 3) (by decide) h ⟨a, b⟩
  · exact ixl_neg h ⟨c, d⟩
  · exact ixl_bigb (n := 999) (by decide) h ⟨c, d⟩
theorem ch_ok {x : Int32} (h1 : ¬ x < nI 97) (h2 : x ≤ nI 122) : chok x := by
  rw [i32_lt, tn (by decide)] at h1; rw [i32_le, tn (by decide)] at h2
  exact Or.inr ⟨by omega, by omega⟩
theorem ch_no {x : Int32} (h0 : ¬ x = nI 32) (h : x < nI 97 ∨ ¬ x ≤ nI 122) : ¬ chok x := by
  rintro (q | ⟨a, b⟩)
  · exact h0 q
  · rcases h with h | h
    · rw [i32_lt, tn (by decide)] at h; omega
    · rw [i32_le, tn (by decide)] at h; omega
theorem vAdd_1 {sc ra : Int32} {na : Nat} (h : ¬ scok sc ra) : vAdd sc ra na = 1 := if_pos h
theorem vAdd_2 {sc ra : Int32} {na : Nat} (h : scok sc ra) (h2 : na = 5) : vAdd sc ra na = 2 := (if_neg (not_not_intro h)).trans (if_pos h2)
theorem vAdd_0 {sc ra : Int32} {na : Nat} (h : scok sc ra) (h2 : ¬ na = 5) : vAdd sc ra na = 0 := (if_neg (not_not_intro h)).trans (if_neg h2)
theorem vTyp_1 {x : Int32} {nb : Nat} (h : ¬ chok x) : vTyp x nb = 1 := if_pos h
theorem vTyp_2 {x : Int32} {nb : Nat} (h : chok x) (h2 : nb = 20) : vTyp x nb = 2 := (if_neg (not_not_intro h)).trans (if_pos h2)
theorem vTyp_0 {x : Int32} {nb : Nat} (h : chok x) (h2 : ¬ nb = 20) : vTyp x nb = 0 := (if_neg (not_not_intro h)).trans (if_neg h2)
/-- none of some characters belongs to a clause -/
def frb (pC : Nat → Int32) (i j : Nat) : Bool := (List.range j).all (fun t => decide (pC (i + t) = (-1)))
theorem frb_t {pC : Nat → Int32} {i j : Nat} : frb pC i j = true ↔ ∀ k, i ≤ k → k < i + j → pC k = (-1) := by
  simp only [frb, List.all_eq_true, List.mem_range, decide_eq_true_eq]
  constructor
  · intro h k h1 h2
    have := h (k - i) (by omega)
    rw [show i + (k - i) = k by omega] at this
    exact this
  · intro h t ht
    exact h (i + t) (by omega) (by omega)
def vCla (p k : Int32) (n nc : Nat) (pC : Nat → Int32) : Nat := if ¬ rng p k n then 1 else if nc = 6 ∨ frb pC p.toNatClampNeg k.toNatClampNeg = false then 2 else 0
abbrev clok (cl : Int32) (nc : Nat) : Prop := 1 ≤ cl.toInt ∧ cl.toInt < ((2 ^ nc : Nat) : Int)
def vSig (a cl : Int32) (na nc ns : Nat) : Nat := if ¬ ix a na then 1 else if ¬ clok cl nc then 2 else if ns = 12 then 3 else 0
def vWit (v : Int32) (ns : Nat) (gT : Nat → Int32) : Nat := if ¬ ix v ns then 1 else if ¬ gT v.toNatClampNeg = nI 118 then 2 else 0
def vVoi (v : Int32) (ns : Nat) (gT : Nat → Int32) : Nat := if ¬ ix v ns then 1 else if ¬ gT v.toNatClampNeg = nI 120 then 2 else 0
def vSha (v : Int32) (na n : Nat) : Nat := if ¬ ix v na then 1 else if n = 0 then 2 else 0
theorem cl_nat {cl : Int32} {nc : Nat} (h : nc ≤ 6) : clok cl nc ↔ (¬ cl = 0 ∧ cl.toBitVec.toNat < 2 ^ nc) := by
  have e1 : cl.toInt = if 2 * cl.toBitVec.toNat < 2 ^ 32 then (cl.toBitVec.toNat : Int) else (cl.toBitVec.toNat : Int) - ((2 ^ 32 : Nat) : Int) := BitVec.toInt_eq_toNat_cond cl.toBitVec
  have e2 : cl = 0 ↔ cl.toBitVec.toNat = 0 := by
    constructor
    · rintro rfl; rfl
    · intro q
      have : cl.toBitVec = (0 : Int32).toBitVec := BitVec.eq_of_toNat_eq q
      exact Int32.toBitVec_inj.mp this
  have e3 : cl.toBitVec.toNat < 2 ^ 32 := cl.toBitVec.isLt
  have e4 : 2 ^ nc ≤ 2 ^ 6 := Nat.pow_le_pow_right (by decide) h
  generalize cl.toBitVec.toNat = b at e1 e2 e3 ⊢
  generalize hp : 2 ^ nc = P at e4 ⊢
  rw [clok, e2, hp, e1]
  split <;> omega
theorem us_k {nc : Nat} (h : nc ≤ 6) : (((nI nc).toUInt32 &&& Int32.toUInt32 31).toBitVec % 32).toNat = nc := by
  rcases Nat.lt_or_ge nc 1 with q | q
  · rw [show nc = 0 by omega]; decide
  · have : nc = 1 ∨ nc = 2 ∨ nc = 3 ∨ nc = 4 ∨ nc = 5 ∨ nc = 6 := by omega
    rcases this with rfl | rfl | rfl | rfl | rfl | rfl <;> decide
theorem cl_us {cl : Int32} {nc : Nat} (h : nc ≤ 6) : (cl.toUInt32 >>> ((nI nc).toUInt32 &&& Int32.toUInt32 31)).toInt32 = 0 ↔ cl.toBitVec.toNat < 2 ^ nc := by
  have e := pk_ushr cl (nI nc) nc (us_k h)
  generalize (cl.toUInt32 >>> ((nI nc).toUInt32 &&& Int32.toUInt32 31)).toInt32 = u at e ⊢
  have e2 : u = 0 ↔ u.toBitVec.toNat = 0 := by
    constructor
    · rintro rfl; rfl
    · intro q
      have : u.toBitVec = (0 : Int32).toBitVec := BitVec.eq_of_toNat_eq q
      exact Int32.toBitVec_inj.mp this
  rw [e2, e, Nat.div_eq_zero_iff]
  have : 0 < 2 ^ nc := Nat.pow_pos (by decide)
  omega
theorem orr_cong {f g : Nat → Int32} {a : Nat} : ∀ {n : Nat}, (∀ e, a ≤ e → e < a + n → f e = g e) → orr f a n = orr g a n
  | 0, _ => rfl
  | n + 1, h => by
    have e := orr_cong (f := f) (g := g) (a := a) (n := n) (fun k h1 h2 => h k h1 (by omega))
    simp only [orr]
    rw [e, h (a + n) (by omega) (by omega)]
/-- a bill added up again -/
def cbl (r s : Int32) (eK : Nat → Int32) (eC : Nat → Nat) (eF : Nat → Int32) (eA : Nat → Nat) (a : Nat) : Nat → Int64
  | 0 => 0
  | e + 1 => if eA e = a then cbl r s eK eC eF eA a e + (prc r s (eK e) (eC e) + eF e).toInt64 else cbl r s eK eC eF eA a e
theorem cbl_t {r s : Int32} {eK eF : Nat → Int32} {eC eA : Nat → Nat} {a e : Nat} (h : eA e = a) : cbl r s eK eC eF eA a (e + 1) = cbl r s eK eC eF eA a e + (prc r s (eK e) (eC e) + eF e).toInt64 := by simp [cbl, h]
theorem cbl_f {r s : Int32} {eK eF : Nat → Int32} {eC eA : Nat → Nat} {a e : Nat} (h : ¬ eA e = a) : cbl r s eK eC eF eA a (e + 1) = cbl r s eK eC eF eA a e := by simp [cbl, h]
/-- the output line, sign by sign -/
def dgt (c : Int32) : Int32 := ((nI 48 + c).toUInt32 % 65536).toInt32
def wcl (N : Nat) (F : Nat → Int32) (c : Int32) : Nat × (Nat → Int32) := if c = (-1) then (N, F) else (N + 1, upd F N (nI 93))
def wop (N : Nat) (F : Nat → Int32) (c : Int32) : Nat × (Nat → Int32) := if c = (-1) then (N, F) else (N + 1 + 1 + 1, upd (upd (upd F N (nI 91)) (N + 1) (dgt c)) (N + 1 + 1) (nI 58))
def wst (N : Nat) (F : Nat → Int32) (o c : Int32) : Nat × (Nat → Int32) := if c = o then (N, F) else wop (wcl N F o).1 (wcl N F o).2 c
def wtx (pL pC oF : Nat → Int32) : Nat → Nat × (Nat → Int32) × Int32
  | 0 => (0, oF, (-1))
  | k + 1 => ((wst (wtx pL pC oF k).1 (wtx pL pC oF k).2.1 (wtx pL pC oF k).2.2 (pC k)).1 + 1, upd (wst (wtx pL pC oF k).1 (wtx pL pC oF k).2.1 (wtx pL pC oF k).2.2 (pC k)).2 (wst (wtx pL pC oF k).1 (wtx pL pC oF k).2.1 (wtx pL pC oF k).2.2 (pC k)).1 (pL k), pC k)
def wcs (pL pC oF : Nat → Int32) (v : Int32) : Nat → Nat × (Nat → Int32)
  | 0 => (0, oF)
  | k + 1 => if pC k = v then ((wcs pL pC oF v k).1 + 1, upd (wcs pL pC oF v k).2 (wcs pL pC oF v k).1 (pL k)) else wcs pL pC oF v k
theorem wcs_t {pL pC oF : Nat → Int32} {v : Int32} {k : Nat} (h : pC k = v) : wcs pL pC oF v (k + 1) = ((wcs pL pC oF v k).1 + 1, upd (wcs pL pC oF v k).2 (wcs pL pC oF v k).1 (pL k)) := by simp [wcs, h]
theorem wcs_f {pL pC oF : Nat → Int32} {v : Int32} {k : Nat} (h : ¬ pC k = v) : wcs pL pC oF v (k + 1) = wcs pL pC oF v k := by simp [wcs, h]
theorem wcs_le {pL pC oF : Nat → Int32} {v : Int32} : ∀ k, (wcs pL pC oF v k).1 ≤ k
  | 0 => Nat.le_refl _
  | k + 1 => by
    have := wcs_le (pL := pL) (pC := pC) (oF := oF) (v := v) k
    by_cases h : pC k = v
    · rw [wcs_t h]; show _ + 1 ≤ _; omega
    · rw [wcs_f h]; omega
def b1 (c : Int32) : Nat := if c = (-1) then 0 else 1
theorem b1_le (c : Int32) : b1 c ≤ 1 := by unfold b1; split <;> omega
theorem wcl_1 {N : Nat} {F : Nat → Int32} {c : Int32} : (wcl N F c).1 = N + b1 c := by unfold wcl b1; split <;> rfl
theorem wop_1 {N : Nat} {F : Nat → Int32} {c : Int32} : (wop N F c).1 = N + 3 * b1 c := by unfold wop b1; split <;> rfl
theorem wst_1 {N : Nat} {F : Nat → Int32} {o c : Int32} : (wst N F o c).1 = if c = o then N else N + b1 o + 3 * b1 c := by
  unfold wst
  split
  · rfl
  · rw [wop_1, wcl_1]
theorem wtx_le {pL pC oF : Nat → Int32} : ∀ k, (wtx pL pC oF k).1 + b1 (wtx pL pC oF k).2.2 ≤ 5 * k
  | 0 => Nat.le_refl _
  | k + 1 => by
    have ih := wtx_le (pL := pL) (pC := pC) (oF := oF) k
    have e1 : (wtx pL pC oF (k + 1)).1 = (wst (wtx pL pC oF k).1 (wtx pL pC oF k).2.1 (wtx pL pC oF k).2.2 (pC k)).1 + 1 := rfl
    have e2 : (wtx pL pC oF (k + 1)).2.2 = pC k := rfl
    rw [e1, e2, wst_1]
    have h1 := b1_le (pC k)
    have h2 := b1_le (wtx pL pC oF k).2.2
    split
    · rename_i h; rw [h]; omega
    · omega
theorem CA_wcl {N : Nat} {F : Nat → Int32} {c : Int32} (h : ∀ j, vp_nar .char (F j) = F j) : ∀ j, vp_nar .char ((wcl N F c).2 j) = (wcl N F c).2 j := by
  unfold wcl
  split
  · exact h
  · exact CA_upd h (by decide)
theorem dgt_c (c : Int32) : vp_nar .char (dgt c) = dgt c := pk_vc _
theorem CA_wop {N : Nat} {F : Nat → Int32} {c : Int32} (h : ∀ j, vp_nar .char (F j) = F j) : ∀ j, vp_nar .char ((wop N F c).2 j) = (wop N F c).2 j := by
  unfold wop
  split
  · exact h
  · exact CA_upd (CA_upd (CA_upd h (by decide)) (dgt_c _)) (by decide)
theorem CA_wst {N : Nat} {F : Nat → Int32} {o c : Int32} (h : ∀ j, vp_nar .char (F j) = F j) : ∀ j, vp_nar .char ((wst N F o c).2 j) = (wst N F o c).2 j := by
  unfold wst
  split
  · exact h
  · exact CA_wop (CA_wcl h)
theorem CA_wtx {pL pC oF : Nat → Int32} (hl : ∀ j, vp_nar .char (pL j) = pL j) (h : ∀ j, vp_nar .char (oF j) = oF j) : ∀ k, ∀ j, vp_nar .char ((wtx pL pC oF k).2.1 j) = (wtx pL pC oF k).2.1 j
  | 0 => h
  | k + 1 => CA_upd (CA_wst (CA_wtx hl h k)) (hl k)
theorem CA_wcs {pL pC oF : Nat → Int32} {v : Int32} (hl : ∀ j, vp_nar .char (pL j) = pL j) (h : ∀ j, vp_nar .char (oF j) = oF j) : ∀ k, ∀ j, vp_nar .char ((wcs pL pC oF v k).2 j) = (wcs pL pC oF v k).2 j
  | 0 => h
  | k + 1 => by
    by_cases q : pC k = v
    · rw [wcs_t q]; exact CA_upd (CA_wcs hl h k) (hl k)
    · rw [wcs_f q]; exact CA_wcs hl h k
