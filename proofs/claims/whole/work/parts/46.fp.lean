/-! Quotients are numbers. -/
theorem fp_enc (s : Bool) (num den : Nat) (e : Int) : (FP.Core.encode FP.Core.b64 (FP.Core.roundRatio FP.Core.b64 s num den e)) % 9223372036854775808 ≤ 9218868437227405312 := by
  have ht : FP.Core.b64.tails = 4503599627370496 := by decide
  have he : FP.Core.b64.exps = 2048 := by decide
  have hq : FP.Core.b64.qmin = -1074 := by decide
  have hx : FP.Core.b64.qmax = 971 := by decide
  have hp : 2 ^ FP.Core.b64.p = 9007199254740992 := by decide
  have key : ∀ (s : Bool) (c : Nat) (q : Int), c < 9007199254740992 → (FP.Core.encode FP.Core.b64 (FP.Core.bound FP.Core.b64 s c q)) % 9223372036854775808 ≤ 9218868437227405312 := by
    intro s c q hc
    unfold FP.Core.bound
    split
    · rename_i h
      rw [hx] at h
      simp only [FP.Core.encode, FP.Core.assemble, ht, he, hq]
      have hs : s.toNat = 0 ∨ s.toNat = 1 := by cases s <;> simp
      split
      · rcases hs with h1 | h1 <;> rw [h1] <;> omega
      · have h3 : (q - -1074).toNat ≤ 2045 := by omega
        rcases hs with h1 | h1 <;> rw [h1] <;> omega
    · simp only [FP.Core.encode, FP.Core.assemble, ht, he]
      cases s <;> simp
  unfold FP.Core.roundRatio
  split
  · simp only [FP.Core.encode, FP.Core.assemble, ht, he]
    cases s <;> simp
  · unfold FP.Core.roundAt FP.Core.settle
    rw [hp]
    split
    · rename_i h; exact key _ _ _ h
    · rw [ht]; exact key _ _ _ (by decide)
theorem fp_fin (s : Bool) (num : Nat) (h : num < 2 ^ 64) : (FP.Core.encode FP.Core.b64 (FP.Core.roundRatio FP.Core.b64 s num 1 0)) / 4503599627370496 % 2048 ≠ 2047 := by
  have ht : FP.Core.b64.tails = 4503599627370496 := by decide
  have he : FP.Core.b64.exps = 2048 := by decide
  have hq : FP.Core.b64.qmin = -1074 := by decide
  have hx : FP.Core.b64.qmax = 971 := by decide
  have hp : 2 ^ FP.Core.b64.p = 9007199254740992 := by decide
  have key : ∀ (s : Bool) (c : Nat) (q : Int), c < 9007199254740992 → q ≤ 100 → (FP.Core.encode FP.Core.b64 (FP.Core.bound FP.Core.b64 s c q)) / 4503599627370496 % 2048 ≠ 2047 := by
    intro s c q hc hq9
    unfold FP.Core.bound
    rw [hx, if_pos (by omega)]
    simp only [FP.Core.encode, FP.Core.assemble, ht, he, hq]
    have hs : s.toNat = 0 ∨ s.toNat = 1 := by cases s <;> simp
    split
    · rcases hs with h1 | h1 <;> rw [h1] <;> omega
    · have h3 : (q - -1074).toNat ≤ 1174 := by omega
      rcases hs with h1 | h1 <;> rw [h1] <;> omega
  unfold FP.Core.roundRatio
  split
  · simp only [FP.Core.encode, FP.Core.assemble, ht, he]
    cases s <;> simp
  · rename_i h0
    have hl : num.log2 < 64 := (Nat.log2_lt h0).mpr h
    have hqq : FP.Core.quantum FP.Core.b64 num 1 0 ≤ 12 := by
      have hp2 : FP.Core.b64.p = 53 := by decide
      have h1 : Nat.log2 1 = 0 := by decide
      simp only [FP.Core.quantum, FP.Core.leading, hq, hp2, h1]
      split <;> omega
    unfold FP.Core.roundAt FP.Core.settle
    rw [hp]
    split
    · rename_i h; exact key _ _ _ h (by omega)
    · rw [ht]; exact key _ _ _ (by decide) (by omega)
theorem fp_dec {n : Nat} (h : n / 4503599627370496 % 2048 ≠ 2047) : ∃ s c q, FP.Core.decode FP.Core.b64 n = .fin s c q := by
  have ht : FP.Core.b64.tails = 4503599627370496 := by decide
  have he : FP.Core.b64.exps = 2048 := by decide
  unfold FP.Core.decode
  rw [if_neg (by simp only [FP.Core.fieldE, ht, he]; omega)]
  split <;> exact ⟨_, _, _, rfl⟩
theorem fp_n64 (x : Nat) (h : x % 9223372036854775808 ≤ 9218868437227405312) (hx : x < 18446744073709551616) : vf_n64 (UInt64.ofNat x) := by
  unfold vf_n64
  rw [UInt64.le_iff_toNat_le, UInt64.toNat_and]
  have h1 : (0x7fffffffffffffff : UInt64).toNat = 2 ^ 63 - 1 := by decide
  have h2 : (0x7ff0000000000000 : UInt64).toNat = 9218868437227405312 := by decide
  rw [h1, h2, Nat.and_two_pow_sub_one_eq_mod, UInt64.toNat_ofNat']
  omega
theorem fp_div {a b : Nat} {s t : Bool} {c d : Nat} {q r : Int} (ha : FP.Core.decode FP.Core.b64 a = .fin s c q) (hb : FP.Core.decode FP.Core.b64 b = .fin t d r) (hd : d ≠ 0) : (FP.Core.div FP.Core.b64 a b) % 9223372036854775808 ≤ 9218868437227405312 := by
  unfold FP.Core.div FP.Core.quotient
  rw [ha, hb]
  simp only [if_neg hd]
  exact fp_enc _ _ _ _
def fpnz (n : Nat) : Bool := match FP.Core.decode FP.Core.b64 (FP.i2d (nI n)).toNat with
  | .fin _ c _ => !(c == 0)
  | _ => false
theorem fpnz_all : (List.range 40).all (fun n => fpnz (n + 1)) = true := by decide +kernel
theorem fp_nz {n : Nat} (h : 0 < n) (hn : n ≤ 40) : ∃ s c q, FP.Core.decode FP.Core.b64 (FP.i2d (nI n)).toNat = .fin s c q ∧ c ≠ 0 := by
  have := List.all_eq_true.mp fpnz_all (n - 1) (List.mem_range.mpr (by omega))
  rw [Nat.sub_add_cancel h] at this
  unfold fpnz at this
  split at this
  · rename_i s c q e
    exact ⟨s, c, q, e, by simpa using this⟩
  · cases this
theorem fp_l2d (i : Int64) : ∃ s c q, FP.Core.decode FP.Core.b64 (FP.l2d i).toNat = .fin s c q := by
  apply fp_dec
  have hi : i.toInt.natAbs < 2 ^ 64 := by have h1 := i.toInt_lt; have h2 := i.le_toInt; omega
  have h := fp_fin (decide (i.toInt < 0)) i.toInt.natAbs hi
  have e : (FP.l2d i).toNat = (FP.Core.encode FP.Core.b64 (FP.Core.roundRatio FP.Core.b64 (decide (i.toInt < 0)) i.toInt.natAbs 1 0)) % 18446744073709551616 := by
    show (UInt64.ofNat _).toNat = _
    rw [UInt64.toNat_ofNat']
    rfl
  rw [e]
  omega
theorem fp_mean {i : Int64} {n : Nat} (h : 0 < n) (hn : n ≤ 40) : vf_n64 (FP.ddiv (FP.l2d i) (FP.i2d (nI n))) := by
  obtain ⟨s, c, q, e1⟩ := fp_l2d i
  obtain ⟨t, d, r, e2, hd⟩ := fp_nz h hn
  have h1 := fp_div e1 e2 hd
  have e : FP.ddiv (FP.l2d i) (FP.i2d (nI n)) = UInt64.ofNat ((FP.Core.div FP.Core.b64 (FP.l2d i).toNat (FP.i2d (nI n)).toNat) % 18446744073709551616) := by
    show UInt64.ofNat _ = _
    apply UInt64.toNat_inj.mp
    rw [UInt64.toNat_ofNat', UInt64.toNat_ofNat']
    omega
  rw [e]
  exact fp_n64 _ (by omega) (by omega)
def fp32 (a b : Nat) : Bool := decide (FP.fdiv (FP.i2f (nI a)) (FP.i2f (nI b)) &&& 0x7fffffff ≤ 0x7f800000) && decide (FP.f2d (FP.fdiv (FP.i2f (nI a)) (FP.i2f (nI b))) &&& 0x7fffffffffffffff ≤ 0x7ff0000000000000)
theorem fp32_all : (List.range 61).all (fun a => (List.range 60).all (fun b => fp32 a (b + 1))) = true := by decide +kernel
theorem fp32_at {a b : Nat} (ha : a ≤ 60) (hb : 0 < b) (hb2 : b ≤ 60) : fp32 a b = true := by
  have h1 := List.all_eq_true.mp fp32_all a (List.mem_range.mpr (by omega))
  have h2 := List.all_eq_true.mp h1 (b - 1) (List.mem_range.mpr (by omega))
  rw [Nat.sub_add_cancel hb] at h2
  exact h2
theorem fp_share : ∀ a b : Nat, a ≤ 60 → 0 < b → b ≤ 60 → vf_n32 (FP.fdiv (FP.i2f (nI a)) (FP.i2f (nI b))) := fun a b h1 h2 h3 => by
  have := fp32_at h1 h2 h3
  unfold fp32 at this
  rw [Bool.and_eq_true] at this
  unfold vf_n32
  exact of_decide_eq_true this.1
theorem fp_shareD : ∀ a b : Nat, a ≤ 60 → 0 < b → b ≤ 60 → vf_n64 (FP.f2d (FP.fdiv (FP.i2f (nI a)) (FP.i2f (nI b)))) := fun a b h1 h2 h3 => by
  have := fp32_at h1 h2 h3
  unfold fp32 at this
  rw [Bool.and_eq_true] at this
  unfold vf_n64
  exact of_decide_eq_true this.2
theorem fp_cmp {x : UInt64} (h : vf_n64 x) : FP.dcmp x x = some .eq := by
  have hb : x.toNat % 9223372036854775808 ≤ 9218868437227405312 := by
    unfold vf_n64 at h
    rw [UInt64.le_iff_toNat_le, UInt64.toNat_and] at h
    have h1 : (0x7fffffffffffffff : UInt64).toNat = 2 ^ 63 - 1 := by decide
    have h2 : (0x7ff0000000000000 : UInt64).toNat = 9218868437227405312 := by decide
    rw [h1, h2, Nat.and_two_pow_sub_one_eq_mod] at h
    exact h
  have ht : FP.Core.b64.tails = 4503599627370496 := by decide
  have he : FP.Core.b64.exps = 2048 := by decide
  show FP.Core.order (FP.Core.decode FP.Core.b64 x.toNat) (FP.Core.decode FP.Core.b64 x.toNat) = some .eq
  have hn : FP.Core.decode FP.Core.b64 x.toNat ≠ .nan := by
    unfold FP.Core.decode
    split
    · rename_i h1
      simp only [FP.Core.fieldE, ht, he] at h1
      split
      · simp
      · rename_i h2
        simp only [FP.Core.fieldT, ht] at h2
        exfalso; omega
    · split <;> simp
  generalize FP.Core.decode FP.Core.b64 x.toNat = d at hn
  cases d with
  | nan => exact absurd rfl hn
  | inf s => simp [FP.Core.order, compare, compareOfLessAndEq]
  | fin s c q => simp [FP.Core.order, compare, compareOfLessAndEq]
theorem fp_mean_eq {f : Nat → Int32} {n : Nat} (hn : n ≤ 40) (h : ∀ k, k < n → 0 ≤ (f k).toInt ∧ (f k).toInt ≤ 1000000) : FP.l2d (sml f n) = FP.i2d (smi f n) := by
  have := (sml_smi hn h).1
  show UInt64.ofNat (FP.Core.fromInt FP.Core.b64 (sml f n).toInt) = UInt64.ofNat (FP.Core.fromInt FP.Core.b64 (smi f n).toInt)
  rw [this]
