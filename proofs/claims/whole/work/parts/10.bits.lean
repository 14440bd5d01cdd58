/-! ===== sets as bits ===== -/
def setN (p : Int → Bool) : Nat → Nat
  | 0 => 0
  | n + 1 => setN p n + (if p (n : Int) then 2 ^ n else 0)
theorem setN_lt (p : Int → Bool) : ∀ n, setN p n < 2 ^ n
  | 0 => by simp [setN]
  | n + 1 => by
    have h := setN_lt p n
    unfold setN
    rw [Nat.pow_succ]
    by_cases hp : p (n : Int) = true
    · rw [if_pos hp]; omega
    · rw [if_neg hp]; omega
theorem setN_tb (p : Int → Bool) : ∀ n i, (setN p n).testBit i = (decide (i < n) && p (i : Int))
  | 0, i => by simp [setN]
  | n + 1, i => by
    have h := setN_lt p n
    have ih := setN_tb p n i
    unfold setN
    by_cases hp : p (n : Int) = true
    · rw [if_pos hp, Nat.add_comm]
      rcases Nat.lt_trichotomy i n with q | q | q
      · rw [Nat.testBit_two_pow_add_gt q, ih]
        simp [q, Nat.lt_succ_of_lt q]
      · subst q
        rw [Nat.testBit_two_pow_add_eq, ih]
        simp [hp]
      · rw [Nat.testBit_lt_two_pow (Nat.lt_of_lt_of_le (show 2 ^ n + setN p n < 2 ^ (n + 1) by rw [Nat.pow_succ]; omega) (Nat.pow_le_pow_right (by omega) q))]
        simp; omega
    · rw [if_neg hp, Nat.add_zero, ih]
      rcases Nat.lt_trichotomy i n with q | q | q
      · simp [q, Nat.lt_succ_of_lt q]
      · subst q
        simp at hp
        simp [hp]
      · have h1 : ¬ i < n := by omega
        have h2 : ¬ i < n + 1 := by omega
        simp [h1, h2]
theorem setN_cong {p q : Int → Bool} : ∀ {n : Nat}, (∀ i : Int, 0 ≤ i → i < n → p i = q i) → setN p n = setN q n
  | 0, _ => rfl
  | n + 1, h => by
    unfold setN
    rw [setN_cong (fun i h0 h1 => h i h0 (by omega)), h (n : Int) (by omega) (by omega)]
def setOf (n : Nat) (p : Int → Bool) : Int := (setN p n : Int)
theorem setOf_cong {n : Nat} {p q : Int → Bool} (h : ∀ i : Int, 0 ≤ i → i < n → p i = q i) : setOf n p = setOf n q := by unfold setOf; rw [setN_cong h]
theorem setOf_0 (p : Int → Bool) : setOf 0 p = 0 := rfl
theorem setOf_pos (n : Nat) (p : Int → Bool) : 0 ≤ setOf n p := Int.natCast_nonneg _
theorem setOf_lt {n : Nat} (hn : n ≤ 31) (p : Int → Bool) : setOf n p ≤ 2147483647 := by
  have h := setN_lt p n
  have h2 : 2 ^ n ≤ 2 ^ 31 := Nat.pow_le_pow_right (by omega) hn
  unfold setOf
  omega
theorem setOf_32 {n : Nat} (hn : n ≤ 31) (p : Int → Bool) : i32 (setOf n p) := ⟨by have := setOf_pos n p; omega, setOf_lt hn p⟩
theorem setN_inj {p q : Int → Bool} {n : Nat} (h : setN p n = setN q n) {i : Int} (h0 : 0 ≤ i) (h1 : i < n) : p i = q i := by
  have h2 := setN_tb p n i.toNat
  rw [h, setN_tb q n i.toNat, Int.toNat_of_nonneg h0] at h2
  have h3 : decide (i.toNat < n) = true := by simp; omega
  rw [h3] at h2
  simpa using h2.symm
theorem b32 (x : Nat) (i : Nat) : (Int32.ofInt (x : Int)).toBitVec.getLsbD i = (decide (i < 32) && x.testBit i) := by
  rw [Int32.ofInt_eq_ofNat]
  simp [Int32.toBitVec_ofNat', BitVec.getLsbD_ofNat]
theorem i32_bits {a : Int32} {n : Nat} (hn : n < 2 ^ 31) (h : ∀ i, i < 32 → a.toBitVec.getLsbD i = n.testBit i) : a.toInt = (n : Int) := by
  have e : a = Int32.ofInt (n : Int) := by
    apply Int32.toBitVec_inj.mp
    apply BitVec.eq_of_getLsbD_eq
    intro i hi
    rw [h i hi, b32]
    simp [hi]
  rw [e]
  exact i32_to ⟨by omega, by omega⟩
theorem iOr_nat {x y z : Nat} (hz : z < 2 ^ 31) (h : ∀ i, i < 32 → (x.testBit i || y.testBit i) = z.testBit i) : iOr (x : Int) (y : Int) = (z : Int) := by
  unfold iOr
  refine i32_bits hz (fun i hi => ?_)
  rw [Int32.toBitVec_or, BitVec.getLsbD_or, b32, b32, ← h i hi]
  simp [hi]
theorem iAnd_nat {x y z : Nat} (hz : z < 2 ^ 31) (h : ∀ i, i < 32 → (x.testBit i && y.testBit i) = z.testBit i) : iAnd (x : Int) (y : Int) = (z : Int) := by
  unfold iAnd
  refine i32_bits hz (fun i hi => ?_)
  rw [Int32.toBitVec_and, BitVec.getLsbD_and, b32, b32, ← h i hi]
  simp [hi]
theorem iDif_nat {x y z : Nat} (hz : z < 2 ^ 31) (h : ∀ i, i < 32 → (x.testBit i && !(y.testBit i)) = z.testBit i) : iAnd (x : Int) (iXor (y : Int) (-1)) = (z : Int) := by
  unfold iAnd iXor
  rw [Int32.ofInt_toInt]
  refine i32_bits hz (fun i hi => ?_)
  rw [Int32.toBitVec_and, BitVec.getLsbD_and, b32, Int32.toBitVec_xor, BitVec.getLsbD_xor, b32, ← h i hi]
  have e : (Int32.ofInt (-1)).toBitVec.getLsbD i = true := by
    have : ∀ i, i < 32 → (Int32.ofInt (-1)).toBitVec.getLsbD i = true := by decide +kernel
    exact this i hi
  rw [e]
  simp [hi]
theorem iOr_set {n : Nat} (hn : n ≤ 31) (p q : Int → Bool) : iOr (setOf n p) (setOf n q) = setOf n (fun i => p i || q i) := by
  unfold setOf
  refine iOr_nat (Nat.lt_of_lt_of_le (setN_lt _ n) (Nat.pow_le_pow_right (by omega) hn)) (fun i _ => ?_)
  rw [setN_tb, setN_tb, setN_tb]
  cases decide (i < n) <;> simp
theorem iAnd_set {n : Nat} (hn : n ≤ 31) (p q : Int → Bool) : iAnd (setOf n p) (setOf n q) = setOf n (fun i => p i && q i) := by
  unfold setOf
  refine iAnd_nat (Nat.lt_of_lt_of_le (setN_lt _ n) (Nat.pow_le_pow_right (by omega) hn)) (fun i _ => ?_)
  rw [setN_tb, setN_tb, setN_tb]
  cases decide (i < n) <;> simp
theorem iDif_set {n : Nat} (hn : n ≤ 31) (p q : Int → Bool) : iAnd (setOf n p) (iXor (setOf n q) (-1)) = setOf n (fun i => p i && !q i) := by
  unfold setOf
  refine iDif_nat (Nat.lt_of_lt_of_le (setN_lt _ n) (Nat.pow_le_pow_right (by omega) hn)) (fun i _ => ?_)
  rw [setN_tb, setN_tb, setN_tb]
  cases decide (i < n) <;> simp
theorem iShl1 {b : Int} (h0 : 0 ≤ b) (h1 : b < 31) : iShl 1 b = ((2 ^ b.toNat : Nat) : Int) := by
  have h : ∀ n : Nat, n < 31 → iShl 1 (n : Int) = ((2 ^ n : Nat) : Int) := by decide +kernel
  have := h b.toNat (by omega)
  rwa [Int.toNat_of_nonneg h0] at this
theorem pow_set {n : Nat} {b : Int} (h0 : 0 ≤ b) (h1 : b < n) : ((2 ^ b.toNat : Nat) : Int) = setOf n (fun i => decide (i = b)) := by
  unfold setOf
  have e : 2 ^ b.toNat = setN (fun i => decide (i = b)) n := by
    apply Nat.eq_of_testBit_eq
    intro i
    rw [setN_tb, Nat.testBit_two_pow]
    by_cases hi : b.toNat = i
    · have h2 : i < n := by omega
      have h3 : (i : Int) = b := by omega
      simp [hi, h2, h3]
    · have h3 : ¬ (i : Int) = b := by omega
      simp [hi, h3]
  rw [e]
theorem iShl_set {n : Nat} (hn : n ≤ 31) {b : Int} (h0 : 0 ≤ b) (h1 : b < n) : iShl 1 b = setOf n (fun i => decide (i = b)) := by
  rw [iShl1 h0 (by omega), pow_set h0 h1]
theorem set_add {n : Nat} (hn : n ≤ 31) (p : Int → Bool) {b : Int} (h0 : 0 ≤ b) (h1 : b < n) : iOr (setOf n p) (iShl 1 b) = setOf n (fun i => p i || decide (i = b)) := by
  rw [iShl_set hn h0 h1, iOr_set hn]
theorem set_grow {n : Nat} (p : Int → Bool) : setOf (n + 1) p = setOf n p + (if p (n : Int) then ((2 ^ n : Nat) : Int) else 0) := by
  unfold setOf
  rw [setN]
  by_cases hp : p (n : Int) = true
  · rw [if_pos hp, if_pos hp]; omega
  · rw [if_neg hp, if_neg hp]; omega
theorem set_succ {n : Nat} (hn : n < 31) (p : Int → Bool) {v : Int} (hv : v = if p (n : Int) then iShl 1 (n : Int) else 0) : iOr (setOf n p) v = setOf (n + 1) p := by
  have hlt := setN_lt p n
  have e2 : (2 ^ n : Nat) < 2 ^ 31 := Nat.pow_lt_pow_right (by omega) hn
  have hz : setN p (n + 1) < 2 ^ 31 := Nat.lt_of_lt_of_le (setN_lt p (n + 1)) (Nat.pow_le_pow_right (by omega) (by omega))
  subst hv
  by_cases hp : p (n : Int) = true
  · rw [if_pos hp, iShl1 (by omega) (by omega), Int.toNat_natCast]
    unfold setOf
    refine iOr_nat hz (fun i _ => ?_)
    rw [setN_tb, setN_tb, Nat.testBit_two_pow]
    rcases Nat.lt_trichotomy i n with q | q | q
    · have h1 : ¬ n = i := by omega
      simp [q, h1, Nat.lt_succ_of_lt q]
    · subst q
      simp [hp]
    · have h1 : ¬ i < n := by omega
      have h2 : ¬ i < n + 1 := by omega
      have h3 : ¬ n = i := by omega
      simp [h1, h2, h3]
  · rw [if_neg hp]
    unfold setOf
    refine iOr_nat (x := setN p n) (y := 0) hz (fun i _ => ?_)
    rw [setN_tb, setN_tb, Nat.zero_testBit]
    rcases Nat.lt_trichotomy i n with q | q | q
    · simp [q, Nat.lt_succ_of_lt q]
    · subst q
      simp at hp
      simp [hp]
    · have h1 : ¬ i < n := by omega
      have h2 : ¬ i < n + 1 := by omega
      simp [h1, h2]
theorem s_l9 : ∀ n, n < 32 → ((nI n &&& 31).toBitVec.smod 32).toNat = n := by decide +kernel
/-- a bit is read -/
theorem bit_rd {x : Nat} (hx : x < 2 ^ 31) {b : Int} (h0 : 0 ≤ b) (h1 : b < 31) : iAnd (iShr (x : Int) b) 1 = bl (x.testBit b.toNat = true) := by
  have eb : Int32.ofInt b = nI b.toNat := by
    have := Int32.ofInt_eq_ofNat (n := b.toNat)
    rwa [Int.toNat_of_nonneg h0] at this
  have ex : Int32.ofInt (x : Int) = nI x := Int32.ofInt_eq_ofNat
  unfold iAnd iShr
  rw [Int32.ofInt_toInt, eb, ex, pk_shrN hx _ b.toNat (s_l9 b.toNat (by omega))]
  have e1 : Int32.ofInt 1 = (1 : Int32) := by decide
  rw [e1, pk_andN (m := 1) (by have := Nat.div_le_self x (2 ^ b.toNat); omega) 1 (by decide), nI_toInt (by omega)]
  rw [Nat.testBit_eq_decide_div_mod_eq]
  unfold bl
  by_cases h : x / 2 ^ b.toNat % 2 = 1
  · rw [if_pos (by simp [h])]
    omega
  · rw [if_neg (by simp [h])]
    omega
theorem set_rd {n : Nat} (hn : n ≤ 31) (p : Int → Bool) {b : Int} (h0 : 0 ≤ b) (h1 : b < n) : iAnd (iShr (setOf n p) b) 1 = bl (p b = true) := by
  have hx : setN p n < 2 ^ 31 := Nat.lt_of_lt_of_le (setN_lt p n) (Nat.pow_le_pow_right (by omega) hn)
  show iAnd (iShr ((setN p n : Nat) : Int) b) 1 = _
  rw [bit_rd hx h0 (by omega)]
  refine bl_cong ?_
  rw [setN_tb, Int.toNat_of_nonneg h0]
  have h2 : decide (b.toNat < n) = true := by simp; omega
  rw [h2]
  simp
theorem set_zero {n : Nat} {p : Int → Bool} : setOf n p = 0 ↔ ∀ i : Int, 0 ≤ i → i < n → p i = false := by
  constructor
  · intro h i h0 h1
    have h2 : setN p n = setN (fun _ => false) n := by
      have h3 : setN p n = 0 := by unfold setOf at h; omega
      have h4 : ∀ m, setN (fun _ => false) m = 0 := by
        intro m
        induction m with
        | zero => rfl
        | succ m ih => simp [setN, ih]
      rw [h3, h4]
    exact setN_inj h2 h0 h1
  · intro h
    have h4 : ∀ m, setN (fun _ => false) m = 0 := by
      intro m
      induction m with
      | zero => rfl
      | succ m ih => simp [setN, ih]
    unfold setOf
    rw [setN_cong (q := fun _ => false) (fun i h0 h1 => h i h0 h1), h4]
    rfl
