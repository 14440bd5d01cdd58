/-! ===== sets as bits of a long; counting bits ===== -/
theorem wb_tb (n : Nat) : (lN n).toBitVec = BitVec.ofNat 64 n := rfl
theorem wb_inj {a b : Int64} (h : a.toBitVec = b.toBitVec) : a = b := Int64.toBitVec_inj.mp h
theorem wb_tn {n : Nat} (h : n < 2 ^ 64) : (lN n).toBitVec.toNat = n := by rw [wb_tb, BitVec.toNat_ofNat, Nat.mod_eq_of_lt h]
theorem wb_c : ∀ k, k < 64 → ((nI k).toInt64 &&& 63) = lN k := by decide +kernel
theorem wb_cu : ∀ k, k < 64 → ((nI k).toInt64.toUInt64 &&& Int64.toUInt64 63) = UInt64.ofNat k := by decide +kernel
theorem wb_sm : ∀ k, k < 64 → (BitVec.ofNat 64 k).smod 64 = BitVec.ofNat 64 k := by decide +kernel
theorem wb_shr {n k : Nat} (hn : n < 2 ^ 64) (hk : k < 64) : ((lN n).toUInt64 >>> ((nI k).toInt64.toUInt64 &&& Int64.toUInt64 63)).toInt64 = lN (n / 2 ^ k) := by
  rw [wb_cu k hk]
  apply wb_inj
  apply BitVec.eq_of_toNat_eq
  show ((lN n).toUInt64 >>> UInt64.ofNat k).toNat = (BitVec.ofNat 64 _).toNat
  have h1 : (UInt64.ofNat k).toNat = k := by
    show (BitVec.ofNat 64 k).toNat = k
    rw [BitVec.toNat_ofNat, Nat.mod_eq_of_lt (by omega)]
  have h2 : (lN n).toUInt64.toNat = n := wb_tn hn
  rw [UInt64.toNat_shiftRight, h1, h2, Nat.mod_eq_of_lt hk, Nat.shiftRight_eq_div_pow, BitVec.toNat_ofNat, Nat.mod_eq_of_lt (Nat.lt_of_le_of_lt (Nat.div_le_self _ _) hn)]
theorem wb_shl (n : Nat) {k : Nat} (hk : k < 64) : lN n <<< ((nI k).toInt64 &&& 63) = lN (n * 2 ^ k) := by
  rw [wb_c k hk]
  apply wb_inj
  rw [Int64.toBitVec_shiftLeft, wb_tb, wb_tb, wb_tb, wb_sm k hk]
  apply BitVec.eq_of_toNat_eq
  rw [BitVec.shiftLeft_eq', BitVec.toNat_shiftLeft, BitVec.toNat_ofNat, BitVec.toNat_ofNat, BitVec.toNat_ofNat, Nat.mod_eq_of_lt (show k < 2 ^ 64 by omega), Nat.shiftLeft_eq, Nat.mul_mod, Nat.mod_mod, ← Nat.mul_mod]
theorem pf_lI {a : Nat} (h : a < 2 ^ 63) : (lN a).toInt = (a : Int) := lg_ofNat_toInt h
theorem pf_shr {a d : Nat} {D : Int64} (hD : (D.toBitVec.smod 64).toNat = d) (h : a < 2 ^ 62) : lN a >>> D = lN (a / 2 ^ d) := by
  have hd : a / 2 ^ d ≤ a := Nat.div_le_self _ _
  apply Int64.toInt_inj.mp
  have e : (lN a >>> D).toInt = (lN a).toInt >>> d := by
    rw [← hD]
    exact BitVec.toInt_sshiftRight ..
  rw [e, Int.shiftRight_eq_div_pow, pf_lI (by omega), pf_lI (by omega)]
  rfl
theorem lN_of (n : Nat) : Int64.ofInt (n : Int) = lN n := Int64.ofInt_eq_ofNat
theorem nI_of9 (n : Nat) : Int32.ofInt (n : Int) = nI n := Int32.ofInt_eq_ofNat
theorem lUsh_nat {x : Nat} (hx : x < 2 ^ 63) (k : Nat) (hk : k < 64) : lUsh (x : Int) (k : Int) = ((x / 2 ^ k : Nat) : Int) := by
  unfold lUsh
  rw [lN_of, nI_of9, wb_shr (by omega) hk, pf_lI (Nat.lt_of_le_of_lt (Nat.div_le_self _ _) hx)]
theorem lShl_nat {x : Nat} (k : Nat) (hk : k < 64) (h : x * 2 ^ k < 2 ^ 63) : lShl (x : Int) (k : Int) = ((x * 2 ^ k : Nat) : Int) := by
  unfold lShl
  rw [lN_of, nI_of9, wb_shl x hk, pf_lI h]
theorem lShr_nat {x : Nat} (hx : x < 2 ^ 62) (k : Nat) (hk : k < 64) : lShr (x : Int) (k : Int) = ((x / 2 ^ k : Nat) : Int) := by
  unfold lShr
  rw [lN_of, nI_of9, wb_c k hk, pf_shr (d := k) (by rw [wb_tb, wb_sm k hk, BitVec.toNat_ofNat, Nat.mod_eq_of_lt (by omega)]) hx, pf_lI (Nat.lt_of_le_of_lt (Nat.div_le_self _ _) (by omega))]
theorem b64 (x : Nat) (i : Nat) : (Int64.ofInt (x : Int)).toBitVec.getLsbD i = (decide (i < 64) && x.testBit i) := by
  rw [lN_of, wb_tb, BitVec.getLsbD_ofNat]
theorem i64_bits {a : Int64} {n : Nat} (hn : n < 2 ^ 63) (h : ∀ i, i < 64 → a.toBitVec.getLsbD i = n.testBit i) : a.toInt = (n : Int) := by
  have e : a = Int64.ofInt (n : Int) := by
    apply Int64.toBitVec_inj.mp
    apply BitVec.eq_of_getLsbD_eq
    intro i hi
    rw [h i hi, b64]
    simp [hi]
  rw [e]
  exact i64_to ⟨by omega, by omega⟩
theorem lAnd_nat {x y z : Nat} (hz : z < 2 ^ 63) (h : ∀ i, i < 64 → (x.testBit i && y.testBit i) = z.testBit i) : lAnd (x : Int) (y : Int) = (z : Int) := by
  unfold lAnd
  refine i64_bits hz (fun i hi => ?_)
  rw [Int64.toBitVec_and, BitVec.getLsbD_and, b64, b64, ← h i hi]
  simp [hi]
theorem lAnd_and {x y : Nat} (hx : x < 2 ^ 63) : lAnd (x : Int) (y : Int) = ((x &&& y : Nat) : Int) :=
  lAnd_nat (Nat.lt_of_le_of_lt Nat.and_le_left hx) (fun i _ => by rw [Nat.testBit_and])
theorem lDif_nat {x y z : Nat} (hz : z < 2 ^ 63) (h : ∀ i, i < 64 → (x.testBit i && !(y.testBit i)) = z.testBit i) : lAnd (x : Int) (lXor (y : Int) (-1)) = (z : Int) := by
  unfold lAnd lXor
  rw [Int64.ofInt_toInt]
  refine i64_bits hz (fun i hi => ?_)
  rw [Int64.toBitVec_and, BitVec.getLsbD_and, b64, Int64.toBitVec_xor, BitVec.getLsbD_xor, b64, ← h i hi]
  have e : (Int64.ofInt (-1)).toBitVec.getLsbD i = true := by
    have : ∀ i, i < 64 → (Int64.ofInt (-1)).toBitVec.getLsbD i = true := by decide +kernel
    exact this i hi
  rw [e]
  simp [hi]
theorem setN_63 {n : Nat} (hn : n ≤ 62) (p : Int → Bool) : setN p n < 2 ^ 62 := Nat.lt_of_lt_of_le (setN_lt p n) (Nat.pow_le_pow_right (by omega) hn)
theorem setOf_64 {n : Nat} (hn : n ≤ 62) (p : Int → Bool) : i64 (setOf n p) := by
  have h := setN_63 hn p
  have h2 := setOf_pos n p
  unfold setOf at *
  exact ⟨by omega, by omega⟩
theorem lDif_set {n : Nat} (hn : n ≤ 62) (p q : Int → Bool) : lAnd (setOf n p) (lXor (setOf n q) (-1)) = setOf n (fun i => p i && !q i) := by
  unfold setOf
  refine lDif_nat (by have := setN_63 hn (fun i => p i && !q i); omega) (fun i _ => ?_)
  rw [setN_tb, setN_tb, setN_tb]
  cases decide (i < n) <;> simp
theorem lSet_rd {n : Nat} (hn : n ≤ 62) (p : Int → Bool) {b : Int} (h0 : 0 ≤ b) (h1 : b < n) : lAnd (lShr (setOf n p) b) 1 = bl (p b = true) := by
  have hx := setN_63 hn p
  have e : lShr (setOf n p) b = ((setN p n / 2 ^ b.toNat : Nat) : Int) := by
    have := lShr_nat hx b.toNat (by omega)
    rw [Int.toNat_of_nonneg h0] at this
    exact this
  rw [e]
  have e2 := lAnd_and (x := setN p n / 2 ^ b.toNat) (y := 1) (Nat.lt_of_le_of_lt (Nat.div_le_self _ _) (by omega))
  rw [Nat.and_one_is_mod] at e2
  have e3 := setN_tb p n b.toNat
  rw [Nat.testBit_eq_decide_div_mod_eq, Int.toNat_of_nonneg h0] at e3
  have h2 : decide (b.toNat < n) = true := by simp; omega
  rw [h2, Bool.true_and] at e3
  refine e2.trans ?_
  by_cases h : p b = true
  · rw [h, decide_eq_true_iff] at e3
    rw [← bl1 h]
    omega
  · have h3 : p b = false := by simpa using h
    rw [h3, decide_eq_false_iff_not] at e3
    rw [← bl0 h]
    omega
/-- days first .. first + length - 1 -/
theorem lMask {a m : Int} (a0 : 0 ≤ a) (m0 : 0 ≤ m) (h : a + m ≤ 55) : lShl (lShl 1 m - 1) a = setOf 55 (fun i => decide (a ≤ i ∧ i < a + m)) := by
  obtain ⟨a, rfl⟩ := Int.eq_ofNat_of_zero_le a0
  obtain ⟨m, rfl⟩ := Int.eq_ofNat_of_zero_le m0
  have hm : m ≤ 55 := by omega
  have p1 : 2 ^ m ≤ 2 ^ 55 := Nat.pow_le_pow_right (by omega) hm
  have p0 : 0 < 2 ^ m := Nat.two_pow_pos m
  have e1 : lShl 1 (m : Int) = ((2 ^ m : Nat) : Int) := by
    have := lShl_nat (x := 1) m (by omega) (by omega)
    rwa [Nat.one_mul] at this
  rw [e1, show ((2 ^ m : Nat) : Int) - 1 = ((2 ^ m - 1 : Nat) : Int) by omega]
  have hb : (2 ^ m - 1) * 2 ^ a < 2 ^ 63 := by
    have h1 : (2 ^ m - 1) * 2 ^ a ≤ 2 ^ m * 2 ^ a := Nat.mul_le_mul_right _ (by omega)
    rw [← Nat.pow_add] at h1
    have h2 : 2 ^ (m + a) ≤ 2 ^ 55 := Nat.pow_le_pow_right (by omega) (by omega)
    omega
  rw [lShl_nat a (by omega) hb]
  unfold setOf
  congr 1
  apply Nat.eq_of_testBit_eq
  intro i
  rw [← Nat.shiftLeft_eq, Nat.testBit_shiftLeft, Nat.testBit_two_pow_sub_one, setN_tb]
  by_cases q : a ≤ i ∧ i < a + m
  · have q1 : i < 55 := by omega
    have q2 : i - a < m := by omega
    have q3 : (a : Int) ≤ (i : Int) ∧ (i : Int) < (a : Int) + (m : Int) := by omega
    simp [q.1, q1, q2, q3]
  · by_cases q4 : a ≤ i
    · have q2 : ¬ i - a < m := by omega
      have q3 : ¬ ((a : Int) ≤ (i : Int) ∧ (i : Int) < (a : Int) + (m : Int)) := by omega
      simp only [q2, q3]
      simp
    · have q3 : ¬ ((a : Int) ≤ (i : Int) ∧ (i : Int) < (a : Int) + (m : Int)) := by omega
      simp only [q3]
      simp [q4]
/-! counting -/
theorem cntN_add (p : Int → Bool) (m : Nat) : ∀ n : Nat, cntN p (m + n) = cntN p m + cntN (fun i => p ((m : Int) + i)) n
  | 0 => by simp [cntN]
  | n + 1 => by
    show cntN p (m + n) + (if p ((m + n : Nat) : Int) then 1 else 0) = cntN p m + (cntN (fun i => p ((m : Int) + i)) n + (if p ((m : Int) + (n : Int)) then 1 else 0))
    rw [cntN_add p m n, show ((m + n : Nat) : Int) = (m : Int) + (n : Int) by omega]
    omega
theorem bc_and {h b M m : Nat} (hb : b < 256) (hm : m < 256) : (256 * h + b) &&& (256 * M + m) = 256 * (h &&& M) + (b &&& m) := by
  have hbm : b &&& m < 2 ^ 8 := Nat.lt_of_le_of_lt Nat.and_le_left (by omega)
  apply Nat.eq_of_testBit_eq
  intro i
  have t : ∀ (u v : Nat), v < 2 ^ 8 → (256 * u + v).testBit i = if i < 8 then v.testBit i else u.testBit (i - 8) := fun u v hv => Nat.testBit_two_pow_mul_add (i := 8) u hv i
  rw [Nat.testBit_and, t h b (by omega), t M m (by omega), t _ _ hbm]
  by_cases q : i < 8
  · rw [if_pos q, if_pos q, if_pos q, Nat.testBit_and]
  · rw [if_neg q, if_neg q, if_neg q, Nat.testBit_and]
def bcF (A B C x : Nat) : Nat := (((x - (x / 2 &&& A)) &&& B) + ((x - (x / 2 &&& A)) / 4 &&& B) + (((x - (x / 2 &&& A)) &&& B) + ((x - (x / 2 &&& A)) / 4 &&& B)) / 16) &&& C
theorem bc_1 : ∀ q, q < 2 → ∀ b, b < 256 → (128 * q + b / 2) &&& 85 = (b / 2) &&& 85 ∧ (b / 2) &&& 85 ≤ b := by decide +kernel
theorem bc_2 : ∀ q, q < 4 → ∀ b, b < 256 → (64 * q + b / 4) &&& 51 = (b / 4) &&& 51 := by decide +kernel
theorem bc_3 : ∀ b, b < 256 → ((b - (b / 2 &&& 85)) &&& 51) + ((b - (b / 2 &&& 85)) / 4 &&& 51) ≤ 68 := by decide +kernel
theorem bc_step {A B C h b : Nat} (hb : b < 256) (hB : B % 16 ≤ 3) : bcF (256 * A + 85) (256 * B + 51) (256 * C + 15) (256 * h + b) = 256 * bcF A B C h + bcF 85 51 15 b := by
  have a1 : (256 * h + b) / 2 = 256 * (h / 2) + (128 * (h % 2) + b / 2) := by omega
  have a2 := bc_1 (h % 2) (by omega) b hb
  have a3 : (256 * h + b) / 2 &&& (256 * A + 85) = 256 * (h / 2 &&& A) + (b / 2 &&& 85) := by rw [a1, bc_and (by omega) (by omega), a2.1]
  have a4 : h / 2 &&& A ≤ h := Nat.le_trans Nat.and_le_left (Nat.div_le_self _ _)
  have a5 := bc_3 b hb
  unfold bcF
  rw [a3]
  generalize h / 2 &&& A = hA at a4 ⊢
  generalize hbA : b / 2 &&& 85 = bA at a2 a5 ⊢
  have a6 : 256 * h + b - (256 * hA + bA) = 256 * (h - hA) + (b - bA) := by omega
  rw [a6]
  generalize h - hA = uh
  have hub : b - bA < 256 := by omega
  generalize b - bA = ub at hub a5 ⊢
  have a7 : (256 * uh + ub) / 4 = 256 * (uh / 4) + (64 * (uh % 4) + ub / 4) := by omega
  rw [a7, bc_and (by omega) (by omega), bc_and (by omega) (by omega), bc_2 (uh % 4) (by omega) ub hub]
  have b1 : (uh &&& B) % 16 ≤ 3 := by
    have := Nat.and_mod_two_pow (a := uh) (b := B) (n := 4)
    rw [show (2 : Nat) ^ 4 = 16 by decide] at this
    rw [this]
    exact Nat.le_trans Nat.and_le_right hB
  have b2 : (uh / 4 &&& B) % 16 ≤ 3 := by
    have := Nat.and_mod_two_pow (a := uh / 4) (b := B) (n := 4)
    rw [show (2 : Nat) ^ 4 = 16 by decide] at this
    rw [this]
    exact Nat.le_trans Nat.and_le_right hB
  generalize uh &&& B = x1 at b1 ⊢
  generalize uh / 4 &&& B = x2 at b2 ⊢
  generalize hy1 : ub &&& 51 = y1 at a5 ⊢
  generalize hy2 : ub / 4 &&& 51 = y2 at a5 ⊢
  have a8 : 256 * x1 + y1 + (256 * x2 + y2) + (256 * x1 + y1 + (256 * x2 + y2)) / 16 = 256 * (x1 + x2 + (x1 + x2) / 16) + (y1 + y2 + (y1 + y2) / 16 + 16 * ((x1 + x2) % 16)) := by omega
  rw [a8, bc_and (by omega) (by omega)]
  have m15 : ∀ z : Nat, z &&& 15 = z % 16 := fun z => Nat.and_two_pow_sub_one_eq_mod z 4
  rw [m15, m15]
  omega
theorem bc_0 (A B C : Nat) : bcF A B C 0 = 0 := by unfold bcF; simp
theorem bc_8 : ∀ b, b < 256 → ((bcF 85 51 15 b : Nat) : Int) = cntN (fun i => b.testBit i.toNat) 8 := by decide +kernel
theorem bc_7 : ∀ b, b < 128 → ((bcF 85 51 15 b : Nat) : Int) = cntN (fun i => b.testBit i.toNat) 7 := by decide +kernel
theorem bc_le : ∀ b, b < 256 → bcF 85 51 15 b ≤ 8 := by decide +kernel
theorem bc_c {h b : Nat} (hb : b < 256) (n : Nat) : cntN (fun i => (256 * h + b).testBit i.toNat) (8 + n) = cntN (fun i => b.testBit i.toNat) 8 + cntN (fun i => h.testBit i.toNat) n := by
  have t : ∀ (i : Nat), (256 * h + b).testBit i = if i < 8 then b.testBit i else h.testBit (i - 8) := fun i => Nat.testBit_two_pow_mul_add (i := 8) h (by omega) i
  rw [cntN_add]
  congr 1
  · refine cntN_cong (fun i i0 i1 => ?_)
    rw [t, if_pos (by omega)]
  · refine cntN_cong (fun i i0 i1 => ?_)
    rw [t, if_neg (by omega)]
    congr 1
    omega
theorem dv_up {m a q : Nat} (h : q < m) : (m * a + q) / m = a := by rw [Nat.mul_add_div (by omega), Nat.div_eq_of_lt h, Nat.add_zero]
theorem bc_sum {g0 g1 g2 g3 g4 g5 g6 y : Nat} (q0 : g0 ≤ 8) (q1 : g1 ≤ 8) (q2 : g2 ≤ 8) (q3 : g3 ≤ 8) (q4 : g4 ≤ 8) (q5 : g5 ≤ 8) (q6 : g6 ≤ 8) (hy : y = 256 * (256 * (256 * (256 * (256 * (256 * g6 + g5) + g4) + g3) + g2) + g1) + g0) : ((y + y / 256) + (y + y / 256) / 65536 + ((y + y / 256) + (y + y / 256) / 65536) / 4294967296) % 128 = g0 + (g1 + (g2 + (g3 + (g4 + (g5 + g6))))) := by
  have hS : g0 + (g1 + (g2 + (g3 + (g4 + (g5 + g6))))) < 128 := by clear hy; omega
  have h8 : g0 < 256 := by clear hy; omega
  have h9 : 256 * (g2 + g1) + (g1 + g0) < 65536 := by clear hy; omega
  have h10 : 16777216 * (g6 + g5 + g4 + g3) + 65536 * (g5 + g4 + g3 + g2) + 256 * (g4 + g3 + g2 + g1) + (g3 + g2 + g1 + g0) < 4294967296 := by clear hy; omega
  have d1 : y / 256 = 256 * (256 * (256 * (256 * (256 * g6 + g5) + g4) + g3) + g2) + g1 := by rw [hy]; exact dv_up h8
  generalize hz : y + y / 256 = z
  have z1 : z = 65536 * (4294967296 * g6 + 16777216 * (g6 + g5) + 65536 * (g5 + g4) + 256 * (g4 + g3) + (g3 + g2)) + (256 * (g2 + g1) + (g1 + g0)) := by rw [← hz, d1, hy]; clear d1 hz hy; omega
  have d2 : z / 65536 = 4294967296 * g6 + 16777216 * (g6 + g5) + 65536 * (g5 + g4) + 256 * (g4 + g3) + (g3 + g2) := by rw [z1]; exact dv_up h9
  generalize hw : z + z / 65536 = w
  have w1 : w = 4294967296 * (65536 * g6 + 256 * (g6 + g5) + (g6 + g5 + g4)) + (16777216 * (g6 + g5 + g4 + g3) + 65536 * (g5 + g4 + g3 + g2) + 256 * (g4 + g3 + g2 + g1) + (g3 + g2 + g1 + g0)) := by rw [← hw, d2, z1]; clear d2 z1 hw hz d1 hy; omega
  have d3 : w / 4294967296 = 65536 * g6 + 256 * (g6 + g5) + (g6 + g5 + g4) := by rw [w1]; exact dv_up h10
  have v1 : w + w / 4294967296 = 128 * (2 * (1099511627776 * g6 + 4294967296 * (g6 + g5) + 16777216 * (g6 + g5 + g4) + 65536 * (g6 + g5 + g4 + g3) + 256 * (g6 + g5 + g4 + g3 + g2) + (g6 + g5 + g4 + g3 + g2 + g1))) + (g0 + (g1 + (g2 + (g3 + (g4 + (g5 + g6)))))) := by rw [d3, w1]; clear d3 w1 hw d2 z1 hz d1 hy; omega
  rw [v1, Nat.mul_add_mod, Nat.mod_eq_of_lt hS]
/-- the long's bits are counted -/
theorem bc_all {x : Nat} (hx : x < 2 ^ 55) : ∃ y : Nat, bcF 6148914691236517205 3689348814741910323 1085102592571150095 x = y ∧ y < 2 ^ 52 ∧ (((y + y / 256) + (y + y / 256) / 65536 + ((y + y / 256) + (y + y / 256) / 65536) / 4294967296) % 128 : Nat) = cntN (fun i => x.testBit i.toNat) 55 := by
  obtain ⟨b0, x1, r0, e0⟩ : ∃ b h : Nat, b < 256 ∧ x = 256 * h + b := ⟨x % 256, x / 256, by omega, by omega⟩
  obtain ⟨b1, x2, r1, e1⟩ : ∃ b h : Nat, b < 256 ∧ x1 = 256 * h + b := ⟨x1 % 256, x1 / 256, by omega, by omega⟩
  obtain ⟨b2, x3, r2, e2⟩ : ∃ b h : Nat, b < 256 ∧ x2 = 256 * h + b := ⟨x2 % 256, x2 / 256, by omega, by omega⟩
  obtain ⟨b3, x4, r3, e3⟩ : ∃ b h : Nat, b < 256 ∧ x3 = 256 * h + b := ⟨x3 % 256, x3 / 256, by omega, by omega⟩
  obtain ⟨b4, x5, r4, e4⟩ : ∃ b h : Nat, b < 256 ∧ x4 = 256 * h + b := ⟨x4 % 256, x4 / 256, by omega, by omega⟩
  obtain ⟨b5, b6, r5, e5⟩ : ∃ b h : Nat, b < 256 ∧ x5 = 256 * h + b := ⟨x5 % 256, x5 / 256, by omega, by omega⟩
  have r6 : b6 < 128 := by omega
  have c : cntN (fun i => x.testBit i.toNat) 55 = ((bcF 85 51 15 b0 + (bcF 85 51 15 b1 + (bcF 85 51 15 b2 + (bcF 85 51 15 b3 + (bcF 85 51 15 b4 + (bcF 85 51 15 b5 + bcF 85 51 15 b6))))) : Nat) : Int) := by
    rw [e0, bc_c r0 47, e1, bc_c r1 39, e2, bc_c r2 31, e3, bc_c r3 23, e4, bc_c r4 15, e5, bc_c r5 7, ← bc_8 b0 r0, ← bc_8 b1 r1, ← bc_8 b2 r2, ← bc_8 b3 r3, ← bc_8 b4 r4, ← bc_8 b5 r5, ← bc_7 b6 r6]
    omega
  have s : bcF 6148914691236517205 3689348814741910323 1085102592571150095 x = 256 * (256 * (256 * (256 * (256 * (256 * bcF 85 51 15 b6 + bcF 85 51 15 b5) + bcF 85 51 15 b4) + bcF 85 51 15 b3) + bcF 85 51 15 b2) + bcF 85 51 15 b1) + bcF 85 51 15 b0 := by
    have k0 := bc_step (A := 24019198012642645) (B := 14411518807585587) (C := 4238682002231055) (h := x1) r0 (by decide)
    have k1 := bc_step (A := 93824992236885) (B := 56294995342131) (C := 16557351571215) (h := x2) r1 (by decide)
    have k2 := bc_step (A := 366503875925) (B := 219902325555) (C := 64677154575) (h := x3) r2 (by decide)
    have k3 := bc_step (A := 1431655765) (B := 858993459) (C := 252645135) (h := x4) r3 (by decide)
    have k4 := bc_step (A := 5592405) (B := 3355443) (C := 986895) (h := x5) r4 (by decide)
    have k5 := bc_step (A := 21845) (B := 13107) (C := 3855) (h := b6) r5 (by decide)
    have k6 := bc_step (A := 85) (B := 51) (C := 15) (h := 0) (b := b6) (by omega) (by decide)
    rw [bc_0] at k6
    rw [← e0] at k0
    rw [← e1] at k1
    rw [← e2] at k2
    rw [← e3] at k3
    rw [← e4] at k4
    rw [← e5] at k5
    rw [show 256 * 0 + b6 = b6 by omega, show 256 * 0 + bcF 85 51 15 b6 = bcF 85 51 15 b6 by omega] at k6
    simp only [Nat.reduceMul, Nat.reduceAdd] at k0 k1 k2 k3 k4 k5 k6
    rw [k0, k1, k2, k3, k4, k5, k6]
  refine ⟨_, s, ?_, ?_⟩
  · have := bc_le b0 r0; have := bc_le b1 r1; have := bc_le b2 r2; have := bc_le b3 r3; have := bc_le b4 r4; have := bc_le b5 r5; have := bc_le b6 (by omega)
    omega
  · rw [c]
    exact congrArg Int.ofNat (bc_sum (bc_le b0 r0) (bc_le b1 r1) (bc_le b2 r2) (bc_le b3 r3) (bc_le b4 r4) (bc_le b5 r5) (bc_le b6 (by omega)) rfl)
