/-! ===== the class reads a text ===== -/
/-- n codes tx of sheet k from i on -/
def xTx (s : mS) (k i n : Int) (tx : Int → Int) : Prop := (0 ≤ k ∧ k < 4 ∧ 0 ≤ i ∧ 0 ≤ n) ∧ i + n ≤ s (16 + k) 2 ∧ s (16 + k) 2 ≤ 60 ∧ ∀ p : Int, 0 ≤ p → p < n → s (16 + k + 4) (i + p) = tx p
theorem xTx.up {s : mS} {k i n : Int} {tx : Int → Int} (h : xTx s k i n tx) {a : Int} (b v : Int) (ha : a < 16) : xTx (mUp s a b v) k i n tx := by
  obtain ⟨h1, h2, h3, h4⟩ := h
  have e : mUp s a b v (16 + k) = s (16 + k) := mUp_off s b v (by omega)
  have e4 : mUp s a b v (16 + k + 4) = s (16 + k + 4) := mUp_off s b v (by omega)
  unfold xTx
  rw [e, e4]
  exact ⟨h1, h2, h3, h4⟩
theorem xTx.zr {s : mS} {k i n : Int} {tx : Int → Int} (h : xTx s k i n tx) {a : Int} (j : Int) (ha : a < 16) : xTx (xZr s a j) k i n tx := by
  obtain ⟨h1, h2, h3, h4⟩ := h
  have e : xZr s a j (16 + k) = s (16 + k) := by funext b; unfold xZr; rw [if_neg (by omega)]
  have e4 : xZr s a j (16 + k + 4) = s (16 + k + 4) := by funext b; unfold xZr; rw [if_neg (by omega)]
  unfold xTx
  rw [e, e4]
  exact ⟨h1, h2, h3, h4⟩
theorem byI_form : ∀ p : Fin 49, ¬ (7 ≤ (p.val : Int) ∧ (p.val : Int) % 7 = 1) → qLo (p.val : Int) = byI 0 (if (p.val : Int) < 7 then (p.val : Int) else 7 + (p.val : Int) % 7) ∧ qHi (p.val : Int) = byI 1 (if (p.val : Int) < 7 then (p.val : Int) else 7 + (p.val : Int) % 7) := by decide +kernel
theorem byI_fm {p : Int} (p0 : 0 ≤ p) (p1 : p < 49) (h : ¬ (7 ≤ p ∧ p % 7 = 1)) : qLo p = byI 0 (if p < 7 then p else 7 + p % 7) ∧ qHi p = byI 1 (if p < 7 then p else 7 + p % 7) := by
  have e : (((⟨p.toNat, by omega⟩ : Fin 49).val : Nat) : Int) = p := Int.toNat_of_nonneg p0
  have g := byI_form ⟨p.toNat, by omega⟩
  rw [e] at g
  exact g h
set_option maxRecDepth 100000 in
set_option maxHeartbeats 2000000 in
theorem c_X5_kindOf {l : Launch} {D : va_G} {cs : mC} {ad : Int → Nat} (σ : mS) (c : Int) (hc : i32 c) : CI l (gX D cs ad) M_X5_kindOf 0 [mI c] σ (fun z s => z = qKd c ∧ s = σ) := by
  refine CI.of (by decide) (Nat.le_of_ble_eq_true rfl) (fun x h hq => ?_)
  show mG x 0 [(0, mI c)] [] σ
  refine g_iload_n h dX5_kindOf_0 rfl ?_
  rcases (show c = 98 ∨ c = 114 ∨ c = 115 ∨ (¬ c = 98 ∧ ¬ c = 114 ∧ ¬ c = 115) by omega) with c1 | c1 | c1 | c1
  · refine g_lsw (tgt := 36) (off := 35) h dX5_kindOf_1 (by decide) hc (by rw [c1]; decide) (by decide) ?_
    refine g_iconst h dX5_kindOf_36 rfl ?_
    refine g_iret h hq rfl dX5_kindOf_37 ⟨by rw [c1]; rfl, rfl⟩
  · refine g_lsw (tgt := 40) (off := 39) h dX5_kindOf_1 (by decide) hc (by rw [c1]; decide) (by decide) ?_
    refine g_iconst h dX5_kindOf_40 rfl ?_
    refine g_iret h hq rfl dX5_kindOf_41 ⟨by rw [c1]; rfl, rfl⟩
  · refine g_lsw (tgt := 38) (off := 37) h dX5_kindOf_1 (by decide) hc (by rw [c1]; decide) (by decide) ?_
    refine g_iconst h dX5_kindOf_38 rfl ?_
    refine g_iret h hq rfl dX5_kindOf_39 ⟨by rw [c1]; rfl, rfl⟩
  · refine g_lsw (tgt := 42) (off := 41) h dX5_kindOf_1 (by decide) hc (lsw_df (by simp; omega)) (by decide) ?_
    refine g_bipush h dX5_kindOf_42 (by decide) ?_
    refine g_iret h hq rfl dX5_kindOf_44 ⟨by unfold qKd; rw [if_neg (by omega), if_neg (by omega), if_neg (by omega)], rfl⟩
set_option maxRecDepth 100000 in
set_option maxHeartbeats 2000000 in
theorem c_X5_digit {l : Launch} {D : va_G} {cs : mC} {ad : Int → Nat} (σ : mS) (k i n p q : Int) (tx : Int → Int) (ht : xTx σ k i n tx) (p0 : 0 ≤ p) (p1 : p < n) (hq9 : q = i + p) : CI l (gX D cs ad) M_X5_digit 1 [.ref (ad (16 + k)), mI q] σ (fun z s => z = tx p - 48 ∧ s = σ) := by
  refine CI.of (by decide) (Nat.le_of_ble_eq_true rfl) (fun x h hq => ?_)
  show mG x 0 [(0, .ref (ad (16 + k))), (1, mI q)] [] σ
  obtain ⟨⟨k0, k1, i0, n0⟩, t2, t3, t4⟩ := ht
  refine g_aload_n h dX5_digit_0 rfl ?_
  refine g_iload_n h dX5_digit_1 rfl ?_
  refine g_vI h (c_X3_has _ _ _ (by omega) (by omega) ⟨by omega, by omega⟩ (by omega) (by omega)) (by decide) lm_RX5_35 (rvS rfl (by omega) (by omega)) dX5_digit_2 rfl (Nat.le_of_ble_eq_true rfl) (fun z2 s2 p2 => ?_)
  obtain ⟨e2, r2⟩ := p2; subst e2; replace r2 := Eq.symm r2; subst r2
  refine g_ifb_eq (tgt := 20) h dX5_digit_5 (by decide)  (fun c5 => ?_) (fun c5 => ?_)
  · exact absurd ⟨by omega, by omega⟩ c5
  · refine g_aload_n h dX5_digit_8 rfl ?_
    refine gxS_cells h (by omega) (by omega) dX5_digit_9 lf_RX5_9 ?_
    refine g_iload_n h dX5_digit_12 rfl ?_
    refine lx_cells h (by omega) (by omega) dX5_digit_13 (by omega) (by omega) ?_
    refine g_val (b := tx p) (by rw [hq9]; exact t4 p p0 p1) ?_
    refine g_bipush h dX5_digit_14 (by decide) ?_
    refine g_isub h dX5_digit_16 ?_
    refine g_goto (tgt := 21) h dX5_digit_17 (by decide) ?_
    refine g_iret h hq rfl dX5_digit_21 ⟨rfl, rfl⟩
set_option maxRecDepth 100000 in
set_option maxHeartbeats 2000000 in
theorem c_X5_twoDigits {l : Launch} {D : va_G} {cs : mC} {ad : Int → Nat} (σ : mS) (k i n p q : Int) (tx : Int → Int) (ht : xTx σ k i n tx) (p0 : 0 ≤ p) (p1 : p + 1 < n) (hq9 : q = i + p) : CI l (gX D cs ad) M_X5_twoDigits 2 [.ref (ad (16 + k)), mI q] σ (fun z s => z = 10 * (tx p - 48) + (tx (p + 1) - 48) ∧ s = σ) := by
  refine CI.of (by decide) (Nat.le_of_ble_eq_true rfl) (fun x h hq => ?_)
  show mG x 0 [(0, .ref (ad (16 + k))), (1, mI q)] [] σ
  refine g_bipush h dX5_twoDigits_0 (by decide) ?_
  refine g_aload_n h dX5_twoDigits_2 rfl ?_
  refine g_iload_n h dX5_twoDigits_3 rfl ?_
  refine g_sI h (c_X5_digit _ k i n p q tx ht p0 (by omega) hq9) (by decide) lm_RX5_39 dX5_twoDigits_4 rfl (Nat.le_of_ble_eq_true rfl) (fun z4 s4 p4 => ?_)
  obtain ⟨e4, r4⟩ := p4; subst e4; replace r4 := Eq.symm r4; subst r4
  refine g_imul h dX5_twoDigits_7 ?_
  refine g_aload_n h dX5_twoDigits_8 rfl ?_
  refine g_iload_n h dX5_twoDigits_9 rfl ?_
  refine g_iconst h dX5_twoDigits_10 rfl ?_
  refine g_iadd h dX5_twoDigits_11 ?_
  refine g_sI h (c_X5_digit _ k i n (p + 1) _ tx ht (by omega) p1 (by omega)) (by decide) lm_RX5_39 dX5_twoDigits_12 rfl (Nat.le_of_ble_eq_true rfl) (fun z12 s12 p12 => ?_)
  obtain ⟨e12, r12⟩ := p12; subst e12; replace r12 := Eq.symm r12; subst r12
  refine g_iadd h dX5_twoDigits_15 ?_
  refine g_iret h hq rfl dX5_twoDigits_16 ⟨rfl, rfl⟩
set_option maxRecDepth 100000 in
set_option maxHeartbeats 2000000 in
theorem c_X5_fits {l : Launch} {D : va_G} {cs : mC} {ad : Int → Nat} (σ : mS) (p c b9 : Int) (tx : Int → Int) (hc : i32 c) (hb9 : i32 b9) (p0 : 0 ≤ p) (p60 : p ≤ 60) (hc9 : c = tx p) (hb4 : p = 4 → b9 = tx 3) : CI l (gX D cs ad) M_X5_fits 6 [mI p, mI c, mI b9] σ (fun z s => z = bl (qFt tx p = true) ∧ s = σ) := by
  refine CI.of (by decide) (Nat.le_of_ble_eq_true rfl) (fun x h hq => ?_)
  show mG x 0 [(0, mI p), (1, mI c), (2, mI b9)] [] σ
  have J77 : ¬ (7 ≤ p ∧ p % 7 = 1) → ¬ (p = 4 ∧ tx 3 = 54) → p < 49 → mG x 77 [(0, mI p), (1, mI c), (2, mI b9)] [mI (if p < 7 then p else 7 + p % 7)] σ := by
    intro n1 n2 p49
    have hf : 0 ≤ (if p < 7 then p else 7 + p % 7) ∧ (if p < 7 then p else 7 + p % 7) < 14 := by split <;> omega
    have hm := byI_fm p0 p49 n1
    have g0 := byI_at (i := 0) (by decide) hf.1 hf.2
    have g1 := byI_at (i := 1) (by decide) hf.1 hf.2
    have hh := qFt_g (tx := tx) p49 n1 n2 hm.1 hm.2
    rw [← hc9] at hh
    refine g_istore_n h dX5_fits_77 (by decide) rfl ?_
    refine g_iload_n h dX5_fits_78 rfl ?_
    refine g_ldcS0 h rfl dX5_fits_79 ?_
    refine g_iload_n h dX5_fits_81 rfl ?_
    refine g_vIS (i := 0) h (c_J0_charAt_5068e _ 0 (if p < 7 then p else 7 + p % 7) (by decide) hf.1 hf.2) (by decide) lm_RX5_27 (by decide) rfl dX5_fits_82 rfl (Nat.le_of_ble_eq_true rfl) (fun z82 s82 p82 => ?_)
    obtain ⟨e82, r82⟩ := p82; subst e82; replace r82 := Eq.symm r82; subst r82
    refine g_icmp_lt (tgt := 102) h dX5_fits_85 (by decide) hc ⟨by omega, by omega⟩ (fun c85 => ?_) (fun c85 => ?_)
    · refine g_iconst h dX5_fits_102 rfl ?_
      refine g_zret h hq rfl dX5_fits_103 (by first | exact Or.inl rfl | exact Or.inr rfl) ⟨bl0 (fun z => by have := hh.mp z; omega), rfl⟩
    · refine g_iload_n h dX5_fits_88 rfl ?_
      refine g_ldcS1 h rfl dX5_fits_89 ?_
      refine g_iload_n h dX5_fits_91 rfl ?_
      refine g_vIS (i := 1) h (c_J0_charAt_5068e _ 1 (if p < 7 then p else 7 + p % 7) (by decide) hf.1 hf.2) (by decide) lm_RX5_27 (by decide) rfl dX5_fits_92 rfl (Nat.le_of_ble_eq_true rfl) (fun z92 s92 p92 => ?_)
      obtain ⟨e92, r92⟩ := p92; subst e92; replace r92 := Eq.symm r92; subst r92
      refine g_icmp_gt (tgt := 102) h dX5_fits_95 (by decide) hc ⟨by omega, by omega⟩ (fun c95 => ?_) (fun c95 => ?_)
      · refine g_iconst h dX5_fits_102 rfl ?_
        refine g_zret h hq rfl dX5_fits_103 (by first | exact Or.inl rfl | exact Or.inr rfl) ⟨bl0 (fun z => by have := hh.mp z; omega), rfl⟩
      · refine g_iconst h dX5_fits_98 rfl ?_
        refine g_goto (tgt := 103) h dX5_fits_99 (by decide) ?_
        refine g_zret h hq rfl dX5_fits_103 (by first | exact Or.inl rfl | exact Or.inr rfl) ⟨bl1 (hh.mpr ⟨by omega, by omega⟩), rfl⟩
  have J60 : ¬ (7 ≤ p ∧ p % 7 = 1) → ¬ (p = 4 ∧ tx 3 = 54) → p < 49 → mG x 60 [(0, mI p), (1, mI c), (2, mI b9)] [] σ := by
    intro n1 n2 p49
    refine g_iload_n h dX5_fits_60 rfl ?_
    refine g_bipush h dX5_fits_61 (by decide) ?_
    refine g_icmp_ge (tgt := 70) h dX5_fits_63 (by decide) ⟨by omega, by omega⟩ ⟨by omega, by omega⟩ (fun c63 => ?_) (fun c63 => ?_)
    · refine g_bipush h dX5_fits_70 (by decide) ?_
      refine g_iload_n h dX5_fits_72 rfl ?_
      refine g_bipush h dX5_fits_73 (by decide) ?_
      refine g_irem h dX5_fits_75 (by omega) (by omega) (by omega) (by omega) ?_
      refine g_iadd h dX5_fits_76 ?_
      refine g_val (b := (if p < 7 then p else 7 + p % 7)) (by rw [if_neg (by omega)]) ?_
      exact J77 n1 n2 p49
    · refine g_iload_n h dX5_fits_66 rfl ?_
      refine g_goto (tgt := 77) h dX5_fits_67 (by decide) ?_
      refine g_val (b := (if p < 7 then p else 7 + p % 7)) (by rw [if_pos (by omega)]) ?_
      exact J77 n1 n2 p49
  have J37 : ¬ (7 ≤ p ∧ p % 7 = 1) → p < 49 → mG x 37 [(0, mI p), (1, mI c), (2, mI b9)] [] σ := by
    intro n1 p49
    refine g_iload_n h dX5_fits_37 rfl ?_
    refine g_iconst h dX5_fits_38 rfl ?_
    refine g_icmp_ne (tgt := 60) h dX5_fits_39 (by decide) ⟨by omega, by omega⟩ ⟨by omega, by omega⟩ (fun c39 => ?_) (fun c39 => ?_)
    · exact J60 n1 (by omega) p49
    · refine g_iload_n h dX5_fits_42 rfl ?_
      refine g_bipush h dX5_fits_43 (by decide) ?_
      refine g_icmp_ne (tgt := 60) h dX5_fits_45 (by decide) hb9 ⟨by omega, by omega⟩ (fun c45 => ?_) (fun c45 => ?_)
      · exact J60 n1 (fun z => c45 ((hb4 z.1).trans z.2)) p49
      · have hq4 : qFt tx p = decide (c = 48) := by
          unfold qFt
          rw [if_neg (by omega), if_neg n1, if_pos ⟨c39, (hb4 c39).symm.trans c45⟩, hc9, c39]
        refine g_iload_n h dX5_fits_48 rfl ?_
        refine g_bipush h dX5_fits_49 (by decide) ?_
        refine g_icmp_ne (tgt := 58) h dX5_fits_51 (by decide) hc ⟨by omega, by omega⟩ (fun c51 => ?_) (fun c51 => ?_)
        · refine g_iconst h dX5_fits_58 rfl ?_
          refine g_zret h hq rfl dX5_fits_59 (by first | exact Or.inl rfl | exact Or.inr rfl) ⟨bl0 (fun z => by rw [hq4] at z; exact c51 (of_decide_eq_true z)), rfl⟩
        · refine g_iconst h dX5_fits_54 rfl ?_
          refine g_goto (tgt := 59) h dX5_fits_55 (by decide) ?_
          refine g_zret h hq rfl dX5_fits_59 (by first | exact Or.inl rfl | exact Or.inr rfl) ⟨bl1 (by rw [hq4]; exact decide_eq_true c51), rfl⟩
  refine g_iload_n h dX5_fits_0 rfl ?_
  refine g_bipush h dX5_fits_1 (by decide) ?_
  refine g_icmp_lt (tgt := 8) h dX5_fits_3 (by decide) ⟨by omega, by omega⟩ ⟨by omega, by omega⟩ (fun c3 => ?_) (fun c3 => ?_)
  · refine g_iload_n h dX5_fits_8 rfl ?_
    refine g_bipush h dX5_fits_9 (by decide) ?_
    refine g_icmp_lt (tgt := 37) h dX5_fits_11 (by decide) ⟨by omega, by omega⟩ ⟨by omega, by omega⟩ (fun c11 => ?_) (fun c11 => ?_)
    · exact J37 (by omega) (by omega)
    · refine g_iload_n h dX5_fits_14 rfl ?_
      refine g_bipush h dX5_fits_15 (by decide) ?_
      refine g_irem h dX5_fits_17 (by omega) (by omega) (by omega) (by omega) ?_
      refine g_iconst h dX5_fits_18 rfl ?_
      refine g_icmp_ne (tgt := 37) h dX5_fits_19 (by decide) ⟨by omega, by omega⟩ ⟨by omega, by omega⟩ (fun c19 => ?_) (fun c19 => ?_)
      · exact J37 (by omega) (by omega)
      · refine g_iload_n h dX5_fits_22 rfl ?_
        refine g_sI h (c_X5_kindOf _ _ hc) (by decide) lm_RX5_21 dX5_fits_23 rfl (Nat.le_of_ble_eq_true rfl) (fun z23 s23 p23 => ?_)
        obtain ⟨e23, r23⟩ := p23; subst e23; replace r23 := Eq.symm r23; subst r23
        have hk := qKd_rng c
        have hq1 := qFt_k (tx := tx) (p := p) (by omega) ⟨by omega, c19⟩
        rw [← hc9] at hq1
        refine g_bipush h dX5_fits_26 (by decide) ?_
        refine g_icmp_eq (tgt := 35) h dX5_fits_28 (by decide) ⟨by omega, by omega⟩ ⟨by omega, by omega⟩ (fun c28 => ?_) (fun c28 => ?_)
        · refine g_iconst h dX5_fits_35 rfl ?_
          refine g_zret h hq rfl dX5_fits_36 (by first | exact Or.inl rfl | exact Or.inr rfl) ⟨bl0 (fun z => qKd_no.mp c28 (hq1.mp z)), rfl⟩
        · refine g_iconst h dX5_fits_31 rfl ?_
          refine g_goto (tgt := 36) h dX5_fits_32 (by decide) ?_
          refine g_zret h hq rfl dX5_fits_36 (by first | exact Or.inl rfl | exact Or.inr rfl) ⟨bl1 (hq1.mpr (Decidable.byContradiction fun z => c28 (qKd_no.mpr z))), rfl⟩
  · refine g_iconst h dX5_fits_6 rfl ?_
    refine g_zret h hq rfl dX5_fits_7 (Or.inl rfl) ⟨bl0 (fun z => by unfold qFt at z; rw [if_pos (by omega)] at z; cases z), rfl⟩
set_option maxRecDepth 100000 in
set_option maxHeartbeats 2000000 in
theorem lp_X5_firstFault {x : mX} {l : Launch} {D : va_G} {cs : mC} {ad : Int → Nat} {post : Int → mS → Prop} (h : mOk x l M_X5_firstFault 7 (gX D cs ad)) (hq : rI x (gX D cs ad) post) {σ : mS} {k i n : Int} {tx : Int → Int} (ht : xTx σ k i n tx) (hx : ∀ p : Int, 0 ≤ p → p < n → i32 (tx p)) (hp1 : qTo tx n → post (-9) σ) (hp2 : ¬ qTo tx n → post (qFf tx n) σ) : ∀ (g : Nat) (p : Int), 0 ≤ p → p ≤ n → n - p < g → qGd tx p → mG x 2 [(0, .ref (ad (16 + k))), (1, mI i), (2, mI n), (3, mI p)] [] σ := by
  obtain ⟨⟨k0, k1, i0, n0⟩, t2, t3, t4⟩ := ht
  intro g
  induction g with
  | zero => intro j a b c; omega
  | succ g ih =>
    intro p p0 pn hg hg9
    refine g_iload_n h dX5_firstFault_2 rfl ?_
    refine g_iload_n h dX5_firstFault_3 rfl ?_
    refine g_icmp_ge (tgt := 52) h dX5_firstFault_4 (by decide) ⟨by omega, by omega⟩ ⟨by omega, by omega⟩ (fun c4 => ?_) (fun c4 => ?_)
    · have en : p = n := by omega
      subst en
      have ef : qFf tx p = p := qFf_is p0 (by omega) hg9 (Or.inl rfl)
      refine g_iload_n h dX5_firstFault_52 rfl ?_
      refine g_bipush h dX5_firstFault_53 (by decide) ?_
      refine g_icmp_lt (tgt := 69) h dX5_firstFault_55 (by decide) ⟨by omega, by omega⟩ ⟨by omega, by omega⟩ (fun c55 => ?_) (fun c55 => ?_)
      · refine g_iconst h dX5_firstFault_69 rfl ?_
        refine g_istore_n h dX5_firstFault_70 (by decide) rfl ?_
        refine g_iload_n h dX5_firstFault_71 rfl ?_
        refine g_if_eq (tgt := 80) h dX5_firstFault_72 (by decide) ⟨by omega, by omega⟩ (fun c72 => ?_) (fun c72 => ?_)
        · refine g_iload_n h dX5_firstFault_80 rfl ?_
          refine g_iret h hq rfl dX5_firstFault_81 ?_
          first | omega | exact hp1 ⟨ef, by omega, by omega⟩ | (have g9 := hp2 (fun z => by omega); rwa [ef] at g9)
        · refine g_bipush h dX5_firstFault_75 (by decide) ?_
          refine g_goto (tgt := 81) h dX5_firstFault_77 (by decide) ?_
          refine g_iret h hq rfl dX5_firstFault_81 ?_
          first | omega | exact hp1 ⟨ef, by omega, by omega⟩ | (have g9 := hp2 (fun z => by omega); rwa [ef] at g9)
      · refine g_iload_n h dX5_firstFault_58 rfl ?_
        refine g_bipush h dX5_firstFault_59 (by decide) ?_
        refine g_irem h dX5_firstFault_61 (by omega) (by omega) (by omega) (by omega) ?_
        refine g_if_ne (tgt := 69) h dX5_firstFault_62 (by decide) ⟨by omega, by omega⟩ (fun c62 => ?_) (fun c62 => ?_)
        · refine g_iconst h dX5_firstFault_69 rfl ?_
          refine g_istore_n h dX5_firstFault_70 (by decide) rfl ?_
          refine g_iload_n h dX5_firstFault_71 rfl ?_
          refine g_if_eq (tgt := 80) h dX5_firstFault_72 (by decide) ⟨by omega, by omega⟩ (fun c72 => ?_) (fun c72 => ?_)
          · refine g_iload_n h dX5_firstFault_80 rfl ?_
            refine g_iret h hq rfl dX5_firstFault_81 ?_
            first | omega | exact hp1 ⟨ef, by omega, by omega⟩ | (have g9 := hp2 (fun z => by omega); rwa [ef] at g9)
          · refine g_bipush h dX5_firstFault_75 (by decide) ?_
            refine g_goto (tgt := 81) h dX5_firstFault_77 (by decide) ?_
            refine g_iret h hq rfl dX5_firstFault_81 ?_
            first | omega | exact hp1 ⟨ef, by omega, by omega⟩ | (have g9 := hp2 (fun z => by omega); rwa [ef] at g9)
        · refine g_iconst h dX5_firstFault_65 rfl ?_
          refine g_goto (tgt := 70) h dX5_firstFault_66 (by decide) ?_
          refine g_istore_n h dX5_firstFault_70 (by decide) rfl ?_
          refine g_iload_n h dX5_firstFault_71 rfl ?_
          refine g_if_eq (tgt := 80) h dX5_firstFault_72 (by decide) ⟨by omega, by omega⟩ (fun c72 => ?_) (fun c72 => ?_)
          · refine g_iload_n h dX5_firstFault_80 rfl ?_
            refine g_iret h hq rfl dX5_firstFault_81 ?_
            first | omega | exact hp1 ⟨ef, by omega, by omega⟩ | (have g9 := hp2 (fun z => by omega); rwa [ef] at g9)
          · refine g_bipush h dX5_firstFault_75 (by decide) ?_
            refine g_goto (tgt := 81) h dX5_firstFault_77 (by decide) ?_
            refine g_iret h hq rfl dX5_firstFault_81 ?_
            first | omega | exact hp1 ⟨ef, by omega, by omega⟩ | (have g9 := hp2 (fun z => by omega); rwa [ef] at g9)
    · have J25 : ∀ b9 : Int, i32 b9 → (p = 4 → b9 = tx 3) → mG x 25 [(0, .ref (ad (16 + k))), (1, mI i), (2, mI n), (3, mI p)] [mI b9] σ := by
        intro b9 hb9 hb4
        refine g_istore h dX5_firstFault_25 (by decide) rfl ?_
        refine g_iload_n h dX5_firstFault_27 rfl ?_
        refine g_aload_n h dX5_firstFault_28 rfl ?_
        refine gxS_cells h (by omega) (by omega) dX5_firstFault_29 lf_RX5_9 ?_
        refine g_iload_n h dX5_firstFault_32 rfl ?_
        refine g_iload_n h dX5_firstFault_33 rfl ?_
        refine g_iadd h dX5_firstFault_34 ?_
        refine lx_cells h (by omega) (by omega) dX5_firstFault_35 (by omega) (by omega) ?_
        refine g_val (b := tx p) (t4 p p0 (by omega)) ?_
        refine g_iload h dX5_firstFault_36 rfl ?_
        refine g_sI h (c_X5_fits _ p (tx p) b9 tx (hx p p0 (by omega)) hb9 p0 (by omega) rfl hb4) (by decide) lm_RX5_15 dX5_firstFault_38 rfl (Nat.le_of_ble_eq_true rfl) (fun z38 s38 p38 => ?_)
        obtain ⟨e38, r38⟩ := p38; subst e38; replace r38 := Eq.symm r38; subst r38
        refine g_ifb_ne (tgt := 46) h dX5_firstFault_41 (by decide)  (fun c41 => ?_) (fun c41 => ?_)
        · refine g_iinc h dX5_firstFault_46 rfl (by decide) rfl ?_
          refine g_goto (tgt := 2) h dX5_firstFault_49 (by decide) ?_
          refine g_lv (lv' := [(0, .ref (ad (16 + k))), (1, mI i), (2, mI n), (3, mI (p + 1))]) rfl ?_
          exact ih (p + 1) (by omega) (by omega) (by omega) (hg9.next c41)
        · refine g_iload_n h dX5_firstFault_44 rfl ?_
          refine g_iret h hq rfl dX5_firstFault_45 (by
            have e : qFf tx n = p := qFf_is p0 (by omega) hg9 (Or.inr (by simpa using c41))
            have g9 := hp2 (fun z => by omega)
            rwa [e] at g9)
      refine g_iload_n h dX5_firstFault_7 rfl ?_
      refine g_if_ne (tgt := 15) h dX5_firstFault_8 (by decide) ⟨by omega, by omega⟩ (fun c8 => ?_) (fun c8 => ?_)
      · refine g_aload_n h dX5_firstFault_15 rfl ?_
        refine gxS_cells h (by omega) (by omega) dX5_firstFault_16 lf_RX5_9 ?_
        refine g_iload_n h dX5_firstFault_19 rfl ?_
        refine g_iload_n h dX5_firstFault_20 rfl ?_
        refine g_iadd h dX5_firstFault_21 ?_
        refine g_iconst h dX5_firstFault_22 rfl ?_
        refine g_isub h dX5_firstFault_23 ?_
        refine lx_cells h (by omega) (by omega) dX5_firstFault_24 (by omega) (by omega) ?_
        exact J25 _ (by have := hx (p - 1) (by omega) (by omega); rw [← t4 (p - 1) (by omega) (by omega), show i + (p - 1) = i + p - 1 by omega] at this; exact this) (fun z => by rw [← t4 3 (by omega) (by omega), show i + p - 1 = i + 3 by omega])
      · refine g_iconst h dX5_firstFault_11 rfl ?_
        refine g_goto (tgt := 25) h dX5_firstFault_12 (by decide) ?_
        exact J25 _ ⟨by omega, by omega⟩ (fun z => by omega)
set_option maxRecDepth 100000 in
set_option maxHeartbeats 2000000 in
theorem c_X5_firstFault {l : Launch} {D : va_G} {cs : mC} {ad : Int → Nat} (σ : mS) (k i n : Int) (tx : Int → Int) (ht : xTx σ k i n tx) (hx : ∀ p : Int, 0 ≤ p → p < n → i32 (tx p)) : CI l (gX D cs ad) M_X5_firstFault 7 [.ref (ad (16 + k)), mI i, mI n] σ (fun z s => (qTo tx n ∧ z = -9 ∧ s = σ) ∨ (¬ qTo tx n ∧ z = qFf tx n ∧ s = σ)) := by
  refine CI.of (by decide) (Nat.le_of_ble_eq_true rfl) (fun x h hq => ?_)
  show mG x 0 [(0, .ref (ad (16 + k))), (1, mI i), (2, mI n)] [] σ
  refine g_iconst h dX5_firstFault_0 rfl ?_
  refine g_istore_n h dX5_firstFault_1 (by decide) rfl ?_
  exact lp_X5_firstFault h hq ht hx (fun z => Or.inl ⟨z, rfl, rfl⟩) (fun z => Or.inr ⟨z, rfl, rfl⟩) (n.toNat + 1) 0 (by omega) ht.1.2.2.2 (by omega) (fun q a b => by omega)
