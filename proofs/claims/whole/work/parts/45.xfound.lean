/-! ===== the class founds a council ===== -/
theorem xZ_iff {a b : Int} (h : xV a b) (e : xC a b = 3) : a = 6 ∧ xS a b = b := by
  have g := xinv h
  rw [e] at g
  have g1 : xA 3 (xS a b) = 6 := rfl
  have g2 : xB 3 (xS a b) = xS a b := rfl
  exact ⟨g.1.symm.trans g1, g2.symm.trans g.2⟩
theorem vX_zr3 (s : mS) : vX (xZr s 3 110) = fun a b => if a = 6 then 0 else vX s a b := by
  funext a b
  by_cases g : xV a b
  · rw [vX_at _ g]
    by_cases e : xC a b = 3
    · obtain ⟨e1, e2⟩ := xZ_iff g e
      rw [if_pos e1]
      unfold xZr
      rw [if_pos (by omega)]
    · have a6 : ¬ a = 6 := fun z => e (by rw [z]; rfl)
      rw [if_neg a6, vX_at _ g]
      unfold xZr
      rw [if_neg (fun z => e z.1)]
  · unfold vX
    rw [if_neg g, if_neg g]
    by_cases a6 : a = 6
    · rw [if_pos a6]
    · rw [if_neg a6]
/-- the first bills are as the text has them -/
def qBs (τ : mS) (tx : Int → Int) (j : Int) : mS := fun a b => if 1 ≤ a ∧ a ≤ 5 ∧ 0 ≤ b ∧ b < j then qBv tx b (a - 1) else τ a b
theorem qBs_0 (τ : mS) (tx : Int → Int) : qBs τ tx 0 = τ := by
  funext a b
  unfold qBs
  rw [if_neg (by omega)]
theorem qBs_next (τ : mS) (tx : Int → Int) {b : Int} (b0 : 0 ≤ b) : mUp (mUp (mUp (mUp (mUp (qBs τ tx b) 1 b (qBv tx b 0)) 2 b (qBv tx b 1)) 3 b (qBv tx b 2)) 4 b (qBv tx b 3)) 5 b (qBv tx b 4) = qBs τ tx (b + 1) := by
  funext a i
  by_cases e : 1 ≤ a ∧ a ≤ 5 ∧ i = b
  · obtain ⟨e1, e2, e3⟩ := e
    subst e3
    have r : qBs τ tx (i + 1) a i = qBv tx i (a - 1) := by unfold qBs; rw [if_pos (by omega)]
    rw [r]
    rcases (show a = 1 ∨ a = 2 ∨ a = 3 ∨ a = 4 ∨ a = 5 by omega) with q | q | q | q | q <;> subst q <;> simp [mUp]
  · rw [mUp_ne _ _ (by omega), mUp_ne _ _ (by omega), mUp_ne _ _ (by omega), mUp_ne _ _ (by omega), mUp_ne _ _ (by omega)]
    unfold qBs
    by_cases g : 1 ≤ a ∧ a ≤ 5 ∧ 0 ≤ i ∧ i < b
    · rw [if_pos g, if_pos (by omega)]
    · rw [if_neg g, if_neg (by omega)]
/-- the sky as the text has it -/
def xSk (σ : mS) (tx : Int → Int) : mS := xZr (mUp (mUp (mUp (mUp σ 2 2 (10 * (tx 1 - 48) + (tx 2 - 48))) 2 3 (10 * (tx 3 - 48) + (tx 4 - 48))) 2 4 (tx 5 - 48)) 2 1 0) 3 110
def xBl (σ : mS) (tx : Int → Int) (b : Int) : mS := mUp (mUp (mUp (mUp (mUp σ (5 + b) 0 (qBv tx b 0)) (5 + b) 1 (qBv tx b 1)) (5 + b) 2 (qBv tx b 2)) (5 + b) 3 (qBv tx b 3)) (5 + b) 4 (qBv tx b 4)
theorem vX_bl (σ : mS) (tx : Int → Int) {b : Int} (b0 : 0 ≤ b) (b1 : b < 6) : vX (xBl σ tx b) = mUp (mUp (mUp (mUp (mUp (vX σ) 1 b (qBv tx b 0)) 2 b (qBv tx b 1)) 3 b (qBv tx b 2)) 4 b (qBv tx b 3)) 5 b (qBv tx b 4) := by
  unfold xBl
  rw [vX_up_b _ _ (by omega) (by omega) b0 b1, vX_up_b _ _ (by omega) (by omega) b0 b1, vX_up_b _ _ (by omega) (by omega) b0 b1, vX_up_b _ _ (by omega) (by omega) b0 b1, vX_up_b _ _ (by omega) (by omega) b0 b1]
  rfl
theorem xTx.bl {s : mS} {k i n : Int} {tx tx' : Int → Int} (h : xTx s k i n tx) {b : Int} (b1 : b < 6) : xTx (xBl s tx' b) k i n tx := ((((h.up _ _ (by omega)).up _ _ (by omega)).up _ _ (by omega)).up _ _ (by omega)).up _ _ (by omega)
theorem vX_up_upper (σ : mS) (v : Int) : vX (mUp σ 2 3 v) = mUp (vX σ) 0 1 v := vX_up σ (a := 0) (b := 1) v (by omega)
theorem vX_up_lower (σ : mS) (v : Int) : vX (mUp σ 2 4 v) = mUp (vX σ) 0 2 v := vX_up σ (a := 0) (b := 2) v (by omega)
theorem vX_fo (σ : mS) (tx : Int → Int) {j : Int} (j6 : j ≤ 6) : mUp (qBs (vX (mUp (mUp (xSk σ tx) 1 3 (tx 6 - 48)) 1 2 j)) tx j) 0 6 0 = qNc (vX σ) tx j := by
  unfold xSk
  rw [vX_up_count, vX_up_span, vX_zr3, vX_up_nights, vX_up_lower, vX_up_upper, vX_up_begins]
  funext a b
  by_cases a0 : a = 0
  · subst a0
    rcases (show b = 0 ∨ b = 1 ∨ b = 2 ∨ b = 3 ∨ b = 4 ∨ b = 5 ∨ b = 6 ∨ (¬ b = 0 ∧ ¬ b = 1 ∧ ¬ b = 2 ∧ ¬ b = 3 ∧ ¬ b = 4 ∧ ¬ b = 5 ∧ ¬ b = 6) by omega) with q | q | q | q | q | q | q | ⟨q0, q1, q2, q3, q4, q5, q6⟩
    · subst q; simp [qNc, qBs, mUp]
    · subst q; simp [qNc, qBs, mUp]
    · subst q; simp [qNc, qBs, mUp]
    · subst q; simp [qNc, qBs, mUp]
    · subst q; simp [qNc, qBs, mUp]
    · subst q; simp [qNc, qBs, mUp]
    · subst q; simp [qNc, qBs, mUp]
    · simp [qNc, qBs, mUp, q0, q1, q2, q3, q4, q5, q6]
  · simp [qNc, qBs, mUp, a0]
set_option maxRecDepth 100000 in
set_option maxHeartbeats 2000000 in
theorem lp_X4_read {x : mX} {l : Launch} {D : va_G} {cs : mC} {ad : Int → Nat} {post : mS → Prop} (h : mOk x l M_X4_read 3 (gX D cs ad)) (hq : rV x (gX D cs ad) post) {s : mS} {k i : Int} (hp : post (xZr s 3 110)) : ∀ (g : Nat) (d : Int), 0 ≤ d → d ≤ 110 → 110 - d < g → mG x 40 [(0, .ref (ad 2)), (1, .ref (ad (16 + k))), (2, mI i), (3, mI d)] [] (xZr s 3 d) := by
  intro g
  induction g with
  | zero => intro j a b c; omega
  | succ g ih =>
    intro d d0 d1 hg
    refine g_iload_n h dX4_read_40 rfl ?_
    refine g_bipush h dX4_read_41 (by decide) ?_
    refine g_icmp_gt (tgt := 59) h dX4_read_43 (by decide) ⟨by omega, by omega⟩ ⟨by omega, by omega⟩ (fun c43 => ?_) (fun c43 => ?_)
    · have e : d = 110 := by omega
      subst e
      refine g_vret h hq rfl dX4_read_59 hp
    · refine g_aload_n h dX4_read_46 rfl ?_
      refine gxK_clouded h dX4_read_47 lf_RX4_9 ?_
      refine g_iload_n h dX4_read_50 rfl ?_
      refine g_iconst h dX4_read_51 rfl ?_
      refine sx_nights h dX4_read_52 (by omega) (by omega) (Or.inl rfl) ?_
      refine g_sta (xZr_next s d0) ?_
      refine g_iinc h dX4_read_53 rfl (by decide) rfl ?_
      refine g_goto (tgt := 40) h dX4_read_56 (by decide) ?_
      exact ih (d + 1) (by omega) (by omega) (by omega)
set_option maxRecDepth 100000 in
set_option maxHeartbeats 2000000 in
theorem c_X4_read {l : Launch} {D : va_G} {cs : mC} {ad : Int → Nat} (σ : mS) (k i n : Int) (tx : Int → Int) (ht : xTx σ k i n tx) (n7 : 7 ≤ n) : CV l (gX D cs ad) M_X4_read 3 [.ref (ad 2), .ref (ad (16 + k)), mI i] σ (fun s => s = xSk σ tx) := by
  refine CV.of (by decide) (Nat.le_of_ble_eq_true rfl) (fun x h hq => ?_)
  show mG x 0 [(0, .ref (ad 2)), (1, .ref (ad (16 + k))), (2, mI i)] [] σ
  have t1 := ht.up 2 (10 * (tx 1 - 48) + (tx 2 - 48)) (show (2 : Int) < 16 by omega)
  have t2 := t1.up 3 (10 * (tx 3 - 48) + (tx 4 - 48)) (show (2 : Int) < 16 by omega)
  refine g_aload_n h dX4_read_0 rfl ?_
  refine g_aload_n h dX4_read_1 rfl ?_
  refine g_iload_n h dX4_read_2 rfl ?_
  refine g_iconst h dX4_read_3 rfl ?_
  refine g_iadd h dX4_read_4 ?_
  refine g_sI h (c_X5_twoDigits _ k i n 1 _ tx ht (by omega) (by omega) rfl) (by decide) lm_RX4_15 dX4_read_5 rfl (Nat.le_of_ble_eq_true rfl) (fun z5 s5 p5 => ?_)
  obtain ⟨e5, r5⟩ := p5; subst e5; replace r5 := Eq.symm r5; subst r5
  refine g_val (b := 10 * (tx 1 - 48) + (tx 2 - 48)) rfl ?_
  refine pxK_begins h dX4_read_8 lf_RX4_21 ?_
  refine g_aload_n h dX4_read_11 rfl ?_
  refine g_aload_n h dX4_read_12 rfl ?_
  refine g_iload_n h dX4_read_13 rfl ?_
  refine g_iconst h dX4_read_14 rfl ?_
  refine g_iadd h dX4_read_15 ?_
  refine g_sI h (c_X5_twoDigits _ k i n 3 _ tx t1 (by omega) (by omega) rfl) (by decide) lm_RX4_15 dX4_read_16 rfl (Nat.le_of_ble_eq_true rfl) (fun z16 s16 p16 => ?_)
  obtain ⟨e16, r16⟩ := p16; subst e16; replace r16 := Eq.symm r16; subst r16
  refine g_val (b := 10 * (tx 3 - 48) + (tx 4 - 48)) rfl ?_
  refine pxK_upper h dX4_read_19 lf_RX4_25 ?_
  refine g_aload_n h dX4_read_22 rfl ?_
  refine g_aload_n h dX4_read_23 rfl ?_
  refine g_iload_n h dX4_read_24 rfl ?_
  refine g_iconst h dX4_read_25 rfl ?_
  refine g_iadd h dX4_read_26 ?_
  refine g_sI h (c_X5_digit _ k i n 5 _ tx t2 (by omega) (by omega) rfl) (by decide) lm_RX4_28 dX4_read_27 rfl (Nat.le_of_ble_eq_true rfl) (fun z27 s27 p27 => ?_)
  obtain ⟨e27, r27⟩ := p27; subst e27; replace r27 := Eq.symm r27; subst r27
  refine pxK_lower h dX4_read_30 lf_RX4_31 ?_
  refine g_aload_n h dX4_read_33 rfl ?_
  refine g_iconst h dX4_read_34 rfl ?_
  refine pxK_cloudedNights h dX4_read_35 lf_RX4_34 ?_
  refine g_iconst h dX4_read_38 rfl ?_
  refine g_istore_n h dX4_read_39 (by decide) rfl ?_
  refine g_sta (xZr_0 _ 3).symm ?_
  exact lp_X4_read h hq rfl 111 0 (by omega) (by omega) (by omega)
set_option maxRecDepth 100000 in
set_option maxHeartbeats 2000000 in
theorem c_X0_read {l : Launch} {D : va_G} {cs : mC} {ad : Int → Nat} (σ : mS) (k i n b q : Int) (tx : Int → Int) (ht : xTx σ k i n tx) (b0 : 0 ≤ b) (b6 : b < 6) (hn : 7 * b + 14 ≤ n) (hq9 : q = i + (7 * b + 7)) (hx : i32 (tx (7 * b + 8))) : CV l (gX D cs ad) M_X0_read 3 [.ref (ad (5 + b)), .ref (ad (16 + k)), mI q] σ (fun s => s = xBl σ tx b) := by
  refine CV.of (by decide) (Nat.le_of_ble_eq_true rfl) (fun x h hq => ?_)
  show mG x 0 [(0, .ref (ad (5 + b))), (1, .ref (ad (16 + k))), (2, mI q)] [] σ
  have t0 := ht
  obtain ⟨⟨k0, k1, i0, n0⟩, u2, u3, u4⟩ := ht
  have t1 := t0.up 0 (qBv tx b 0) (show 5 + b < 16 by omega)
  have t2 := t1.up 1 (qBv tx b 1) (show 5 + b < 16 by omega)
  have t3 := t2.up 2 (qBv tx b 2) (show 5 + b < 16 by omega)
  have t4 := t3.up 3 (qBv tx b 3) (show 5 + b < 16 by omega)
  refine g_aload_n h dX0_read_0 rfl ?_
  refine g_aload_n h dX0_read_1 rfl ?_
  refine g_iload_n h dX0_read_2 rfl ?_
  refine g_iconst h dX0_read_3 rfl ?_
  refine g_iadd h dX0_read_4 ?_
  refine g_vI h (c_X3_has _ _ _ (by omega) (by omega) ⟨by omega, by omega⟩ (by omega) (by omega)) (by decide) lm_RX0_9 (rvS rfl (by omega) (by omega)) dX0_read_5 rfl (Nat.le_of_ble_eq_true rfl) (fun z5 s5 p5 => ?_)
  obtain ⟨e5, r5⟩ := p5; subst e5; replace r5 := Eq.symm r5; subst r5
  refine g_ifb_eq (tgt := 25) h dX0_read_8 (by decide)  (fun c8 => ?_) (fun c8 => ?_)
  · exact absurd ⟨by omega, by omega⟩ c8
  · refine g_aload_n h dX0_read_11 rfl ?_
    refine gxS_cells h (by omega) (by omega) dX0_read_12 lf_RX0_15 ?_
    refine g_iload_n h dX0_read_15 rfl ?_
    refine g_iconst h dX0_read_16 rfl ?_
    refine g_iadd h dX0_read_17 ?_
    refine lx_cells h (by omega) (by omega) dX0_read_18 (by omega) (by omega) ?_
    refine g_val (b := tx (7 * b + 8)) (by rw [← u4 (7 * b + 8) (by omega) (by omega), show i + (7 * b + 8) = q + 1 by omega]) ?_
    refine g_sI h (c_X5_kindOf _ _ hx) (by decide) lm_RX0_19 dX0_read_19 rfl (Nat.le_of_ble_eq_true rfl) (fun z19 s19 p19 => ?_)
    obtain ⟨e19, r19⟩ := p19; subst e19; replace r19 := Eq.symm r19; subst r19
    refine g_goto (tgt := 26) h dX0_read_22 (by decide) ?_
    refine g_val (b := qBv tx b 0) rfl ?_
    refine pxB_kind h (by omega) (by omega) dX0_read_26 lf_RX0_25 ?_
    refine g_aload_n h dX0_read_29 rfl ?_
    refine g_aload_n h dX0_read_30 rfl ?_
    refine g_iload_n h dX0_read_31 rfl ?_
    refine g_iconst h dX0_read_32 rfl ?_
    refine g_iadd h dX0_read_33 ?_
    refine g_sI h (c_X5_twoDigits _ k i n (7 * b + 9) _ tx t1 (by omega) (by omega) (by omega)) (by decide) lm_RX0_31 dX0_read_34 rfl (Nat.le_of_ble_eq_true rfl) (fun z34 s34 p34 => ?_)
    obtain ⟨e34, r34⟩ := p34; subst e34; replace r34 := Eq.symm r34; subst r34
    refine g_val (b := qBv tx b 1) (by unfold qBv; rw [if_neg (by omega), if_pos rfl, show 7 * b + 9 + 1 = 7 * b + 10 by omega]) ?_
    refine pxB_day h (by omega) (by omega) dX0_read_37 lf_RX0_35 ?_
    refine g_aload_n h dX0_read_40 rfl ?_
    refine g_aload_n h dX0_read_41 rfl ?_
    refine g_iload_n h dX0_read_42 rfl ?_
    refine g_iconst h dX0_read_43 rfl ?_
    refine g_iadd h dX0_read_44 ?_
    refine g_sI h (c_X5_digit _ k i n (7 * b + 11) _ tx t2 (by omega) (by omega) (by omega)) (by decide) lm_RX0_38 dX0_read_45 rfl (Nat.le_of_ble_eq_true rfl) (fun z45 s45 p45 => ?_)
    obtain ⟨e45, r45⟩ := p45; subst e45; replace r45 := Eq.symm r45; subst r45
    refine g_val (b := qBv tx b 2) (by unfold qBv; rw [if_neg (by omega), if_neg (by omega), show 7 * b + 9 + 2 = 7 * b + 11 by omega]) ?_
    refine pxB_needs h (by omega) (by omega) dX0_read_48 lf_RX0_41 ?_
    refine g_aload_n h dX0_read_51 rfl ?_
    refine g_aload_n h dX0_read_52 rfl ?_
    refine g_iload_n h dX0_read_53 rfl ?_
    refine g_iconst h dX0_read_54 rfl ?_
    refine g_iadd h dX0_read_55 ?_
    refine g_sI h (c_X5_digit _ k i n (7 * b + 12) _ tx t3 (by omega) (by omega) (by omega)) (by decide) lm_RX0_38 dX0_read_56 rfl (Nat.le_of_ble_eq_true rfl) (fun z56 s56 p56 => ?_)
    obtain ⟨e56, r56⟩ := p56; subst e56; replace r56 := Eq.symm r56; subst r56
    refine g_val (b := qBv tx b 3) (by unfold qBv; rw [if_neg (by omega), if_neg (by omega), show 7 * b + 9 + 3 = 7 * b + 12 by omega]) ?_
    refine pxB_names h (by omega) (by omega) dX0_read_59 lf_RX0_44 ?_
    refine g_aload_n h dX0_read_62 rfl ?_
    refine g_aload_n h dX0_read_63 rfl ?_
    refine g_iload_n h dX0_read_64 rfl ?_
    refine g_bipush h dX0_read_65 (by decide) ?_
    refine g_iadd h dX0_read_67 ?_
    refine g_sI h (c_X5_digit _ k i n (7 * b + 13) _ tx t4 (by omega) (by omega) (by omega)) (by decide) lm_RX0_38 dX0_read_68 rfl (Nat.le_of_ble_eq_true rfl) (fun z68 s68 p68 => ?_)
    obtain ⟨e68, r68⟩ := p68; subst e68; replace r68 := Eq.symm r68; subst r68
    refine g_val (b := qBv tx b 4) (by unfold qBv; rw [if_neg (by omega), if_neg (by omega), show 7 * b + 9 + 4 = 7 * b + 13 by omega]) ?_
    refine pxB_lasts h (by omega) (by omega) dX0_read_71 lf_RX0_47 ?_
    refine g_vret h hq rfl dX0_read_74 rfl
set_option maxRecDepth 100000 in
set_option maxHeartbeats 2000000 in
theorem lp_X1_found {x : mX} {l : Launch} {D : va_G} {cs : mC} {ad : Int → Nat} {post : mS → Prop} (h : mOk x l M_X1_found 4 (gX D cs ad)) (hq : rV x (gX D cs ad) post) {τ : mS} {k i n j : Int} {tx : Int → Int} (j6 : j ≤ 6) (hn : n = 7 * j + 7) (hx : ∀ p : Int, 0 ≤ p → p < n → i32 (tx p)) (hp : ∀ s : mS, vX s = qBs τ tx j → post s) : ∀ (g : Nat) (b : Int) (s : mS), 0 ≤ b → b ≤ j → j - b < g → xTx s k i n tx → s 1 2 = j → vX s = qBs τ tx b → mG x 39 [(0, .ref (ad 1)), (1, .ref (ad (16 + k))), (2, mI i), (3, mI n), (4, mI b)] [] s := by
  intro g
  induction g with
  | zero => intro b s a c d; omega
  | succ g ih =>
    intro b s b0 b1 hg ht hc hv
    have ht9 := ht
    obtain ⟨⟨k0, k1, i0, n0⟩, u2, u3, u4⟩ := ht9
    refine g_iload h dX1_found_39 rfl ?_
    refine g_aload_n h dX1_found_41 rfl ?_
    refine gxC_count h dX1_found_42 lf_RX1_45 ?_
    refine g_val (b := j) hc ?_
    refine g_icmp_ge (tgt := 74) h dX1_found_45 (by decide) ⟨by omega, by omega⟩ ⟨by omega, by omega⟩ (fun c45 => ?_) (fun c45 => ?_)
    · have e : b = j := by omega
      rw [e] at hv
      refine g_vret h hq rfl dX1_found_74 (hp s hv)
    · refine g_aload_n h dX1_found_48 rfl ?_
      refine gxC_bills h dX1_found_49 lf_RX1_20 ?_
      refine g_iload h dX1_found_52 rfl ?_
      refine lx_bills h dX1_found_54 (by omega) (by omega) ?_
      refine g_aload_n h dX1_found_55 rfl ?_
      refine g_iload_n h dX1_found_56 rfl ?_
      refine g_bipush h dX1_found_57 (by decide) ?_
      refine g_iload h dX1_found_59 rfl ?_
      refine g_iconst h dX1_found_61 rfl ?_
      refine g_iadd h dX1_found_62 ?_
      refine g_imul h dX1_found_63 ?_
      refine g_iadd h dX1_found_64 ?_
      refine g_vV h (c_X0_read _ k i n b _ tx ht b0 (by omega) (by omega) (by omega) (hx _ (by omega) (by omega))) (by decide) lm_RX1_48 (rvB rfl (by omega) (by omega)) dX1_found_65 rfl (Nat.le_of_ble_eq_true rfl) (fun s65 p65 => ?_)
      replace p65 := Eq.symm p65; subst p65
      refine g_iinc h dX1_found_68 rfl (by decide) rfl ?_
      refine g_goto (tgt := 39) h dX1_found_71 (by decide) ?_
      refine ih (b + 1) (xBl s tx b) (by omega) (by omega) (by omega) (ht.bl (by omega)) ?_ ?_
      · unfold xBl
        rw [mUp_off _ _ _ (by omega), mUp_off _ _ _ (by omega), mUp_off _ _ _ (by omega), mUp_off _ _ _ (by omega), mUp_off _ _ _ (by omega)]
        exact hc
      · rw [vX_bl _ _ b0 (by omega), hv, qBs_next _ _ b0]
set_option maxRecDepth 100000 in
set_option maxHeartbeats 2000000 in
theorem c_X1_found {l : Launch} {D : va_G} {cs : mC} {ad : Int → Nat} (σ : mS) (k i n j : Int) (tx : Int → Int) (ht : xTx σ k i n tx) (j1 : 1 ≤ j) (j6 : j ≤ 6) (hn : n = 7 * j + 7) (hx : ∀ p : Int, 0 ≤ p → p < n → i32 (tx p)) : CV l (gX D cs ad) M_X1_found 4 [.ref (ad 1), .ref (ad (16 + k)), mI i, mI n] σ (fun s => vX s = qBs (vX (mUp (mUp (xSk σ tx) 1 3 (tx 6 - 48)) 1 2 j)) tx j) := by
  refine CV.of (by decide) (Nat.le_of_ble_eq_true rfl) (fun x h hq => ?_)
  show mG x 0 [(0, .ref (ad 1)), (1, .ref (ad (16 + k))), (2, mI i), (3, mI n)] [] σ
  have t1 : xTx (xSk σ tx) k i n tx := ((((ht.up _ _ (by omega)).up _ _ (by omega)).up _ _ (by omega)).up _ _ (by omega)).zr _ (by omega)
  have ht9 := ht
  obtain ⟨⟨k0, k1, i0, n0⟩, u2, u3, u4⟩ := ht9
  refine g_aload_n h dX1_found_0 rfl ?_
  refine gxC_sky h dX1_found_1 lf_RX1_12 ?_
  refine g_aload_n h dX1_found_4 rfl ?_
  refine g_iload_n h dX1_found_5 rfl ?_
  refine g_vV h (c_X4_read _ k i n tx ht (by omega)) (by decide) lm_RX1_25 (rvK rfl) dX1_found_6 rfl (Nat.le_of_ble_eq_true rfl) (fun s6 p6 => ?_)
  replace p6 := Eq.symm p6; subst p6
  refine g_aload_n h dX1_found_9 rfl ?_
  refine g_aload_n h dX1_found_10 rfl ?_
  refine g_iload_n h dX1_found_11 rfl ?_
  refine g_bipush h dX1_found_12 (by decide) ?_
  refine g_iadd h dX1_found_14 ?_
  refine g_sI h (c_X5_digit _ k i n 6 _ tx t1 (by omega) (by omega) rfl) (by decide) lm_RX1_29 dX1_found_15 rfl (Nat.le_of_ble_eq_true rfl) (fun z15 s15 p15 => ?_)
  obtain ⟨e15, r15⟩ := p15; subst e15; replace r15 := Eq.symm r15; subst r15
  refine pxC_watch h dX1_found_18 lf_RX1_35 ?_
  refine g_aload_n h dX1_found_21 rfl ?_
  refine g_iload_n h dX1_found_22 rfl ?_
  refine g_bipush h dX1_found_23 (by decide) ?_
  refine g_idiv h dX1_found_25 (by omega) (by omega) (by omega) (by omega) ?_
  refine g_iconst h dX1_found_26 rfl ?_
  refine g_isub h dX1_found_27 ?_
  refine g_bipush h dX1_found_28 (by decide) ?_
  refine g_min h lw_RX1_39 ⟨by omega, by omega⟩ ⟨by omega, by omega⟩ (by decide) dX1_found_30 (Nat.le_of_ble_eq_true rfl) ?_
  refine g_val (b := j) (by omega) ?_
  refine pxC_count h dX1_found_33 lf_RX1_45 ?_
  refine g_iconst h dX1_found_36 rfl ?_
  refine g_istore h dX1_found_37 (by decide) rfl ?_
  exact lp_X1_found h hq j6 hn hx (fun s hs => hs) 7 0 _ (by omega) (by omega) (by omega) ((t1.up _ _ (by omega)).up _ _ (by omega)) (mUp_eq _ _ _ _) (qBs_0 _ _).symm
set_option maxRecDepth 100000 in
set_option maxHeartbeats 2000000 in
theorem c_X7_council {l : Launch} {D : va_G} {cs : mC} {ad : Int → Nat} (σ : mS) (k l9 i n : Int) (hk9 : i32 k) (hl : i32 l9) (hi : i32 i) (hn : i32 n) (hW : qW (vX σ)) : CI l (gX D cs ad) M_X7_council 8 [.ref (ad 0), mI k, mI l9, mI i, mI n] σ (fun z s => z = sp_council (vX σ) k l9 i n ∧ vX s = ns_council (vX σ) k l9 i n) := by
  refine CI.of (by decide) (Nat.le_of_ble_eq_true rfl) (fun x h hq => ?_)
  show mG x 0 [(0, .ref (ad 0)), (1, mI k), (2, mI l9), (3, mI i), (4, mI n)] [] σ
  have hF := vX_up_fault σ 0
  have hW1 : qW (vX (mUp σ 0 4 0)) := by rw [hF]; exact qW_up0 hW 0 (by omega)
  refine g_aload_n h dX7_council_0 rfl ?_
  refine g_iconst h dX7_council_1 rfl ?_
  refine pxV_latestFault h dX7_council_2 lf_RX7_32 ?_
  refine g_iload_n h dX7_council_5 rfl ?_
  refine g_sI h (c_X7_noSheet _ _ hk9) (by decide) lm_RX7_36 dX7_council_6 rfl (Nat.le_of_ble_eq_true rfl) (fun z6 s6 p6 => ?_)
  obtain ⟨e6, r6⟩ := p6; subst e6; replace r6 := Eq.symm r6; subst r6
  refine g_ifb_eq (tgt := 14) h dX7_council_9 (by decide)  (fun c9 => ?_) (fun c9 => ?_)
  · have ck : 0 ≤ k ∧ k ≤ 3 := by omega
    refine g_iload_n h dX7_council_14 rfl ?_
    refine g_iconst h dX7_council_15 rfl ?_
    refine g_sI h (c_X7_within _ _ _ hl ⟨by omega, by omega⟩) (by decide) lm_RX7_40 dX7_council_16 rfl (Nat.le_of_ble_eq_true rfl) (fun z16 s16 p16 => ?_)
    obtain ⟨e16, r16⟩ := p16; subst e16; replace r16 := Eq.symm r16; subst r16
    refine g_ifb_ne (tgt := 25) h dX7_council_19 (by decide)  (fun c19 => ?_) (fun c19 => ?_)
    · have hk := hW.2.2.2.2.2 k (by omega) (by omega)
      have e10 := vX_so σ (show 0 ≤ k by omega) (show k < 4 by omega)
      have e11 := vX_le σ (show 0 ≤ k by omega) (show k < 4 by omega)
      rw [e10, e11] at hk
      have o1 : mUp σ 0 4 0 (16 + k) 1 = σ (16 + k) 1 := mUp_ne _ _ (by omega)
      have o2 : mUp σ 0 4 0 (16 + k) 2 = σ (16 + k) 2 := mUp_ne _ _ (by omega)
      refine g_aload_n h dX7_council_25 rfl ?_
      refine gxV_sheets h dX7_council_26 lf_RX7_27 ?_
      refine g_iload_n h dX7_council_29 rfl ?_
      refine lx_sheets h dX7_council_30 (by omega) (by omega) ?_
      refine g_astore h dX7_council_31 (by decide) rfl ?_
      refine g_aload h dX7_council_33 rfl ?_
      refine g_iload_n h dX7_council_35 rfl ?_
      refine g_iload_n h dX7_council_36 rfl ?_
      refine g_iload h dX7_council_37 rfl ?_
      refine g_vI h (c_X3_faultOfCells _ _ _ _ _ (by omega) (by omega) hl hi hn (by rw [o1]; omega) (by rw [o1]; omega) (by rw [o2]; omega) (by rw [o2]; omega)) (by decide) lm_RX7_44 (rvS rfl (by omega) (by omega)) dX7_council_39 rfl (Nat.le_of_ble_eq_true rfl) (fun z39 s39 p39 => ?_)
      obtain ⟨e39, r39⟩ := p39; subst e39; replace r39 := Eq.symm r39; subst r39
      rw [o1, o2, xAg σ ck.1 (by omega)]
      have ag := qAg_rng (vX σ) k l9 i n
      refine g_istore h dX7_council_42 (by decide) rfl ?_
      refine g_iload h dX7_council_44 rfl ?_
      refine g_if_eq (tgt := 56) h dX7_council_46 (by decide) ⟨by omega, by omega⟩ (fun c46 => ?_) (fun c46 => ?_)
      · have hin := qAg_in hW ck.1 (by omega) c46
        rw [e11] at hin
        have ht : xTx (mUp σ 0 4 0) k i n (qTx (vX σ) k i) := by
          refine ⟨⟨ck.1, by omega, hin.2.1, hin.1⟩, by rw [o2]; omega, by rw [o2]; omega, fun p p0 p1 => ?_⟩
          rw [mUp_ne _ _ (Or.inl (by omega))]
          exact (vX_ce σ ck.1 (by omega) (by omega) (by omega)).symm
        have hx : ∀ p : Int, 0 ≤ p → p < n → i32 (qTx (vX σ) k i p) := fun p p0 p1 => hk.2.2.2.2 (i + p) (by omega) (by omega)
        refine g_aload h dX7_council_56 rfl ?_
        refine g_iload_n h dX7_council_58 rfl ?_
        refine g_iload h dX7_council_59 rfl ?_
        refine g_sI h (c_X5_firstFault _ k i n _ ht hx) (by decide) lm_RX7_52 dX7_council_61 rfl (Nat.le_of_ble_eq_true rfl) (fun z61 s61 p61 => ?_)
        rcases p61 with ⟨hT, e61, r61⟩ | ⟨hT, e61, r61⟩
        · subst e61; replace r61 := Eq.symm r61; subst r61
          have hj : 1 ≤ n / 7 - 1 ∧ n / 7 - 1 ≤ 6 ∧ n = 7 * (n / 7 - 1) + 7 := by
            have h14 := hT.2.1
            have h7 := hT.2.2
            have h49 : n ≤ 49 := by
              refine Decidable.byContradiction fun z => ?_
              have hf9 : fstN (fun p => !qFt (qTx (vX σ) k i) p) n.toNat = n := hT.1
              have h8 := (fstN_sp (fun p => !qFt (qTx (vX σ) k i) p) n.toNat).2.2.1 49 (by omega) (by rw [hf9]; omega)
              have h9 : qFt (qTx (vX σ) k i) 49 = false := rfl
              rw [h9] at h8
              cases h8
            omega
          refine g_istore h dX7_council_64 (by decide) rfl ?_
          refine g_iload h dX7_council_66 rfl ?_
          refine g_bipush h dX7_council_68 (by decide) ?_
          refine g_icmp_eq (tgt := 79) h dX7_council_70 (by decide) ⟨by omega, by omega⟩ ⟨by omega, by omega⟩ (fun c70 => ?_) (fun c70 => ?_)
          · refine g_aload_n h dX7_council_79 rfl ?_
            refine gxV_council h dX7_council_80 lf_RX7_12 ?_
            refine g_aload h dX7_council_83 rfl ?_
            refine g_iload_n h dX7_council_85 rfl ?_
            refine g_iload h dX7_council_86 rfl ?_
            refine g_vV h (c_X1_found _ k i n (n / 7 - 1) _ ht hj.1 hj.2.1 hj.2.2 hx) (by decide) lm_RX7_58 (rvC rfl) dX7_council_88 rfl (Nat.le_of_ble_eq_true rfl) (fun s88 p88 => ?_)
            refine g_aload_n h dX7_council_91 rfl ?_
            refine gxV_readings h dX7_council_92 lf_RX7_21 ?_
            refine g_iconst h dX7_council_95 rfl ?_
            refine pxR_count h dX7_council_96 lf_RX7_62 ?_
            refine g_aload_n h dX7_council_99 rfl ?_
            refine gxV_council h dX7_council_100 lf_RX7_12 ?_
            have h8 : vX (mUp s88 11 3 0) = qNc (vX (mUp σ 0 4 0)) (qTx (vX σ) k i) (n / 7 - 1) := by rw [vX_up_reads, p88, vX_fo _ _ hj.2.1]
            refine gxC_count h dX7_council_103 lf_RX7_65 ?_
            refine g_val (b := n / 7 - 1) (by
              have h9 := congrArg (fun q : mS => q 0 4) h8
              exact h9) ?_
            refine g_iret h hq rfl dX7_council_106 ⟨by unfold sp_council; rw [if_neg (show ¬ ¬ (0 ≤ k ∧ k ≤ 3) from fun z => z ck), if_neg (show ¬ ¬ (0 ≤ l9 ∧ l9 ≤ 2) from fun z => z c19), if_neg (show ¬ ¬ qAg (vX σ) k l9 i n = 0 from fun z => z c46), if_pos hT], by unfold ns_council; rw [if_neg (show ¬ ¬ (0 ≤ k ∧ k ≤ 3) from fun z => z ck), if_neg (show ¬ ¬ (0 ≤ l9 ∧ l9 ≤ 2) from fun z => z c19), if_neg (show ¬ ¬ qAg (vX σ) k l9 i n = 0 from fun z => z c46), if_pos hT, h8, hF]⟩
          · exact absurd rfl c70
        · subst e61; replace r61 := Eq.symm r61; subst r61
          have hfr := fstN_sp (fun p => !qFt (qTx (vX σ) k i) p) n.toNat
          have hfq : 0 ≤ qFf (qTx (vX σ) k i) n ∧ qFf (qTx (vX σ) k i) n ≤ 60 := by unfold qFf; omega
          refine g_istore h dX7_council_64 (by decide) rfl ?_
          refine g_iload h dX7_council_66 rfl ?_
          refine g_bipush h dX7_council_68 (by decide) ?_
          refine g_icmp_eq (tgt := 79) h dX7_council_70 (by decide) ⟨by omega, by omega⟩ ⟨by omega, by omega⟩ (fun c70 => ?_) (fun c70 => ?_)
          · omega
          · refine g_bipush h dX7_council_73 (by decide) ?_
            refine g_iload h dX7_council_75 rfl ?_
            refine g_isub h dX7_council_77 ?_
            refine g_iret h hq rfl dX7_council_78 ⟨by unfold sp_council; rw [if_neg (show ¬ ¬ (0 ≤ k ∧ k ≤ 3) from fun z => z ck), if_neg (show ¬ ¬ (0 ≤ l9 ∧ l9 ≤ 2) from fun z => z c19), if_neg (show ¬ ¬ qAg (vX σ) k l9 i n = 0 from fun z => z c46), if_neg hT], by unfold ns_council; rw [if_neg (show ¬ ¬ (0 ≤ k ∧ k ≤ 3) from fun z => z ck), if_neg (show ¬ ¬ (0 ≤ l9 ∧ l9 ≤ 2) from fun z => z c19), if_neg (show ¬ ¬ qAg (vX σ) k l9 i n = 0 from fun z => z c46), if_neg hT]; exact hF⟩
      · refine g_aload_n h dX7_council_49 rfl ?_
        refine g_iload h dX7_council_50 rfl ?_
        refine g_vI h (c_X7_failed _ _) (by decide) lm_RX7_48 (rvV rfl) dX7_council_52 rfl (Nat.le_of_ble_eq_true rfl) (fun z52 s52 p52 => ?_)
        obtain ⟨e52, r52⟩ := p52; subst e52; replace r52 := Eq.symm r52; subst r52
        refine g_iret h hq rfl dX7_council_55 ⟨by unfold sp_council; rw [if_neg (show ¬ ¬ (0 ≤ k ∧ k ≤ 3) from fun z => z ck), if_neg (show ¬ ¬ (0 ≤ l9 ∧ l9 ≤ 2) from fun z => z c19), if_pos c46], by unfold ns_council; rw [if_neg (show ¬ ¬ (0 ≤ k ∧ k ≤ 3) from fun z => z ck), if_neg (show ¬ ¬ (0 ≤ l9 ∧ l9 ≤ 2) from fun z => z c19), if_pos c46, mUp_up]; exact vX_up_fault σ _⟩
    · refine g_bipush h dX7_council_22 (by decide) ?_
      refine g_iret h hq rfl dX7_council_24 ⟨by unfold sp_council; rw [if_neg (show ¬ ¬ (0 ≤ k ∧ k ≤ 3) from fun z => z ck), if_pos c19], by unfold ns_council; rw [if_neg (show ¬ ¬ (0 ≤ k ∧ k ≤ 3) from fun z => z ck), if_pos c19]; exact hF⟩
  · refine g_iconst h dX7_council_12 rfl ?_
    refine g_iret h hq rfl dX7_council_13 ⟨by unfold sp_council; rw [if_pos c9], by unfold ns_council; rw [if_pos c9]; exact hF⟩
