theorem cnt_zero {p : Int → Bool} : ∀ {n : Nat}, cntN p n = 0 → fstN p n = n
  | 0, _ => rfl
  | n + 1, h => by
    have h1 := cntN_le p n
    unfold cntN at h
    by_cases q : p (n : Int) = true
    · rw [if_pos q] at h; omega
    · rw [if_neg q] at h
      have := cnt_zero (p := p) (n := n) (by omega)
      unfold fstN
      rw [this, if_neg (by omega), if_neg q]
      omega
theorem cnt_pos {p : Int → Bool} {n : Nat} (h : ¬ cntN p n = 0) : fstN p n < n := by
  obtain ⟨g0, g1, g2, g3⟩ := fstN_sp p n
  rcases Int.lt_or_le (fstN p n) n with q | q
  · exact q
  · have e : fstN p n = n := by omega
    rw [e] at g2
    exact absurd (cnt_0 g2) h
theorem fst_next (p : Int → Bool) {k : Int} (h0 : 0 ≤ k) : fstN p (k + 1).toNat = if fstN p k.toNat < k then fstN p k.toNat else if p k then k else k + 1 := by
  rw [show (k + 1).toNat = k.toNat + 1 by omega]
  show (if fstN p k.toNat < ((k.toNat : Nat) : Int) then _ else if p ((k.toNat : Nat) : Int) then ((k.toNat : Nat) : Int) else ((k.toNat : Nat) : Int) + 1) = _
  rw [Int.toNat_of_nonneg h0]
theorem mA_day {σ : mS} (h : mWf σ) (hI : mIdl σ) {b v : Int} (b0 : 0 ≤ b) (b1 : b < 6) (v0 : 0 ≤ v) (v1 : v ≤ 99) : qAs (vM (mUp σ 5 b v)) (stM (mUp σ 5 b v)) = qAI (mUp (vM σ) 2 b v) := by
  have w := mWf_day h hI b0 b1 v0 v1
  rw [(hI.up (show ¬ (5 : Int) = 0 ∨ _ by omega)).As w.1 w.2.1, vM_up_b σ v (by omega) (by omega) b0 b1]
  rfl
set_option maxRecDepth 100000 in
set_option maxHeartbeats 2000000 in
theorem lp_X8_moved {x : mX} {l : Launch} {D : va_G} {cs : mC} {ad : Int → Nat} {post : Int → mS → Prop} (h : mOk x l M_X8_moved 5 (gM D cs ad)) (hq : rI x (gM D cs ad) post) {σ : mS} {b w : Int} (b0 : 0 ≤ b) (b1 : b < σ 0 9) (w0 : 0 ≤ w) (w1 : w ≤ 1) (hw : mWf σ) (hI : mIdl σ) (hr : mRd σ) (hp : ∀ t : mS, mSc σ t → post (if w = 0 then cntN (fun m => qAI (mUp (vM σ) 2 b m)) 100 else if fstN (fun m => qAI (mUp (vM σ) 2 b m)) 100 < 100 then fstN (fun m => qAI (mUp (vM σ) 2 b m)) 100 else -9) t) : ∀ (f : Nat) (k ma fi : Int) (s : mS), 0 ≤ k → k ≤ 100 → 100 - k < f → mSq 5 b σ s → ma = cntN (fun m => qAI (mUp (vM σ) 2 b m)) k.toNat → fi = (if fstN (fun m => qAI (mUp (vM σ) 2 b m)) k.toNat < k then fstN (fun m => qAI (mUp (vM σ) 2 b m)) k.toNat else -9) → mG x 39 [(0, .ref (ad 0)), (1, mI b), (2, mI w), (3, mI (σ 5 b)), (4, mI ma), (5, mI fi), (6, mI k)] [] s := by
  intro f
  have hn6 : σ 0 9 ≤ 6 := hw.1.2.1
  induction f with
  | zero => intro k ma fi s h0 h1 h2; omega
  | succ f ih =>
    intro k ma fi s h0 h1 h2 hs hma hfi
    have hc9 := cntN_le (fun m => qAI (mUp (vM σ) 2 b m)) k.toNat
    have hf9 := fstN_sp (fun m => qAI (mUp (vM σ) 2 b m)) k.toNat
    have hcn := cnt_next (fun m => qAI (mUp (vM σ) 2 b m)) h0
    have hfn := fst_next (fun m => qAI (mUp (vM σ) 2 b m)) h0
    have hfr : -9 ≤ fi ∧ fi ≤ 100 := by rw [hfi]; split <;> omega
    refine g_iload h dX8_moved_39 rfl ?_
    refine g_bipush h dX8_moved_41 (by decide) ?_
    refine g_icmp_ge (tgt := 84) h dX8_moved_43 (by decide) (by first | exact hR _ _ | exact ⟨by omega, by omega⟩) (by first | exact hR _ _ | exact ⟨by omega, by omega⟩) (fun c43 => ?_) (fun c43 => ?_)
    · refine g_aload_n h dX8_moved_84 rfl ?_
      refine gm_dayOf h dX8_moved_85 lf_RX8_22 ?_
      refine g_iload_n h dX8_moved_88 rfl ?_
      refine g_iload_n h dX8_moved_89 rfl ?_
      refine sm_dayOf h dX8_moved_90 b0 (by omega) ?_
      refine g_iload_n h dX8_moved_91 rfl ?_
      refine g_if_ne (tgt := 100) h dX8_moved_92 (by decide) (by first | exact hR _ _ | exact ⟨by omega, by omega⟩) (fun c92 => ?_) (fun c92 => ?_)
      · refine g_iload h dX8_moved_100 rfl ?_
        refine g_iret h hq rfl dX8_moved_102 (by
        have := hp _ (hs.back (by omega))
        rw [if_neg c92] at this
        rw [hfi, show k.toNat = 100 by omega, show k = 100 by omega]; exact this)
      · refine g_iload h dX8_moved_95 rfl ?_
        refine g_goto (tgt := 102) h dX8_moved_97 (by decide) ?_
        refine g_iret h hq rfl dX8_moved_102 (by
        have := hp _ (hs.back (by omega))
        rw [if_pos c92] at this
        rw [hma, show k.toNat = 100 by omega]; exact this)
    · refine g_aload_n h dX8_moved_46 rfl ?_
      refine gm_dayOf h dX8_moved_47 lf_RX8_22 ?_
      refine g_iload_n h dX8_moved_50 rfl ?_
      refine g_iload h dX8_moved_51 rfl ?_
      refine sm_dayOf h dX8_moved_53 b0 (by omega) ?_
      have hsc := hs.sc (by omega) k
      have wf9 := hsc.wf (mWf_day hw hI b0 (by omega) h0 (by omega))
      refine g_aload_n h dX8_moved_54 rfl ?_
      refine g_vI h (c_X8_areSo _ wf9 (mRd.sc hsc (hr.up (by omega)))) (by decide) lm_RX8_203 (rvM rfl) dX8_moved_55 rfl (Nat.le_of_ble_eq_true rfl) (fun z55 s55 p55 => ?_)
      obtain ⟨e55q, r55q⟩ := p55
      rw [hsc.view, hsc.st, mA_day hw hI b0 (by omega) h0 (by omega)] at e55q
      subst e55q
      have hq55 : mSq 5 b σ s55 := mSq.next (by omega) (hsc.tr r55q)
      have hfin : ∀ ma2 fi2 : Int, ma2 = cntN (fun m => qAI (mUp (vM σ) 2 b m)) (k + 1).toNat → fi2 = (if fstN (fun m => qAI (mUp (vM σ) 2 b m)) (k + 1).toNat < k + 1 then fstN (fun m => qAI (mUp (vM σ) 2 b m)) (k + 1).toNat else -9) → mG x 39 [(0, .ref (ad 0)), (1, mI b), (2, mI w), (3, mI (σ 5 b)), (4, mI ma2), (5, mI fi2), (6, mI (k + 1))] [] s55 := fun ma2 fi2 q1 q2 => ih (k + 1) ma2 fi2 s55 (by omega) (by omega) (by omega) hq55 q1 q2
      refine g_ifb_eq (tgt := 78) h dX8_moved_58 (by decide)  (fun c58 => ?_) (fun c58 => ?_)
      · have e1 : bl (qAI (mUp (vM σ) 2 b k) = true) = 0 := (bl0 c58).symm
        refine g_iinc h dX8_moved_78 rfl (by decide) rfl ?_
        refine g_goto (tgt := 39) h dX8_moved_81 (by decide) ?_
        refine hfin _ _ (by rw [← hcn, e1, hma, Int.add_zero]) ?_
        rw [hfn, hfi]
        by_cases q : fstN (fun m => qAI (mUp (vM σ) 2 b m)) k.toNat < k
        · rw [if_pos q, if_pos q, if_pos (by omega)]
        · rw [if_neg q, if_neg q, if_neg c58, if_neg (by omega)]
      · have e1 : bl (qAI (mUp (vM σ) 2 b k) = true) = 1 := (bl1 c58).symm
        refine g_iload h dX8_moved_61 rfl ?_
        refine g_if_ne (tgt := 71) h dX8_moved_63 (by decide) ⟨by omega, by omega⟩ (fun c63 => ?_) (fun c63 => ?_)
        · refine g_iload h dX8_moved_71 rfl ?_
          refine g_istore h dX8_moved_73 (by decide) rfl ?_
          refine g_iinc h dX8_moved_75 rfl (by decide) rfl ?_
          refine g_iinc h dX8_moved_78 rfl (by decide) rfl ?_
          refine g_goto (tgt := 39) h dX8_moved_81 (by decide) ?_
          refine hfin _ _ (by rw [← hcn, e1, hma]) ?_
          have q := cnt_pos (p := (fun m => qAI (mUp (vM σ) 2 b m))) (n := k.toNat) (by omega)
          rw [hfn, if_pos (by omega), if_pos (by omega), hfi, if_pos (by omega)]
        · refine g_iload h dX8_moved_66 rfl ?_
          refine g_goto (tgt := 73) h dX8_moved_68 (by decide) ?_
          refine g_istore h dX8_moved_73 (by decide) rfl ?_
          refine g_iinc h dX8_moved_75 rfl (by decide) rfl ?_
          refine g_iinc h dX8_moved_78 rfl (by decide) rfl ?_
          refine g_goto (tgt := 39) h dX8_moved_81 (by decide) ?_
          refine hfin _ _ (by rw [← hcn, e1, hma]) ?_
          have q := cnt_zero (p := (fun m => qAI (mUp (vM σ) 2 b m))) (n := k.toNat) (by omega)
          rw [hfn, if_neg (show ¬ fstN (fun m => qAI (mUp (vM σ) 2 b m)) k.toNat < k by omega), if_pos c58, if_pos (by omega)]
set_option maxRecDepth 100000 in
set_option maxHeartbeats 2000000 in
theorem c_X8_moved {l : Launch} {D : va_G} {cs : mC} {ad : Int → Nat} (σ : mS) (b w : Int) (hb : i32 b) (hw9 : i32 w) (hI : mIdl σ) (hW : qW (vM σ)) : CI l (gM D cs ad) M_X8_moved 5 [.ref (ad 0), mI b, mI w] σ (fun z s => z = sp_moved (vM σ) b w ∧ mSc σ s) := by
  refine CI.of (by decide) (Nat.le_of_ble_eq_true rfl) (fun x h hq => ?_)
  show mG x 0 [(0, .ref (ad 0)), (1, mI b), (2, mI w)] [] σ
  have hn0 : 0 ≤ σ 0 9 := hW.1.1
  have hn6 : σ 0 9 ≤ 6 := hW.1.2.1
  have e4 : vM σ 0 4 = σ 0 9 := rfl
  refine g_aload_n h dX8_moved_0 rfl ?_
  refine g_iload_n h dX8_moved_1 rfl ?_
  refine g_vI h (c_X8_isBill _ _ hb ⟨by omega, by omega⟩) (by decide) lm_RX8_146 (rvM rfl) dX8_moved_2 rfl (Nat.le_of_ble_eq_true rfl) (fun z2 s2 p2 => ?_)
  obtain ⟨e2, r2⟩ := p2; subst e2; replace r2 := Eq.symm r2; subst r2
  refine g_ifb_ne (tgt := 10) h dX8_moved_5 (by decide)  (fun c5 => ?_) (fun c5 => ?_)
  · refine g_iload_n h dX8_moved_10 rfl ?_
    refine g_iconst h dX8_moved_11 rfl ?_
    refine g_iconst h dX8_moved_12 rfl ?_
    refine g_sI h (c_X8_within _ _ _ _ hw9 ⟨by omega, by omega⟩ ⟨by omega, by omega⟩) (by decide) lm_RX8_68 dX8_moved_13 rfl (Nat.le_of_ble_eq_true rfl) (fun z13 s13 p13 => ?_)
    obtain ⟨e13, r13⟩ := p13; subst e13; replace r13 := Eq.symm r13; subst r13
    refine g_ifb_ne (tgt := 22) h dX8_moved_16 (by decide)  (fun c16 => ?_) (fun c16 => ?_)
    · refine g_aload_n h dX8_moved_22 rfl ?_
      refine gm_dayOf h dX8_moved_23 lf_RX8_22 ?_
      refine g_iload_n h dX8_moved_26 rfl ?_
      refine lm_dayOf h dX8_moved_27 c5.1 (by omega) ?_
      refine g_istore_n h dX8_moved_28 (by decide) rfl ?_
      refine g_iconst h dX8_moved_29 rfl ?_
      refine g_istore h dX8_moved_30 (by decide) rfl ?_
      refine g_bipush h dX8_moved_32 (by decide) ?_
      refine g_istore h dX8_moved_34 (by decide) rfl ?_
      refine g_iconst h dX8_moved_36 rfl ?_
      refine g_istore h dX8_moved_37 (by decide) rfl ?_
      exact lp_X8_moved h hq c5.1 c5.2 c16.1 c16.2 (hI.wf hW (by omega)) hI (mRd_of hW) (fun t ht => ⟨(sp_moved_in (show 0 ≤ b ∧ b < vM σ 0 4 from c5) c16).symm, ht⟩) 101 0 0 (-9) σ (by omega) (by omega) (by omega) (mSq.of (by omega) (mSc.rf σ)) rfl rfl
    · refine g_bipush h dX8_moved_19 (by decide) ?_
      refine g_iret h hq rfl dX8_moved_21 ⟨by unfold sp_moved; rw [e4, if_neg (fun z => z c5), if_pos c16], mSc.rf σ⟩
  · refine g_iconst h dX8_moved_8 rfl ?_
    refine g_iret h hq rfl dX8_moved_9 ⟨by unfold sp_moved; rw [e4, if_pos c5], mSc.rf σ⟩
theorem nat_set {S n : Nat} (h : S < 2 ^ n) : (S : Int) = setOf n (fun i => S.testBit i.toNat) := by
  unfold setOf
  have e : S = setN (fun i => S.testBit i.toNat) n := by
    apply Nat.eq_of_testBit_eq
    intro i
    rw [setN_tb, Int.toNat_natCast]
    by_cases hi : i < n
    · simp [hi]
    · rw [Nat.testBit_lt_two_pow (Nat.lt_of_lt_of_le h (Nat.pow_le_pow_right (by omega) (by omega)))]
      simp [hi]
  rw [← e]
theorem vM_17 (σ : mS) (v : Int) : vM (mUp σ 0 17 v) = vM σ := (mSh.up0 σ v (show (17 : Int) ≤ 17 by omega) (by omega)).view
theorem vM_18 (σ : mS) (v : Int) : vM (mUp σ 0 18 v) = vM σ := (mSh.up0 σ v (show (17 : Int) ≤ 18 by omega) (by omega)).view
theorem mWf_17 {σ : mS} (h : mWf σ) {v : Int} (v0 : 0 ≤ v) (v1 : v ≤ 2147483647) : mWf (mUp σ 0 17 v) := by
  unfold mWf
  rw [vM_17, mUp_eq, mUp_ne σ v (show (0 : Int) ≠ 0 ∨ (9 : Int) ≠ 17 by omega), mUp_ne σ v (show (0 : Int) ≠ 0 ∨ (19 : Int) ≠ 17 by omega), mUp_ne σ v (show (0 : Int) ≠ 0 ∨ (18 : Int) ≠ 17 by omega), mUp_off σ 17 v (show (9 : Int) ≠ 0 by omega)]
  exact ⟨h.1, h.2.1, v0, v1, h.2.2.2.2.1, h.2.2.2.2.2.1, h.2.2.2.2.2.2⟩
theorem mWf_18 {σ : mS} (h : mWf σ) {v : Int} (hv : v = 0 ∨ v = 1) : mWf (mUp σ 0 18 v) := by
  unfold mWf
  rw [vM_18, mUp_eq, mUp_ne σ v (show (0 : Int) ≠ 0 ∨ (9 : Int) ≠ 18 by omega), mUp_ne σ v (show (0 : Int) ≠ 0 ∨ (19 : Int) ≠ 18 by omega), mUp_ne σ v (show (0 : Int) ≠ 0 ∨ (17 : Int) ≠ 18 by omega), mUp_off σ 18 v (show (9 : Int) ≠ 0 by omega)]
  exact ⟨h.1, h.2.1, h.2.2.1, h.2.2.2.1, hv, h.2.2.2.2.2.1, h.2.2.2.2.2.2⟩
theorem st_17 {σ : mS} (hI : mIdl σ) (hw : qWf (vM σ)) (hn : 0 < σ 0 9) (S : Nat) : ∀ a : Int, 0 ≤ a → a < vM σ 0 4 → stM (mUp σ 0 17 (S : Int)) a = qSt (vM σ) (fun m => S.testBit m.toNat || qCl (vM σ) m) a := by
  intro a a0 a1
  have h6 := hw.2.1
  unfold stM
  rw [vM_17, mUp_ne σ _ (show (0 : Int) ≠ 0 ∨ (19 : Int) ≠ 17 by omega), hI.2.2]
  have : decide (a = -9) = false := by simp; omega
  rw [this, Bool.false_or]
  refine qSt_cong (fun m m0 m1 hm => ?_)
  have g2 := qWt_in hw a0 (by omega) hm
  rw [vM_qCl hw hn m0 (by omega) (by omega)]
  unfold dkM
  rw [vM_17, mUp_eq, Int.toNat_natCast, mUp_ne σ _ (show (0 : Int) ≠ 0 ∨ (18 : Int) ≠ 17 by omega), mUp_off σ 17 _ (show (9 : Int) ≠ 0 by omega), hI.2.1]
  simp
theorem st_1718 {σ : mS} (hI : mIdl σ) (hw : qWf (vM σ)) (S : Nat) : ∀ a : Int, 0 ≤ a → a < vM σ 0 4 → stM (mUp (mUp σ 0 18 1) 0 17 (S : Int)) a = qSt (vM σ) (fun m => S.testBit m.toNat) a := by
  intro a a0 a1
  unfold stM
  rw [vM_17, vM_18, mUp_ne _ _ (show (0 : Int) ≠ 0 ∨ (19 : Int) ≠ 17 by omega), mUp_ne σ _ (show (0 : Int) ≠ 0 ∨ (19 : Int) ≠ 18 by omega), hI.2.2]
  have : decide (a = -9) = false := by simp; omega
  rw [this, Bool.false_or]
  refine qSt_cong (fun m m0 m1 hm => ?_)
  unfold dkM
  rw [mUp_eq, Int.toNat_natCast, mUp_ne _ _ (show (0 : Int) ≠ 0 ∨ (18 : Int) ≠ 17 by omega), mUp_eq]
  simp
theorem pow_nm {n : Int} (h0 : 0 ≤ n) (h1 : n ≤ 11) : (2 ^ n.toNat : Nat) ≤ 2048 := by
  have : 2 ^ n.toNat ≤ 2 ^ 11 := Nat.pow_le_pow_right (by omega) (by omega)
  omega
theorem pc_rng (S : Nat) : i32 (pcN S) := by
  have := cntN_le (fun i => S.testBit i.toNat) 31
  unfold pcN
  exact ⟨by omega, by omega⟩
set_option maxRecDepth 100000 in
set_option maxHeartbeats 2000000 in
theorem lp_X8_buy {x : mX} {l : Launch} {D : va_G} {cs : mC} {ad : Int → Nat} {post : Int → mS → Prop} (h : mOk x l M_X8_buy 5 (gM D cs ad)) (hq : rI x (gM D cs ad) post) {σ : mS} {b d : Int} (b0 : 0 ≤ b) (b1 : b < σ 0 9) (d0 : 0 ≤ d) (d1 : d ≤ 109) (hw : mWf σ) (hI : mIdl σ) (hp : ∀ t : mS, mSc σ t → post (qBy (vM σ) b d) t) : ∀ (f : Nat) (S : Nat) (s : mS), S ≤ 2 ^ (qNm (vM σ)).toNat → 2 ^ (qNm (vM σ)).toNat - S < f → mSq 0 17 σ s → mG x 40 [(0, .ref (ad 0)), (1, mI b), (2, mI d), (3, mI (setOf (qNm (vM σ)).toNat (qCl (vM σ)))), (4, mI ((2 ^ (qNm (vM σ)).toNat : Nat) : Int)), (5, mI (byF (qBg (vM σ) b d) S)), (6, mI (S : Int))] [] s := by
  intro f
  have hn6 : σ 0 9 ≤ 6 := hw.1.2.1
  obtain ⟨m0, m1, m2, m3⟩ := qNm_sp hw.1 hw.2.1
  have hpw := pow_nm m0 m1
  induction f with
  | zero => intro S s h1 h2; omega
  | succ f ih =>
    intro S s h1 h2 hs
    have hrg := byF_rng (qBg (vM σ) b d) S
    have J102 : ∀ (be : Int) (s2 : mS), S < 2 ^ (qNm (vM σ)).toNat → mSq 0 17 σ s2 → be = byF (qBg (vM σ) b d) (S + 1) → mG x 102 [(0, .ref (ad 0)), (1, mI b), (2, mI d), (3, mI (setOf (qNm (vM σ)).toNat (qCl (vM σ)))), (4, mI ((2 ^ (qNm (vM σ)).toNat : Nat) : Int)), (5, mI be), (6, mI (S : Int))] [] s2 := by
      intro be s2 hS hs2 hbe
      subst hbe
      refine g_iinc h dX8_buy_102 rfl (by decide) rfl ?_
      refine g_goto (tgt := 40) h dX8_buy_105 (by decide) ?_
      refine g_lv (lv' := [(0, .ref (ad 0)), (1, mI b), (2, mI d), (3, mI (setOf (qNm (vM σ)).toNat (qCl (vM σ)))), (4, mI ((2 ^ (qNm (vM σ)).toNat : Nat) : Int)), (5, mI (byF (qBg (vM σ) b d) (S + 1))), (6, mI ((S + 1 : Nat) : Int))]) rfl ?_
      exact ih (S + 1) s2 (by omega) (by omega) hs2
    have hskip : S < 2 ^ (qNm (vM σ)).toNat → ¬ (qBg (vM σ) b d S = true ∧ (byF (qBg (vM σ) b d) S = -9 ∨ pcN S < pcN (byF (qBg (vM σ) b d) S).toNat)) → mG x 102 [(0, .ref (ad 0)), (1, mI b), (2, mI d), (3, mI (setOf (qNm (vM σ)).toNat (qCl (vM σ)))), (4, mI ((2 ^ (qNm (vM σ)).toNat : Nat) : Int)), (5, mI (byF (qBg (vM σ) b d) S)), (6, mI (S : Int))] [] s := fun q1 q2 => J102 _ s q1 hs (by rw [byF, if_neg q2])
    have J74 : S < 2 ^ (qNm (vM σ)).toNat → (!anyN (fun m => S.testBit m.toNat && qCl (vM σ) m) (qNm (vM σ)).toNat) = true → (byF (qBg (vM σ) b d) S = -9 ∨ pcN S < pcN (byF (qBg (vM σ) b d) S).toNat) → mG x 74 [(0, .ref (ad 0)), (1, mI b), (2, mI d), (3, mI (setOf (qNm (vM σ)).toNat (qCl (vM σ)))), (4, mI ((2 ^ (qNm (vM σ)).toNat : Nat) : Int)), (5, mI (byF (qBg (vM σ) b d) S)), (6, mI (S : Int))] [] s := by
      intro hS hA hC
      refine g_aload_n h dX8_buy_74 rfl ?_
      refine g_iload h dX8_buy_75 rfl ?_
      refine pm_cloudedToo h dX8_buy_77 lf_RX8_155 ?_
      have hsc := hs.sc (by omega) (S : Int)
      have wf9 := hsc.wf (mWf_17 hw (show (0 : Int) ≤ (S : Int) by omega) (by omega))
      have e9 : mUp s 0 17 (S : Int) 0 9 = σ 0 9 := by rw [hsc 0 (by omega) (by omega) (by omega), mUp_ne σ _ (by omega)]
      refine g_aload_n h dX8_buy_80 rfl ?_
      refine g_iload_n h dX8_buy_81 rfl ?_
      refine g_vI h (c_X8_forceOn _ _ wf9 d0 (by omega)) (by decide) lm_RX8_184 (rvM rfl) dX8_buy_82 rfl (Nat.le_of_ble_eq_true rfl) (fun z82 s82 p82 => ?_)
      obtain ⟨e82q, r82q⟩ := p82
      rw [e9, setOf_cong (q := fun a => qF (vM σ) (qSt (vM σ) (fun m => S.testBit m.toNat || qCl (vM σ) m)) a d) (fun a _ _ => by rw [hsc.view, hsc.st, vM_17]; exact qF_cong hw.1.1 (st_17 hI hw.1 hw.2.1 S) a d)] at e82q
      subst e82q
      have hq82 : mSq 0 17 σ s82 := mSq.next (by omega) (hsc.tr r82q)
      refine g_iload_n h dX8_buy_85 rfl ?_
      refine g_ishr h dX8_buy_86 ?_
      refine g_iconst h dX8_buy_87 rfl ?_
      refine g_iand h dX8_buy_88 ?_
      refine g_iconst h dX8_buy_89 rfl ?_
      refine g_val2 (b := bl (qF (vM σ) (qSt (vM σ) (fun m => S.testBit m.toNat || qCl (vM σ) m)) b d = true)) (set_rd (by omega) _ b0 (by omega)) ?_
      refine g_icmp_ne (tgt := 98) h dX8_buy_90 (by decide) (bl_rng _) ⟨by omega, by omega⟩ (fun c90 => ?_) (fun c90 => ?_)
      · have cF : ¬ qBg (vM σ) b d S = true := by
          intro z
          unfold qBg at z
          rw [Bool.and_eq_true] at z
          rw [z.2, ← bl1 rfl] at c90
          exact c90 rfl
        refine g_iload h dX8_buy_98 rfl ?_
        refine g_istore h dX8_buy_100 (by decide) rfl ?_
        refine g_lv (lv' := [(0, .ref (ad 0)), (1, mI b), (2, mI d), (3, mI (setOf (qNm (vM σ)).toNat (qCl (vM σ)))), (4, mI ((2 ^ (qNm (vM σ)).toNat : Nat) : Int)), (5, mI (byF (qBg (vM σ) b d) S)), (6, mI (S : Int))]) rfl (J102 _ s82 hS hq82 (by rw [byF, if_neg (fun z => cF z.1)]))
      · have cF : qBg (vM σ) b d S = true := by
          unfold qBg
          rw [hA, Bool.true_and]
          exact Decidable.byContradiction fun q => by rw [← bl0 q] at c90; omega
        refine g_iload h dX8_buy_93 rfl ?_
        refine g_goto (tgt := 100) h dX8_buy_95 (by decide) ?_
        refine g_istore h dX8_buy_100 (by decide) rfl ?_
        refine g_lv (lv' := [(0, .ref (ad 0)), (1, mI b), (2, mI d), (3, mI (setOf (qNm (vM σ)).toNat (qCl (vM σ)))), (4, mI ((2 ^ (qNm (vM σ)).toNat : Nat) : Int)), (5, mI (S : Int)), (6, mI (S : Int))]) rfl (J102 _ s82 hS hq82 (by rw [byF, if_pos ⟨cF, hC⟩]))
    refine g_iload h dX8_buy_40 rfl ?_
    refine g_iload h dX8_buy_42 rfl ?_
    refine g_icmp_ge (tgt := 108) h dX8_buy_44 (by decide) ⟨by omega, by omega⟩ ⟨by omega, by omega⟩ (fun c44 => ?_) (fun c44 => ?_)
    · refine g_aload_n h dX8_buy_108 rfl ?_
      refine g_iconst h dX8_buy_109 rfl ?_
      refine pm_cloudedToo h dX8_buy_110 lf_RX8_155 ?_
      refine g_iload h dX8_buy_113 rfl ?_
      refine g_iret h hq rfl dX8_buy_115 (by
      have e : S = 2 ^ (qNm (vM σ)).toNat := by omega
      rw [e]
      have hb := hs.back (by omega)
      rw [hI.1] at hb
      exact hp _ hb)
    · have hS : S < 2 ^ (qNm (vM σ)).toNat := by omega
      refine g_iload h dX8_buy_47 rfl ?_
      refine g_iload_n h dX8_buy_49 rfl ?_
      refine g_iand h dX8_buy_50 ?_
      have eA : iAnd (S : Int) (setOf (qNm (vM σ)).toNat (qCl (vM σ))) = setOf (qNm (vM σ)).toNat (fun i => S.testBit i.toNat && qCl (vM σ) i) := by
        rw [nat_set hS]; exact iAnd_set (by omega) _ _
      refine g_val eA ?_
      refine g_if_ne (tgt := 102) h dX8_buy_51 (by decide) (setOf_32 (by omega) _) (fun c51 => ?_) (fun c51 => ?_)
      · have hA : ¬ (!anyN (fun m => S.testBit m.toNat && qCl (vM σ) m) (qNm (vM σ)).toNat) = true := by
          intro z
          exact c51 (set_zero.mpr (anyN_no.mp (by simpa using z)))
        exact hskip hS (fun z => hA (by have := z.1; unfold qBg at this; rw [Bool.and_eq_true] at this; exact this.1))
      · have hA : (!anyN (fun m => S.testBit m.toNat && qCl (vM σ) m) (qNm (vM σ)).toNat) = true := by
          rw [anyN_no.mpr (set_zero.mp c51)]; rfl
        refine g_iload h dX8_buy_54 rfl ?_
        refine g_bipush h dX8_buy_56 (by decide) ?_
        refine g_icmp_eq (tgt := 74) h dX8_buy_58 (by decide) ⟨by omega, by omega⟩ ⟨by omega, by omega⟩ (fun c58 => ?_) (fun c58 => ?_)
        · exact J74 hS hA (Or.inl c58)
        · refine g_iload h dX8_buy_61 rfl ?_
          refine g_sI h (c_X8_size _ S (by omega)) (by decide) lm_RX8_197 dX8_buy_63 rfl (Nat.le_of_ble_eq_true rfl) (fun z63 s63 p63 => ?_)
          obtain ⟨e63, r63⟩ := p63; subst e63; replace r63 := Eq.symm r63; subst r63
          refine g_iload h dX8_buy_66 rfl ?_
          refine g_val (b := (((byF (qBg (vM σ) b d) S).toNat : Nat) : Int)) (by omega) ?_
          refine g_sI h (c_X8_size _ (byF (qBg (vM σ) b d) S).toNat (by omega)) (by decide) lm_RX8_197 dX8_buy_68 rfl (Nat.le_of_ble_eq_true rfl) (fun z68 s68 p68 => ?_)
          obtain ⟨e68, r68⟩ := p68; subst e68; replace r68 := Eq.symm r68; subst r68
          refine g_icmp_ge (tgt := 102) h dX8_buy_71 (by decide) (pc_rng _) (pc_rng _) (fun c71 => ?_) (fun c71 => ?_)
          · exact hskip hS (fun z => by rcases z.2 with q | q <;> omega)
          · exact J74 hS hA (Or.inr (by omega))
set_option maxRecDepth 100000 in
set_option maxHeartbeats 2000000 in
theorem c_X8_buy {l : Launch} {D : va_G} {cs : mC} {ad : Int → Nat} (σ : mS) (b d : Int) (hb : i32 b) (hd : i32 d) (hI : mIdl σ) (hW : qW (vM σ)) : CI l (gM D cs ad) M_X8_buy 5 [.ref (ad 0), mI b, mI d] σ (fun z s => z = sp_buy (vM σ) b d ∧ mSc σ s) := by
  refine CI.of (by decide) (Nat.le_of_ble_eq_true rfl) (fun x h hq => ?_)
  show mG x 0 [(0, .ref (ad 0)), (1, mI b), (2, mI d)] [] σ
  have hn0 : 0 ≤ σ 0 9 := hW.1.1
  have hn6 : σ 0 9 ≤ 6 := hW.1.2.1
  have e4 : vM σ 0 4 = σ 0 9 := rfl
  refine g_aload_n h dX8_buy_0 rfl ?_
  refine g_iload_n h dX8_buy_1 rfl ?_
  refine g_vI h (c_X8_isBill _ _ hb ⟨by omega, by omega⟩) (by decide) lm_RX8_146 (rvM rfl) dX8_buy_2 rfl (Nat.le_of_ble_eq_true rfl) (fun z2 s2 p2 => ?_)
  obtain ⟨e2, r2⟩ := p2; subst e2; replace r2 := Eq.symm r2; subst r2
  refine g_ifb_ne (tgt := 10) h dX8_buy_5 (by decide)  (fun c5 => ?_) (fun c5 => ?_)
  · refine g_iload_n h dX8_buy_10 rfl ?_
    refine g_sI h (c_X8_isDay _ _ hd) (by decide) lm_RX8_152 dX8_buy_11 rfl (Nat.le_of_ble_eq_true rfl) (fun z11 s11 p11 => ?_)
    obtain ⟨e11, r11⟩ := p11; subst e11; replace r11 := Eq.symm r11; subst r11
    refine g_ifb_ne (tgt := 20) h dX8_buy_14 (by decide)  (fun c14 => ?_) (fun c14 => ?_)
    · have hnm := qNm_sp hW.1 (show 0 < σ 0 9 by omega)
      refine g_aload_n h dX8_buy_20 rfl ?_
      refine g_vI h (c_X8_darkMoons _ hW.1 (by omega) (mCl_of hW)) (by decide) lm_RX8_190 (rvM rfl) dX8_buy_21 rfl (Nat.le_of_ble_eq_true rfl) (fun z21 s21 p21 => ?_)
      obtain ⟨e21, r21⟩ := p21; subst e21; replace r21 := Eq.symm r21; subst r21
      refine g_istore_n h dX8_buy_24 (by decide) rfl ?_
      refine g_iconst h dX8_buy_25 rfl ?_
      refine g_aload_n h dX8_buy_26 rfl ?_
      refine g_vI h (c_X8_moons _ hW.1 (by omega)) (by decide) lm_RX8_194 (rvM rfl) dX8_buy_27 rfl (Nat.le_of_ble_eq_true rfl) (fun z27 s27 p27 => ?_)
      obtain ⟨e27, r27⟩ := p27; subst e27; replace r27 := Eq.symm r27; subst r27
      refine g_ishl h dX8_buy_30 ?_
      refine g_val (iShl1 hnm.1 (by omega)) ?_
      refine g_istore h dX8_buy_31 (by decide) rfl ?_
      refine g_bipush h dX8_buy_33 (by decide) ?_
      refine g_istore h dX8_buy_35 (by decide) rfl ?_
      refine g_iconst h dX8_buy_37 rfl ?_
      refine g_istore h dX8_buy_38 (by decide) rfl ?_
      exact lp_X8_buy h hq c5.1 c5.2 c14.1 c14.2 (hI.wf hW (by omega)) hI (fun t ht => ⟨(sp_buy_in (show 0 ≤ b ∧ b < vM σ 0 4 from c5) c14).symm, ht⟩) 2049 0 σ (Nat.zero_le _) (by have := pow_nm hnm.1 hnm.2.1; omega) (mSq.of (by omega) (mSc.rf σ))
    · refine g_bipush h dX8_buy_17 (by decide) ?_
      refine g_iret h hq rfl dX8_buy_19 ⟨by unfold sp_buy; rw [e4, if_neg (fun z => z c5), if_pos c14], mSc.rf σ⟩
  · refine g_iconst h dX8_buy_8 rfl ?_
    refine g_iret h hq rfl dX8_buy_9 ⟨by unfold sp_buy; rw [e4, if_pos c5], mSc.rf σ⟩
