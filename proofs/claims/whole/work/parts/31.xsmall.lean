set_option maxRecDepth 100000 in
set_option maxHeartbeats 2000000 in
theorem c_X7_within {l : Launch} {D : va_G} {cs : mC} {ad : Int → Nat} (σ : mS) (v a : Int) (hv : i32 v) (ha : i32 a) : CI l (gX D cs ad) M_X7_within 0 [mI v, mI a] σ (fun z s => z = bl (0 ≤ v ∧ v ≤ a) ∧ s = σ) := by
  refine CI.of (by decide) (Nat.le_of_ble_eq_true rfl) (fun x h hq => ?_)
  show mG x 0 [(0, mI v), (1, mI a)] [] σ
  refine g_iload_n h dX7_within_0 rfl ?_
  refine g_if_lt (tgt := 13) h dX7_within_1 (by decide) hv (fun c1 => ?_) (fun c1 => ?_)
  · refine g_iconst h dX7_within_13 rfl ?_
    refine g_zret h hq rfl dX7_within_14 (by omega) ?_
    first | exact ⟨bl1 (by omega), rfl⟩ | exact ⟨bl0 (by omega), rfl⟩
  · refine g_iload_n h dX7_within_4 rfl ?_
    refine g_iload_n h dX7_within_5 rfl ?_
    refine g_icmp_gt (tgt := 13) h dX7_within_6 (by decide) hv ha (fun c6 => ?_) (fun c6 => ?_)
    · refine g_iconst h dX7_within_13 rfl ?_
      refine g_zret h hq rfl dX7_within_14 (by omega) ?_
      first | exact ⟨bl1 (by omega), rfl⟩ | exact ⟨bl0 (by omega), rfl⟩
    · refine g_iconst h dX7_within_9 rfl ?_
      refine g_goto (tgt := 14) h dX7_within_10 (by decide) ?_
      refine g_zret h hq rfl dX7_within_14 (by omega) ?_
      first | exact ⟨bl1 (by omega), rfl⟩ | exact ⟨bl0 (by omega), rfl⟩
set_option maxRecDepth 100000 in
set_option maxHeartbeats 2000000 in
theorem c_X7_noSheet {l : Launch} {D : va_G} {cs : mC} {ad : Int → Nat} (σ : mS) (v : Int) (hv : i32 v) : CI l (gX D cs ad) M_X7_noSheet 1 [mI v] σ (fun z s => z = bl (¬ (0 ≤ v ∧ v ≤ 3)) ∧ s = σ) := by
  refine CI.of (by decide) (Nat.le_of_ble_eq_true rfl) (fun x h hq => ?_)
  show mG x 0 [(0, mI v)] [] σ
  refine g_iload_n h dX7_noSheet_0 rfl ?_
  refine g_iconst h dX7_noSheet_1 rfl ?_
  refine g_sI h (c_X7_within _ _ _ hv ⟨by omega, by omega⟩) (by decide) lm_RX7_40 dX7_noSheet_2 rfl (Nat.le_of_ble_eq_true rfl) (fun z2 s2 p2 => ?_)
  obtain ⟨e2, r2⟩ := p2; subst e2; replace r2 := Eq.symm r2; subst r2
  refine g_ifb_ne (tgt := 12) h dX7_noSheet_5 (by decide)  (fun c5 => ?_) (fun c5 => ?_)
  · refine g_iconst h dX7_noSheet_12 rfl ?_
    refine g_zret h hq rfl dX7_noSheet_13 (by omega) ?_
    first | exact ⟨bl1 (by omega), rfl⟩ | exact ⟨bl0 (by omega), rfl⟩
  · refine g_iconst h dX7_noSheet_8 rfl ?_
    refine g_goto (tgt := 13) h dX7_noSheet_9 (by decide) ?_
    refine g_zret h hq rfl dX7_noSheet_13 (by omega) ?_
    first | exact ⟨bl1 (by omega), rfl⟩ | exact ⟨bl0 (by omega), rfl⟩
set_option maxRecDepth 100000 in
set_option maxHeartbeats 2000000 in
theorem c_X7_noBill {l : Launch} {D : va_G} {cs : mC} {ad : Int → Nat} (σ : mS) (v : Int) (hv : i32 v) (h0 : 0 ≤ σ 1 2) (h6 : σ 1 2 ≤ 6) : CI l (gX D cs ad) M_X7_noBill 1 [.ref (ad 0), mI v] σ (fun z s => z = bl (¬ (0 ≤ v ∧ v < vX σ 0 4)) ∧ s = σ) := by
  refine CI.of (by decide) (Nat.le_of_ble_eq_true rfl) (fun x h hq => ?_)
  show mG x 0 [(0, .ref (ad 0)), (1, mI v)] [] σ
  have e4 : vX σ 0 4 = σ 1 2 := rfl
  refine g_iload_n h dX7_noBill_0 rfl ?_
  refine g_aload_n h dX7_noBill_1 rfl ?_
  refine gxV_council h dX7_noBill_2 lf_RX7_12 ?_
  refine gxC_count h dX7_noBill_5 lf_RX7_65 ?_
  refine g_iconst h dX7_noBill_8 rfl ?_
  refine g_isub h dX7_noBill_9 ?_
  refine g_sI h (c_X7_within _ _ _ hv ⟨by omega, by omega⟩) (by decide) lm_RX7_40 dX7_noBill_10 rfl (Nat.le_of_ble_eq_true rfl) (fun z10 s10 p10 => ?_)
  obtain ⟨e10, r10⟩ := p10; subst e10; replace r10 := Eq.symm r10; subst r10
  refine g_ifb_ne (tgt := 20) h dX7_noBill_13 (by decide)  (fun c13 => ?_) (fun c13 => ?_)
  · refine g_iconst h dX7_noBill_20 rfl ?_
    refine g_zret h hq rfl dX7_noBill_21 (by omega) ?_
    first | exact ⟨bl1 (by omega), rfl⟩ | exact ⟨bl0 (by omega), rfl⟩
  · refine g_iconst h dX7_noBill_16 rfl ?_
    refine g_goto (tgt := 21) h dX7_noBill_17 (by decide) ?_
    refine g_zret h hq rfl dX7_noBill_21 (by omega) ?_
    first | exact ⟨bl1 (by omega), rfl⟩ | exact ⟨bl0 (by omega), rfl⟩
set_option maxRecDepth 100000 in
set_option maxHeartbeats 2000000 in
theorem c_X7_noCouncil {l : Launch} {D : va_G} {cs : mC} {ad : Int → Nat} (σ : mS)  (h0 : 0 ≤ σ 1 2) (h6 : σ 1 2 ≤ 6) : CI l (gX D cs ad) M_X7_noCouncil 0 [.ref (ad 0)] σ (fun z s => z = bl (vX σ 0 4 = 0) ∧ s = σ) := by
  refine CI.of (by decide) (Nat.le_of_ble_eq_true rfl) (fun x h hq => ?_)
  show mG x 0 [(0, .ref (ad 0))] [] σ
  have e4 : vX σ 0 4 = σ 1 2 := rfl
  refine g_aload_n h dX7_noCouncil_0 rfl ?_
  refine gxV_council h dX7_noCouncil_1 lf_RX7_12 ?_
  refine gxC_count h dX7_noCouncil_4 lf_RX7_65 ?_
  refine g_if_ne (tgt := 14) h dX7_noCouncil_7 (by decide) ⟨by omega, by omega⟩ (fun c7 => ?_) (fun c7 => ?_)
  · refine g_iconst h dX7_noCouncil_14 rfl ?_
    refine g_zret h hq rfl dX7_noCouncil_15 (by omega) ?_
    first | exact ⟨bl1 (by omega), rfl⟩ | exact ⟨bl0 (by omega), rfl⟩
  · refine g_iconst h dX7_noCouncil_10 rfl ?_
    refine g_goto (tgt := 15) h dX7_noCouncil_11 (by decide) ?_
    refine g_zret h hq rfl dX7_noCouncil_15 (by omega) ?_
    first | exact ⟨bl1 (by omega), rfl⟩ | exact ⟨bl0 (by omega), rfl⟩
set_option maxRecDepth 100000 in
set_option maxHeartbeats 2000000 in
theorem c_X7_failed {l : Launch} {D : va_G} {cs : mC} {ad : Int → Nat} (σ : mS) (v : Int)  : CI l (gX D cs ad) M_X7_failed 0 [.ref (ad 0), mI v] σ (fun z s => z = -10 - v ∧ s = mUp σ 0 4 v) := by
  refine CI.of (by decide) (Nat.le_of_ble_eq_true rfl) (fun x h hq => ?_)
  show mG x 0 [(0, .ref (ad 0)), (1, mI v)] [] σ
  refine g_aload_n h dX7_failed_0 rfl ?_
  refine g_iload_n h dX7_failed_1 rfl ?_
  refine pxV_latestFault h dX7_failed_2 lf_RX7_32 ?_
  refine g_bipush h dX7_failed_5 (by decide) ?_
  refine g_iload_n h dX7_failed_7 rfl ?_
  refine g_isub h dX7_failed_8 ?_
  refine g_iret h hq rfl dX7_failed_9 ⟨rfl, rfl⟩
set_option maxRecDepth 100000 in
set_option maxHeartbeats 2000000 in
theorem c_X7_leave {l : Launch} {D : va_G} {cs : mC} {ad : Int → Nat} (σ : mS) (v : Int)  : CV l (gX D cs ad) M_X7_leave 0 [.ref (ad 0), mI v] σ (fun s => s = mUp σ 0 3 (31 * σ 0 3 + v)) := by
  refine CV.of (by decide) (Nat.le_of_ble_eq_true rfl) (fun x h hq => ?_)
  show mG x 0 [(0, .ref (ad 0)), (1, mI v)] [] σ
  refine g_aload_n h dX7_leave_0 rfl ?_
  refine g_bipush h dX7_leave_1 (by decide) ?_
  refine g_aload_n h dX7_leave_3 rfl ?_
  refine gxV_traced h dX7_leave_4 lf_RX7_227 ?_
  refine g_imul h dX7_leave_7 ?_
  refine g_iload_n h dX7_leave_8 rfl ?_
  refine g_iadd h dX7_leave_9 ?_
  refine pxV_traced h dX7_leave_10 lf_RX7_227 ?_
  refine g_vret h hq rfl dX7_leave_13 rfl
set_option maxRecDepth 100000 in
set_option maxHeartbeats 2000000 in
theorem c_X7_billBody {l : Launch} {D : va_G} {cs : mC} {ad : Int → Nat} (σ : mS) (k : Int) (k0 : 5 ≤ k) (k1 : k < 11) : CI l (gX D cs ad) M_X7_billBody 1 [.ref (ad 0), .ref (ad k)] σ (fun z s => z = σ k 4 ∧ s = mUp σ 0 3 (31 * σ 0 3 + 1)) := by
  refine CI.of (by decide) (Nat.le_of_ble_eq_true rfl) (fun x h hq => ?_)
  show mG x 0 [(0, .ref (ad 0)), (1, .ref (ad k))] [] σ
  refine g_aload_n h dX7_billBody_0 rfl ?_
  refine g_iconst h dX7_billBody_1 rfl ?_
  refine g_vV h (c_X7_leave _ _) (by decide) lm_RX7_236 (rvV rfl) dX7_billBody_2 rfl (Nat.le_of_ble_eq_true rfl) (fun s2 p2 => ?_)
  replace p2 := Eq.symm p2; subst p2
  refine g_aload_n h dX7_billBody_5 rfl ?_
  refine gxB_lasts h (by omega) (by omega) dX7_billBody_6 lf_RX7_87 ?_
  refine g_val (b := σ k 4) (mUp_ne _ _ (Or.inl (by omega))) ?_
  refine g_iret h hq rfl dX7_billBody_9 ⟨rfl, rfl⟩
set_option maxRecDepth 100000 in
set_option maxHeartbeats 2000000 in
theorem c_X7_sunsetBody {l : Launch} {D : va_G} {cs : mC} {ad : Int → Nat} (σ : mS) (k : Int) (k0 : 5 ≤ k) (k1 : k < 11) : CI l (gX D cs ad) M_X7_sunsetBody 2 [.ref (ad 0), .ref (ad k)] σ (fun z s => z = σ k 4 + 100 ∧ s = mUp σ 0 3 (31 * (31 * σ 0 3 + 2) + 1)) := by
  refine CI.of (by decide) (Nat.le_of_ble_eq_true rfl) (fun x h hq => ?_)
  show mG x 0 [(0, .ref (ad 0)), (1, .ref (ad k))] [] σ
  refine g_aload_n h dX7_sunsetBody_0 rfl ?_
  refine g_iconst h dX7_sunsetBody_1 rfl ?_
  refine g_vV h (c_X7_leave _ _) (by decide) lm_RX7_236 (rvV rfl) dX7_sunsetBody_2 rfl (Nat.le_of_ble_eq_true rfl) (fun s2 p2 => ?_)
  replace p2 := Eq.symm p2; subst p2
  refine g_aload_n h dX7_sunsetBody_5 rfl ?_
  refine g_aload_n h dX7_sunsetBody_6 rfl ?_
  refine g_vI h (c_X7_billBody _ _ k0 k1) (by decide) lm_RX7_218 (rvV rfl) dX7_sunsetBody_7 rfl (Nat.le_of_ble_eq_true rfl) (fun z7 s7 p7 => ?_)
  obtain ⟨e7, r7⟩ := p7; subst e7; replace r7 := Eq.symm r7; subst r7
  refine g_bipush h dX7_sunsetBody_10 (by decide) ?_
  refine g_iadd h dX7_sunsetBody_12 ?_
  refine g_iret h hq rfl dX7_sunsetBody_13 ⟨by rw [mUp_ne _ _ (Or.inl (by omega))], by rw [mUp_eq, mUp_up]⟩
set_option maxRecDepth 100000 in
set_option maxHeartbeats 2000000 in
theorem c_X7_repealBody {l : Launch} {D : va_G} {cs : mC} {ad : Int → Nat} (σ : mS) (k : Int) (k0 : 5 ≤ k) (k1 : k < 11) : CI l (gX D cs ad) M_X7_repealBody 3 [.ref (ad 0), .ref (ad k)] σ (fun z s => z = 2 * σ k 4 + 100 ∧ s = mUp σ 0 3 (31 * (31 * (31 * (31 * σ 0 3 + 3) + 2) + 1) + 1)) := by
  refine CI.of (by decide) (Nat.le_of_ble_eq_true rfl) (fun x h hq => ?_)
  show mG x 0 [(0, .ref (ad 0)), (1, .ref (ad k))] [] σ
  refine g_aload_n h dX7_repealBody_0 rfl ?_
  refine g_iconst h dX7_repealBody_1 rfl ?_
  refine g_vV h (c_X7_leave _ _) (by decide) lm_RX7_236 (rvV rfl) dX7_repealBody_2 rfl (Nat.le_of_ble_eq_true rfl) (fun s2 p2 => ?_)
  replace p2 := Eq.symm p2; subst p2
  refine g_aload_n h dX7_repealBody_5 rfl ?_
  refine g_aload_n h dX7_repealBody_6 rfl ?_
  refine g_vI h (c_X7_sunsetBody _ _ k0 k1) (by decide) lm_RX7_211 (rvV rfl) dX7_repealBody_7 rfl (Nat.le_of_ble_eq_true rfl) (fun z7 s7 p7 => ?_)
  obtain ⟨e7, r7⟩ := p7; subst e7; replace r7 := Eq.symm r7; subst r7
  refine g_istore_n h dX7_repealBody_10 (by decide) rfl ?_
  refine g_iload_n h dX7_repealBody_11 rfl ?_
  refine g_aload_n h dX7_repealBody_12 rfl ?_
  refine g_aload_n h dX7_repealBody_13 rfl ?_
  refine g_vI h (c_X7_billBody _ _ k0 k1) (by decide) lm_RX7_218 (rvV rfl) dX7_repealBody_14 rfl (Nat.le_of_ble_eq_true rfl) (fun z14 s14 p14 => ?_)
  obtain ⟨e14, r14⟩ := p14; subst e14; replace r14 := Eq.symm r14; subst r14
  refine g_iadd h dX7_repealBody_17 ?_
  refine g_iret h hq rfl dX7_repealBody_18 ⟨by rw [mUp_ne _ _ (Or.inl (by omega)), mUp_ne _ _ (Or.inl (by omega)), mUp_ne _ _ (Or.inl (by omega))]; omega, by simp only [mUp_eq, mUp_up]⟩
set_option maxRecDepth 100000 in
set_option maxHeartbeats 2000000 in
theorem c_X7_lentSeal {l : Launch} {D : va_G} {cs : mC} {ad : Int → Nat} (σ : mS) (b : Int)  : CI l (gX D cs ad) M_X7_lentSeal 1 [.ref (ad 0), mI b] σ (fun z s => z = b ∧ s = mUp σ 0 3 (31 * σ 0 3 + 4)) := by
  refine CI.of (by decide) (Nat.le_of_ble_eq_true rfl) (fun x h hq => ?_)
  show mG x 0 [(0, .ref (ad 0)), (1, mI b)] [] σ
  refine g_aload_n h dX7_lentSeal_0 rfl ?_
  refine g_iconst h dX7_lentSeal_1 rfl ?_
  refine g_vV h (c_X7_leave _ _) (by decide) lm_RX7_236 (rvV rfl) dX7_lentSeal_2 rfl (Nat.le_of_ble_eq_true rfl) (fun s2 p2 => ?_)
  replace p2 := Eq.symm p2; subst p2
  refine g_iload_n h dX7_lentSeal_5 rfl ?_
  refine g_iret h hq rfl dX7_lentSeal_6 ⟨rfl, rfl⟩
set_option maxRecDepth 100000 in
set_option maxHeartbeats 2000000 in
theorem c_X7_ownSeal {l : Launch} {D : va_G} {cs : mC} {ad : Int → Nat} (σ : mS)   : CI l (gX D cs ad) M_X7_ownSeal 1 [.ref (ad 0)] σ (fun z s => z = 40 ∧ s = mUp σ 0 3 (31 * σ 0 3 + 5)) := by
  refine CI.of (by decide) (Nat.le_of_ble_eq_true rfl) (fun x h hq => ?_)
  show mG x 0 [(0, .ref (ad 0))] [] σ
  refine g_aload_n h dX7_ownSeal_0 rfl ?_
  refine g_iconst h dX7_ownSeal_1 rfl ?_
  refine g_vV h (c_X7_leave _ _) (by decide) lm_RX7_236 (rvV rfl) dX7_ownSeal_2 rfl (Nat.le_of_ble_eq_true rfl) (fun s2 p2 => ?_)
  replace p2 := Eq.symm p2; subst p2
  refine g_bipush h dX7_ownSeal_5 (by decide) ?_
  refine g_iret h hq rfl dX7_ownSeal_7 ⟨rfl, rfl⟩
set_option maxRecDepth 100000 in
set_option maxHeartbeats 2000000 in
theorem c_X3_drop {l : Launch} {D : va_G} {cs : mC} {ad : Int → Nat} (σ : mS) (k : Int) (k0 : 16 ≤ k) (k1 : k < 20) : CV l (gX D cs ad) M_X3_drop 0 [.ref (ad k)] σ (fun s => s = mUp (mUp σ k 1 (-1)) k 2 0) := by
  refine CV.of (by decide) (Nat.le_of_ble_eq_true rfl) (fun x h hq => ?_)
  show mG x 0 [(0, .ref (ad k))] [] σ
  refine g_aload_n h dX3_drop_0 rfl ?_
  refine g_iconst h dX3_drop_1 rfl ?_
  refine pxS_lane h (by omega) (by omega) dX3_drop_2 lf_RX3_15 ?_
  refine g_aload_n h dX3_drop_5 rfl ?_
  refine g_iconst h dX3_drop_6 rfl ?_
  refine pxS_length h (by omega) (by omega) dX3_drop_7 lf_RX3_19 ?_
  refine g_vret h hq rfl dX3_drop_10 rfl
set_option maxRecDepth 100000 in
set_option maxHeartbeats 2000000 in
theorem c_X3_isNothing {l : Launch} {D : va_G} {cs : mC} {ad : Int → Nat} (σ : mS) (k : Int) (k0 : 16 ≤ k) (k1 : k < 20) (hl : -1 ≤ σ k 1) (hl2 : σ k 1 ≤ 2) : CI l (gX D cs ad) M_X3_isNothing 0 [.ref (ad k)] σ (fun z s => z = bl (σ k 1 = -1) ∧ s = σ) := by
  refine CI.of (by decide) (Nat.le_of_ble_eq_true rfl) (fun x h hq => ?_)
  show mG x 0 [(0, .ref (ad k))] [] σ
  refine g_aload_n h dX3_isNothing_0 rfl ?_
  refine gxS_lane h (by omega) (by omega) dX3_isNothing_1 lf_RX3_15 ?_
  refine g_iconst h dX3_isNothing_4 rfl ?_
  refine g_icmp_ne (tgt := 12) h dX3_isNothing_5 (by decide) ⟨by omega, by omega⟩ ⟨by omega, by omega⟩ (fun c5 => ?_) (fun c5 => ?_)
  · refine g_iconst h dX3_isNothing_12 rfl ?_
    refine g_zret h hq rfl dX3_isNothing_13 (by omega) ?_
    first | exact ⟨bl1 (by omega), rfl⟩ | exact ⟨bl0 (by omega), rfl⟩
  · refine g_iconst h dX3_isNothing_8 rfl ?_
    refine g_goto (tgt := 13) h dX3_isNothing_9 (by decide) ?_
    refine g_zret h hq rfl dX3_isNothing_13 (by omega) ?_
    first | exact ⟨bl1 (by omega), rfl⟩ | exact ⟨bl0 (by omega), rfl⟩
set_option maxRecDepth 100000 in
set_option maxHeartbeats 2000000 in
theorem c_X3_has {l : Launch} {D : va_G} {cs : mC} {ad : Int → Nat} (σ : mS) (k i : Int) (k0 : 16 ≤ k) (k1 : k < 20) (hi : i32 i) (hl : 0 ≤ σ k 2) (hl2 : σ k 2 ≤ 60) : CI l (gX D cs ad) M_X3_has 0 [.ref (ad k), mI i] σ (fun z s => z = bl (0 ≤ i ∧ i < σ k 2) ∧ s = σ) := by
  refine CI.of (by decide) (Nat.le_of_ble_eq_true rfl) (fun x h hq => ?_)
  show mG x 0 [(0, .ref (ad k)), (1, mI i)] [] σ
  refine g_iload_n h dX3_has_0 rfl ?_
  refine g_if_lt (tgt := 16) h dX3_has_1 (by decide) hi (fun c1 => ?_) (fun c1 => ?_)
  · refine g_iconst h dX3_has_16 rfl ?_
    refine g_zret h hq rfl dX3_has_17 (by omega) ?_
    first | exact ⟨bl1 (by omega), rfl⟩ | exact ⟨bl0 (by omega), rfl⟩
  · refine g_iload_n h dX3_has_4 rfl ?_
    refine g_aload_n h dX3_has_5 rfl ?_
    refine gxS_length h (by omega) (by omega) dX3_has_6 lf_RX3_19 ?_
    refine g_icmp_ge (tgt := 16) h dX3_has_9 (by decide) hi ⟨by omega, by omega⟩ (fun c9 => ?_) (fun c9 => ?_)
    · refine g_iconst h dX3_has_16 rfl ?_
      refine g_zret h hq rfl dX3_has_17 (by omega) ?_
      first | exact ⟨bl1 (by omega), rfl⟩ | exact ⟨bl0 (by omega), rfl⟩
    · refine g_iconst h dX3_has_12 rfl ?_
      refine g_goto (tgt := 17) h dX3_has_13 (by decide) ?_
      refine g_zret h hq rfl dX3_has_17 (by omega) ?_
      first | exact ⟨bl1 (by omega), rfl⟩ | exact ⟨bl0 (by omega), rfl⟩
set_option maxRecDepth 100000 in
set_option maxHeartbeats 2000000 in
theorem c_X3_hasAll {l : Launch} {D : va_G} {cs : mC} {ad : Int → Nat} (σ : mS) (k i n : Int) (k0 : 16 ≤ k) (k1 : k < 20) (hi : i32 i) (hn : i32 n) (hl : 0 ≤ σ k 2) (hl2 : σ k 2 ≤ 60) : CI l (gX D cs ad) M_X3_hasAll 1 [.ref (ad k), mI i, mI n] σ (fun z s => z = bl ((0 ≤ i ∧ i ≤ σ k 2) ∧ n ≤ σ k 2 - i) ∧ s = σ) := by
  refine CI.of (by decide) (Nat.le_of_ble_eq_true rfl) (fun x h hq => ?_)
  show mG x 0 [(0, .ref (ad k)), (1, mI i), (2, mI n)] [] σ
  refine g_iload_n h dX3_hasAll_0 rfl ?_
  refine g_aload_n h dX3_hasAll_1 rfl ?_
  refine gxS_length h (by omega) (by omega) dX3_hasAll_2 lf_RX3_19 ?_
  refine g_sI h (c_X7_within _ _ _ hi ⟨by omega, by omega⟩) (by decide) lm_RX3_22 dX3_hasAll_5 rfl (Nat.le_of_ble_eq_true rfl) (fun z5 s5 p5 => ?_)
  obtain ⟨e5, r5⟩ := p5; subst e5; replace r5 := Eq.symm r5; subst r5
  refine g_ifb_eq (tgt := 25) h dX3_hasAll_8 (by decide)  (fun c8 => ?_) (fun c8 => ?_)
  · refine g_iconst h dX3_hasAll_25 rfl ?_
    refine g_zret h hq rfl dX3_hasAll_26 (by omega) ?_
    first | exact ⟨bl1 (by omega), rfl⟩ | exact ⟨bl0 (by omega), rfl⟩
  · refine g_iload_n h dX3_hasAll_11 rfl ?_
    refine g_aload_n h dX3_hasAll_12 rfl ?_
    refine gxS_length h (by omega) (by omega) dX3_hasAll_13 lf_RX3_19 ?_
    refine g_iload_n h dX3_hasAll_16 rfl ?_
    refine g_isub h dX3_hasAll_17 ?_
    refine g_icmp_gt (tgt := 25) h dX3_hasAll_18 (by decide) hn ⟨by omega, by omega⟩ (fun c18 => ?_) (fun c18 => ?_)
    · refine g_iconst h dX3_hasAll_25 rfl ?_
      refine g_zret h hq rfl dX3_hasAll_26 (by omega) ?_
      first | exact ⟨bl1 (by omega), rfl⟩ | exact ⟨bl0 (by omega), rfl⟩
    · refine g_iconst h dX3_hasAll_21 rfl ?_
      refine g_goto (tgt := 26) h dX3_hasAll_22 (by decide) ?_
      refine g_zret h hq rfl dX3_hasAll_26 (by omega) ?_
      first | exact ⟨bl1 (by omega), rfl⟩ | exact ⟨bl0 (by omega), rfl⟩
set_option maxRecDepth 100000 in
set_option maxHeartbeats 2000000 in
theorem c_X3_cut {l : Launch} {D : va_G} {cs : mC} {ad : Int → Nat} (σ : mS) (k v : Int) (k0 : 16 ≤ k) (k1 : k < 20) (hl : -1 ≤ σ k 1) (hl2 : σ k 1 ≤ 2) : CI l (gX D cs ad) M_X3_cut 0 [.ref (ad k), mI v] σ (fun z s => z = qCut (σ k 1) v ∧ s = σ) := by
  refine CI.of (by decide) (Nat.le_of_ble_eq_true rfl) (fun x h hq => ?_)
  show mG x 0 [(0, .ref (ad k)), (1, mI v)] [] σ
  refine g_aload_n h dX3_cut_0 rfl ?_
  refine gxS_lane h (by omega) (by omega) dX3_cut_1 lf_RX3_15 ?_
  refine g_if_ne (tgt := 10) h dX3_cut_4 (by decide) ⟨by omega, by omega⟩ (fun c4 => ?_) (fun c4 => ?_)
  · refine g_aload_n h dX3_cut_10 rfl ?_
    refine gxS_lane h (by omega) (by omega) dX3_cut_11 lf_RX3_15 ?_
    refine g_iconst h dX3_cut_14 rfl ?_
    refine g_icmp_ne (tgt := 23) h dX3_cut_15 (by decide) ⟨by omega, by omega⟩ ⟨by omega, by omega⟩ (fun c15 => ?_) (fun c15 => ?_)
    · refine g_iload_n h dX3_cut_23 rfl ?_
      refine g_iret h hq rfl dX3_cut_24 ⟨by unfold qCut; rw [if_neg c4, if_neg c15], rfl⟩
    · refine g_iload_n h dX3_cut_18 rfl ?_
      refine g_i2s h dX3_cut_19 ?_
      refine g_goto (tgt := 24) h dX3_cut_20 (by decide) ?_
      refine g_iret h hq rfl dX3_cut_24 ⟨by unfold qCut; rw [if_neg c4, if_pos c15], rfl⟩
  · refine g_iload_n h dX3_cut_7 rfl ?_
    refine g_i2b h dX3_cut_8 ?_
    refine g_iret h hq rfl dX3_cut_9 ⟨by unfold qCut; rw [if_pos c4], rfl⟩
set_option maxRecDepth 100000 in
set_option maxHeartbeats 2000000 in
theorem c_X3_faultOfLane {l : Launch} {D : va_G} {cs : mC} {ad : Int → Nat} (σ : mS) (k a : Int) (k0 : 16 ≤ k) (k1 : k < 20) (ha : i32 a) (hl : -1 ≤ σ k 1) (hl2 : σ k 1 ≤ 2) : CI l (gX D cs ad) M_X3_faultOfLane 1 [.ref (ad k), mI a] σ (fun z s => z = (if σ k 1 = -1 then 1 else if ¬ σ k 1 = a then 2 else 0) ∧ s = σ) := by
  refine CI.of (by decide) (Nat.le_of_ble_eq_true rfl) (fun x h hq => ?_)
  show mG x 0 [(0, .ref (ad k)), (1, mI a)] [] σ
  refine g_aload_n h dX3_faultOfLane_0 rfl ?_
  refine g_vI h (c_X3_isNothing _ _ k0 k1 hl hl2) (by decide) lm_RX3_26 (rvS rfl (by omega) (by omega)) dX3_faultOfLane_1 rfl (Nat.le_of_ble_eq_true rfl) (fun z1 s1 p1 => ?_)
  obtain ⟨e1, r1⟩ := p1; subst e1; replace r1 := Eq.symm r1; subst r1
  refine g_ifb_eq (tgt := 9) h dX3_faultOfLane_4 (by decide)  (fun c4 => ?_) (fun c4 => ?_)
  · refine g_aload_n h dX3_faultOfLane_9 rfl ?_
    refine gxS_lane h (by omega) (by omega) dX3_faultOfLane_10 lf_RX3_15 ?_
    refine g_iload_n h dX3_faultOfLane_13 rfl ?_
    refine g_icmp_ne (tgt := 21) h dX3_faultOfLane_14 (by decide) ⟨by omega, by omega⟩ ha (fun c14 => ?_) (fun c14 => ?_)
    · refine g_iconst h dX3_faultOfLane_21 rfl ?_
      refine g_iret h hq rfl dX3_faultOfLane_22 ⟨by rw [if_neg c4, if_pos c14], rfl⟩
    · refine g_iconst h dX3_faultOfLane_17 rfl ?_
      refine g_goto (tgt := 22) h dX3_faultOfLane_18 (by decide) ?_
      refine g_iret h hq rfl dX3_faultOfLane_22 ⟨by rw [if_neg c4, if_neg (fun z => z c14)], rfl⟩
  · refine g_iconst h dX3_faultOfLane_7 rfl ?_
    refine g_iret h hq rfl dX3_faultOfLane_8 ⟨by rw [if_pos c4], rfl⟩
set_option maxRecDepth 100000 in
set_option maxHeartbeats 2000000 in
theorem c_X3_faultOfCells {l : Launch} {D : va_G} {cs : mC} {ad : Int → Nat} (σ : mS) (k a i n : Int) (k0 : 16 ≤ k) (k1 : k < 20) (ha : i32 a) (hi : i32 i) (hn : i32 n) (hl : -1 ≤ σ k 1) (hl2 : σ k 1 ≤ 2) (hm : 0 ≤ σ k 2) (hm2 : σ k 2 ≤ 60) : CI l (gX D cs ad) M_X3_faultOfCells 2 [.ref (ad k), mI a, mI i, mI n] σ (fun z s => z = (if σ k 1 = -1 then 1 else if ¬ σ k 1 = a then 2 else if n < 0 then 4 else if i < 0 ∨ σ k 2 < i ∨ σ k 2 - i < n then 3 else 0) ∧ s = σ) := by
  refine CI.of (by decide) (Nat.le_of_ble_eq_true rfl) (fun x h hq => ?_)
  show mG x 0 [(0, .ref (ad k)), (1, mI a), (2, mI i), (3, mI n)] [] σ
  refine g_aload_n h dX3_faultOfCells_0 rfl ?_
  refine g_iload_n h dX3_faultOfCells_1 rfl ?_
  refine g_vI h (c_X3_faultOfLane _ _ _ k0 k1 ha hl hl2) (by decide) lm_RX3_30 (rvS rfl (by omega) (by omega)) dX3_faultOfCells_2 rfl (Nat.le_of_ble_eq_true rfl) (fun z2 s2 p2 => ?_)
  obtain ⟨e2, r2⟩ := p2; subst e2; replace r2 := Eq.symm r2; subst r2
  refine g_istore h dX3_faultOfCells_5 (by decide) rfl ?_
  refine g_iload h dX3_faultOfCells_7 rfl ?_
  refine g_if_eq (tgt := 15) h dX3_faultOfCells_9 (by decide) (by split; exact ⟨by omega, by omega⟩; split <;> exact ⟨by omega, by omega⟩) (fun c9 => ?_) (fun c9 => ?_)
  · have g1 : ¬ σ k 1 = -1 := fun z => by rw [if_pos z] at c9; omega
    have g2 : ¬ ¬ σ k 1 = a := fun z => by rw [if_neg g1, if_pos z] at c9; omega
    refine g_iload_n h dX3_faultOfCells_15 rfl ?_
    refine g_if_ge (tgt := 21) h dX3_faultOfCells_16 (by decide) hn (fun c16 => ?_) (fun c16 => ?_)
    · refine g_aload_n h dX3_faultOfCells_21 rfl ?_
      refine g_iload_n h dX3_faultOfCells_22 rfl ?_
      refine g_iload_n h dX3_faultOfCells_23 rfl ?_
      refine g_vI h (c_X3_hasAll _ _ _ _ k0 k1 hi hn hm hm2) (by decide) lm_RX3_34 (rvS rfl (by omega) (by omega)) dX3_faultOfCells_24 rfl (Nat.le_of_ble_eq_true rfl) (fun z24 s24 p24 => ?_)
      obtain ⟨e24, r24⟩ := p24; subst e24; replace r24 := Eq.symm r24; subst r24
      refine g_ifb_eq (tgt := 34) h dX3_faultOfCells_27 (by decide)  (fun c27 => ?_) (fun c27 => ?_)
      · refine g_iconst h dX3_faultOfCells_34 rfl ?_
        refine g_iret h hq rfl dX3_faultOfCells_35 ⟨by rw [if_neg g1, if_neg g2, if_neg (by omega), if_pos (by omega)], rfl⟩
      · refine g_iconst h dX3_faultOfCells_30 rfl ?_
        refine g_goto (tgt := 35) h dX3_faultOfCells_31 (by decide) ?_
        refine g_iret h hq rfl dX3_faultOfCells_35 ⟨by rw [if_neg g1, if_neg g2, if_neg (by omega), if_neg (by omega)], rfl⟩
    · refine g_iconst h dX3_faultOfCells_19 rfl ?_
      refine g_iret h hq rfl dX3_faultOfCells_20 ⟨by rw [if_neg g1, if_neg g2, if_pos (by omega)], rfl⟩
  · refine g_iload h dX3_faultOfCells_12 rfl ?_
    refine g_iret h hq rfl dX3_faultOfCells_14 ⟨by
      by_cases g1 : σ k 1 = -1
      · rw [if_pos g1, if_pos g1]
      · rw [if_neg g1] at c9 ⊢
        by_cases g2 : ¬ σ k 1 = a
        · rw [if_neg g1, if_pos g2, if_pos g2]
        · rw [if_neg g2] at c9; omega, rfl⟩
/-- a row's first cells are 0 -/
def xZr (σ : mS) (k j : Int) : mS := fun a b => if a = k ∧ 0 ≤ b ∧ b < j then 0 else σ a b
theorem xZr_0 (σ : mS) (k : Int) : xZr σ k 0 = σ := by funext a b; unfold xZr; rw [if_neg (by omega)]
theorem xZr_next (σ : mS) {k j : Int} (j0 : 0 ≤ j) : mUp (xZr σ k j) k j 0 = xZr σ k (j + 1) := by
  funext a b
  by_cases e : a = k ∧ b = j
  · rw [e.1, e.2, mUp_eq]; unfold xZr; rw [if_pos (by omega)]
  · rw [mUp_ne _ _ (by omega)]
    unfold xZr
    by_cases g : a = k ∧ 0 ≤ b ∧ b < j
    · rw [if_pos g, if_pos (by omega)]
    · rw [if_neg g, if_neg (by omega)]
set_option maxRecDepth 100000 in
set_option maxHeartbeats 2000000 in
theorem lp_X3_begin {x : mX} {l : Launch} {D : va_G} {cs : mC} {ad : Int → Nat} {post : mS → Prop} (h : mOk x l M_X3_begin 0 (gX D cs ad)) (hq : rV x (gX D cs ad) post) {s : mS} {k a n : Int} (k0 : 16 ≤ k) (k1 : k < 20) (hp : post (xZr s (k + 4) 60)) : ∀ (g : Nat) (j : Int), 0 ≤ j → j ≤ 60 → 60 - j < g → mG x 12 [(0, .ref (ad k)), (1, mI a), (2, mI n), (3, mI j)] [] (xZr s (k + 4) j) := by
  intro g
  induction g with
  | zero => intro j a b c; omega
  | succ g ih =>
    intro j j0 j1 hg
    refine g_iload_n h dX3_begin_12 rfl ?_
    refine g_bipush h dX3_begin_13 (by decide) ?_
    refine g_icmp_ge (tgt := 31) h dX3_begin_15 (by decide) ⟨by omega, by omega⟩ ⟨by omega, by omega⟩ (fun c15 => ?_) (fun c15 => ?_)
    · have e : j = 60 := by omega
      subst e
      refine g_vret h hq rfl dX3_begin_31 hp
    · refine g_aload_n h dX3_begin_18 rfl ?_
      refine gxS_cells h (by omega) (by omega) dX3_begin_19 lf_RX3_9 ?_
      refine g_iload_n h dX3_begin_22 rfl ?_
      refine g_iconst h dX3_begin_23 rfl ?_
      refine sx_cells h (by omega) (by omega) dX3_begin_24 (by omega) (by omega) ?_
      refine g_sta (xZr_next s j0) ?_
      refine g_iinc h dX3_begin_25 rfl (by decide) rfl ?_
      refine g_goto (tgt := 12) h dX3_begin_28 (by decide) ?_
      exact ih (j + 1) (by omega) (by omega) (by omega)
set_option maxRecDepth 100000 in
set_option maxHeartbeats 2000000 in
theorem c_X3_begin {l : Launch} {D : va_G} {cs : mC} {ad : Int → Nat} (σ : mS) (k a n : Int) (k0 : 16 ≤ k) (k1 : k < 20) : CV l (gX D cs ad) M_X3_begin 0 [.ref (ad k), mI a, mI n] σ (fun s => s = xZr (mUp (mUp σ k 1 a) k 2 n) (k + 4) 60) := by
  refine CV.of (by decide) (Nat.le_of_ble_eq_true rfl) (fun x h hq => ?_)
  show mG x 0 [(0, .ref (ad k)), (1, mI a), (2, mI n)] [] σ
  refine g_aload_n h dX3_begin_0 rfl ?_
  refine g_iload_n h dX3_begin_1 rfl ?_
  refine pxS_lane h (by omega) (by omega) dX3_begin_2 lf_RX3_15 ?_
  refine g_aload_n h dX3_begin_5 rfl ?_
  refine g_iload_n h dX3_begin_6 rfl ?_
  refine pxS_length h (by omega) (by omega) dX3_begin_7 lf_RX3_19 ?_
  refine g_iconst h dX3_begin_10 rfl ?_
  refine g_istore_n h dX3_begin_11 (by decide) rfl ?_
  refine g_sta (xZr_0 _ (k + 4)).symm ?_
  exact lp_X3_begin h hq k0 k1 rfl 61 0 (by omega) (by omega) (by omega)
set_option maxRecDepth 100000 in
set_option maxHeartbeats 2000000 in
theorem c_X4_dayOfMoon {l : Launch} {D : va_G} {cs : mC} {ad : Int → Nat} (σ : mS) (m : Int) (hw : qWf (vX σ)) (hn : 0 < σ 1 2) (m0 : 0 ≤ m) (m1 : m ≤ 100) : CI l (gX D cs ad) M_X4_dayOfMoon 0 [.ref (ad 2), mI m] σ (fun z s => z = qMd (vX σ) m ∧ s = σ) := by
  refine CI.of (by decide) (Nat.le_of_ble_eq_true rfl) (fun x h hq => ?_)
  show mG x 0 [(0, .ref (ad 2)), (1, mI m)] [] σ
  have g := qMd_rng hw hn m0 m1
  obtain ⟨-, -, -, -, -, -, a2, -⟩ := hw
  obtain ⟨u0, u1, l0, l1⟩ := a2 hn
  have v0 := vX_0 σ
  rw [v0.2.2.1] at l0 l1
  rw [v0.2.1] at g
  refine g_iload_n h dX4_dayOfMoon_0 rfl ?_
  refine g_aload_n h dX4_dayOfMoon_1 rfl ?_
  refine gxK_upper h dX4_dayOfMoon_2 lf_RX4_25 ?_
  refine g_imul h dX4_dayOfMoon_5 ?_
  refine g_istore_n h dX4_dayOfMoon_6 (by decide) rfl ?_
  refine g_aload_n h dX4_dayOfMoon_7 rfl ?_
  refine gxK_begins h dX4_dayOfMoon_8 lf_RX4_21 ?_
  refine g_aload_n h dX4_dayOfMoon_11 rfl ?_
  refine gxK_lower h dX4_dayOfMoon_12 lf_RX4_31 ?_
  refine g_iconst h dX4_dayOfMoon_15 rfl ?_
  refine g_icmp_ne (tgt := 25) h dX4_dayOfMoon_16 (by decide) ⟨by omega, by omega⟩ ⟨by omega, by omega⟩ (fun c16 => ?_) (fun c16 => ?_)
  · refine g_iload_n h dX4_dayOfMoon_25 rfl ?_
    refine g_iadd h dX4_dayOfMoon_26 ?_
    refine g_iret h hq rfl dX4_dayOfMoon_27 ⟨by unfold qMd; rw [v0.1, v0.2.1, v0.2.2.1, show σ 2 4 = 1 by omega, Int.ediv_one], rfl⟩
  · refine g_iload_n h dX4_dayOfMoon_19 rfl ?_
    refine g_iconst h dX4_dayOfMoon_20 rfl ?_
    refine g_idiv h dX4_dayOfMoon_21 (by omega) (by omega) (by omega) (by omega) ?_
    refine g_goto (tgt := 26) h dX4_dayOfMoon_22 (by decide) ?_
    refine g_iadd h dX4_dayOfMoon_26 ?_
    refine g_iret h hq rfl dX4_dayOfMoon_27 ⟨by unfold qMd; rw [v0.1, v0.2.1, v0.2.2.1, c16], rfl⟩
set_option maxRecDepth 100000 in
set_option maxHeartbeats 2000000 in
theorem c_X1_isLater {l : Launch} {D : va_G} {cs : mC} {ad : Int → Nat} (σ : mS) (r b : Int) (hw : qWf (vX σ)) (r0 : 0 ≤ r) (r1 : r < 6) (b0 : 0 ≤ b) (b1 : b < 6) : CI l (gX D cs ad) M_X1_isLater 0 [.ref (ad 1), mI r, mI b] σ (fun z s => z = bl (qBf (vX σ) b r = true) ∧ s = σ) := by
  refine CI.of (by decide) (Nat.le_of_ble_eq_true rfl) (fun x h hq => ?_)
  show mG x 0 [(0, .ref (ad 1)), (1, mI r), (2, mI b)] [] σ
  have hr := hw.2.2.2.2.2.2.2 r r0 r1
  have hb := hw.2.2.2.2.2.2.2 b b0 b1
  rw [vX_day σ r0 r1] at hr
  rw [vX_day σ b0 b1] at hb
  have e : qBf (vX σ) b r = true ↔ (σ (5 + b) 1 < σ (5 + r) 1 ∨ (σ (5 + b) 1 = σ (5 + r) 1 ∧ b < r)) := by unfold qBf; rw [vX_day σ r0 r1, vX_day σ b0 b1, decide_eq_true_iff]
  refine g_aload_n h dX1_isLater_0 rfl ?_
  refine gxC_bills h dX1_isLater_1 lf_RX1_20 ?_
  refine g_iload_n h dX1_isLater_4 rfl ?_
  refine lx_bills h dX1_isLater_5 (by omega) (by omega) ?_
  refine gxB_day h (by omega) (by omega) dX1_isLater_6 lf_RX1_60 ?_
  refine g_aload_n h dX1_isLater_9 rfl ?_
  refine gxC_bills h dX1_isLater_10 lf_RX1_20 ?_
  refine g_iload_n h dX1_isLater_13 rfl ?_
  refine lx_bills h dX1_isLater_14 (by omega) (by omega) ?_
  refine gxB_day h (by omega) (by omega) dX1_isLater_15 lf_RX1_60 ?_
  refine g_isub h dX1_isLater_18 ?_
  refine g_istore_n h dX1_isLater_19 (by decide) rfl ?_
  refine g_iload_n h dX1_isLater_20 rfl ?_
  refine g_if_gt (tgt := 33) h dX1_isLater_21 (by decide) ⟨by omega, by omega⟩ (fun c21 => ?_) (fun c21 => ?_)
  · refine g_iconst h dX1_isLater_33 rfl ?_
    refine g_goto (tgt := 38) h dX1_isLater_34 (by decide) ?_
    refine g_zret h hq rfl dX1_isLater_38 (by omega) ?_
    first | exact ⟨bl1 (e.mpr (by omega)), rfl⟩ | exact ⟨bl0 (fun z => absurd (e.mp z) (by omega)), rfl⟩
  · refine g_iload_n h dX1_isLater_24 rfl ?_
    refine g_if_ne (tgt := 37) h dX1_isLater_25 (by decide) ⟨by omega, by omega⟩ (fun c25 => ?_) (fun c25 => ?_)
    · refine g_iconst h dX1_isLater_37 rfl ?_
      refine g_zret h hq rfl dX1_isLater_38 (by omega) ?_
      first | exact ⟨bl1 (e.mpr (by omega)), rfl⟩ | exact ⟨bl0 (fun z => absurd (e.mp z) (by omega)), rfl⟩
    · refine g_iload_n h dX1_isLater_28 rfl ?_
      refine g_iload_n h dX1_isLater_29 rfl ?_
      refine g_icmp_le (tgt := 37) h dX1_isLater_30 (by decide) ⟨by omega, by omega⟩ ⟨by omega, by omega⟩ (fun c30 => ?_) (fun c30 => ?_)
      · refine g_iconst h dX1_isLater_37 rfl ?_
        refine g_zret h hq rfl dX1_isLater_38 (by omega) ?_
        first | exact ⟨bl1 (e.mpr (by omega)), rfl⟩ | exact ⟨bl0 (fun z => absurd (e.mp z) (by omega)), rfl⟩
      · refine g_iconst h dX1_isLater_33 rfl ?_
        refine g_goto (tgt := 38) h dX1_isLater_34 (by decide) ?_
        refine g_zret h hq rfl dX1_isLater_38 (by omega) ?_
        first | exact ⟨bl1 (e.mpr (by omega)), rfl⟩ | exact ⟨bl0 (fun z => absurd (e.mp z) (by omega)), rfl⟩
