set_option maxRecDepth 100000 in
set_option maxHeartbeats 2000000 in
theorem c_X7_buy {l : Launch} {D : va_G} {cs : mC} {ad : Int → Nat} (σ : mS) (b d : Int) (hb : i32 b) (hd : i32 d) (hW : qW (vX σ)) : CI l (gX D cs ad) M_X7_buy 12 [.ref (ad 0), mI b, mI d] σ (fun z s => z = sp_buy (vX σ) b d ∧ vX s = vX σ) := by
  refine CI.of (by decide) (Nat.le_of_ble_eq_true rfl) (fun x h hq => ?_)
  show mG x 0 [(0, .ref (ad 0)), (1, mI b), (2, mI d)] [] σ
  have hn0 : 0 ≤ σ 1 2 := hW.1.1
  have hn6 : σ 1 2 ≤ 6 := hW.1.2.1
  have e4 : vX σ 0 4 = σ 1 2 := rfl
  refine g_aload_n h dX7_buy_0 rfl ?_
  refine g_iload_n h dX7_buy_1 rfl ?_
  refine g_vI h (c_X7_noBill _ _ hb hn0 hn6) (by decide) lm_RX7_66 (rvV rfl) dX7_buy_2 rfl (Nat.le_of_ble_eq_true rfl) (fun z2 s2 p2 => ?_)
  obtain ⟨e2, r2⟩ := p2; subst e2; replace r2 := Eq.symm r2; subst r2
  refine g_ifb_eq (tgt := 10) h dX7_buy_5 (by decide)  (fun c5 => ?_) (fun c5 => ?_)
  · have cb : 0 ≤ b ∧ b < vX σ 0 4 := by omega
    refine g_iload_n h dX7_buy_10 rfl ?_
    refine g_bipush h dX7_buy_11 (by decide) ?_
    refine g_sI h (c_X7_within _ _ _ hd ⟨by omega, by omega⟩) (by decide) lm_RX7_40 dX7_buy_13 rfl (Nat.le_of_ble_eq_true rfl) (fun z13 s13 p13 => ?_)
    obtain ⟨e13, r13⟩ := p13; subst e13; replace r13 := Eq.symm r13; subst r13
    refine g_ifb_ne (tgt := 22) h dX7_buy_16 (by decide)  (fun c16 => ?_) (fun c16 => ?_)
    · refine g_aload_n h dX7_buy_22 rfl ?_
      refine gxV_council h dX7_buy_23 lf_RX7_12 ?_
      refine g_iload_n h dX7_buy_26 rfl ?_
      refine g_iload_n h dX7_buy_27 rfl ?_
      refine g_sI h (c_X6_fewestClouds _ _ _ hW (by omega) cb.1 cb.2 c16.1 c16.2) (by decide) lm_RX7_138 dX7_buy_28 rfl (Nat.le_of_ble_eq_true rfl) (fun z28 s28 p28 => ?_)
      refine g_iret h hq rfl dX7_buy_31 ⟨by unfold sp_buy; rw [if_neg (fun z => z cb), if_neg (fun z => z c16)]; exact p28.1, p28.2.view⟩
    · refine g_bipush h dX7_buy_19 (by decide) ?_
      refine g_iret h hq rfl dX7_buy_21 ⟨by unfold sp_buy; rw [if_neg (fun z => z cb), if_pos c16], rfl⟩
  · refine g_iconst h dX7_buy_8 rfl ?_
    refine g_iret h hq rfl dX7_buy_9 ⟨by unfold sp_buy; rw [if_pos c5], rfl⟩
set_option maxRecDepth 100000 in
set_option maxHeartbeats 2000000 in
theorem c_X7_when {l : Launch} {D : va_G} {cs : mC} {ad : Int → Nat} (σ : mS) (b d : Int) (hb : i32 b) (hd : i32 d) (hW : qW (vX σ)) : CI l (gX D cs ad) M_X7_when 13 [.ref (ad 0), mI b, mI d] σ (fun z s => z = sp_when (vX σ) b d ∧ vX s = vX σ) := by
  refine CI.of (by decide) (Nat.le_of_ble_eq_true rfl) (fun x h hq => ?_)
  show mG x 0 [(0, .ref (ad 0)), (1, mI b), (2, mI d)] [] σ
  have hn0 : 0 ≤ σ 1 2 := hW.1.1
  have hn6 : σ 1 2 ≤ 6 := hW.1.2.1
  have e4 : vX σ 0 4 = σ 1 2 := rfl
  refine g_aload_n h dX7_when_0 rfl ?_
  refine g_iload_n h dX7_when_1 rfl ?_
  refine g_vI h (c_X7_noBill _ _ hb hn0 hn6) (by decide) lm_RX7_66 (rvV rfl) dX7_when_2 rfl (Nat.le_of_ble_eq_true rfl) (fun z2 s2 p2 => ?_)
  obtain ⟨e2, r2⟩ := p2; subst e2; replace r2 := Eq.symm r2; subst r2
  refine g_ifb_eq (tgt := 10) h dX7_when_5 (by decide)  (fun c5 => ?_) (fun c5 => ?_)
  · have cb : 0 ≤ b ∧ b < vX σ 0 4 := by omega
    refine g_iload_n h dX7_when_10 rfl ?_
    refine g_bipush h dX7_when_11 (by decide) ?_
    refine g_sI h (c_X7_within _ _ _ hd ⟨by omega, by omega⟩) (by decide) lm_RX7_40 dX7_when_13 rfl (Nat.le_of_ble_eq_true rfl) (fun z13 s13 p13 => ?_)
    obtain ⟨e13, r13⟩ := p13; subst e13; replace r13 := Eq.symm r13; subst r13
    refine g_ifb_ne (tgt := 22) h dX7_when_16 (by decide)  (fun c16 => ?_) (fun c16 => ?_)
    · refine g_aload_n h dX7_when_22 rfl ?_
      refine gxV_council h dX7_when_23 lf_RX7_12 ?_
      refine g_iload_n h dX7_when_26 rfl ?_
      refine g_iload_n h dX7_when_27 rfl ?_
      refine g_sI h (c_X6_firstMove _ _ _ hW (by omega) cb.1 cb.2 c16.1 c16.2) (by decide) lm_RX7_144 dX7_when_28 rfl (Nat.le_of_ble_eq_true rfl) (fun z28 s28 p28 => ?_)
      refine g_iret h hq rfl dX7_when_31 ⟨by unfold sp_when; rw [if_neg (fun z => z cb), if_neg (fun z => z c16)]; exact p28.1, p28.2.view⟩
    · refine g_bipush h dX7_when_19 (by decide) ?_
      refine g_iret h hq rfl dX7_when_21 ⟨by unfold sp_when; rw [if_neg (fun z => z cb), if_pos c16], rfl⟩
  · refine g_iconst h dX7_when_8 rfl ?_
    refine g_iret h hq rfl dX7_when_9 ⟨by unfold sp_when; rw [if_pos c5], rfl⟩
set_option maxRecDepth 100000 in
set_option maxHeartbeats 2000000 in
theorem c_X7_longest {l : Launch} {D : va_G} {cs : mC} {ad : Int → Nat} (σ : mS) (b w : Int) (hb : i32 b) (hw : i32 w) (hW : qW (vX σ)) : CI l (gX D cs ad) M_X7_longest 13 [.ref (ad 0), mI b, mI w] σ (fun z s => z = sp_longest (vX σ) b w ∧ vX s = vX σ) := by
  refine CI.of (by decide) (Nat.le_of_ble_eq_true rfl) (fun x h hq => ?_)
  show mG x 0 [(0, .ref (ad 0)), (1, mI b), (2, mI w)] [] σ
  have hn0 : 0 ≤ σ 1 2 := hW.1.1
  have hn6 : σ 1 2 ≤ 6 := hW.1.2.1
  have e4 : vX σ 0 4 = σ 1 2 := rfl
  refine g_aload_n h dX7_longest_0 rfl ?_
  refine g_iload_n h dX7_longest_1 rfl ?_
  refine g_vI h (c_X7_noBill _ _ hb hn0 hn6) (by decide) lm_RX7_66 (rvV rfl) dX7_longest_2 rfl (Nat.le_of_ble_eq_true rfl) (fun z2 s2 p2 => ?_)
  obtain ⟨e2, r2⟩ := p2; subst e2; replace r2 := Eq.symm r2; subst r2
  refine g_ifb_eq (tgt := 10) h dX7_longest_5 (by decide)  (fun c5 => ?_) (fun c5 => ?_)
  · have cb : 0 ≤ b ∧ b < vX σ 0 4 := by omega
    refine g_iload_n h dX7_longest_10 rfl ?_
    refine g_iconst h dX7_longest_11 rfl ?_
    refine g_sI h (c_X7_within _ _ _ hw ⟨by omega, by omega⟩) (by decide) lm_RX7_40 dX7_longest_12 rfl (Nat.le_of_ble_eq_true rfl) (fun z12 s12 p12 => ?_)
    obtain ⟨e12, r12⟩ := p12; subst e12; replace r12 := Eq.symm r12; subst r12
    refine g_ifb_ne (tgt := 21) h dX7_longest_15 (by decide)  (fun c15 => ?_) (fun c15 => ?_)
    · refine g_aload_n h dX7_longest_21 rfl ?_
      refine gxV_council h dX7_longest_22 lf_RX7_12 ?_
      refine g_iload_n h dX7_longest_25 rfl ?_
      refine g_iload_n h dX7_longest_26 rfl ?_
      refine g_iconst h dX7_longest_27 rfl ?_
      refine g_icmp_ne (tgt := 35) h dX7_longest_28 (by decide) ⟨by omega, by omega⟩ ⟨by omega, by omega⟩ (fun c28 => ?_) (fun c28 => ?_)
      · refine g_iconst h dX7_longest_35 rfl ?_
        refine g_val (b := w) (by omega) ?_
        refine g_sI h (c_X6_longestMove _ _ _ hW (by omega) cb.1 cb.2 (by omega)) (by decide) lm_RX7_147 dX7_longest_36 rfl (Nat.le_of_ble_eq_true rfl) (fun z36 s36 p36 => ?_)
        refine g_iret h hq rfl dX7_longest_39 ⟨by unfold sp_longest; rw [if_neg (fun z => z cb), if_neg (fun z => z c15)]; exact p36.1, p36.2.view⟩
      · refine g_iconst h dX7_longest_31 rfl ?_
        refine g_goto (tgt := 36) h dX7_longest_32 (by decide) ?_
        refine g_val (b := w) (by omega) ?_
        refine g_sI h (c_X6_longestMove _ _ _ hW (by omega) cb.1 cb.2 (by omega)) (by decide) lm_RX7_147 dX7_longest_36 rfl (Nat.le_of_ble_eq_true rfl) (fun z36 s36 p36 => ?_)
        refine g_iret h hq rfl dX7_longest_39 ⟨by unfold sp_longest; rw [if_neg (fun z => z cb), if_neg (fun z => z c15)]; exact p36.1, p36.2.view⟩
    · refine g_bipush h dX7_longest_18 (by decide) ?_
      refine g_iret h hq rfl dX7_longest_20 ⟨by unfold sp_longest; rw [if_neg (fun z => z cb), if_pos c15], rfl⟩
  · refine g_iconst h dX7_longest_8 rfl ?_
    refine g_iret h hq rfl dX7_longest_9 ⟨by unfold sp_longest; rw [if_pos c5], rfl⟩
set_option maxRecDepth 100000 in
set_option maxHeartbeats 2000000 in
theorem c_X7_worth {l : Launch} {D : va_G} {cs : mC} {ad : Int → Nat} (σ : mS) (b : Int) (hb : i32 b) (hW : qW (vX σ)) : CI l (gX D cs ad) M_X7_worth 13 [.ref (ad 0), mI b] σ (fun z s => z = sp_worth (vX σ) b ∧ vX s = vX σ) := by
  refine CI.of (by decide) (Nat.le_of_ble_eq_true rfl) (fun x h hq => ?_)
  show mG x 0 [(0, .ref (ad 0)), (1, mI b)] [] σ
  have hn0 : 0 ≤ σ 1 2 := hW.1.1
  have hn6 : σ 1 2 ≤ 6 := hW.1.2.1
  have e4 : vX σ 0 4 = σ 1 2 := rfl
  refine g_aload_n h dX7_worth_0 rfl ?_
  refine g_iload_n h dX7_worth_1 rfl ?_
  refine g_vI h (c_X7_noBill _ _ hb hn0 hn6) (by decide) lm_RX7_66 (rvV rfl) dX7_worth_2 rfl (Nat.le_of_ble_eq_true rfl) (fun z2 s2 p2 => ?_)
  obtain ⟨e2, r2⟩ := p2; subst e2; replace r2 := Eq.symm r2; subst r2
  refine g_ifb_eq (tgt := 10) h dX7_worth_5 (by decide)  (fun c5 => ?_) (fun c5 => ?_)
  · have cb : 0 ≤ b ∧ b < vX σ 0 4 := by omega
    refine g_aload_n h dX7_worth_10 rfl ?_
    refine gxV_council h dX7_worth_11 lf_RX7_12 ?_
    refine g_iload_n h dX7_worth_14 rfl ?_
    refine g_sI h (c_X6_gainOfOthers _ _ hW (by omega) hb) (by decide) lm_RX7_151 dX7_worth_15 rfl (Nat.le_of_ble_eq_true rfl) (fun z15 s15 p15 => ?_)
    refine g_sipush h dX7_worth_18 (by decide) ?_
    refine g_iadd h dX7_worth_21 ?_
    refine g_iret h hq rfl dX7_worth_22 ⟨by unfold sp_worth; rw [if_neg (fun z => z cb), p15.1], p15.2.view⟩
  · refine g_iconst h dX7_worth_8 rfl ?_
    refine g_iret h hq rfl dX7_worth_9 ⟨by unfold sp_worth; rw [if_pos c5], rfl⟩
set_option maxRecDepth 100000 in
set_option maxHeartbeats 2000000 in
theorem c_X7_spans {l : Launch} {D : va_G} {cs : mC} {ad : Int → Nat} (σ : mS)   (hW : qW (vX σ)) : CI l (gX D cs ad) M_X7_spans 13 [.ref (ad 0)] σ (fun z s => z = sp_spans (vX σ) ∧ vX s = vX σ) := by
  refine CI.of (by decide) (Nat.le_of_ble_eq_true rfl) (fun x h hq => ?_)
  show mG x 0 [(0, .ref (ad 0))] [] σ
  have hn0 : 0 ≤ σ 1 2 := hW.1.1
  have hn6 : σ 1 2 ≤ 6 := hW.1.2.1
  have e4 : vX σ 0 4 = σ 1 2 := rfl
  refine g_aload_n h dX7_spans_0 rfl ?_
  refine g_vI h (c_X7_noCouncil _ hn0 hn6) (by decide) lm_RX7_90 (rvV rfl) dX7_spans_1 rfl (Nat.le_of_ble_eq_true rfl) (fun z1 s1 p1 => ?_)
  obtain ⟨e1, r1⟩ := p1; subst e1; replace r1 := Eq.symm r1; subst r1
  refine g_ifb_eq (tgt := 10) h dX7_spans_4 (by decide)  (fun c4 => ?_) (fun c4 => ?_)
  · refine g_aload_n h dX7_spans_10 rfl ?_
    refine gxV_council h dX7_spans_11 lf_RX7_12 ?_
    refine g_aload_n h dX7_spans_14 rfl ?_
    refine gxV_readings h dX7_spans_15 lf_RX7_21 ?_
    refine g_sI h (c_X6_possibleSpans _ hW (by omega)) (by decide) lm_RX7_159 dX7_spans_18 rfl (Nat.le_of_ble_eq_true rfl) (fun z18 s18 p18 => ?_)
    refine g_iret h hq rfl dX7_spans_21 ⟨by unfold sp_spans; rw [if_neg c4]; exact p18.1, p18.2.view⟩
  · refine g_bipush h dX7_spans_7 (by decide) ?_
    refine g_iret h hq rfl dX7_spans_9 ⟨by unfold sp_spans; rw [if_pos c4], rfl⟩
set_option maxRecDepth 100000 in
set_option maxHeartbeats 2000000 in
theorem c_X7_origins {l : Launch} {D : va_G} {cs : mC} {ad : Int → Nat} (σ : mS)   (hW : qW (vX σ)) : CI l (gX D cs ad) M_X7_origins 13 [.ref (ad 0)] σ (fun z s => z = sp_origins (vX σ) ∧ vX s = vX σ) := by
  refine CI.of (by decide) (Nat.le_of_ble_eq_true rfl) (fun x h hq => ?_)
  show mG x 0 [(0, .ref (ad 0))] [] σ
  have hn0 : 0 ≤ σ 1 2 := hW.1.1
  have hn6 : σ 1 2 ≤ 6 := hW.1.2.1
  have e4 : vX σ 0 4 = σ 1 2 := rfl
  refine g_aload_n h dX7_origins_0 rfl ?_
  refine g_vI h (c_X7_noCouncil _ hn0 hn6) (by decide) lm_RX7_90 (rvV rfl) dX7_origins_1 rfl (Nat.le_of_ble_eq_true rfl) (fun z1 s1 p1 => ?_)
  obtain ⟨e1, r1⟩ := p1; subst e1; replace r1 := Eq.symm r1; subst r1
  refine g_ifb_eq (tgt := 10) h dX7_origins_4 (by decide)  (fun c4 => ?_) (fun c4 => ?_)
  · refine g_aload_n h dX7_origins_10 rfl ?_
    refine gxV_council h dX7_origins_11 lf_RX7_12 ?_
    refine g_aload_n h dX7_origins_14 rfl ?_
    refine gxV_readings h dX7_origins_15 lf_RX7_21 ?_
    refine g_sI h (c_X6_possibleOrigins _ hW (by omega)) (by decide) lm_RX7_163 dX7_origins_18 rfl (Nat.le_of_ble_eq_true rfl) (fun z18 s18 p18 => ?_)
    refine g_iret h hq rfl dX7_origins_21 ⟨by unfold sp_origins; rw [if_neg c4]; exact p18.1, p18.2.view⟩
  · refine g_bipush h dX7_origins_7 (by decide) ?_
    refine g_iret h hq rfl dX7_origins_9 ⟨by unfold sp_origins; rw [if_pos c4], rfl⟩
set_option maxRecDepth 100000 in
set_option maxHeartbeats 2000000 in
theorem c_X7_kinds {l : Launch} {D : va_G} {cs : mC} {ad : Int → Nat} (σ : mS) (b : Int) (hb : i32 b) (hW : qW (vX σ)) : CI l (gX D cs ad) M_X7_kinds 13 [.ref (ad 0), mI b] σ (fun z s => z = sp_kinds (vX σ) b ∧ vX s = vX σ) := by
  refine CI.of (by decide) (Nat.le_of_ble_eq_true rfl) (fun x h hq => ?_)
  show mG x 0 [(0, .ref (ad 0)), (1, mI b)] [] σ
  have hn0 : 0 ≤ σ 1 2 := hW.1.1
  have hn6 : σ 1 2 ≤ 6 := hW.1.2.1
  have e4 : vX σ 0 4 = σ 1 2 := rfl
  refine g_aload_n h dX7_kinds_0 rfl ?_
  refine g_iload_n h dX7_kinds_1 rfl ?_
  refine g_vI h (c_X7_noBill _ _ hb hn0 hn6) (by decide) lm_RX7_66 (rvV rfl) dX7_kinds_2 rfl (Nat.le_of_ble_eq_true rfl) (fun z2 s2 p2 => ?_)
  obtain ⟨e2, r2⟩ := p2; subst e2; replace r2 := Eq.symm r2; subst r2
  refine g_ifb_eq (tgt := 10) h dX7_kinds_5 (by decide)  (fun c5 => ?_) (fun c5 => ?_)
  · have cb : 0 ≤ b ∧ b < vX σ 0 4 := by omega
    refine g_aload_n h dX7_kinds_10 rfl ?_
    refine gxV_council h dX7_kinds_11 lf_RX7_12 ?_
    refine g_aload_n h dX7_kinds_14 rfl ?_
    refine gxV_readings h dX7_kinds_15 lf_RX7_21 ?_
    refine g_iload_n h dX7_kinds_18 rfl ?_
    refine g_sI h (c_X6_possibleKinds _ _ hW (by omega) cb.1 (by omega)) (by decide) lm_RX7_166 dX7_kinds_19 rfl (Nat.le_of_ble_eq_true rfl) (fun z19 s19 p19 => ?_)
    refine g_iret h hq rfl dX7_kinds_22 ⟨by unfold sp_kinds; rw [if_neg (fun z => z cb)]; exact p19.1, p19.2.view⟩
  · refine g_iconst h dX7_kinds_8 rfl ?_
    refine g_iret h hq rfl dX7_kinds_9 ⟨by unfold sp_kinds; rw [if_pos c5], rfl⟩
set_option maxRecDepth 100000 in
set_option maxHeartbeats 2000000 in
theorem c_X7_moved {l : Launch} {D : va_G} {cs : mC} {ad : Int → Nat} (σ : mS) (b w : Int) (hb : i32 b) (hw : i32 w) (hW : qW (vX σ)) : CI l (gX D cs ad) M_X7_moved 13 [.ref (ad 0), mI b, mI w] σ (fun z s => z = sp_moved (vX σ) b w ∧ vX s = vX σ) := by
  refine CI.of (by decide) (Nat.le_of_ble_eq_true rfl) (fun x h hq => ?_)
  show mG x 0 [(0, .ref (ad 0)), (1, mI b), (2, mI w)] [] σ
  have hn0 : 0 ≤ σ 1 2 := hW.1.1
  have hn6 : σ 1 2 ≤ 6 := hW.1.2.1
  have e4 : vX σ 0 4 = σ 1 2 := rfl
  refine g_aload_n h dX7_moved_0 rfl ?_
  refine g_iload_n h dX7_moved_1 rfl ?_
  refine g_vI h (c_X7_noBill _ _ hb hn0 hn6) (by decide) lm_RX7_66 (rvV rfl) dX7_moved_2 rfl (Nat.le_of_ble_eq_true rfl) (fun z2 s2 p2 => ?_)
  obtain ⟨e2, r2⟩ := p2; subst e2; replace r2 := Eq.symm r2; subst r2
  refine g_ifb_eq (tgt := 10) h dX7_moved_5 (by decide)  (fun c5 => ?_) (fun c5 => ?_)
  · have cb : 0 ≤ b ∧ b < vX σ 0 4 := by omega
    refine g_iload_n h dX7_moved_10 rfl ?_
    refine g_iconst h dX7_moved_11 rfl ?_
    refine g_sI h (c_X7_within _ _ _ hw ⟨by omega, by omega⟩) (by decide) lm_RX7_40 dX7_moved_12 rfl (Nat.le_of_ble_eq_true rfl) (fun z12 s12 p12 => ?_)
    obtain ⟨e12, r12⟩ := p12; subst e12; replace r12 := Eq.symm r12; subst r12
    refine g_ifb_ne (tgt := 21) h dX7_moved_15 (by decide)  (fun c15 => ?_) (fun c15 => ?_)
    · refine g_aload_n h dX7_moved_21 rfl ?_
      refine gxV_council h dX7_moved_22 lf_RX7_12 ?_
      refine g_aload_n h dX7_moved_25 rfl ?_
      refine gxV_readings h dX7_moved_26 lf_RX7_21 ?_
      refine g_iload_n h dX7_moved_29 rfl ?_
      refine g_iload_n h dX7_moved_30 rfl ?_
      refine g_iconst h dX7_moved_31 rfl ?_
      refine g_icmp_ne (tgt := 39) h dX7_moved_32 (by decide) ⟨by omega, by omega⟩ ⟨by omega, by omega⟩ (fun c32 => ?_) (fun c32 => ?_)
      · refine g_iconst h dX7_moved_39 rfl ?_
        refine g_val (b := w) (by omega) ?_
        refine g_sI h (c_X6_possibleMoves _ _ _ hW (by omega) cb.1 (by omega) (by omega)) (by decide) lm_RX7_170 dX7_moved_40 rfl (Nat.le_of_ble_eq_true rfl) (fun z40 s40 p40 => ?_)
        refine g_iret h hq rfl dX7_moved_43 ⟨by unfold sp_moved; rw [if_neg (fun z => z cb), if_neg (fun z => z c15)]; exact p40.1, p40.2.view⟩
      · refine g_iconst h dX7_moved_35 rfl ?_
        refine g_goto (tgt := 40) h dX7_moved_36 (by decide) ?_
        refine g_val (b := w) (by omega) ?_
        refine g_sI h (c_X6_possibleMoves _ _ _ hW (by omega) cb.1 (by omega) (by omega)) (by decide) lm_RX7_170 dX7_moved_40 rfl (Nat.le_of_ble_eq_true rfl) (fun z40 s40 p40 => ?_)
        refine g_iret h hq rfl dX7_moved_43 ⟨by unfold sp_moved; rw [if_neg (fun z => z cb), if_neg (fun z => z c15)]; exact p40.1, p40.2.view⟩
    · refine g_bipush h dX7_moved_18 (by decide) ?_
      refine g_iret h hq rfl dX7_moved_20 ⟨by unfold sp_moved; rw [if_neg (fun z => z cb), if_pos c15], rfl⟩
  · refine g_iconst h dX7_moved_8 rfl ?_
    refine g_iret h hq rfl dX7_moved_9 ⟨by unfold sp_moved; rw [if_pos c5], rfl⟩
set_option maxRecDepth 100000 in
set_option maxHeartbeats 2000000 in
theorem c_X7_odds {l : Launch} {D : va_G} {cs : mC} {ad : Int → Nat} (σ : mS) (b d w : Int) (hb : i32 b) (hd : i32 d) (hw : i32 w) (hW : qW (vX σ)) : CL l (gX D cs ad) M_X7_odds 12 [.ref (ad 0), mI b, mI d, mI w] σ (fun z s => z = sp_odds (vX σ) b d w ∧ vX s = vX σ) := by
  refine CL.of (by decide) (Nat.le_of_ble_eq_true rfl) (fun x h hq => ?_)
  show mG x 0 [(0, .ref (ad 0)), (1, mI b), (2, mI d), (3, mI w)] [] σ
  have hn0 : 0 ≤ σ 1 2 := hW.1.1
  have hn6 : σ 1 2 ≤ 6 := hW.1.2.1
  have e4 : vX σ 0 4 = σ 1 2 := rfl
  refine g_aload_n h dX7_odds_0 rfl ?_
  refine g_iload_n h dX7_odds_1 rfl ?_
  refine g_vI h (c_X7_noBill _ _ hb hn0 hn6) (by decide) lm_RX7_66 (rvV rfl) dX7_odds_2 rfl (Nat.le_of_ble_eq_true rfl) (fun z2 s2 p2 => ?_)
  obtain ⟨e2, r2⟩ := p2; subst e2; replace r2 := Eq.symm r2; subst r2
  refine g_ifb_ne (tgt := 25) h dX7_odds_5 (by decide)  (fun c5 => ?_) (fun c5 => ?_)
  · refine g_ldc2 (v := -9223372036854775808) h dX7_odds_25 lc_RX7_174 (by decide) ?_
    refine g_lret h hq rfl dX7_odds_28 ⟨by unfold sp_odds; rw [if_pos (Or.inl c5)], rfl⟩
  · refine g_iload_n h dX7_odds_8 rfl ?_
    refine g_bipush h dX7_odds_9 (by decide) ?_
    refine g_sI h (c_X7_within _ _ _ hd ⟨by omega, by omega⟩) (by decide) lm_RX7_40 dX7_odds_11 rfl (Nat.le_of_ble_eq_true rfl) (fun z11 s11 p11 => ?_)
    obtain ⟨e11, r11⟩ := p11; subst e11; replace r11 := Eq.symm r11; subst r11
    refine g_ifb_eq (tgt := 25) h dX7_odds_14 (by decide)  (fun c14 => ?_) (fun c14 => ?_)
    · refine g_ldc2 (v := -9223372036854775808) h dX7_odds_25 lc_RX7_174 (by decide) ?_
      refine g_lret h hq rfl dX7_odds_28 ⟨by unfold sp_odds; rw [if_pos (Or.inr (Or.inl c14))], rfl⟩
    · refine g_iload_n h dX7_odds_17 rfl ?_
      refine g_iconst h dX7_odds_18 rfl ?_
      refine g_sI h (c_X7_within _ _ _ hw ⟨by omega, by omega⟩) (by decide) lm_RX7_40 dX7_odds_19 rfl (Nat.le_of_ble_eq_true rfl) (fun z19 s19 p19 => ?_)
      obtain ⟨e19, r19⟩ := p19; subst e19; replace r19 := Eq.symm r19; subst r19
      refine g_ifb_ne (tgt := 29) h dX7_odds_22 (by decide)  (fun c22 => ?_) (fun c22 => ?_)
      · have cb : 0 ≤ b ∧ b < vX σ 0 4 := by omega
        refine g_aload_n h dX7_odds_29 rfl ?_
        refine gxV_council h dX7_odds_30 lf_RX7_12 ?_
        refine g_iload_n h dX7_odds_33 rfl ?_
        refine g_iload_n h dX7_odds_34 rfl ?_
        refine g_iload_n h dX7_odds_35 rfl ?_
        refine g_iconst h dX7_odds_36 rfl ?_
        refine g_icmp_ne (tgt := 44) h dX7_odds_37 (by decide) ⟨by omega, by omega⟩ ⟨by omega, by omega⟩ (fun c37 => ?_) (fun c37 => ?_)
        · refine g_iconst h dX7_odds_44 rfl ?_
          refine g_val (b := w) (by omega) ?_
          refine g_sL h (c_X6_shareOfClouds _ _ _ _ hW (by omega) cb.1 cb.2 c14.1 c14.2 (by omega)) (by decide) lm_RX7_176 dX7_odds_45 rfl (Nat.le_of_ble_eq_true rfl) (fun z45 s45 p45 => ?_)
          refine g_lret h hq rfl dX7_odds_48 ⟨by unfold sp_odds; rw [if_neg (by omega)]; exact p45.1, p45.2.view⟩
        · refine g_iconst h dX7_odds_40 rfl ?_
          refine g_goto (tgt := 45) h dX7_odds_41 (by decide) ?_
          refine g_val (b := w) (by omega) ?_
          refine g_sL h (c_X6_shareOfClouds _ _ _ _ hW (by omega) cb.1 cb.2 c14.1 c14.2 (by omega)) (by decide) lm_RX7_176 dX7_odds_45 rfl (Nat.le_of_ble_eq_true rfl) (fun z45 s45 p45 => ?_)
          refine g_lret h hq rfl dX7_odds_48 ⟨by unfold sp_odds; rw [if_neg (by omega)]; exact p45.1, p45.2.view⟩
      · refine g_ldc2 (v := -9223372036854775808) h dX7_odds_25 lc_RX7_174 (by decide) ?_
        refine g_lret h hq rfl dX7_odds_28 ⟨by unfold sp_odds; rw [if_pos (Or.inr (Or.inr c22))], rfl⟩
set_option maxRecDepth 100000 in
set_option maxHeartbeats 2000000 in
theorem c_X7_ofBill {l : Launch} {D : va_G} {cs : mC} {ad : Int → Nat} (σ : mS) (b w : Int) (hb : i32 b) (hw : i32 w) (hW : qW (vX σ)) : CI l (gX D cs ad) M_X7_ofBill 2 [.ref (ad 0), mI b, mI w] σ (fun z s => z = sp_ofBill (vX σ) b w ∧ vX s = vX σ) := by
  refine CI.of (by decide) (Nat.le_of_ble_eq_true rfl) (fun x h hq => ?_)
  show mG x 0 [(0, .ref (ad 0)), (1, mI b), (2, mI w)] [] σ
  have hn0 : 0 ≤ σ 1 2 := hW.1.1
  have hn6 : σ 1 2 ≤ 6 := hW.1.2.1
  have e4 : vX σ 0 4 = σ 1 2 := rfl
  refine g_aload_n h dX7_ofBill_0 rfl ?_
  refine g_iload_n h dX7_ofBill_1 rfl ?_
  refine g_vI h (c_X7_noBill _ _ hb hn0 hn6) (by decide) lm_RX7_66 (rvV rfl) dX7_ofBill_2 rfl (Nat.le_of_ble_eq_true rfl) (fun z2 s2 p2 => ?_)
  obtain ⟨e2, r2⟩ := p2; subst e2; replace r2 := Eq.symm r2; subst r2
  refine g_ifb_eq (tgt := 10) h dX7_ofBill_5 (by decide)  (fun c5 => ?_) (fun c5 => ?_)
  · have cb : 0 ≤ b ∧ b < vX σ 0 4 := by omega
    refine g_aload_n h dX7_ofBill_10 rfl ?_
    refine gxV_council h dX7_ofBill_11 lf_RX7_12 ?_
    refine gxC_bills h dX7_ofBill_14 lf_RX7_69 ?_
    refine g_iload_n h dX7_ofBill_17 rfl ?_
    refine lx_bills h dX7_ofBill_18 (by omega) (by omega) ?_
    refine g_astore_n h dX7_ofBill_19 (by decide) rfl ?_
    refine g_iload_n h dX7_ofBill_20 rfl ?_
    rcases (show w < 0 ∨ 4 < w ∨ w = 0 ∨ w = 1 ∨ w = 2 ∨ w = 3 ∨ w = 4 by omega) with c21 | c21 | c21 | c21 | c21 | c21 | c21
    · refine g_tsOut (tgt := 81) h dX7_ofBill_21 hw (Or.inl c21) (by decide) ?_
      refine g_bipush h dX7_ofBill_81 (by decide) ?_
      refine g_iret h hq rfl dX7_ofBill_83 ⟨by unfold sp_ofBill; rw [if_neg (fun z => z cb), if_neg (by omega)], rfl⟩
    · refine g_tsOut (tgt := 81) h dX7_ofBill_21 hw (Or.inr c21) (by decide) ?_
      refine g_bipush h dX7_ofBill_81 (by decide) ?_
      refine g_iret h hq rfl dX7_ofBill_83 ⟨by unfold sp_ofBill; rw [if_neg (fun z => z cb), if_neg (by omega)], rfl⟩
    · refine g_tsIn (tgt := 56) (off := 35) h dX7_ofBill_21 c21 (by decide) (by decide) (by decide) rfl (by decide) ?_
      refine g_aload_n h dX7_ofBill_56 rfl ?_
      refine gxB_kind h (by omega) (by omega) dX7_ofBill_57 lf_RX7_73 ?_
      refine g_iret h hq rfl dX7_ofBill_60 ⟨by unfold sp_ofBill; rw [if_neg (fun z => z cb), if_pos (by omega), c21]; exact (vX_kind σ cb.1 (by omega)).symm, rfl⟩
    · refine g_tsIn (tgt := 61) (off := 40) h dX7_ofBill_21 c21 (by decide) (by decide) (by decide) rfl (by decide) ?_
      refine g_aload_n h dX7_ofBill_61 rfl ?_
      refine gxB_day h (by omega) (by omega) dX7_ofBill_62 lf_RX7_78 ?_
      refine g_iret h hq rfl dX7_ofBill_65 ⟨by unfold sp_ofBill; rw [if_neg (fun z => z cb), if_pos (by omega), c21]; exact (vX_day σ cb.1 (by omega)).symm, rfl⟩
    · refine g_tsIn (tgt := 66) (off := 45) h dX7_ofBill_21 c21 (by decide) (by decide) (by decide) rfl (by decide) ?_
      refine g_aload_n h dX7_ofBill_66 rfl ?_
      refine gxB_needs h (by omega) (by omega) dX7_ofBill_67 lf_RX7_81 ?_
      refine g_iret h hq rfl dX7_ofBill_70 ⟨by unfold sp_ofBill; rw [if_neg (fun z => z cb), if_pos (by omega), c21]; exact (vX_needs σ cb.1 (by omega)).symm, rfl⟩
    · refine g_tsIn (tgt := 71) (off := 50) h dX7_ofBill_21 c21 (by decide) (by decide) (by decide) rfl (by decide) ?_
      refine g_aload_n h dX7_ofBill_71 rfl ?_
      refine gxB_names h (by omega) (by omega) dX7_ofBill_72 lf_RX7_84 ?_
      refine g_iret h hq rfl dX7_ofBill_75 ⟨by unfold sp_ofBill; rw [if_neg (fun z => z cb), if_pos (by omega), c21]; exact (vX_names σ cb.1 (by omega)).symm, rfl⟩
    · refine g_tsIn (tgt := 76) (off := 55) h dX7_ofBill_21 c21 (by decide) (by decide) (by decide) rfl (by decide) ?_
      refine g_aload_n h dX7_ofBill_76 rfl ?_
      refine gxB_lasts h (by omega) (by omega) dX7_ofBill_77 lf_RX7_87 ?_
      refine g_iret h hq rfl dX7_ofBill_80 ⟨by unfold sp_ofBill; rw [if_neg (fun z => z cb), if_pos (by omega), c21]; exact (vX_lasts σ cb.1 (by omega)).symm, rfl⟩
  · refine g_iconst h dX7_ofBill_8 rfl ?_
    refine g_iret h hq rfl dX7_ofBill_9 ⟨by unfold sp_ofBill; rw [if_pos c5], rfl⟩
set_option maxRecDepth 100000 in
set_option maxHeartbeats 2000000 in
theorem c_X7_moon {l : Launch} {D : va_G} {cs : mC} {ad : Int → Nat} (σ : mS) (n : Int) (hn : i32 n) (hW : qW (vX σ)) : CI l (gX D cs ad) M_X7_moon 1 [.ref (ad 0), mI n] σ (fun z s => z = sp_moon (vX σ) n ∧ vX s = vX σ) := by
  refine CI.of (by decide) (Nat.le_of_ble_eq_true rfl) (fun x h hq => ?_)
  show mG x 0 [(0, .ref (ad 0)), (1, mI n)] [] σ
  have hn0 : 0 ≤ σ 1 2 := hW.1.1
  have hn6 : σ 1 2 ≤ 6 := hW.1.2.1
  have e4 : vX σ 0 4 = σ 1 2 := rfl
  refine g_iload_n h dX7_moon_0 rfl ?_
  refine g_bipush h dX7_moon_1 (by decide) ?_
  refine g_sI h (c_X7_within _ _ _ hn ⟨by omega, by omega⟩) (by decide) lm_RX7_40 dX7_moon_3 rfl (Nat.le_of_ble_eq_true rfl) (fun z3 s3 p3 => ?_)
  obtain ⟨e3, r3⟩ := p3; subst e3; replace r3 := Eq.symm r3; subst r3
  refine g_ifb_ne (tgt := 12) h dX7_moon_6 (by decide)  (fun c6 => ?_) (fun c6 => ?_)
  · refine g_aload_n h dX7_moon_12 rfl ?_
    refine g_vI h (c_X7_noCouncil _ hn0 hn6) (by decide) lm_RX7_90 (rvV rfl) dX7_moon_13 rfl (Nat.le_of_ble_eq_true rfl) (fun z13 s13 p13 => ?_)
    obtain ⟨e13, r13⟩ := p13; subst e13; replace r13 := Eq.symm r13; subst r13
    refine g_ifb_eq (tgt := 22) h dX7_moon_16 (by decide)  (fun c16 => ?_) (fun c16 => ?_)
    · refine g_aload_n h dX7_moon_22 rfl ?_
      refine gxV_council h dX7_moon_23 lf_RX7_12 ?_
      refine gxC_sky h dX7_moon_26 lf_RX7_94 ?_
      refine g_iload_n h dX7_moon_29 rfl ?_
      refine g_vI h (c_X4_dayOfMoon _ _ hW.1 (by omega) c6.1 (by omega)) (by decide) lm_RX7_98 (rvK rfl) dX7_moon_30 rfl (Nat.le_of_ble_eq_true rfl) (fun z30 s30 p30 => ?_)
      obtain ⟨e30, r30⟩ := p30; subst e30; replace r30 := Eq.symm r30; subst r30
      refine g_iret h hq rfl dX7_moon_33 ⟨by unfold sp_moon; rw [if_neg (fun z => z c6), if_neg c16], rfl⟩
    · refine g_bipush h dX7_moon_19 (by decide) ?_
      refine g_iret h hq rfl dX7_moon_21 ⟨by unfold sp_moon; rw [if_neg (fun z => z c6), if_pos c16], rfl⟩
  · refine g_bipush h dX7_moon_9 (by decide) ?_
    refine g_iret h hq rfl dX7_moon_11 ⟨by unfold sp_moon; rw [if_pos c6], rfl⟩
set_option maxRecDepth 100000 in
set_option maxHeartbeats 2000000 in
theorem c_X7_span {l : Launch} {D : va_G} {cs : mC} {ad : Int → Nat} (σ : mS) (v : Int) (hv : i32 v) (hW : qW (vX σ)) : CI l (gX D cs ad) M_X7_span 1 [.ref (ad 0), mI v] σ (fun z s => z = sp_span (vX σ) v ∧ vX s = ns_span (vX σ) v) := by
  refine CI.of (by decide) (Nat.le_of_ble_eq_true rfl) (fun x h hq => ?_)
  show mG x 0 [(0, .ref (ad 0)), (1, mI v)] [] σ
  have hn0 : 0 ≤ σ 1 2 := hW.1.1
  have hn6 : σ 1 2 ≤ 6 := hW.1.2.1
  have e4 : vX σ 0 4 = σ 1 2 := rfl
  refine g_iload_n h dX7_span_0 rfl ?_
  refine g_bipush h dX7_span_1 (by decide) ?_
  refine g_sI h (c_X7_within _ _ _ hv ⟨by omega, by omega⟩) (by decide) lm_RX7_40 dX7_span_3 rfl (Nat.le_of_ble_eq_true rfl) (fun z3 s3 p3 => ?_)
  obtain ⟨e3, r3⟩ := p3; subst e3; replace r3 := Eq.symm r3; subst r3
  refine g_ifb_ne (tgt := 12) h dX7_span_6 (by decide)  (fun c6 => ?_) (fun c6 => ?_)
  · refine g_aload_n h dX7_span_12 rfl ?_
    refine g_vI h (c_X7_noCouncil _ hn0 hn6) (by decide) lm_RX7_90 (rvV rfl) dX7_span_13 rfl (Nat.le_of_ble_eq_true rfl) (fun z13 s13 p13 => ?_)
    obtain ⟨e13, r13⟩ := p13; subst e13; replace r13 := Eq.symm r13; subst r13
    refine g_ifb_eq (tgt := 22) h dX7_span_16 (by decide)  (fun c16 => ?_) (fun c16 => ?_)
    · refine g_aload_n h dX7_span_22 rfl ?_
      refine gxV_council h dX7_span_23 lf_RX7_12 ?_
      refine gxC_watch h dX7_span_26 lf_RX7_103 ?_
      refine g_istore_n h dX7_span_29 (by decide) rfl ?_
      refine g_aload_n h dX7_span_30 rfl ?_
      refine gxV_council h dX7_span_31 lf_RX7_12 ?_
      refine g_iload_n h dX7_span_34 rfl ?_
      refine pxC_watch h dX7_span_35 lf_RX7_103 ?_
      refine g_iload_n h dX7_span_38 rfl ?_
      refine g_iret h hq rfl dX7_span_39 ⟨by unfold sp_span; rw [if_neg (fun z => z c6), if_neg c16]; rfl, by unfold ns_span; rw [if_neg (fun z => z c6), if_neg c16]; exact vX_up_span σ v⟩
    · refine g_bipush h dX7_span_19 (by decide) ?_
      refine g_iret h hq rfl dX7_span_21 ⟨by unfold sp_span; rw [if_neg (fun z => z c6), if_pos c16], by unfold ns_span; rw [if_neg (fun z => z c6), if_pos c16]⟩
  · refine g_bipush h dX7_span_9 (by decide) ?_
    refine g_iret h hq rfl dX7_span_11 ⟨by unfold sp_span; rw [if_pos c6], by unfold ns_span; rw [if_pos c6]⟩
set_option maxRecDepth 100000 in
set_option maxHeartbeats 2000000 in
theorem c_X7_move {l : Launch} {D : va_G} {cs : mC} {ad : Int → Nat} (σ : mS) (b d : Int) (hb : i32 b) (hd : i32 d) (hW : qW (vX σ)) : CI l (gX D cs ad) M_X7_move 2 [.ref (ad 0), mI b, mI d] σ (fun z s => z = sp_move (vX σ) b d ∧ vX s = ns_move (vX σ) b d) := by
  refine CI.of (by decide) (Nat.le_of_ble_eq_true rfl) (fun x h hq => ?_)
  show mG x 0 [(0, .ref (ad 0)), (1, mI b), (2, mI d)] [] σ
  have hn0 : 0 ≤ σ 1 2 := hW.1.1
  have hn6 : σ 1 2 ≤ 6 := hW.1.2.1
  have e4 : vX σ 0 4 = σ 1 2 := rfl
  refine g_aload_n h dX7_move_0 rfl ?_
  refine g_iload_n h dX7_move_1 rfl ?_
  refine g_vI h (c_X7_noBill _ _ hb hn0 hn6) (by decide) lm_RX7_66 (rvV rfl) dX7_move_2 rfl (Nat.le_of_ble_eq_true rfl) (fun z2 s2 p2 => ?_)
  obtain ⟨e2, r2⟩ := p2; subst e2; replace r2 := Eq.symm r2; subst r2
  refine g_ifb_eq (tgt := 10) h dX7_move_5 (by decide)  (fun c5 => ?_) (fun c5 => ?_)
  · have cb : 0 ≤ b ∧ b < vX σ 0 4 := by omega
    refine g_iload_n h dX7_move_10 rfl ?_
    refine g_bipush h dX7_move_11 (by decide) ?_
    refine g_sI h (c_X7_within _ _ _ hd ⟨by omega, by omega⟩) (by decide) lm_RX7_40 dX7_move_13 rfl (Nat.le_of_ble_eq_true rfl) (fun z13 s13 p13 => ?_)
    obtain ⟨e13, r13⟩ := p13; subst e13; replace r13 := Eq.symm r13; subst r13
    refine g_ifb_ne (tgt := 22) h dX7_move_16 (by decide)  (fun c16 => ?_) (fun c16 => ?_)
    · refine g_aload_n h dX7_move_22 rfl ?_
      refine gxV_council h dX7_move_23 lf_RX7_12 ?_
      refine gxC_bills h dX7_move_26 lf_RX7_69 ?_
      refine g_iload_n h dX7_move_29 rfl ?_
      refine lx_bills h dX7_move_30 (by omega) (by omega) ?_
      refine gxB_day h (by omega) (by omega) dX7_move_31 lf_RX7_78 ?_
      refine g_istore_n h dX7_move_34 (by decide) rfl ?_
      refine g_aload_n h dX7_move_35 rfl ?_
      refine gxV_council h dX7_move_36 lf_RX7_12 ?_
      refine gxC_bills h dX7_move_39 lf_RX7_69 ?_
      refine g_iload_n h dX7_move_42 rfl ?_
      refine lx_bills h dX7_move_43 (by omega) (by omega) ?_
      refine g_iload_n h dX7_move_44 rfl ?_
      refine pxB_day h (by omega) (by omega) dX7_move_45 lf_RX7_78 ?_
      refine g_iload_n h dX7_move_48 rfl ?_
      refine g_iret h hq rfl dX7_move_49 ⟨by unfold sp_move; rw [if_neg (fun z => z cb), if_neg (fun z => z c16)]; exact (vX_day σ cb.1 (by omega)).symm, by unfold ns_move; rw [if_neg (fun z => z cb), if_neg (fun z => z c16)]; exact vX_up_b σ d (by omega) (by omega) cb.1 (by omega)⟩
    · refine g_bipush h dX7_move_19 (by decide) ?_
      refine g_iret h hq rfl dX7_move_21 ⟨by unfold sp_move; rw [if_neg (fun z => z cb), if_pos c16], by unfold ns_move; rw [if_neg (fun z => z cb), if_pos c16]⟩
  · refine g_iconst h dX7_move_8 rfl ?_
    refine g_iret h hq rfl dX7_move_9 ⟨by unfold sp_move; rw [if_pos c5], by unfold ns_move; rw [if_pos c5]⟩
set_option maxRecDepth 100000 in
set_option maxHeartbeats 2000000 in
theorem c_X4_cover {l : Launch} {D : va_G} {cs : mC} {ad : Int → Nat} (σ : mS) (d i : Int) (d0 : 0 ≤ d) (d1 : d < 110) (hi : i = 0 ∨ i = 1) (hc : σ 3 d = 0 ∨ σ 3 d = 1) : CI l (gX D cs ad) M_X4_cover 0 [.ref (ad 2), mI d, mI i] σ (fun z s => z = (if σ 3 d = i then 0 else 1) ∧ s = (if σ 3 d = i then σ else mUp (mUp σ 3 d i) 2 1 (σ 2 1 + (if i = 0 then -1 else 1)))) := by
  refine CI.of (by decide) (Nat.le_of_ble_eq_true rfl) (fun x h hq => ?_)
  show mG x 0 [(0, .ref (ad 2)), (1, mI d), (2, mI i)] [] σ
  refine g_aload_n h dX4_cover_0 rfl ?_
  refine gxK_clouded h dX4_cover_1 lf_RX4_9 ?_
  refine g_iload_n h dX4_cover_4 rfl ?_
  refine lx_nights h dX4_cover_5 (by omega) (by omega) ?_
  refine g_iload_n h dX4_cover_6 rfl ?_
  refine g_icmp_ne (tgt := 12) h dX4_cover_7 (by decide) ⟨by omega, by omega⟩ ⟨by omega, by omega⟩ (fun c7 => ?_) (fun c7 => ?_)
  · have J33 : ∀ v : Int, v = (if i = 0 then -1 else 1) → mG x 33 [(0, .ref (ad 2)), (1, mI d), (2, mI i)] [mI v, mI (mUp σ 3 d i 2 1), .ref (ad 2)] (mUp σ 3 d i) := by
      intro v hv
      refine g_iadd h dX4_cover_33 ?_
      refine pxK_cloudedNights h dX4_cover_34 lf_RX4_34 ?_
      refine g_iconst h dX4_cover_37 rfl ?_
      refine g_zret h hq rfl dX4_cover_38 (Or.inr rfl) ⟨by rw [if_neg c7], by rw [if_neg c7, hv, mUp_ne _ _ (Or.inl (by omega))]⟩
    refine g_aload_n h dX4_cover_12 rfl ?_
    refine gxK_clouded h dX4_cover_13 lf_RX4_9 ?_
    refine g_iload_n h dX4_cover_16 rfl ?_
    refine g_iload_n h dX4_cover_17 rfl ?_
    refine sx_nights h dX4_cover_18 (by omega) (by omega) hi ?_
    refine g_aload_n h dX4_cover_19 rfl ?_
    refine g_dup h dX4_cover_20 rfl ?_
    refine gxK_cloudedNights h dX4_cover_21 lf_RX4_34 ?_
    refine g_iload_n h dX4_cover_24 rfl ?_
    refine g_if_eq (tgt := 32) h dX4_cover_25 (by decide) ⟨by omega, by omega⟩ (fun c25 => ?_) (fun c25 => ?_)
    · refine g_iconst h dX4_cover_32 rfl ?_
      exact J33 _ (by rw [if_pos c25])
    · refine g_iconst h dX4_cover_28 rfl ?_
      refine g_goto (tgt := 33) h dX4_cover_29 (by decide) ?_
      exact J33 _ (by rw [if_neg c25])
  · refine g_iconst h dX4_cover_10 rfl ?_
    refine g_zret h hq rfl dX4_cover_11 (Or.inl rfl) ⟨by rw [if_pos c7], by rw [if_pos c7]⟩
set_option maxRecDepth 100000 in
set_option maxHeartbeats 2000000 in
theorem c_X7_cloud {l : Launch} {D : va_G} {cs : mC} {ad : Int → Nat} (σ : mS) (d i : Int) (hd : i32 d) (hi : i = 0 ∨ i = 1) (hW : qW (vX σ)) : CI l (gX D cs ad) M_X7_cloud 1 [.ref (ad 0), mI d, mI i] σ (fun z s => z = sp_cloud (vX σ) d i ∧ vX s = ns_cloud (vX σ) d i) := by
  refine CI.of (by decide) (Nat.le_of_ble_eq_true rfl) (fun x h hq => ?_)
  show mG x 0 [(0, .ref (ad 0)), (1, mI d), (2, mI i)] [] σ
  have hn0 : 0 ≤ σ 1 2 := hW.1.1
  have hn6 : σ 1 2 ≤ 6 := hW.1.2.1
  have e4 : vX σ 0 4 = σ 1 2 := rfl
  refine g_iload_n h dX7_cloud_0 rfl ?_
  refine g_bipush h dX7_cloud_1 (by decide) ?_
  refine g_sI h (c_X7_within _ _ _ hd ⟨by omega, by omega⟩) (by decide) lm_RX7_40 dX7_cloud_3 rfl (Nat.le_of_ble_eq_true rfl) (fun z3 s3 p3 => ?_)
  obtain ⟨e3, r3⟩ := p3; subst e3; replace r3 := Eq.symm r3; subst r3
  refine g_ifb_ne (tgt := 12) h dX7_cloud_6 (by decide)  (fun c6 => ?_) (fun c6 => ?_)
  · refine g_aload_n h dX7_cloud_12 rfl ?_
    refine g_vI h (c_X7_noCouncil _ hn0 hn6) (by decide) lm_RX7_90 (rvV rfl) dX7_cloud_13 rfl (Nat.le_of_ble_eq_true rfl) (fun z13 s13 p13 => ?_)
    obtain ⟨e13, r13⟩ := p13; subst e13; replace r13 := Eq.symm r13; subst r13
    refine g_ifb_eq (tgt := 22) h dX7_cloud_16 (by decide)  (fun c16 => ?_) (fun c16 => ?_)
    · have e6 := vX_cl σ c6.1 (show d < 110 by omega)
      have hcd := hW.2.1 d c6.1 (by omega)
      rw [e6] at hcd
      refine g_aload_n h dX7_cloud_22 rfl ?_
      refine gxV_council h dX7_cloud_23 lf_RX7_12 ?_
      refine gxC_sky h dX7_cloud_26 lf_RX7_94 ?_
      refine g_iload_n h dX7_cloud_29 rfl ?_
      refine g_iload_n h dX7_cloud_30 rfl ?_
      refine g_vI h (c_X4_cover _ _ _ c6.1 (by omega) hi hcd) (by decide) lm_RX7_106 (rvK rfl) dX7_cloud_31 rfl (Nat.le_of_ble_eq_true rfl) (fun z31 s31 p31 => ?_)
      obtain ⟨e31, r31⟩ := p31
      refine g_if_eq (tgt := 41) h dX7_cloud_34 (by decide) (by rw [e31]; split <;> exact ⟨by omega, by omega⟩) (fun c34 => ?_) (fun c34 => ?_)
      · refine g_iconst h dX7_cloud_41 rfl ?_
        refine g_iret h hq rfl dX7_cloud_42 ⟨by unfold sp_cloud; rw [if_neg (fun z => z c6), if_neg c16, e6]; by_cases q : σ 3 d = i; rw [if_pos q]; rw [if_neg q] at e31; omega, by
          unfold ns_cloud
          rw [if_neg (fun z => z c6), if_neg c16, r31, e6]
          by_cases q : σ 3 d = i
          · rw [if_pos q, if_pos q, ← q, ← e6, mUp_id, Int.add_zero, mUp_id]
          · rw [if_neg q, if_neg q, vX_up_nights, vX_up_cl σ i c6.1 (by omega)]
            rfl⟩
      · refine g_iconst h dX7_cloud_37 rfl ?_
        refine g_goto (tgt := 42) h dX7_cloud_38 (by decide) ?_
        refine g_iret h hq rfl dX7_cloud_42 ⟨by unfold sp_cloud; rw [if_neg (fun z => z c6), if_neg c16, e6]; by_cases q : σ 3 d = i; rw [if_pos q] at e31; omega; rw [if_neg q], by
          unfold ns_cloud
          rw [if_neg (fun z => z c6), if_neg c16, r31, e6]
          by_cases q : σ 3 d = i
          · rw [if_pos q, if_pos q, ← q, ← e6, mUp_id, Int.add_zero, mUp_id]
          · rw [if_neg q, if_neg q, vX_up_nights, vX_up_cl σ i c6.1 (by omega)]
            rfl⟩
    · refine g_bipush h dX7_cloud_19 (by decide) ?_
      refine g_iret h hq rfl dX7_cloud_21 ⟨by unfold sp_cloud; rw [if_neg (fun z => z c6), if_pos c16], by unfold ns_cloud; rw [if_neg (fun z => z c6), if_pos c16]⟩
  · refine g_bipush h dX7_cloud_9 (by decide) ?_
    refine g_iret h hq rfl dX7_cloud_11 ⟨by unfold sp_cloud; rw [if_pos c6], by unfold ns_cloud; rw [if_pos c6]⟩
set_option maxRecDepth 100000 in
set_option maxHeartbeats 2000000 in
theorem c_X2_append {l : Launch} {D : va_G} {cs : mC} {ad : Int → Nat} (σ : mS) (b d w : Int) (h0 : 0 ≤ σ 11 3) (h8 : σ 11 3 < 8) (hw : w = 0 ∨ w = 1) : CI l (gX D cs ad) M_X2_append 0 [.ref (ad 11), mI b, mI d, mI w] σ (fun z s => z = σ 11 3 ∧ s = mUp (mUp (mUp (mUp σ 12 (σ 11 3) b) 13 (σ 11 3) d) 14 (σ 11 3) w) 11 3 (σ 11 3 + 1)) := by
  refine CI.of (by decide) (Nat.le_of_ble_eq_true rfl) (fun x h hq => ?_)
  show mG x 0 [(0, .ref (ad 11)), (1, mI b), (2, mI d), (3, mI w)] [] σ
  refine g_aload_n h dX2_append_0 rfl ?_
  refine gxR_count h dX2_append_1 lf_RX2_22 ?_
  refine g_istore h dX2_append_4 (by decide) rfl ?_
  refine g_aload_n h dX2_append_6 rfl ?_
  refine gxR_bills h dX2_append_7 lf_RX2_9 ?_
  refine g_iload h dX2_append_10 rfl ?_
  refine g_iload_n h dX2_append_12 rfl ?_
  refine sx_rbills h dX2_append_13 (by omega) (by omega) ?_
  refine g_aload_n h dX2_append_14 rfl ?_
  refine gxR_days h dX2_append_15 lf_RX2_15 ?_
  refine g_iload h dX2_append_18 rfl ?_
  refine g_iload_n h dX2_append_20 rfl ?_
  refine sx_rdays h dX2_append_21 (by omega) (by omega) ?_
  refine g_aload_n h dX2_append_22 rfl ?_
  refine gxR_were h dX2_append_23 lf_RX2_18 ?_
  refine g_iload h dX2_append_26 rfl ?_
  refine g_iload_n h dX2_append_28 rfl ?_
  refine sx_rwere h dX2_append_29 (by omega) (by omega) hw ?_
  refine g_aload_n h dX2_append_30 rfl ?_
  refine g_dup h dX2_append_31 rfl ?_
  refine gxR_count h dX2_append_32 lf_RX2_22 ?_
  refine g_val (b := σ 11 3) (by rw [mUp_ne _ _ (Or.inl (by omega)), mUp_ne _ _ (Or.inl (by omega)), mUp_ne _ _ (Or.inl (by omega))]) ?_
  refine g_iconst h dX2_append_35 rfl ?_
  refine g_iadd h dX2_append_36 ?_
  refine pxR_count h dX2_append_37 lf_RX2_22 ?_
  refine g_iload h dX2_append_40 rfl ?_
  refine g_iret h hq rfl dX2_append_42 ⟨rfl, rfl⟩
set_option maxRecDepth 100000 in
set_option maxHeartbeats 2000000 in
theorem c_X7_reading {l : Launch} {D : va_G} {cs : mC} {ad : Int → Nat} (σ : mS) (b d w : Int) (hb : i32 b) (hd : i32 d) (hw : w = 0 ∨ w = 1) (hW : qW (vX σ)) : CI l (gX D cs ad) M_X7_reading 2 [.ref (ad 0), mI b, mI d, mI w] σ (fun z s => z = sp_reading (vX σ) b d ∧ vX s = ns_reading (vX σ) b d w) := by
  refine CI.of (by decide) (Nat.le_of_ble_eq_true rfl) (fun x h hq => ?_)
  show mG x 0 [(0, .ref (ad 0)), (1, mI b), (2, mI d), (3, mI w)] [] σ
  have hn0 : 0 ≤ σ 1 2 := hW.1.1
  have hn6 : σ 1 2 ≤ 6 := hW.1.2.1
  have e4 : vX σ 0 4 = σ 1 2 := rfl
  have r0 : 0 ≤ σ 11 3 := hW.2.2.1
  have r8 : σ 11 3 ≤ 8 := hW.2.2.2.1
  have er : vX σ 0 6 = σ 11 3 := rfl
  refine g_aload_n h dX7_reading_0 rfl ?_
  refine g_iload_n h dX7_reading_1 rfl ?_
  refine g_vI h (c_X7_noBill _ _ hb hn0 hn6) (by decide) lm_RX7_66 (rvV rfl) dX7_reading_2 rfl (Nat.le_of_ble_eq_true rfl) (fun z2 s2 p2 => ?_)
  obtain ⟨e2, r2⟩ := p2; subst e2; replace r2 := Eq.symm r2; subst r2
  refine g_ifb_eq (tgt := 10) h dX7_reading_5 (by decide)  (fun c5 => ?_) (fun c5 => ?_)
  · have cb : 0 ≤ b ∧ b < vX σ 0 4 := by omega
    refine g_iload_n h dX7_reading_10 rfl ?_
    refine g_bipush h dX7_reading_11 (by decide) ?_
    refine g_sI h (c_X7_within _ _ _ hd ⟨by omega, by omega⟩) (by decide) lm_RX7_40 dX7_reading_13 rfl (Nat.le_of_ble_eq_true rfl) (fun z13 s13 p13 => ?_)
    obtain ⟨e13, r13⟩ := p13; subst e13; replace r13 := Eq.symm r13; subst r13
    refine g_ifb_ne (tgt := 22) h dX7_reading_16 (by decide)  (fun c16 => ?_) (fun c16 => ?_)
    · refine g_aload_n h dX7_reading_22 rfl ?_
      refine gxV_readings h dX7_reading_23 lf_RX7_21 ?_
      refine gxR_count h dX7_reading_26 lf_RX7_62 ?_
      refine g_bipush h dX7_reading_29 (by decide) ?_
      refine g_icmp_lt (tgt := 37) h dX7_reading_31 (by decide) ⟨by omega, by omega⟩ ⟨by omega, by omega⟩ (fun c31 => ?_) (fun c31 => ?_)
      · refine g_aload_n h dX7_reading_37 rfl ?_
        refine gxV_readings h dX7_reading_38 lf_RX7_21 ?_
        refine g_iload_n h dX7_reading_41 rfl ?_
        refine g_iload_n h dX7_reading_42 rfl ?_
        refine g_iload_n h dX7_reading_43 rfl ?_
        refine g_vI h (c_X2_append _ _ _ _ r0 (by omega) hw) (by decide) lm_RX7_155 (rvR rfl) dX7_reading_44 rfl (Nat.le_of_ble_eq_true rfl) (fun z44 s44 p44 => ?_)
        obtain ⟨e44, r44⟩ := p44; subst e44; replace r44 := Eq.symm r44; subst r44
        refine g_iret h hq rfl dX7_reading_47 ⟨by unfold sp_reading; rw [if_neg (fun z => z cb), if_neg (fun z => z c16), if_neg (by omega)]; rfl, by
      unfold ns_reading
      rw [if_neg (fun z => z cb), if_neg (fun z => z c16), if_neg (by omega), vX_up_reads, vX_up_rd _ _ (by omega) (by omega) r0 (by omega), vX_up_rd _ _ (by omega) (by omega) r0 (by omega), vX_up_rd _ _ (by omega) (by omega) r0 (by omega), er]
      rfl⟩
      · refine g_bipush h dX7_reading_34 (by decide) ?_
        refine g_iret h hq rfl dX7_reading_36 ⟨by unfold sp_reading; rw [if_neg (fun z => z cb), if_neg (fun z => z c16), if_pos (by omega)], by unfold ns_reading; rw [if_neg (fun z => z cb), if_neg (fun z => z c16), if_pos (by omega)]⟩
    · refine g_bipush h dX7_reading_19 (by decide) ?_
      refine g_iret h hq rfl dX7_reading_21 ⟨by unfold sp_reading; rw [if_neg (fun z => z cb), if_pos c16], by unfold ns_reading; rw [if_neg (fun z => z cb), if_pos c16]⟩
  · refine g_iconst h dX7_reading_8 rfl ?_
    refine g_iret h hq rfl dX7_reading_9 ⟨by unfold sp_reading; rw [if_pos c5], by unfold ns_reading; rw [if_pos c5]⟩
set_option maxRecDepth 100000 in
set_option maxHeartbeats 2000000 in
theorem c_X7_back {l : Launch} {D : va_G} {cs : mC} {ad : Int → Nat} (σ : mS) (k : Int) (hk : i32 k) (hW : qW (vX σ)) : CI l (gX D cs ad) M_X7_back 1 [.ref (ad 0), mI k] σ (fun z s => z = sp_back (vX σ) k ∧ vX s = ns_back (vX σ) k) := by
  refine CI.of (by decide) (Nat.le_of_ble_eq_true rfl) (fun x h hq => ?_)
  show mG x 0 [(0, .ref (ad 0)), (1, mI k)] [] σ
  have r0 : 0 ≤ σ 11 3 := hW.2.2.1
  have r8 : σ 11 3 ≤ 8 := hW.2.2.2.1
  have er : vX σ 0 6 = σ 11 3 := rfl
  refine g_iload_n h dX7_back_0 rfl ?_
  refine g_aload_n h dX7_back_1 rfl ?_
  refine gxV_readings h dX7_back_2 lf_RX7_21 ?_
  refine gxR_count h dX7_back_5 lf_RX7_62 ?_
  refine g_sI h (c_X7_within _ _ _ hk ⟨by omega, by omega⟩) (by decide) lm_RX7_40 dX7_back_8 rfl (Nat.le_of_ble_eq_true rfl) (fun z8 s8 p8 => ?_)
  obtain ⟨e8, r8⟩ := p8; subst e8; replace r8 := Eq.symm r8; subst r8
  refine g_ifb_ne (tgt := 17) h dX7_back_11 (by decide)  (fun c11 => ?_) (fun c11 => ?_)
  · refine g_aload_n h dX7_back_17 rfl ?_
    refine gxV_readings h dX7_back_18 lf_RX7_21 ?_
    refine g_dup h dX7_back_21 rfl ?_
    refine gxR_count h dX7_back_22 lf_RX7_62 ?_
    refine g_iload_n h dX7_back_25 rfl ?_
    refine g_isub h dX7_back_26 ?_
    refine pxR_count h dX7_back_27 lf_RX7_62 ?_
    refine g_aload_n h dX7_back_30 rfl ?_
    refine gxV_readings h dX7_back_31 lf_RX7_21 ?_
    refine gxR_count h dX7_back_34 lf_RX7_62 ?_
    refine g_val (b := σ 11 3 - k) (mUp_eq _ _ _ _) ?_
    refine g_iret h hq rfl dX7_back_37 ⟨by unfold sp_back; rw [er, if_neg (fun z => z c11)], by unfold ns_back; rw [er, if_neg (fun z => z c11)]; exact vX_up_reads σ _⟩
  · refine g_bipush h dX7_back_14 (by decide) ?_
    refine g_iret h hq rfl dX7_back_16 ⟨by unfold sp_back; rw [er, if_pos c11], by unfold ns_back; rw [er, if_pos c11]⟩
set_option maxRecDepth 100000 in
set_option maxHeartbeats 2000000 in
theorem c_X7_tell {l : Launch} {D : va_G} {cs : mC} {ad : Int → Nat} (σ : mS) (b : Int) (hb : i32 b) (hW : qW (vX σ)) : CI l (gX D cs ad) M_X7_tell 4 [.ref (ad 0), mI b] σ (fun z s => z = sp_tell (vX σ) b ∧ vX s = ns_tell (vX σ) b) := by
  refine CI.of (by decide) (Nat.le_of_ble_eq_true rfl) (fun x h hq => ?_)
  show mG x 0 [(0, .ref (ad 0)), (1, mI b)] [] σ
  have hn0 : 0 ≤ σ 1 2 := hW.1.1
  have hn6 : σ 1 2 ≤ 6 := hW.1.2.1
  have e4 : vX σ 0 4 = σ 1 2 := rfl
  have et : vX σ 0 7 = σ 0 3 := rfl
  refine g_aload_n h dX7_tell_0 rfl ?_
  refine g_iload_n h dX7_tell_1 rfl ?_
  refine g_vI h (c_X7_noBill _ _ hb hn0 hn6) (by decide) lm_RX7_66 (rvV rfl) dX7_tell_2 rfl (Nat.le_of_ble_eq_true rfl) (fun z2 s2 p2 => ?_)
  obtain ⟨e2, r2⟩ := p2; subst e2; replace r2 := Eq.symm r2; subst r2
  refine g_ifb_eq (tgt := 10) h dX7_tell_5 (by decide)  (fun c5 => ?_) (fun c5 => ?_)
  · have cb : 0 ≤ b ∧ b < vX σ 0 4 := by omega
    refine g_aload_n h dX7_tell_10 rfl ?_
    refine gxV_council h dX7_tell_11 lf_RX7_12 ?_
    refine gxC_bills h dX7_tell_14 lf_RX7_69 ?_
    refine g_iload_n h dX7_tell_17 rfl ?_
    refine lx_bills h dX7_tell_18 (by omega) (by omega) ?_
    refine g_astore_n h dX7_tell_19 (by decide) rfl ?_
    have hbw := hW.1.2.2.2.2.2.2.2 b cb.1 (by omega)
    have ek := vX_kind σ cb.1 (show b < 6 by omega)
    have el := vX_lasts σ cb.1 (show b < 6 by omega)
    refine g_aload_n h dX7_tell_20 rfl ?_
    refine gxB_kind h (by omega) (by omega) dX7_tell_21 lf_RX7_73 ?_
    rcases (show σ (5 + b) 0 = 1 ∨ σ (5 + b) 0 = 2 ∨ (¬ σ (5 + b) 0 = 1 ∧ ¬ σ (5 + b) 0 = 2) by omega) with c24 | c24 | c24
    · refine g_lsw (tgt := 52) (off := 28) h dX7_tell_24 (by decide) ⟨by omega, by omega⟩ (by rw [c24]; decide) (by decide) ?_
      refine g_aload_n h dX7_tell_52 rfl ?_
      refine g_aload_n h dX7_tell_53 rfl ?_
      refine g_vI h (c_X7_sunsetBody _ _ (by omega) (by omega)) (by decide) lm_RX7_211 (rvV rfl) dX7_tell_54 rfl (Nat.le_of_ble_eq_true rfl) (fun z54 s54 p54 => ?_)
      obtain ⟨e54, r54⟩ := p54; subst e54; replace r54 := Eq.symm r54; subst r54
      refine g_iret h hq rfl dX7_tell_57 ⟨by unfold sp_tell; rw [if_neg (fun z => z cb), ek, if_pos c24, el], by unfold ns_tell; rw [if_neg (fun z => z cb), ek, if_pos c24, et]; exact vX_up_trace σ _⟩
    · refine g_lsw (tgt := 58) (off := 34) h dX7_tell_24 (by decide) ⟨by omega, by omega⟩ (by rw [c24]; decide) (by decide) ?_
      refine g_aload_n h dX7_tell_58 rfl ?_
      refine g_aload_n h dX7_tell_59 rfl ?_
      refine g_vI h (c_X7_repealBody _ _ (by omega) (by omega)) (by decide) lm_RX7_215 (rvV rfl) dX7_tell_60 rfl (Nat.le_of_ble_eq_true rfl) (fun z60 s60 p60 => ?_)
      obtain ⟨e60, r60⟩ := p60; subst e60; replace r60 := Eq.symm r60; subst r60
      refine g_iret h hq rfl dX7_tell_63 ⟨by unfold sp_tell; rw [if_neg (fun z => z cb), ek, if_neg (by omega), if_pos c24, el], by unfold ns_tell; rw [if_neg (fun z => z cb), ek, if_neg (by omega), if_pos c24, et]; exact vX_up_trace σ _⟩
    · refine g_lsw (tgt := 64) (off := 40) h dX7_tell_24 (by decide) ⟨by omega, by omega⟩ (lsw_df (by simp; omega)) (by decide) ?_
      refine g_aload_n h dX7_tell_64 rfl ?_
      refine g_aload_n h dX7_tell_65 rfl ?_
      refine g_vI h (c_X7_billBody _ _ (by omega) (by omega)) (by decide) lm_RX7_218 (rvV rfl) dX7_tell_66 rfl (Nat.le_of_ble_eq_true rfl) (fun z66 s66 p66 => ?_)
      obtain ⟨e66, r66⟩ := p66; subst e66; replace r66 := Eq.symm r66; subst r66
      refine g_iret h hq rfl dX7_tell_69 ⟨by unfold sp_tell; rw [if_neg (fun z => z cb), ek, if_neg c24.1, if_neg c24.2, el], by unfold ns_tell; rw [if_neg (fun z => z cb), ek, if_neg c24.1, if_neg c24.2, et]; exact vX_up_trace σ _⟩
  · refine g_iconst h dX7_tell_8 rfl ?_
    refine g_iret h hq rfl dX7_tell_9 ⟨by unfold sp_tell; rw [if_pos c5], by unfold ns_tell; rw [if_pos c5]⟩
set_option maxRecDepth 100000 in
set_option maxHeartbeats 2000000 in
theorem c_X7_seal {l : Launch} {D : va_G} {cs : mC} {ad : Int → Nat} (σ : mS) (b : Int) (hb : i32 b) (hW : qW (vX σ)) : CI l (gX D cs ad) M_X7_seal 2 [.ref (ad 0), mI b] σ (fun z s => z = sp_seal (vX σ) b ∧ vX s = ns_seal (vX σ) b) := by
  refine CI.of (by decide) (Nat.le_of_ble_eq_true rfl) (fun x h hq => ?_)
  show mG x 0 [(0, .ref (ad 0)), (1, mI b)] [] σ
  have hn0 : 0 ≤ σ 1 2 := hW.1.1
  have hn6 : σ 1 2 ≤ 6 := hW.1.2.1
  have e4 : vX σ 0 4 = σ 1 2 := rfl
  have et : vX σ 0 7 = σ 0 3 := rfl
  refine g_aload_n h dX7_seal_0 rfl ?_
  refine g_iload_n h dX7_seal_1 rfl ?_
  refine g_vI h (c_X7_noBill _ _ hb hn0 hn6) (by decide) lm_RX7_66 (rvV rfl) dX7_seal_2 rfl (Nat.le_of_ble_eq_true rfl) (fun z2 s2 p2 => ?_)
  obtain ⟨e2, r2⟩ := p2; subst e2; replace r2 := Eq.symm r2; subst r2
  refine g_ifb_eq (tgt := 10) h dX7_seal_5 (by decide)  (fun c5 => ?_) (fun c5 => ?_)
  · have cb : 0 ≤ b ∧ b < vX σ 0 4 := by omega
    refine g_aload_n h dX7_seal_10 rfl ?_
    refine gxV_council h dX7_seal_11 lf_RX7_12 ?_
    refine gxC_bills h dX7_seal_14 lf_RX7_69 ?_
    refine g_iload_n h dX7_seal_17 rfl ?_
    refine lx_bills h dX7_seal_18 (by omega) (by omega) ?_
    refine gxB_kind h (by omega) (by omega) dX7_seal_19 lf_RX7_73 ?_
    have hbw := hW.1.2.2.2.2.2.2.2 b cb.1 (by omega)
    have ek := vX_kind σ cb.1 (show b < 6 by omega)
    refine g_iconst h dX7_seal_22 rfl ?_
    refine g_icmp_ne (tgt := 33) h dX7_seal_23 (by decide) ⟨by omega, by omega⟩ ⟨by omega, by omega⟩ (fun c23 => ?_) (fun c23 => ?_)
    · refine g_aload_n h dX7_seal_33 rfl ?_
      refine g_iload_n h dX7_seal_34 rfl ?_
      refine g_vI h (c_X7_lentSeal _ _) (by decide) lm_RX7_224 (rvV rfl) dX7_seal_35 rfl (Nat.le_of_ble_eq_true rfl) (fun z35 s35 p35 => ?_)
      obtain ⟨e35, r35⟩ := p35; subst e35; replace r35 := Eq.symm r35; subst r35
      refine g_iret h hq rfl dX7_seal_38 ⟨by unfold sp_seal; rw [if_neg (fun z => z cb), ek, if_neg c23], by unfold ns_seal; rw [if_neg (fun z => z cb), ek, if_neg c23, et]; exact vX_up_trace σ _⟩
    · refine g_aload_n h dX7_seal_26 rfl ?_
      refine g_vI h (c_X7_ownSeal _) (by decide) lm_RX7_221 (rvV rfl) dX7_seal_27 rfl (Nat.le_of_ble_eq_true rfl) (fun z27 s27 p27 => ?_)
      obtain ⟨e27, r27⟩ := p27; subst e27; replace r27 := Eq.symm r27; subst r27
      refine g_goto (tgt := 38) h dX7_seal_30 (by decide) ?_
      refine g_iret h hq rfl dX7_seal_38 ⟨by unfold sp_seal; rw [if_neg (fun z => z cb), ek, if_pos c23], by unfold ns_seal; rw [if_neg (fun z => z cb), ek, if_pos c23, et]; exact vX_up_trace σ _⟩
  · refine g_iconst h dX7_seal_8 rfl ?_
    refine g_iret h hq rfl dX7_seal_9 ⟨by unfold sp_seal; rw [if_pos c5], by unfold ns_seal; rw [if_pos c5]⟩
set_option maxRecDepth 100000 in
set_option maxHeartbeats 2000000 in
theorem c_X7_as {l : Launch} {D : va_G} {cs : mC} {ad : Int → Nat} (σ : mS) (b k : Int) (hb : i32 b) (hk : i32 k) (hW : qW (vX σ)) : CI l (gX D cs ad) M_X7_as 2 [.ref (ad 0), mI b, mI k] σ (fun z s => z = sp_as (vX σ) b k ∧ vX s = ns_as (vX σ) b k) := by
  refine CI.of (by decide) (Nat.le_of_ble_eq_true rfl) (fun x h hq => ?_)
  show mG x 0 [(0, .ref (ad 0)), (1, mI b), (2, mI k)] [] σ
  have hn0 : 0 ≤ σ 1 2 := hW.1.1
  have hn6 : σ 1 2 ≤ 6 := hW.1.2.1
  have e4 : vX σ 0 4 = σ 1 2 := rfl
  have e4u : vX (mUp σ 0 4 0) 0 4 = vX σ 0 4 := rfl
  have e12 : mUp σ 0 4 0 1 2 = σ 1 2 := mUp_ne _ _ (by omega)
  refine g_aload_n h dX7_as_0 rfl ?_
  refine g_iconst h dX7_as_1 rfl ?_
  refine pxV_latestFault h dX7_as_2 lf_RX7_32 ?_
  refine g_aload_n h dX7_as_5 rfl ?_
  refine g_iload_n h dX7_as_6 rfl ?_
  refine g_vI h (c_X7_noBill _ _ hb (by rw [e12]; exact hn0) (by rw [e12]; exact hn6)) (by decide) lm_RX7_66 (rvV rfl) dX7_as_7 rfl (Nat.le_of_ble_eq_true rfl) (fun z7 s7 p7 => ?_)
  obtain ⟨e7, r7⟩ := p7; subst e7; replace r7 := Eq.symm r7; subst r7
  rw [e4u]
  refine g_ifb_eq (tgt := 15) h dX7_as_10 (by decide)  (fun c10 => ?_) (fun c10 => ?_)
  · have cb : 0 ≤ b ∧ b < vX σ 0 4 := by omega
    refine g_iload_n h dX7_as_15 rfl ?_
    refine g_iconst h dX7_as_16 rfl ?_
    refine g_sI h (c_X7_within _ _ _ hk ⟨by omega, by omega⟩) (by decide) lm_RX7_40 dX7_as_17 rfl (Nat.le_of_ble_eq_true rfl) (fun z17 s17 p17 => ?_)
    obtain ⟨e17, r17⟩ := p17; subst e17; replace r17 := Eq.symm r17; subst r17
    refine g_ifb_ne (tgt := 26) h dX7_as_20 (by decide)  (fun c20 => ?_) (fun c20 => ?_)
    · refine g_aload_n h dX7_as_26 rfl ?_
      refine gxV_council h dX7_as_27 lf_RX7_12 ?_
      refine gxC_bills h dX7_as_30 lf_RX7_69 ?_
      refine g_iload_n h dX7_as_33 rfl ?_
      refine lx_bills h dX7_as_34 (by omega) (by omega) ?_
      refine gxB_kind h (by omega) (by omega) dX7_as_35 lf_RX7_73 ?_
      have hbw := hW.1.2.2.2.2.2.2.2 b cb.1 (by omega)
      have ek := vX_kind σ cb.1 (show b < 6 by omega)
      refine g_val (b := vX σ 1 b) (by rw [mUp_ne _ _ (Or.inl (by omega)), ek]) ?_
      refine g_iload_n h dX7_as_38 rfl ?_
      refine g_icmp_ge (tgt := 50) h dX7_as_39 (by decide) ⟨by omega, by omega⟩ ⟨by omega, by omega⟩ (fun c39 => ?_) (fun c39 => ?_)
      · refine g_iconst h dX7_as_50 rfl ?_
        refine g_iret h hq rfl dX7_as_51 ⟨by unfold sp_as; rw [if_neg (fun z => z cb), if_neg (fun z => z c20), if_neg (by omega)], by unfold ns_as; rw [if_neg (by omega)]; exact vX_up_fault σ 0⟩
      · refine g_aload_n h dX7_as_42 rfl ?_
        refine g_iconst h dX7_as_43 rfl ?_
        refine g_vI h (c_X7_failed _ _) (by decide) lm_RX7_48 (rvV rfl) dX7_as_44 rfl (Nat.le_of_ble_eq_true rfl) (fun z44 s44 p44 => ?_)
        obtain ⟨e44, r44⟩ := p44; subst e44; replace r44 := Eq.symm r44; subst r44
        refine g_goto (tgt := 51) h dX7_as_47 (by decide) ?_
        refine g_iret h hq rfl dX7_as_51 ⟨by unfold sp_as; rw [if_neg (fun z => z cb), if_neg (fun z => z c20), if_pos (by omega)]; rfl, by unfold ns_as; rw [if_pos ⟨cb, c20, by omega⟩, mUp_up]; exact vX_up_fault σ 2⟩
    · refine g_bipush h dX7_as_23 (by decide) ?_
      refine g_iret h hq rfl dX7_as_25 ⟨by unfold sp_as; rw [if_neg (fun z => z cb), if_pos c20], by unfold ns_as; rw [if_neg (fun z => c20 z.2.1)]; exact vX_up_fault σ 0⟩
  · refine g_iconst h dX7_as_13 rfl ?_
    refine g_iret h hq rfl dX7_as_14 ⟨by unfold sp_as; rw [if_pos c10], by unfold ns_as; rw [if_neg (fun z => c10 z.1)]; exact vX_up_fault σ 0⟩
set_option maxRecDepth 100000 in
set_option maxHeartbeats 2000000 in
theorem c_X7_trace {l : Launch} {D : va_G} {cs : mC} {ad : Int → Nat} (σ : mS)   : CI l (gX D cs ad) M_X7_trace 0 [.ref (ad 0)] σ (fun z s => z = vX σ 0 7 ∧ s = σ) := by
  refine CI.of (by decide) (Nat.le_of_ble_eq_true rfl) (fun x h hq => ?_)
  show mG x 0 [(0, .ref (ad 0))] [] σ
  refine g_aload_n h dX7_trace_0 rfl ?_
  refine gxV_traced h dX7_trace_1 lf_RX7_227 ?_
  refine g_iret h hq rfl dX7_trace_4 ⟨rfl, rfl⟩
set_option maxRecDepth 100000 in
set_option maxHeartbeats 2000000 in
theorem c_X7_fault {l : Launch} {D : va_G} {cs : mC} {ad : Int → Nat} (σ : mS)   : CI l (gX D cs ad) M_X7_fault 0 [.ref (ad 0)] σ (fun z s => z = vX σ 0 8 ∧ s = σ) := by
  refine CI.of (by decide) (Nat.le_of_ble_eq_true rfl) (fun x h hq => ?_)
  show mG x 0 [(0, .ref (ad 0))] [] σ
  refine g_aload_n h dX7_fault_0 rfl ?_
  refine gxV_latestFault h dX7_fault_1 lf_RX7_32 ?_
  refine g_iret h hq rfl dX7_fault_4 ⟨rfl, rfl⟩
set_option maxRecDepth 100000 in
set_option maxHeartbeats 2000000 in
theorem c_X7_many {l : Launch} {D : va_G} {cs : mC} {ad : Int → Nat} (σ : mS) (w : Int) (hw : i32 w) : CI l (gX D cs ad) M_X7_many 0 [.ref (ad 0), mI w] σ (fun z s => z = sp_many (vX σ) w ∧ vX s = vX σ) := by
  refine CI.of (by decide) (Nat.le_of_ble_eq_true rfl) (fun x h hq => ?_)
  show mG x 0 [(0, .ref (ad 0)), (1, mI w)] [] σ
  refine g_iload_n h dX7_many_0 rfl ?_
  rcases (show w < 0 ∨ 4 < w ∨ w = 0 ∨ w = 1 ∨ w = 2 ∨ w = 3 ∨ w = 4 by omega) with c1 | c1 | c1 | c1 | c1 | c1 | c1
  · refine g_tsOut (tgt := 82) h dX7_many_1 hw (Or.inl c1) (by decide) ?_
    refine g_bipush h dX7_many_82 (by decide) ?_
    refine g_iret h hq rfl dX7_many_84 ⟨by unfold sp_many; rw [if_neg (by omega), if_neg (by omega), if_neg (by omega), if_neg (by omega), if_neg (by omega)], rfl⟩
  · refine g_tsOut (tgt := 82) h dX7_many_1 hw (Or.inr c1) (by decide) ?_
    refine g_bipush h dX7_many_82 (by decide) ?_
    refine g_iret h hq rfl dX7_many_84 ⟨by unfold sp_many; rw [if_neg (by omega), if_neg (by omega), if_neg (by omega), if_neg (by omega), if_neg (by omega)], rfl⟩
  · refine g_tsIn (tgt := 36) (off := 35) h dX7_many_1 c1 (by decide) (by decide) (by decide) rfl (by decide) ?_
    refine g_aload_n h dX7_many_36 rfl ?_
    refine gxV_council h dX7_many_37 lf_RX7_12 ?_
    refine gxC_count h dX7_many_40 lf_RX7_65 ?_
    refine g_iret h hq rfl dX7_many_43 ⟨by unfold sp_many; rw [if_pos c1]; rfl, rfl⟩
  · refine g_tsIn (tgt := 44) (off := 43) h dX7_many_1 c1 (by decide) (by decide) (by decide) rfl (by decide) ?_
    refine g_aload_n h dX7_many_44 rfl ?_
    refine gxV_council h dX7_many_45 lf_RX7_12 ?_
    refine gxC_sky h dX7_many_48 lf_RX7_94 ?_
    refine gxK_begins h dX7_many_51 lf_RX7_230 ?_
    refine g_iret h hq rfl dX7_many_54 ⟨by unfold sp_many; rw [if_neg (by omega), if_pos c1]; rfl, rfl⟩
  · refine g_tsIn (tgt := 55) (off := 54) h dX7_many_1 c1 (by decide) (by decide) (by decide) rfl (by decide) ?_
    refine g_aload_n h dX7_many_55 rfl ?_
    refine gxV_council h dX7_many_56 lf_RX7_12 ?_
    refine gxC_watch h dX7_many_59 lf_RX7_103 ?_
    refine g_iret h hq rfl dX7_many_62 ⟨by unfold sp_many; rw [if_neg (by omega), if_neg (by omega), if_pos c1]; rfl, rfl⟩
  · refine g_tsIn (tgt := 63) (off := 62) h dX7_many_1 c1 (by decide) (by decide) (by decide) rfl (by decide) ?_
    refine g_aload_n h dX7_many_63 rfl ?_
    refine gxV_readings h dX7_many_64 lf_RX7_21 ?_
    refine gxR_count h dX7_many_67 lf_RX7_62 ?_
    refine g_iret h hq rfl dX7_many_70 ⟨by unfold sp_many; rw [if_neg (by omega), if_neg (by omega), if_neg (by omega), if_pos c1]; rfl, rfl⟩
  · refine g_tsIn (tgt := 71) (off := 70) h dX7_many_1 c1 (by decide) (by decide) (by decide) rfl (by decide) ?_
    refine g_aload_n h dX7_many_71 rfl ?_
    refine gxV_council h dX7_many_72 lf_RX7_12 ?_
    refine gxC_sky h dX7_many_75 lf_RX7_94 ?_
    refine gxK_cloudedNights h dX7_many_78 lf_RX7_233 ?_
    refine g_iret h hq rfl dX7_many_81 ⟨by unfold sp_many; rw [if_neg (by omega), if_neg (by omega), if_neg (by omega), if_neg (by omega), if_pos c1]; rfl, rfl⟩
