set_option maxRecDepth 100000 in
set_option maxHeartbeats 2000000 in
theorem c_X8_cloud {l : Launch} {D : va_G} {cs : mC} {ad : Int → Nat} (σ : mS) (d i : Int) (hd : i32 d) (hi : i = 0 ∨ i = 1) (hO : mOK σ) : CI l (gM D cs ad) M_X8_cloud 2 [.ref (ad 0), mI d, mI i] σ (fun z s => z = sp_cloud (vM σ) d i ∧ mEnd (ns_cloud (vM σ) d i) s) := by
  refine CI.of (by decide) (Nat.le_of_ble_eq_true rfl) (fun x h hq => ?_)
  show mG x 0 [(0, .ref (ad 0)), (1, mI d), (2, mI i)] [] σ
  have hW := hO.2.2
  have hn0 : 0 ≤ σ 0 9 := hW.1.1
  have hn6 : σ 0 9 ≤ 6 := hW.1.2.1
  have e4 : vM σ 0 4 = σ 0 9 := rfl
  have hE := hO.endd
  refine g_iload_n h dX8_cloud_0 rfl ?_
  refine g_sI h (c_X8_isDay _ _ hd) (by decide) lm_RX8_152 dX8_cloud_1 rfl (Nat.le_of_ble_eq_true rfl) (fun z1 s1 p1 => ?_)
  obtain ⟨e1, r1⟩ := p1; subst e1; replace r1 := Eq.symm r1; subst r1
  refine g_ifb_ne (tgt := 10) h dX8_cloud_4 (by decide)  (fun c4 => ?_) (fun c4 => ?_)
  · refine g_aload_n h dX8_cloud_10 rfl ?_
    refine gm_bills h dX8_cloud_11 lf_RX8_72 ?_
    refine g_if_ne (tgt := 20) h dX8_cloud_14 (by decide) (by first | exact hR _ _ | exact ⟨by omega, by omega⟩) (fun c14 => ?_) (fun c14 => ?_)
    · have hcl := mCl_of hW d c4.1 (by omega)
      have J57 : ∀ v : Int, v = (if σ 9 d = i then 0 else if i = 0 then -1 else 1) → mG x 57 [(0, .ref (ad 0)), (1, mI d), (2, mI i), (3, mI (σ 9 d))] [mI v, mI (mUp σ 9 d i 0 15), .ref (ad 0)] (mUp σ 9 d i) := by
        intro v hv
        have e15 : mUp σ 9 d i 0 15 = σ 0 15 := mUp_ne σ i (Or.inl (by omega))
        have e6 : vM σ 6 d = σ 9 d := vM_cl σ c4.1 (by omega)
        have hEE : mEnd (ns_cloud (vM σ) d i) (mUp (mUp σ 9 d i) 0 15 (mUp σ 9 d i 0 15 + v)) := by
          unfold ns_cloud
          rw [if_neg (fun z => z c4), e4, if_neg (by omega), e6, ← hv, e15]
          exact (hE.up (vM_up_cl σ i c4.1 (by omega)) (by omega)).up (vM_up_nights _ _) (by omega)
        refine g_iadd h dX8_cloud_57 ?_
        refine pm_nights h dX8_cloud_58 lf_RX8_127 ?_
        refine g_iload_n h dX8_cloud_61 rfl ?_
        refine g_iload_n h dX8_cloud_62 rfl ?_
        refine g_icmp_ne (tgt := 70) h dX8_cloud_63 (by decide) ⟨by omega, by omega⟩ ⟨by omega, by omega⟩ (fun c63 => ?_) (fun c63 => ?_)
        · refine g_iconst h dX8_cloud_70 rfl ?_
          refine g_iret h hq rfl dX8_cloud_71 ⟨by unfold sp_cloud; rw [if_neg (fun z => z c4), e4, if_neg (by omega), e6, if_neg c63], hEE⟩
        · refine g_iconst h dX8_cloud_66 rfl ?_
          refine g_goto (tgt := 71) h dX8_cloud_67 (by decide) ?_
          refine g_iret h hq rfl dX8_cloud_71 ⟨by unfold sp_cloud; rw [if_neg (fun z => z c4), e4, if_neg (by omega), e6, if_pos c63], hEE⟩
      refine g_aload_n h dX8_cloud_20 rfl ?_
      refine gm_isClouded h dX8_cloud_21 lf_RX8_34 ?_
      refine g_iload_n h dX8_cloud_24 rfl ?_
      refine lm_isClouded h dX8_cloud_25 (by omega) (by omega) ?_
      refine g_istore_n h dX8_cloud_26 (by decide) rfl ?_
      refine g_aload_n h dX8_cloud_27 rfl ?_
      refine gm_isClouded h dX8_cloud_28 lf_RX8_34 ?_
      refine g_iload_n h dX8_cloud_31 rfl ?_
      refine g_iload_n h dX8_cloud_32 rfl ?_
      refine sm_isClouded h dX8_cloud_33 (by omega) (by omega) (by omega) ?_
      refine g_aload_n h dX8_cloud_34 rfl ?_
      refine g_dup h dX8_cloud_35 rfl ?_
      refine gm_nights h dX8_cloud_36 lf_RX8_127 ?_
      refine g_iload_n h dX8_cloud_39 rfl ?_
      refine g_iload_n h dX8_cloud_40 rfl ?_
      refine g_icmp_ne (tgt := 48) h dX8_cloud_41 (by decide) ⟨by omega, by omega⟩ ⟨by omega, by omega⟩ (fun c41 => ?_) (fun c41 => ?_)
      · refine g_iload_n h dX8_cloud_48 rfl ?_
        refine g_if_eq (tgt := 56) h dX8_cloud_49 (by decide) (by first | exact hR _ _ | exact ⟨by omega, by omega⟩) (fun c49 => ?_) (fun c49 => ?_)
        · refine g_iconst h dX8_cloud_56 rfl ?_
          exact J57 _ (by rw [if_neg c41, if_pos c49])
        · refine g_iconst h dX8_cloud_52 rfl ?_
          refine g_goto (tgt := 57) h dX8_cloud_53 (by decide) ?_
          exact J57 _ (by rw [if_neg c41, if_neg c49])
      · refine g_iconst h dX8_cloud_44 rfl ?_
        refine g_goto (tgt := 57) h dX8_cloud_45 (by decide) ?_
        exact J57 _ (by rw [if_pos c41])
    · refine g_bipush h dX8_cloud_17 (by decide) ?_
      refine g_iret h hq rfl dX8_cloud_19 ⟨by unfold sp_cloud; rw [if_neg (fun z => z c4), e4, if_pos (by omega)], by unfold ns_cloud; rw [if_neg (fun z => z c4), e4, if_pos (by omega)]; exact hE⟩
  · refine g_bipush h dX8_cloud_7 (by decide) ?_
    refine g_iret h hq rfl dX8_cloud_9 ⟨by unfold sp_cloud; rw [if_pos c4], by unfold ns_cloud; rw [if_pos c4]; exact hE⟩
theorem tr_up (σ : mS) (a v : Int) : mUp (mUp σ 0 1 a) 0 1 (31 * mUp σ 0 1 a 0 1 + v) = mUp σ 0 1 (31 * a + v) := by rw [mUp_up, mUp_eq]
set_option maxRecDepth 100000 in
set_option maxHeartbeats 2000000 in
theorem c_X8_tell {l : Launch} {D : va_G} {cs : mC} {ad : Int → Nat} (σ : mS) (b : Int) (hb : i32 b) (hO : mOK σ) : CI l (gM D cs ad) M_X8_tell 1 [.ref (ad 0), mI b] σ (fun z s => z = sp_tell (vM σ) b ∧ mEnd (ns_tell (vM σ) b) s) := by
  refine CI.of (by decide) (Nat.le_of_ble_eq_true rfl) (fun x h hq => ?_)
  show mG x 0 [(0, .ref (ad 0)), (1, mI b)] [] σ
  have hW := hO.2.2
  have hn0 : 0 ≤ σ 0 9 := hW.1.1
  have hn6 : σ 0 9 ≤ 6 := hW.1.2.1
  have e4 : vM σ 0 4 = σ 0 9 := rfl
  have hE := hO.endd
  refine g_aload_n h dX8_tell_0 rfl ?_
  refine g_iload_n h dX8_tell_1 rfl ?_
  refine g_vI h (c_X8_isBill _ _ hb ⟨by omega, by omega⟩) (by decide) lm_RX8_146 (rvM rfl) dX8_tell_2 rfl (Nat.le_of_ble_eq_true rfl) (fun z2 s2 p2 => ?_)
  obtain ⟨e2, r2⟩ := p2; subst e2; replace r2 := Eq.symm r2; subst r2
  refine g_ifb_ne (tgt := 10) h dX8_tell_5 (by decide)  (fun c5 => ?_) (fun c5 => ?_)
  · have e1 : vM σ 1 b = σ 4 b := vM_kind σ c5.1 (by omega)
    have e5 : vM σ 5 b = σ 8 b := vM_lasts σ c5.1 (by omega)
    have e7 : vM σ 0 7 = σ 0 1 := rfl
    have hk := hW.1.2.2.2.2.2.2.2 b c5.1 (by omega)
    refine g_aload_n h dX8_tell_10 rfl ?_
    refine gm_lasts h dX8_tell_11 lf_RX8_31 ?_
    refine g_iload_n h dX8_tell_14 rfl ?_
    refine lm_lasts h dX8_tell_15 c5.1 (by omega) ?_
    refine g_istore_n h dX8_tell_16 (by decide) rfl ?_
    refine g_aload_n h dX8_tell_17 rfl ?_
    refine gm_kind h dX8_tell_18 lf_RX8_19 ?_
    refine g_iload_n h dX8_tell_21 rfl ?_
    refine lm_kind h dX8_tell_22 c5.1 (by omega) ?_
    rcases (show σ 4 b = 1 ∨ σ 4 b = 2 ∨ (¬ σ 4 b = 1 ∧ ¬ σ 4 b = 2) by omega) with c23 | c23 | c23
    · refine g_lsw (tgt := 48) (off := 25) h dX8_tell_23 (by decide) ⟨by omega, by omega⟩ (by rw [c23]; decide) (by decide) ?_
      refine g_aload_n h dX8_tell_48 rfl ?_
      refine g_iconst h dX8_tell_49 rfl ?_
      refine g_vV h (c_X8_begins _ _) (by decide) lm_RX8_218 (rvM rfl) dX8_tell_50 rfl (Nat.le_of_ble_eq_true rfl) (fun s50 p50 => ?_)
      replace p50 := Eq.symm p50; subst p50
      refine g_aload_n h dX8_tell_53 rfl ?_
      refine g_iconst h dX8_tell_54 rfl ?_
      refine g_vV h (c_X8_begins _ _) (by decide) lm_RX8_218 (rvM rfl) dX8_tell_55 rfl (Nat.le_of_ble_eq_true rfl) (fun s55 p55 => ?_)
      replace p55 := Eq.symm p55; subst p55
      refine g_iload_n h dX8_tell_58 rfl ?_
      refine g_bipush h dX8_tell_59 (by decide) ?_
      refine g_iadd h dX8_tell_61 ?_
      refine g_iret h hq rfl dX8_tell_62 ⟨by unfold sp_tell; rw [e4, if_neg (fun z => z c5), e1, e5, if_pos c23], by unfold ns_tell; rw [e4, if_neg (fun z => z c5), e1, if_pos c23, e7, tr_up]; exact hE.up (vM_up_trace σ _) (by omega)⟩
    · refine g_lsw (tgt := 63) (off := 40) h dX8_tell_23 (by decide) ⟨by omega, by omega⟩ (by rw [c23]; decide) (by decide) ?_
      refine g_aload_n h dX8_tell_63 rfl ?_
      refine g_iconst h dX8_tell_64 rfl ?_
      refine g_vV h (c_X8_begins _ _) (by decide) lm_RX8_218 (rvM rfl) dX8_tell_65 rfl (Nat.le_of_ble_eq_true rfl) (fun s65 p65 => ?_)
      replace p65 := Eq.symm p65; subst p65
      refine g_aload_n h dX8_tell_68 rfl ?_
      refine g_iconst h dX8_tell_69 rfl ?_
      refine g_vV h (c_X8_begins _ _) (by decide) lm_RX8_218 (rvM rfl) dX8_tell_70 rfl (Nat.le_of_ble_eq_true rfl) (fun s70 p70 => ?_)
      replace p70 := Eq.symm p70; subst p70
      refine g_aload_n h dX8_tell_73 rfl ?_
      refine g_iconst h dX8_tell_74 rfl ?_
      refine g_vV h (c_X8_begins _ _) (by decide) lm_RX8_218 (rvM rfl) dX8_tell_75 rfl (Nat.le_of_ble_eq_true rfl) (fun s75 p75 => ?_)
      replace p75 := Eq.symm p75; subst p75
      refine g_aload_n h dX8_tell_78 rfl ?_
      refine g_iconst h dX8_tell_79 rfl ?_
      refine g_vV h (c_X8_begins _ _) (by decide) lm_RX8_218 (rvM rfl) dX8_tell_80 rfl (Nat.le_of_ble_eq_true rfl) (fun s80 p80 => ?_)
      replace p80 := Eq.symm p80; subst p80
      refine g_iconst h dX8_tell_83 rfl ?_
      refine g_iload_n h dX8_tell_84 rfl ?_
      refine g_imul h dX8_tell_85 ?_
      refine g_bipush h dX8_tell_86 (by decide) ?_
      refine g_iadd h dX8_tell_88 ?_
      refine g_iret h hq rfl dX8_tell_89 ⟨by unfold sp_tell; rw [e4, if_neg (fun z => z c5), e1, e5, if_neg (by omega), if_pos c23], by unfold ns_tell; rw [e4, if_neg (fun z => z c5), e1, if_neg (by omega), if_pos c23, e7]; simp only [mUp_up, mUp_eq]; exact hE.up (vM_up_trace σ _) (by omega)⟩
    · refine g_lsw (tgt := 90) (off := 67) h dX8_tell_23 (by decide) ⟨by omega, by omega⟩ (lsw_df (by simp; omega)) (by decide) ?_
      refine g_aload_n h dX8_tell_90 rfl ?_
      refine g_iconst h dX8_tell_91 rfl ?_
      refine g_vV h (c_X8_begins _ _) (by decide) lm_RX8_218 (rvM rfl) dX8_tell_92 rfl (Nat.le_of_ble_eq_true rfl) (fun s92 p92 => ?_)
      replace p92 := Eq.symm p92; subst p92
      refine g_iload_n h dX8_tell_95 rfl ?_
      refine g_iret h hq rfl dX8_tell_96 ⟨by unfold sp_tell; rw [e4, if_neg (fun z => z c5), e1, e5, if_neg c23.1, if_neg c23.2], by unfold ns_tell; rw [e4, if_neg (fun z => z c5), e1, if_neg c23.1, if_neg c23.2, e7]; exact hE.up (vM_up_trace σ _) (by omega)⟩
  · refine g_iconst h dX8_tell_8 rfl ?_
    refine g_iret h hq rfl dX8_tell_9 ⟨by unfold sp_tell; rw [e4, if_pos c5], by unfold ns_tell; rw [e4, if_pos c5]; exact hE⟩
set_option maxRecDepth 100000 in
set_option maxHeartbeats 2000000 in
theorem c_X8_seal {l : Launch} {D : va_G} {cs : mC} {ad : Int → Nat} (σ : mS) (b : Int) (hb : i32 b) (hO : mOK σ) : CI l (gM D cs ad) M_X8_seal 1 [.ref (ad 0), mI b] σ (fun z s => z = sp_seal (vM σ) b ∧ mEnd (ns_seal (vM σ) b) s) := by
  refine CI.of (by decide) (Nat.le_of_ble_eq_true rfl) (fun x h hq => ?_)
  show mG x 0 [(0, .ref (ad 0)), (1, mI b)] [] σ
  have hW := hO.2.2
  have hn0 : 0 ≤ σ 0 9 := hW.1.1
  have hn6 : σ 0 9 ≤ 6 := hW.1.2.1
  have e4 : vM σ 0 4 = σ 0 9 := rfl
  have hE := hO.endd
  refine g_aload_n h dX8_seal_0 rfl ?_
  refine g_iload_n h dX8_seal_1 rfl ?_
  refine g_vI h (c_X8_isBill _ _ hb ⟨by omega, by omega⟩) (by decide) lm_RX8_146 (rvM rfl) dX8_seal_2 rfl (Nat.le_of_ble_eq_true rfl) (fun z2 s2 p2 => ?_)
  obtain ⟨e2, r2⟩ := p2; subst e2; replace r2 := Eq.symm r2; subst r2
  refine g_ifb_ne (tgt := 10) h dX8_seal_5 (by decide)  (fun c5 => ?_) (fun c5 => ?_)
  · have e1 : vM σ 1 b = σ 4 b := vM_kind σ c5.1 (by omega)
    have e7 : vM σ 0 7 = σ 0 1 := rfl
    have hk := hW.1.2.2.2.2.2.2.2 b c5.1 (by omega)
    refine g_aload_n h dX8_seal_10 rfl ?_
    refine g_aload_n h dX8_seal_11 rfl ?_
    refine gm_kind h dX8_seal_12 lf_RX8_19 ?_
    refine g_iload_n h dX8_seal_15 rfl ?_
    refine lm_kind h dX8_seal_16 c5.1 (by omega) ?_
    refine g_iconst h dX8_seal_17 rfl ?_
    refine g_icmp_ne (tgt := 25) h dX8_seal_18 (by decide) ⟨by omega, by omega⟩ ⟨by omega, by omega⟩ (fun c18 => ?_) (fun c18 => ?_)
    · refine g_iconst h dX8_seal_25 rfl ?_
      refine g_vV h (c_X8_begins _ _) (by decide) lm_RX8_218 (rvM rfl) dX8_seal_26 rfl (Nat.le_of_ble_eq_true rfl) (fun s26 p26 => ?_)
      replace p26 := Eq.symm p26; subst p26
      refine g_aload_n h dX8_seal_29 rfl ?_
      refine gm_kind h dX8_seal_30 lf_RX8_19 ?_
      refine g_iload_n h dX8_seal_33 rfl ?_
      refine lm_kind h dX8_seal_34 c5.1 (by omega) ?_
      refine g_iconst h dX8_seal_35 rfl ?_
      refine g_val2 (b := σ 4 b) (mUp_ne σ _ (Or.inl (by omega))) ?_
      refine g_icmp_ne (tgt := 44) h dX8_seal_36 (by decide) ⟨by omega, by omega⟩ ⟨by omega, by omega⟩ (fun c36 => ?_) (fun c36 => ?_)
      · refine g_iload_n h dX8_seal_44 rfl ?_
        refine g_iret h hq rfl dX8_seal_45 ⟨by unfold sp_seal; rw [e4, if_neg (fun z => z c5), e1, if_neg c18], by unfold ns_seal; rw [e4, if_neg (fun z => z c5), e1, if_neg c18, e7]; exact hE.up (vM_up_trace σ _) (by omega)⟩
      · refine g_bipush h dX8_seal_39 (by decide) ?_
        refine g_goto (tgt := 45) h dX8_seal_41 (by decide) ?_
        refine g_iret h hq rfl dX8_seal_45 (absurd c36 c18)
    · refine g_iconst h dX8_seal_21 rfl ?_
      refine g_goto (tgt := 26) h dX8_seal_22 (by decide) ?_
      refine g_vV h (c_X8_begins _ _) (by decide) lm_RX8_218 (rvM rfl) dX8_seal_26 rfl (Nat.le_of_ble_eq_true rfl) (fun s26 p26 => ?_)
      replace p26 := Eq.symm p26; subst p26
      refine g_aload_n h dX8_seal_29 rfl ?_
      refine gm_kind h dX8_seal_30 lf_RX8_19 ?_
      refine g_iload_n h dX8_seal_33 rfl ?_
      refine lm_kind h dX8_seal_34 c5.1 (by omega) ?_
      refine g_iconst h dX8_seal_35 rfl ?_
      refine g_val2 (b := σ 4 b) (mUp_ne σ _ (Or.inl (by omega))) ?_
      refine g_icmp_ne (tgt := 44) h dX8_seal_36 (by decide) ⟨by omega, by omega⟩ ⟨by omega, by omega⟩ (fun c36 => ?_) (fun c36 => ?_)
      · refine g_iload_n h dX8_seal_44 rfl ?_
        refine g_iret h hq rfl dX8_seal_45 (absurd c18 c36)
      · refine g_bipush h dX8_seal_39 (by decide) ?_
        refine g_goto (tgt := 45) h dX8_seal_41 (by decide) ?_
        refine g_iret h hq rfl dX8_seal_45 ⟨by unfold sp_seal; rw [e4, if_neg (fun z => z c5), e1, if_pos c18], by unfold ns_seal; rw [e4, if_neg (fun z => z c5), e1, if_pos c18, e7]; exact hE.up (vM_up_trace σ _) (by omega)⟩
  · refine g_iconst h dX8_seal_8 rfl ?_
    refine g_iret h hq rfl dX8_seal_9 ⟨by unfold sp_seal; rw [e4, if_pos c5], by unfold ns_seal; rw [e4, if_pos c5]; exact hE⟩
set_option maxRecDepth 100000 in
set_option maxHeartbeats 2000000 in
theorem c_X8_as {l : Launch} {D : va_G} {cs : mC} {ad : Int → Nat} (σ : mS) (b k : Int) (hb : i32 b) (hk : i32 k) (hO : mOK σ) : CI l (gM D cs ad) M_X8_as 1 [.ref (ad 0), mI b, mI k] σ (fun z s => z = sp_as (vM σ) b k ∧ mEnd (ns_as (vM σ) b k) s) := by
  refine CI.of (by decide) (Nat.le_of_ble_eq_true rfl) (fun x h hq => ?_)
  show mG x 0 [(0, .ref (ad 0)), (1, mI b), (2, mI k)] [] σ
  have hW := hO.2.2
  have hn0 : 0 ≤ σ 0 9 := hW.1.1
  have hn6 : σ 0 9 ≤ 6 := hW.1.2.1
  have e4 : vM σ 0 4 = σ 0 9 := rfl
  have hE := hO.endd
  have e9 : mUp σ 0 0 0 0 9 = σ 0 9 := mUp_ne σ 0 (by omega)
  have hE0 := hE.up (vM_up_fault σ 0) (by omega)
  refine g_aload_n h dX8_as_0 rfl ?_
  refine g_iconst h dX8_as_1 rfl ?_
  refine pm_fault h dX8_as_2 lf_RX8_63 ?_
  refine g_aload_n h dX8_as_5 rfl ?_
  refine g_iload_n h dX8_as_6 rfl ?_
  refine g_vI h (c_X8_isBill _ _ hb (by rw [e9]; exact ⟨by omega, by omega⟩)) (by decide) lm_RX8_146 (rvM rfl) dX8_as_7 rfl (Nat.le_of_ble_eq_true rfl) (fun z7 s7 p7 => ?_)
  obtain ⟨e7q, r7q⟩ := p7; rw [e9] at e7q; subst e7q; replace r7q := Eq.symm r7q; subst r7q
  refine g_ifb_ne (tgt := 15) h dX8_as_10 (by decide)  (fun c10 => ?_) (fun c10 => ?_)
  · refine g_iload_n h dX8_as_15 rfl ?_
    refine g_iconst h dX8_as_16 rfl ?_
    refine g_iconst h dX8_as_17 rfl ?_
    refine g_sI h (c_X8_within _ _ _ _ hk ⟨by omega, by omega⟩ ⟨by omega, by omega⟩) (by decide) lm_RX8_68 dX8_as_18 rfl (Nat.le_of_ble_eq_true rfl) (fun z18 s18 p18 => ?_)
    obtain ⟨e18, r18⟩ := p18; subst e18; replace r18 := Eq.symm r18; subst r18
    refine g_ifb_ne (tgt := 27) h dX8_as_21 (by decide)  (fun c21 => ?_) (fun c21 => ?_)
    · have e1 : vM σ 1 b = σ 4 b := vM_kind σ c10.1 (by omega)
      have hkk := hW.1.2.2.2.2.2.2.2 b c10.1 (by omega)
      refine g_aload_n h dX8_as_27 rfl ?_
      refine gm_kind h dX8_as_28 lf_RX8_19 ?_
      refine g_iload_n h dX8_as_31 rfl ?_
      refine lm_kind h dX8_as_32 c10.1 (by omega) ?_
      refine g_iload_n h dX8_as_33 rfl ?_
      refine g_val2 (b := σ 4 b) (mUp_ne σ _ (Or.inl (by omega))) ?_
      refine g_icmp_lt (tgt := 41) h dX8_as_34 (by decide) ⟨by omega, by omega⟩ ⟨by omega, by omega⟩ (fun c34 => ?_) (fun c34 => ?_)
      · refine g_aload_n h dX8_as_41 rfl ?_
        refine g_iconst h dX8_as_42 rfl ?_
        refine g_vI h (c_X8_fails _ _) (by decide) lm_RX8_93 (rvM rfl) dX8_as_43 rfl (Nat.le_of_ble_eq_true rfl) (fun z43 s43 p43 => ?_)
        obtain ⟨e43, r43⟩ := p43; subst e43; replace r43 := Eq.symm r43; subst r43
        refine g_iret h hq rfl dX8_as_46 ⟨by unfold sp_as; rw [e4, if_neg (fun z => z c10), if_neg (fun z => z c21), e1, if_pos c34]; rfl, by unfold ns_as; rw [e4, e1, if_pos ⟨c10, c21, c34⟩, mUp_up]; exact hE.up (vM_up_fault σ 2) (by omega)⟩
      · refine g_iconst h dX8_as_37 rfl ?_
        refine g_goto (tgt := 46) h dX8_as_38 (by decide) ?_
        refine g_iret h hq rfl dX8_as_46 ⟨by unfold sp_as; rw [e4, if_neg (fun z => z c10), if_neg (fun z => z c21), e1, if_neg c34], by unfold ns_as; rw [e4, e1, if_neg (fun z => c34 z.2.2)]; exact hE0⟩
    · refine g_bipush h dX8_as_24 (by decide) ?_
      refine g_iret h hq rfl dX8_as_26 ⟨by unfold sp_as; rw [e4, if_neg (fun z => z c10), if_pos c21], by unfold ns_as; rw [e4, if_neg (fun z => c21 z.2.1)]; exact hE0⟩
  · refine g_iconst h dX8_as_13 rfl ?_
    refine g_iret h hq rfl dX8_as_14 ⟨by unfold sp_as; rw [e4, if_pos c10], by unfold ns_as; rw [e4, if_neg (fun z => c10 z.1)]; exact hE0⟩
set_option maxRecDepth 100000 in
set_option maxHeartbeats 2000000 in
theorem c_X8_reading {l : Launch} {D : va_G} {cs : mC} {ad : Int → Nat} (σ : mS) (b d i : Int) (hb : i32 b) (hd : i32 d) (hi : i = 0 ∨ i = 1) (hO : mOK σ) : CI l (gM D cs ad) M_X8_reading 2 [.ref (ad 0), mI b, mI d, mI i] σ (fun z s => z = sp_reading (vM σ) b d ∧ mEnd (ns_reading (vM σ) b d i) s) := by
  refine CI.of (by decide) (Nat.le_of_ble_eq_true rfl) (fun x h hq => ?_)
  show mG x 0 [(0, .ref (ad 0)), (1, mI b), (2, mI d), (3, mI i)] [] σ
  have hW := hO.2.2
  have hn0 : 0 ≤ σ 0 9 := hW.1.1
  have hn6 : σ 0 9 ≤ 6 := hW.1.2.1
  have e4 : vM σ 0 4 = σ 0 9 := rfl
  have hE := hO.endd
  have e6 : vM σ 0 6 = σ 0 30 := rfl
  have hr0 : 0 ≤ σ 0 30 := hW.2.2.1
  have hr8 : σ 0 30 ≤ 8 := hW.2.2.2.1
  refine g_aload_n h dX8_reading_0 rfl ?_
  refine g_iload_n h dX8_reading_1 rfl ?_
  refine g_vI h (c_X8_isBill _ _ hb ⟨by omega, by omega⟩) (by decide) lm_RX8_146 (rvM rfl) dX8_reading_2 rfl (Nat.le_of_ble_eq_true rfl) (fun z2 s2 p2 => ?_)
  obtain ⟨e2, r2⟩ := p2; subst e2; replace r2 := Eq.symm r2; subst r2
  refine g_ifb_ne (tgt := 10) h dX8_reading_5 (by decide)  (fun c5 => ?_) (fun c5 => ?_)
  · refine g_iload_n h dX8_reading_10 rfl ?_
    refine g_sI h (c_X8_isDay _ _ hd) (by decide) lm_RX8_152 dX8_reading_11 rfl (Nat.le_of_ble_eq_true rfl) (fun z11 s11 p11 => ?_)
    obtain ⟨e11, r11⟩ := p11; subst e11; replace r11 := Eq.symm r11; subst r11
    refine g_ifb_ne (tgt := 20) h dX8_reading_14 (by decide)  (fun c14 => ?_) (fun c14 => ?_)
    · refine g_aload_n h dX8_reading_20 rfl ?_
      refine gm_readings h dX8_reading_21 lf_RX8_130 ?_
      refine g_bipush h dX8_reading_24 (by decide) ?_
      refine g_icmp_ne (tgt := 32) h dX8_reading_26 (by decide) ⟨by omega, by omega⟩ ⟨by omega, by omega⟩ (fun c26 => ?_) (fun c26 => ?_)
      · refine g_aload_n h dX8_reading_32 rfl ?_
        refine gm_readBillOf h dX8_reading_33 lf_RX8_54 ?_
        refine g_aload_n h dX8_reading_36 rfl ?_
        refine gm_readings h dX8_reading_37 lf_RX8_130 ?_
        refine g_iload_n h dX8_reading_40 rfl ?_
        refine sm_readBillOf h dX8_reading_41 (by omega) (by omega) ?_
        refine g_aload_n h dX8_reading_42 rfl ?_
        refine gm_readDay h dX8_reading_43 lf_RX8_57 ?_
        refine g_aload_n h dX8_reading_46 rfl ?_
        refine gm_readings h dX8_reading_47 lf_RX8_130 ?_
        refine g_val (b := σ 0 30) (mUp_ne σ _ (Or.inl (by omega))) ?_
        refine g_iload_n h dX8_reading_50 rfl ?_
        refine sm_readDay h dX8_reading_51 (by omega) (by omega) ?_
        refine g_aload_n h dX8_reading_52 rfl ?_
        refine gm_readWas h dX8_reading_53 lf_RX8_60 ?_
        refine g_aload_n h dX8_reading_56 rfl ?_
        refine gm_readings h dX8_reading_57 lf_RX8_130 ?_
        refine g_val (b := σ 0 30) (by rw [mUp_ne _ _ (Or.inl (by omega)), mUp_ne _ _ (Or.inl (by omega))]) ?_
        refine g_iload_n h dX8_reading_60 rfl ?_
        refine sm_readWas h dX8_reading_61 (by omega) (by omega) (by omega) ?_
        refine g_aload_n h dX8_reading_62 rfl ?_
        refine g_dup h dX8_reading_63 rfl ?_
        refine gm_readings h dX8_reading_64 lf_RX8_130 ?_
        refine g_val (b := σ 0 30) (by rw [mUp_ne _ _ (Or.inl (by omega)), mUp_ne _ _ (Or.inl (by omega)), mUp_ne _ _ (Or.inl (by omega))]) ?_
        refine g_iconst h dX8_reading_67 rfl ?_
        refine g_iadd h dX8_reading_68 ?_
        refine pm_readings h dX8_reading_69 lf_RX8_130 ?_
        refine g_aload_n h dX8_reading_72 rfl ?_
        refine gm_readings h dX8_reading_73 lf_RX8_130 ?_
        refine g_iconst h dX8_reading_76 rfl ?_
        refine g_isub h dX8_reading_77 ?_
        refine g_iret h hq rfl dX8_reading_78 ⟨by unfold sp_reading; rw [e4, if_neg (fun z => z c5), if_neg (fun z => z c14), e6, if_neg c26, mUp_eq]; omega, by
    unfold ns_reading; rw [e4, if_neg (fun z => z c5), if_neg (fun z => z c14), e6, if_neg c26]
    exact (((hE.up (vM_up_rd σ b (show (14 : Int) ≤ 14 by omega) (by omega) hr0 (by omega)) (by omega)).up (vM_up_rd _ d (show (14 : Int) ≤ 15 by omega) (by omega) hr0 (by omega)) (by omega)).up (vM_up_rd _ i (show (14 : Int) ≤ 16 by omega) (by omega) hr0 (by omega)) (by omega)).up (vM_up_reads _ _) (by omega)⟩
      · refine g_bipush h dX8_reading_29 (by decide) ?_
        refine g_iret h hq rfl dX8_reading_31 ⟨by unfold sp_reading; rw [e4, if_neg (fun z => z c5), if_neg (fun z => z c14), e6, if_pos c26], by unfold ns_reading; rw [e4, if_neg (fun z => z c5), if_neg (fun z => z c14), e6, if_pos c26]; exact hE⟩
    · refine g_bipush h dX8_reading_17 (by decide) ?_
      refine g_iret h hq rfl dX8_reading_19 ⟨by unfold sp_reading; rw [e4, if_neg (fun z => z c5), if_pos c14], by unfold ns_reading; rw [e4, if_neg (fun z => z c5), if_pos c14]; exact hE⟩
  · refine g_iconst h dX8_reading_8 rfl ?_
    refine g_iret h hq rfl dX8_reading_9 ⟨by unfold sp_reading; rw [e4, if_pos c5], by unfold ns_reading; rw [e4, if_pos c5]; exact hE⟩
set_option maxRecDepth 100000 in
set_option maxHeartbeats 2000000 in
theorem c_X8_back {l : Launch} {D : va_G} {cs : mC} {ad : Int → Nat} (σ : mS) (k : Int) (hk : i32 k) (hO : mOK σ) : CI l (gM D cs ad) M_X8_back 1 [.ref (ad 0), mI k] σ (fun z s => z = sp_back (vM σ) k ∧ mEnd (ns_back (vM σ) k) s) := by
  refine CI.of (by decide) (Nat.le_of_ble_eq_true rfl) (fun x h hq => ?_)
  show mG x 0 [(0, .ref (ad 0)), (1, mI k)] [] σ
  have hW := hO.2.2
  have hn0 : 0 ≤ σ 0 9 := hW.1.1
  have hn6 : σ 0 9 ≤ 6 := hW.1.2.1
  have e4 : vM σ 0 4 = σ 0 9 := rfl
  have hE := hO.endd
  have e6 : vM σ 0 6 = σ 0 30 := rfl
  have hr0 : 0 ≤ σ 0 30 := hW.2.2.1
  have hr8 : σ 0 30 ≤ 8 := hW.2.2.2.1
  refine g_iload_n h dX8_back_0 rfl ?_
  refine g_iconst h dX8_back_1 rfl ?_
  refine g_aload_n h dX8_back_2 rfl ?_
  refine gm_readings h dX8_back_3 lf_RX8_130 ?_
  refine g_sI h (c_X8_within _ _ _ _ hk ⟨by omega, by omega⟩ ⟨by omega, by omega⟩) (by decide) lm_RX8_68 dX8_back_6 rfl (Nat.le_of_ble_eq_true rfl) (fun z6 s6 p6 => ?_)
  obtain ⟨e6, r6⟩ := p6; subst e6; replace r6 := Eq.symm r6; subst r6
  refine g_ifb_ne (tgt := 15) h dX8_back_9 (by decide)  (fun c9 => ?_) (fun c9 => ?_)
  · refine g_aload_n h dX8_back_15 rfl ?_
    refine g_dup h dX8_back_16 rfl ?_
    refine gm_readings h dX8_back_17 lf_RX8_130 ?_
    refine g_iload_n h dX8_back_20 rfl ?_
    refine g_isub h dX8_back_21 ?_
    refine pm_readings h dX8_back_22 lf_RX8_130 ?_
    refine g_aload_n h dX8_back_25 rfl ?_
    refine gm_readings h dX8_back_26 lf_RX8_130 ?_
    refine g_iret h hq rfl dX8_back_29 ⟨by unfold sp_back; rw [e6, if_neg (fun z => z c9), mUp_eq], by unfold ns_back; rw [e6, if_neg (fun z => z c9)]; exact hE.up (vM_up_reads _ _) (by omega)⟩
  · refine g_bipush h dX8_back_12 (by decide) ?_
    refine g_iret h hq rfl dX8_back_14 ⟨by unfold sp_back; rw [e6, if_pos c9], by unfold ns_back; rw [e6, if_pos c9]; exact hE⟩
