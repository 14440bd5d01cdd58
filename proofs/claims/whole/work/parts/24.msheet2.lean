theorem qWf_up0 {τ : mS} (h : qWf τ) {j : Int} (v : Int) (hj : ¬ j = 0 ∧ ¬ j = 1 ∧ ¬ j = 2 ∧ ¬ j = 3 ∧ ¬ j = 4) : qWf (mUp τ 0 j v) := by
  have e : ∀ a b : Int, ¬ (a = 0 ∧ b = j) → mUp τ 0 j v a b = τ a b := fun a b q => mUp_ne τ v (by omega)
  unfold qWf
  rw [e 0 4 (by omega), e 0 0 (by omega), e 0 3 (by omega), e 0 1 (by omega), e 0 2 (by omega)]
  refine ⟨h.1, h.2.1, h.2.2.1, h.2.2.2.1, h.2.2.2.2.1, h.2.2.2.2.2.1, h.2.2.2.2.2.2.1, fun b b0 b1 => ?_⟩
  rw [e 1 b (by omega), e 2 b (by omega), e 3 b (by omega), e 4 b (by omega), e 5 b (by omega)]
  exact h.2.2.2.2.2.2.2 b b0 b1
theorem qW_up0 {τ : mS} (h : qW τ) {j : Int} (v : Int) (hj : j = 5 ∨ j = 7 ∨ j = 8) : qW (mUp τ 0 j v) := by
  have e : ∀ a : Int, ¬ a = 0 → mUp τ 0 j v a = τ a := fun a q => mUp_off τ j v q
  unfold qW
  rw [mUp_ne τ v (show (0 : Int) ≠ 0 ∨ (6 : Int) ≠ j by omega), mUp_ne τ v (show (0 : Int) ≠ 0 ∨ (4 : Int) ≠ j by omega), e 6 (by omega), e 7 (by omega), e 8 (by omega), e 9 (by omega), e 10 (by omega), e 11 (by omega)]
  refine ⟨qWf_up0 h.1 v (by omega), h.2.1, h.2.2.1, h.2.2.2.1, h.2.2.2.2.1, fun k k0 k1 => ?_⟩
  rw [e (12 + k) (by omega)]
  exact h.2.2.2.2.2 k k0 k1
theorem so_rd {τ s : mS} {v k : Int} (hs : mEnd (mUp τ 0 8 v) s) (k0 : 0 ≤ k) (k1 : k < 4) : τ 10 k = if s 1 k = -9 then -1 else s 1 k := by
  rw [← vM_so s k0 k1, hs.1, mUp_ne τ v (Or.inl (by omega))]
theorem le_rd {τ s : mS} {v k : Int} (hs : mEnd (mUp τ 0 8 v) s) (k0 : 0 ≤ k) (k1 : k < 4) : τ 11 k = if s 1 k = -9 then 0 else s 2 k := by
  rw [← vM_le s k0 k1, hs.1, mUp_ne τ v (Or.inl (by omega))]
theorem ce_rd {τ s : mS} {v k i : Int} (hs : mEnd (mUp τ 0 8 v) s) (k0 : 0 ≤ k) (k1 : k < 4) (i0 : 0 ≤ i) (i1 : i < 60) : τ (12 + k) i = s 3 (60 * k + i) := by
  have := vM_ce s (show 12 ≤ 12 + k by omega) (by omega) i0 i1
  rw [hs.1, mUp_ne τ v (Or.inl (by omega)), show 12 + k - 12 = k by omega] at this
  exact this
theorem mEnd.fault {τ s : mS} {w : Int} (hs : mEnd (mUp τ 0 8 w) s) (v : Int) : mEnd (mUp τ 0 8 v) (mUp s 0 0 v) := by
  have := hs.up (vM_up_fault s v) (by omega)
  rwa [mUp_up] at this
set_option maxRecDepth 100000 in
set_option maxHeartbeats 2000000 in
theorem lq_X8_put {x : mX} {l : Launch} {D : va_G} {cs : mC} {ad : Int → Nat} {post : Int → mS → Prop} (h : mOk x l M_X8_put 2 (gM D cs ad)) (hq : rI x (gM D cs ad) post) {τ s : mS} {k i v : Int} (hs : mEnd (mUp τ 0 8 0) s) (k0 : 0 ≤ k) (k1 : k < 4) (hi : i32 i) (hf : ∀ t : mS, mEnd (mUp τ 0 8 (qPt τ k i)) t → ¬ qPt τ k i = 0 → post (-10 - qPt τ k i) t) (hp : ∀ t : mS, mEnd (mUp (mUp τ 0 8 0) (12 + k) i (qCut (s 1 k) v)) t → qPt τ k i = 0 → post 1 t) : mG x 14 [(0, .ref (ad 0)), (1, mI k), (2, mI i), (3, mI v)] [] s := by
  have hk := hs.2.2 k k0 k1
  have e10 := so_rd hs k0 k1
  have e11 := le_rd hs k0 k1
  obtain ⟨hi1, hi2⟩ := id hi
  refine g_aload_n h dX8_put_14 rfl ?_
  refine gm_sorts h dX8_put_15 lf_RX8_9 ?_
  refine g_iload_n h dX8_put_18 rfl ?_
  refine lm_sorts h dX8_put_19 (by omega) (by omega) ?_
  refine g_bipush h dX8_put_20 (by decide) ?_
  refine g_icmp_ne (tgt := 31) h dX8_put_22 (by decide) ⟨by omega, by omega⟩ ⟨by omega, by omega⟩ (fun c22 => ?_) (fun c22 => ?_)
  · rw [if_neg c22] at e10 e11
    refine g_iload_n h dX8_put_31 rfl ?_
    refine g_iconst h dX8_put_32 rfl ?_
    refine g_aload_n h dX8_put_33 rfl ?_
    refine gm_sheetLong h dX8_put_34 lf_RX8_13 ?_
    refine g_iload_n h dX8_put_37 rfl ?_
    refine lm_sheetLong h dX8_put_38 (by omega) (by omega) ?_
    refine g_iconst h dX8_put_39 rfl ?_
    refine g_isub h dX8_put_40 ?_
    refine g_sI h (c_X8_within _ _ _ _ hi ⟨by omega, by omega⟩ ⟨by omega, by omega⟩) (by decide) lm_RX8_68 dX8_put_41 rfl (Nat.le_of_ble_eq_true rfl) (fun z41 s41 p41 => ?_)
    obtain ⟨e41, r41⟩ := p41; subst e41; replace r41 := Eq.symm r41; subst r41
    refine g_ifb_ne (tgt := 53) h dX8_put_44 (by decide)  (fun c44 => ?_) (fun c44 => ?_)
    · have hq0 : qPt τ k i = 0 := by unfold qPt; rw [e10, e11, if_neg (by omega), if_neg (by omega)]
      have J93 : ∀ v2 : Int, v2 = qCut (s 1 k) v → mG x 93 [(0, .ref (ad 0)), (1, mI k), (2, mI i), (3, mI v)] [mI v2, mI (60 * k + i), .ref (ad 3)] s := by
        intro v2 hv2
        refine sm_cells h dX8_put_93 (by omega) (by omega) ?_
        refine g_iconst h dX8_put_94 rfl ?_
        refine g_iret h hq rfl dX8_put_95 (hp _ (by rw [hv2]; exact hs.up (vM_up_ce s _ k0 k1 (by omega) (by omega)) (by omega)) hq0)
      refine g_aload_n h dX8_put_53 rfl ?_
      refine gm_cells h dX8_put_54 lf_RX8_16 ?_
      refine g_bipush h dX8_put_57 (by decide) ?_
      refine g_iload_n h dX8_put_59 rfl ?_
      refine g_imul h dX8_put_60 ?_
      refine g_iload_n h dX8_put_61 rfl ?_
      refine g_iadd h dX8_put_62 ?_
      refine g_aload_n h dX8_put_63 rfl ?_
      refine gm_sorts h dX8_put_64 lf_RX8_9 ?_
      refine g_iload_n h dX8_put_67 rfl ?_
      refine lm_sorts h dX8_put_68 (by omega) (by omega) ?_
      refine g_if_ne (tgt := 77) h dX8_put_69 (by decide) ⟨by omega, by omega⟩ (fun c69 => ?_) (fun c69 => ?_)
      · refine g_aload_n h dX8_put_77 rfl ?_
        refine gm_sorts h dX8_put_78 lf_RX8_9 ?_
        refine g_iload_n h dX8_put_81 rfl ?_
        refine lm_sorts h dX8_put_82 (by omega) (by omega) ?_
        refine g_iconst h dX8_put_83 rfl ?_
        refine g_icmp_ne (tgt := 92) h dX8_put_84 (by decide) ⟨by omega, by omega⟩ ⟨by omega, by omega⟩ (fun c84 => ?_) (fun c84 => ?_)
        · refine g_iload_n h dX8_put_92 rfl ?_
          exact J93 _ (by unfold qCut; rw [if_neg c69, if_neg c84])
        · refine g_iload_n h dX8_put_87 rfl ?_
          refine g_i2s h dX8_put_88 ?_
          refine g_goto (tgt := 93) h dX8_put_89 (by decide) ?_
          exact J93 _ (by unfold qCut; rw [if_neg c69, if_pos c84])
      · refine g_iload_n h dX8_put_72 rfl ?_
        refine g_i2b h dX8_put_73 ?_
        refine g_goto (tgt := 93) h dX8_put_74 (by decide) ?_
        exact J93 _ (by unfold qCut; rw [if_pos c69])
    · refine g_aload_n h dX8_put_47 rfl ?_
      refine g_iconst h dX8_put_48 rfl ?_
      refine g_vI h (c_X8_fails _ _) (by decide) lm_RX8_93 (rvM rfl) dX8_put_49 rfl (Nat.le_of_ble_eq_true rfl) (fun z49 s49 p49 => ?_)
      obtain ⟨e49, r49⟩ := p49; subst e49; replace r49 := Eq.symm r49; subst r49
      refine g_iret h hq rfl dX8_put_52 (by
        have e : qPt τ k i = 3 := by unfold qPt; rw [e10, e11, if_neg (by omega), if_pos (by omega)]
        have := hf _ (by rw [e]; exact hs.fault 3) (by omega)
        rw [e] at this; exact this)
  · refine g_aload_n h dX8_put_25 rfl ?_
    refine g_iconst h dX8_put_26 rfl ?_
    refine g_vI h (c_X8_fails _ _) (by decide) lm_RX8_93 (rvM rfl) dX8_put_27 rfl (Nat.le_of_ble_eq_true rfl) (fun z27 s27 p27 => ?_)
    obtain ⟨e27, r27⟩ := p27; subst e27; replace r27 := Eq.symm r27; subst r27
    refine g_iret h hq rfl dX8_put_30 (by
      have e : qPt τ k i = 1 := by unfold qPt; rw [e10, if_pos c22, if_pos rfl]
      have := hf _ (by rw [e]; exact hs.fault 1) (by omega)
      rw [e] at this; exact this)
set_option maxRecDepth 100000 in
set_option maxHeartbeats 2000000 in
theorem c_X8_put {l : Launch} {D : va_G} {cs : mC} {ad : Int → Nat} (σ : mS) (k i v : Int) (hk : i32 k) (hi : i32 i) (hv : i32 v) (hO : mOK σ) : CI l (gM D cs ad) M_X8_put 2 [.ref (ad 0), mI k, mI i, mI v] σ (fun z s => z = sp_put (vM σ) k i ∧ mEnd (ns_put (vM σ) k i v) s) := by
  refine CI.of (by decide) (Nat.le_of_ble_eq_true rfl) (fun x h hq => ?_)
  show mG x 0 [(0, .ref (ad 0)), (1, mI k), (2, mI i), (3, mI v)] [] σ
  have hW := hO.2.2
  have hE := hO.endd
  have hE0 := hE.up (vM_up_fault σ 0) (by omega)
  refine g_aload_n h dX8_put_0 rfl ?_
  refine g_iconst h dX8_put_1 rfl ?_
  refine pm_fault h dX8_put_2 lf_RX8_63 ?_
  refine g_iload_n h dX8_put_5 rfl ?_
  refine g_sI h (c_X8_isSheet _ _ hk) (by decide) lm_RX8_82 dX8_put_6 rfl (Nat.le_of_ble_eq_true rfl) (fun z6 s6 p6 => ?_)
  obtain ⟨e6, r6⟩ := p6; subst e6; replace r6 := Eq.symm r6; subst r6
  refine g_ifb_ne (tgt := 14) h dX8_put_9 (by decide)  (fun c9 => ?_) (fun c9 => ?_)
  · refine lq_X8_put h hq hE0 c9.1 (by omega) hi (fun t ht q => ⟨by unfold sp_put; rw [if_neg (fun z => z c9), if_pos q], by unfold ns_put; rw [if_neg (fun z => z c9), if_pos q]; exact ht⟩) (fun t ht q => ⟨by unfold sp_put; rw [if_neg (fun z => z c9), if_neg (fun z => z q)], ?_⟩)
    unfold ns_put
    rw [if_neg (fun z => z c9), if_neg (fun z => z q)]
    have e : vM σ 10 k = mUp σ 0 0 0 1 k := by
      rw [so_rd hE0 c9.1 (by omega), if_neg]
      intro z
      have e9 := so_rd hE0 c9.1 (show k < 4 by omega)
      rw [if_pos z] at e9
      unfold qPt at q
      rw [if_pos e9] at q
      omega
    rw [e]
    exact ht
  · refine g_iconst h dX8_put_12 rfl ?_
    refine g_iret h hq rfl dX8_put_13 ⟨by unfold sp_put; rw [if_pos c9], by unfold ns_put; rw [if_pos c9]; exact hE0⟩
set_option maxRecDepth 100000 in
set_option maxHeartbeats 2000000 in
theorem lq_X8_cell {x : mX} {l : Launch} {D : va_G} {cs : mC} {ad : Int → Nat} {post : Int → mS → Prop} (h : mOk x l M_X8_cell 2 (gM D cs ad)) (hq : rL x (gM D cs ad) post) {τ s : mS} {k i l9 : Int} (hW : qW τ) (hs : mEnd (mUp τ 0 8 0) s) (k0 : 0 ≤ k) (k1 : k < 4) (hi : i32 i) (hl : i32 l9) (hf : ∀ t : mS, mEnd (mUp τ 0 8 (qCe τ k i l9)) t → post (if ¬ qCe τ k i l9 = 0 then -9223372036854775808 else τ (12 + k) i) t) : mG x 23 [(0, .ref (ad 0)), (1, mI k), (2, mI i), (3, mI l9)] [] s := by
  have hk := hs.2.2 k k0 k1
  have e10 := so_rd hs k0 k1
  have e11 := le_rd hs k0 k1
  obtain ⟨hi1, hi2⟩ := id hi
  obtain ⟨hl1, hl2⟩ := id hl
  have hff : ∀ c : Int, qCe τ k i l9 = c → ¬ c = 0 → post (-9223372036854775808) (mUp s 0 0 c) := fun c e q => by
    have := hf _ (by rw [e]; exact hs.fault c)
    rw [if_pos (by rw [e]; exact q)] at this
    exact this
  refine g_aload_n h dX8_cell_23 rfl ?_
  refine gm_sorts h dX8_cell_24 lf_RX8_9 ?_
  refine g_iload_n h dX8_cell_27 rfl ?_
  refine lm_sorts h dX8_cell_28 (by omega) (by omega) ?_
  refine g_bipush h dX8_cell_29 (by decide) ?_
  refine g_icmp_eq (tgt := 50) h dX8_cell_31 (by decide) ⟨by omega, by omega⟩ ⟨by omega, by omega⟩ (fun c31 => ?_) (fun c31 => ?_)
  · refine g_aload_n h dX8_cell_50 rfl ?_
    refine gm_sorts h dX8_cell_51 lf_RX8_9 ?_
    refine g_iload_n h dX8_cell_54 rfl ?_
    refine lm_sorts h dX8_cell_55 (by omega) (by omega) ?_
    refine g_bipush h dX8_cell_56 (by decide) ?_
    refine g_icmp_ne (tgt := 67) h dX8_cell_58 (by decide) ⟨by omega, by omega⟩ ⟨by omega, by omega⟩ (fun c58 => ?_) (fun c58 => ?_)
    · refine g_iload_n h dX8_cell_67 rfl ?_
      refine g_iconst h dX8_cell_68 rfl ?_
      refine g_aload_n h dX8_cell_69 rfl ?_
      refine gm_sheetLong h dX8_cell_70 lf_RX8_13 ?_
      refine g_iload_n h dX8_cell_73 rfl ?_
      refine lm_sheetLong h dX8_cell_74 (by omega) (by omega) ?_
      refine g_iconst h dX8_cell_75 rfl ?_
      refine g_isub h dX8_cell_76 ?_
      rw [if_neg c58] at e10 e11
      refine g_sI h (c_X8_within _ _ _ _ hi ⟨by omega, by omega⟩ ⟨by omega, by omega⟩) (by decide) lm_RX8_68 dX8_cell_77 rfl (Nat.le_of_ble_eq_true rfl) (fun z77 s77 p77 => ?_)
      obtain ⟨e77, r77⟩ := p77; subst e77; replace r77 := Eq.symm r77; subst r77
      refine g_ifb_ne (tgt := 89) h dX8_cell_80 (by decide)  (fun c80 => ?_) (fun c80 => ?_)
      · refine g_aload_n h dX8_cell_89 rfl ?_
        refine gm_cells h dX8_cell_90 lf_RX8_16 ?_
        refine g_bipush h dX8_cell_93 (by decide) ?_
        refine g_iload_n h dX8_cell_95 rfl ?_
        refine g_imul h dX8_cell_96 ?_
        refine g_iload_n h dX8_cell_97 rfl ?_
        refine g_iadd h dX8_cell_98 ?_
        refine lm_cells h dX8_cell_99 (by omega) (by omega) ?_
        refine g_i2l h dX8_cell_100 (by rw [← ce_rd hs k0 k1 (by omega) (by omega)]; exact (hW.2.2.2.2.2 k k0 k1).2.2.2.2 i (by omega) (by omega)) ?_
        refine g_lret h hq rfl dX8_cell_101 (by
            have e : qCe τ k i l9 = 0 := by unfold qCe; rw [e10, e11, if_neg (by omega), if_neg (fun z => z (by omega)), if_neg (by omega)]
            have := hf s (by rw [e]; exact hs)
            rw [if_neg (fun z => z e), ce_rd hs k0 k1 (by omega) (by omega)] at this
            exact this)
      · refine g_aload_n h dX8_cell_83 rfl ?_
        refine g_iconst h dX8_cell_84 rfl ?_
        refine g_vL h (c_X8_lost _ _) (by decide) lm_RX8_211 (rvM rfl) dX8_cell_85 rfl (Nat.le_of_ble_eq_true rfl) (fun z85 s85 p85 => ?_)
        obtain ⟨e85, r85⟩ := p85; subst e85; replace r85 := Eq.symm r85; subst r85
        refine g_lret h hq rfl dX8_cell_88 (hff 3 (by unfold qCe; rw [e10, e11, if_neg (by omega), if_neg (fun z => z (by omega)), if_pos (by omega)]) (by omega))
    · refine g_aload_n h dX8_cell_61 rfl ?_
      refine g_iconst h dX8_cell_62 rfl ?_
      refine g_vL h (c_X8_lost _ _) (by decide) lm_RX8_211 (rvM rfl) dX8_cell_63 rfl (Nat.le_of_ble_eq_true rfl) (fun z63 s63 p63 => ?_)
      obtain ⟨e63, r63⟩ := p63; subst e63; replace r63 := Eq.symm r63; subst r63
      refine g_lret h hq rfl dX8_cell_66 (hff 1 (by unfold qCe; rw [e10, if_pos c58, if_pos rfl]) (by omega))
  · refine g_aload_n h dX8_cell_34 rfl ?_
    refine gm_sorts h dX8_cell_35 lf_RX8_9 ?_
    refine g_iload_n h dX8_cell_38 rfl ?_
    refine lm_sorts h dX8_cell_39 (by omega) (by omega) ?_
    refine g_iload_n h dX8_cell_40 rfl ?_
    refine g_icmp_eq (tgt := 50) h dX8_cell_41 (by decide) ⟨by omega, by omega⟩ ⟨by omega, by omega⟩ (fun c41 => ?_) (fun c41 => ?_)
    · refine g_aload_n h dX8_cell_50 rfl ?_
      refine gm_sorts h dX8_cell_51 lf_RX8_9 ?_
      refine g_iload_n h dX8_cell_54 rfl ?_
      refine lm_sorts h dX8_cell_55 (by omega) (by omega) ?_
      refine g_bipush h dX8_cell_56 (by decide) ?_
      refine g_icmp_ne (tgt := 67) h dX8_cell_58 (by decide) ⟨by omega, by omega⟩ ⟨by omega, by omega⟩ (fun c58 => ?_) (fun c58 => ?_)
      · refine g_iload_n h dX8_cell_67 rfl ?_
        refine g_iconst h dX8_cell_68 rfl ?_
        refine g_aload_n h dX8_cell_69 rfl ?_
        refine gm_sheetLong h dX8_cell_70 lf_RX8_13 ?_
        refine g_iload_n h dX8_cell_73 rfl ?_
        refine lm_sheetLong h dX8_cell_74 (by omega) (by omega) ?_
        refine g_iconst h dX8_cell_75 rfl ?_
        refine g_isub h dX8_cell_76 ?_
        rw [if_neg c58] at e10 e11
        refine g_sI h (c_X8_within _ _ _ _ hi ⟨by omega, by omega⟩ ⟨by omega, by omega⟩) (by decide) lm_RX8_68 dX8_cell_77 rfl (Nat.le_of_ble_eq_true rfl) (fun z77 s77 p77 => ?_)
        obtain ⟨e77, r77⟩ := p77; subst e77; replace r77 := Eq.symm r77; subst r77
        refine g_ifb_ne (tgt := 89) h dX8_cell_80 (by decide)  (fun c80 => ?_) (fun c80 => ?_)
        · refine g_aload_n h dX8_cell_89 rfl ?_
          refine gm_cells h dX8_cell_90 lf_RX8_16 ?_
          refine g_bipush h dX8_cell_93 (by decide) ?_
          refine g_iload_n h dX8_cell_95 rfl ?_
          refine g_imul h dX8_cell_96 ?_
          refine g_iload_n h dX8_cell_97 rfl ?_
          refine g_iadd h dX8_cell_98 ?_
          refine lm_cells h dX8_cell_99 (by omega) (by omega) ?_
          refine g_i2l h dX8_cell_100 (by rw [← ce_rd hs k0 k1 (by omega) (by omega)]; exact (hW.2.2.2.2.2 k k0 k1).2.2.2.2 i (by omega) (by omega)) ?_
          refine g_lret h hq rfl dX8_cell_101 (by
            have e : qCe τ k i l9 = 0 := by unfold qCe; rw [e10, e11, if_neg (by omega), if_neg (fun z => z (by omega)), if_neg (by omega)]
            have := hf s (by rw [e]; exact hs)
            rw [if_neg (fun z => z e), ce_rd hs k0 k1 (by omega) (by omega)] at this
            exact this)
        · refine g_aload_n h dX8_cell_83 rfl ?_
          refine g_iconst h dX8_cell_84 rfl ?_
          refine g_vL h (c_X8_lost _ _) (by decide) lm_RX8_211 (rvM rfl) dX8_cell_85 rfl (Nat.le_of_ble_eq_true rfl) (fun z85 s85 p85 => ?_)
          obtain ⟨e85, r85⟩ := p85; subst e85; replace r85 := Eq.symm r85; subst r85
          refine g_lret h hq rfl dX8_cell_88 (hff 3 (by unfold qCe; rw [e10, e11, if_neg (by omega), if_neg (fun z => z (by omega)), if_pos (by omega)]) (by omega))
      · refine g_aload_n h dX8_cell_61 rfl ?_
        refine g_iconst h dX8_cell_62 rfl ?_
        refine g_vL h (c_X8_lost _ _) (by decide) lm_RX8_211 (rvM rfl) dX8_cell_63 rfl (Nat.le_of_ble_eq_true rfl) (fun z63 s63 p63 => ?_)
        obtain ⟨e63, r63⟩ := p63; subst e63; replace r63 := Eq.symm r63; subst r63
        refine g_lret h hq rfl dX8_cell_66 (hff 1 (by unfold qCe; rw [e10, if_pos c58, if_pos rfl]) (by omega))
    · refine g_aload_n h dX8_cell_44 rfl ?_
      refine g_iconst h dX8_cell_45 rfl ?_
      refine g_vL h (c_X8_lost _ _) (by decide) lm_RX8_211 (rvM rfl) dX8_cell_46 rfl (Nat.le_of_ble_eq_true rfl) (fun z46 s46 p46 => ?_)
      obtain ⟨e46, r46⟩ := p46; subst e46; replace r46 := Eq.symm r46; subst r46
      refine g_lret h hq rfl dX8_cell_49 (hff 2 (by unfold qCe; rw [e10, if_neg c31, if_neg (by omega), if_pos c41]) (by omega))
set_option maxRecDepth 100000 in
set_option maxHeartbeats 2000000 in
theorem c_X8_cell {l : Launch} {D : va_G} {cs : mC} {ad : Int → Nat} (σ : mS) (k i l9 : Int) (hk : i32 k) (hi : i32 i) (hl : i32 l9) (hO : mOK σ) : CL l (gM D cs ad) M_X8_cell 2 [.ref (ad 0), mI k, mI i, mI l9] σ (fun z s => z = sp_cell (vM σ) k i l9 ∧ mEnd (ns_cell (vM σ) k i l9) s) := by
  refine CL.of (by decide) (Nat.le_of_ble_eq_true rfl) (fun x h hq => ?_)
  show mG x 0 [(0, .ref (ad 0)), (1, mI k), (2, mI i), (3, mI l9)] [] σ
  have hW := hO.2.2
  have hE := hO.endd
  have hE0 := hE.up (vM_up_fault σ 0) (by omega)
  refine g_aload_n h dX8_cell_0 rfl ?_
  refine g_iconst h dX8_cell_1 rfl ?_
  refine pm_fault h dX8_cell_2 lf_RX8_63 ?_
  refine g_iload_n h dX8_cell_5 rfl ?_
  refine g_sI h (c_X8_isSheet _ _ hk) (by decide) lm_RX8_82 dX8_cell_6 rfl (Nat.le_of_ble_eq_true rfl) (fun z6 s6 p6 => ?_)
  obtain ⟨e6, r6⟩ := p6; subst e6; replace r6 := Eq.symm r6; subst r6
  refine g_ifb_eq (tgt := 19) h dX8_cell_9 (by decide)  (fun c9 => ?_) (fun c9 => ?_)
  · refine g_ldc2 (v := -9223372036854775808) h dX8_cell_19 lc_RX8_66 (by decide) ?_
    refine g_lret h hq rfl dX8_cell_22 ⟨by unfold sp_cell; rw [if_pos (Or.inl c9)], by unfold ns_cell; rw [if_pos (Or.inl c9)]; exact hE0⟩
  · refine g_iload_n h dX8_cell_12 rfl ?_
    refine g_sI h (c_X8_isSort _ _ hl) (by decide) lm_RX8_86 dX8_cell_13 rfl (Nat.le_of_ble_eq_true rfl) (fun z13 s13 p13 => ?_)
    obtain ⟨e13, r13⟩ := p13; subst e13; replace r13 := Eq.symm r13; subst r13
    refine g_ifb_ne (tgt := 23) h dX8_cell_16 (by decide)  (fun c16 => ?_) (fun c16 => ?_)
    · have cc : ¬ (¬ (0 ≤ k ∧ k ≤ 3) ∨ ¬ (0 ≤ l9 ∧ l9 ≤ 2)) := by omega
      exact lq_X8_cell h hq hW hE0 c9.1 (by omega) hi hl (fun t ht => ⟨by unfold sp_cell; rw [if_neg cc], by unfold ns_cell; rw [if_neg cc]; exact ht⟩)
    · refine g_ldc2 (v := -9223372036854775808) h dX8_cell_19 lc_RX8_66 (by decide) ?_
      refine g_lret h hq rfl dX8_cell_22 ⟨by unfold sp_cell; rw [if_pos (Or.inr c16)], by unfold ns_cell; rw [if_pos (Or.inr c16)]; exact hE0⟩
noncomputable def qCh (τ : mS) (k i j : Int) : Bool := decide (¬ setOf (τ 0 4).toNat (fun b => qFI τ b j) = τ (12 + k) (i + j))
noncomputable def sp_chron (τ : mS) (k l i n : Int) : Int := if ¬ (0 ≤ k ∧ k ≤ 3) then -1 else if ¬ (0 ≤ l ∧ l ≤ 2) then -2 else if ¬ qAg τ k l i n = 0 then -10 - qAg τ k l i n else if τ 0 4 = 0 then -3 else if fstN (qCh τ k i) n.toNat < n then fstN (qCh τ k i) n.toNat else -9
def ns_chron (τ : mS) (k l i n : Int) : mS := if ¬ (0 ≤ k ∧ k ≤ 3) then mUp τ 0 8 0 else if ¬ (0 ≤ l ∧ l ≤ 2) then mUp τ 0 8 0 else mUp τ 0 8 (qAg τ k l i n)
theorem qAg_in {τ : mS} {k l i n : Int} (hW : qW τ) (k0 : 0 ≤ k) (k1 : k < 4) (h : qAg τ k l i n = 0) : 0 ≤ n ∧ 0 ≤ i ∧ i + n ≤ τ 11 k ∧ τ 11 k ≤ 60 := by
  have hk := hW.2.2.2.2.2 k k0 k1
  unfold qAg at h
  by_cases h1 : τ 10 k = -1
  · rw [if_pos h1] at h; omega
  · rw [if_neg h1] at h
    by_cases h2 : ¬ τ 10 k = l
    · rw [if_pos h2] at h; omega
    · rw [if_neg h2] at h
      by_cases h3 : n < 0
      · rw [if_pos h3] at h; omega
      · rw [if_neg h3] at h
        by_cases h4 : i < 0 ∨ τ 11 k < i ∨ τ 11 k - i < n
        · rw [if_pos h4] at h; omega
        · omega
theorem qAg_f (τ : mS) (v k l i n : Int) : qAg (mUp τ 0 8 v) k l i n = qAg τ k l i n := by
  unfold qAg
  rw [mUp_off τ 8 v (show (10 : Int) ≠ 0 by omega), mUp_off τ 8 v (show (11 : Int) ≠ 0 by omega)]
theorem qAg_rng (τ : mS) (k l i n : Int) : 0 ≤ qAg τ k l i n ∧ qAg τ k l i n ≤ 4 := by
  unfold qAg
  repeat' split
  all_goals omega
theorem qIn_f {τ τ' : mS} (h : ∀ a : Int, ¬ a = 0 → τ' a = τ a) (h4 : τ' 0 4 = τ 0 4) (P : Int → Bool) : ∀ (f : Nat) (b d : Int), qIn τ' P f b d = qIn τ P f b d
  | 0, _, _ => rfl
  | f + 1, b, d => by
    show (qOn τ' P b d && !(anyN (fun r => decide (τ' 1 r = 2) && (decide (τ' 4 r = b) && (qBf τ' b r && qIn τ' P f r d))) (τ' 0 4).toNat)) = (qOn τ P b d && !(anyN (fun r => decide (τ 1 r = 2) && (decide (τ 4 r = b) && (qBf τ b r && qIn τ P f r d))) (τ 0 4).toNat))
    have e : (fun r => decide (τ' 1 r = 2) && (decide (τ' 4 r = b) && (qBf τ' b r && qIn τ' P f r d))) = (fun r => decide (τ 1 r = 2) && (decide (τ 4 r = b) && (qBf τ b r && qIn τ P f r d))) := by
      funext r
      rw [qIn_f h h4 P f r d]
      unfold qBf
      rw [h 1 (by omega), h 4 (by omega), h 2 (by omega)]
    rw [e, h4]
    unfold qOn
    rw [h 1 (by omega), h 2 (by omega), h 5 (by omega)]
theorem qSr_f {τ τ' : mS} (h : ∀ a : Int, ¬ a = 0 → τ' a = τ a) {n : Int} {o : Int → Int} (q : qSr τ n o) : qSr τ' n o := by
  unfold qSr qBf at *
  rw [h 2 (by omega)]
  exact q
theorem qPk_f {τ τ' : mS} (h : ∀ a : Int, ¬ a = 0 → τ' a = τ a) (h4 : τ' 0 4 = τ 0 4) {o : Int → Int} {st : Int → Bool} : ∀ k : Nat, qPk τ' o st k = qPk τ o st k
  | 0 => rfl
  | k + 1 => by
    funext b
    show (qPk τ' o st k b || (decide (b = o (k : Int)) && qMay τ' st (qPk τ' o st k) b)) = (qPk τ o st k b || (decide (b = o (k : Int)) && qMay τ st (qPk τ o st k) b))
    rw [qPk_f h h4 k]
    unfold qMay
    rw [qIn_f h h4, h 3 (by omega), h 2 (by omega), h4]
/-- what is told of force doesn't look at fault, trace, readings, nights -/
theorem qFI_f {τ τ' : mS} (h : ∀ a : Int, ¬ a = 0 → τ' a = τ a) (h4 : ∀ j : Int, 0 ≤ j → j ≤ 4 → τ' 0 j = τ 0 j) (h0 : 0 ≤ τ 0 4) (b d : Int) : qFI τ' b d = qFI τ b d := by
  have e4 := h4 4 (by omega) (by omega)
  have em : qMd τ' = qMd τ := by
    funext m
    unfold qMd
    rw [h4 0 (by omega) (by omega), h4 1 (by omega) (by omega), h4 2 (by omega) (by omega)]
  have es : qSI τ' = qSI τ := by
    funext a
    unfold qSI qSt
    have e : (fun m => qWt τ' a m && !qCl τ' m) = (fun m => qWt τ a m && !qCl τ m) := by
      funext m
      unfold qWt qCl
      rw [em, h 2 (by omega), h 6 (by omega), h4 3 (by omega) (by omega)]
    rw [e]
  unfold qFI qF
  rw [qIn_f h e4, es]
  have ep : qPf τ' (qSI τ) = qPf τ (qSI τ) := by
    unfold qPf
    rw [qPk_f h e4, e4]
    refine qPk_cong _ (fun i i0 i1 => ?_) (fun i i0 i1 => ?_)
    · have a1 := qO_ok (τ := τ') (by rw [e4]; exact h0)
      rw [e4] at a1
      exact qO_un h0 (qSr_f (τ := τ') (τ' := τ) (fun a ha => (h a ha).symm) a1) i0 (by omega)
    · rfl
  rw [ep]
theorem qCh_f (τ : mS) {k : Int} (i j : Int) (hk : 0 ≤ k) (h0 : 0 ≤ τ 0 4) : qCh (mUp τ 0 8 0) k i j = qCh τ k i j := by
  unfold qCh
  rw [mUp_ne τ 0 (show (0 : Int) ≠ 0 ∨ (4 : Int) ≠ 8 by omega), mUp_off τ 8 0 (show 12 + k ≠ 0 by omega), setOf_cong (q := fun b => qFI τ b j) (fun b _ _ => qFI_f (fun a ha => mUp_off τ 8 0 ha) (fun q q0 q1 => mUp_ne τ 0 (Or.inr (by omega))) h0 b j)]
theorem sp_chron_in {τ : mS} {k l i n : Int} (h1 : 0 ≤ k ∧ k ≤ 3) (h2 : 0 ≤ l ∧ l ≤ 2) (h3 : qAg τ k l i n = 0) (h4 : ¬ τ 0 4 = 0) : sp_chron τ k l i n = if fstN (qCh τ k i) n.toNat < n then fstN (qCh τ k i) n.toNat else -9 := by
  unfold sp_chron
  rw [if_neg (fun z => z h1), if_neg (fun z => z h2), if_neg (fun z => z h3), if_neg h4]
set_option maxRecDepth 100000 in
set_option maxHeartbeats 2000000 in
theorem lp_X8_chron {x : mX} {l : Launch} {D : va_G} {cs : mC} {ad : Int → Nat} {post : Int → mS → Prop} (h : mOk x l M_X8_chronicle 4 (gM D cs ad)) (hq : rI x (gM D cs ad) post) {σ : mS} {k i n l9 f9 : Int} (hO : mOK σ) (hn0 : 0 < σ 0 9) (k0 : 0 ≤ k) (k1 : k < 4) (hi0 : 0 ≤ i) (hn1 : 0 ≤ n) (hin : i + n ≤ 60) (hp : ∀ t : mS, mSc σ t → post (if fstN (qCh (vM σ) k i) n.toNat < n then fstN (qCh (vM σ) k i) n.toNat else -9) t) : ∀ (f : Nat) (j : Int) (s : mS), 0 ≤ j → j ≤ n → n - j < f → mLd σ s (qPf (vM σ) (qSI (vM σ))) → (∀ q : Int, 0 ≤ q → q < j → qCh (vM σ) k i q = false) → mG x 64 [(0, .ref (ad 0)), (1, mI k), (2, mI l9), (3, mI i), (4, mI n), (5, mI f9), (6, mI j)] [] s := by
  intro f
  have hW := hO.2.2
  have hn6 : σ 0 9 ≤ 6 := hW.1.2.1
  induction f with
  | zero => intro j s h0 h1 h2; omega
  | succ f ih =>
    intro j s h0 h1 h2 hl hj
    obtain ⟨q1, q2, q3⟩ := hl
    have e9 : s 0 9 = σ 0 9 := by rw [q1 0 (by omega) (by omega) (by omega)]
    refine g_iload h dX8_chronicle_64 rfl ?_
    refine g_iload h dX8_chronicle_66 rfl ?_
    refine g_icmp_ge (tgt := 103) h dX8_chronicle_68 (by decide) ⟨by omega, by omega⟩ ⟨by omega, by omega⟩ (fun c68 => ?_) (fun c68 => ?_)
    · refine g_bipush h dX8_chronicle_103 (by decide) ?_
      refine g_iret h hq rfl dX8_chronicle_105 (by
      have e : fstN (qCh (vM σ) k i) n.toNat = n := by
        have := fstN_no (p := qCh (vM σ) k i) (n := n.toNat) (fun q q0 q1 => hj q q0 (by omega))
        omega
      have := hp s q1
      rw [e, if_neg (by omega)] at this
      exact this)
    · refine g_aload_n h dX8_chronicle_71 rfl ?_
      refine g_iload h dX8_chronicle_72 rfl ?_
      refine g_vI h (c_X8_forceNow s (qPf (vM σ) (qSI (vM σ))) _ (by rw [q1.view]; exact hW.1) (by rw [q1.view, e9]; exact q2) (by rw [e9]; exact q3) h0 (by omega)) (by decide) lm_RX8_181 (rvM rfl) dX8_chronicle_74 rfl (Nat.le_of_ble_eq_true rfl) (fun z74 s74 p74 => ?_)
      obtain ⟨e74q, r74q⟩ := p74
      rw [q1.view, e9] at e74q
      subst e74q
      have ec : s74 3 (60 * k + i + j) = vM σ (12 + k) (i + j) := by
        rw [vM_ce σ (by omega) (by omega) (by omega) (by omega), r74q 3 (by omega), q1 3 (by omega) (by omega) (by omega), show 60 * (12 + k - 12) + (i + j) = 60 * k + i + j by omega]
      have hci := (hW.2.2.2.2.2 k k0 k1).2.2.2.2 (i + j) (by omega) (by omega)
      refine g_aload_n h dX8_chronicle_77 rfl ?_
      refine gm_cells h dX8_chronicle_78 lf_RX8_16 ?_
      refine g_bipush h dX8_chronicle_81 (by decide) ?_
      refine g_iload_n h dX8_chronicle_83 rfl ?_
      refine g_imul h dX8_chronicle_84 ?_
      refine g_iload_n h dX8_chronicle_85 rfl ?_
      refine g_iadd h dX8_chronicle_86 ?_
      refine g_iload h dX8_chronicle_87 rfl ?_
      refine g_iadd h dX8_chronicle_89 ?_
      refine lm_cells h dX8_chronicle_90 (by omega) (by omega) ?_
      refine g_val ec ?_
      refine g_icmp_eq (tgt := 97) h dX8_chronicle_91 (by decide) (setOf_32 (by omega) _) hci (fun c91 => ?_) (fun c91 => ?_)
      · refine g_iinc h dX8_chronicle_97 rfl (by decide) rfl ?_
        refine g_goto (tgt := 64) h dX8_chronicle_100 (by decide) ?_
        exact ih (j + 1) s74 (by omega) (by omega) (by omega) ⟨q1.tr (r74q.sc (by omega)), by rw [r74q 11 (by omega)]; exact q2, fun a a0 a1 => by rw [r74q 12 (by omega)]; exact q3 a a0 a1⟩ (fun q a b => by
          by_cases w : q = j
          · rw [w]; exact decide_eq_false (fun z => z c91)
          · exact hj q a (by omega))
      · refine g_iload h dX8_chronicle_94 rfl ?_
        refine g_iret h hq rfl dX8_chronicle_96 (by
        have e : fstN (qCh (vM σ) k i) n.toNat = j := fstN_is h0 (by omega) (decide_eq_true c91) hj
        have := hp s74 (q1.tr (r74q.sc (by omega)))
        rw [e, if_pos (by omega)] at this
        exact this)
set_option maxRecDepth 100000 in
set_option maxHeartbeats 2000000 in
theorem c_X8_chronicle {l : Launch} {D : va_G} {cs : mC} {ad : Int → Nat} (σ : mS) (k l9 i n : Int) (hk : i32 k) (hl : i32 l9) (hi : i32 i) (hn : i32 n) (hO : mOK σ) : CI l (gM D cs ad) M_X8_chronicle 4 [.ref (ad 0), mI k, mI l9, mI i, mI n] σ (fun z s => z = sp_chron (vM σ) k l9 i n ∧ mEnd (ns_chron (vM σ) k l9 i n) s) := by
  refine CI.of (by decide) (Nat.le_of_ble_eq_true rfl) (fun x h hq => ?_)
  show mG x 0 [(0, .ref (ad 0)), (1, mI k), (2, mI l9), (3, mI i), (4, mI n)] [] σ
  have hW := hO.2.2
  have hE := hO.endd
  have hE0 := hE.up (vM_up_fault σ 0) (by omega)
  have hO0 : mOK (mUp σ 0 0 0) := ⟨hE0.2.1, hE0.2.2, by rw [hE0.1]; exact qW_up0 hW 0 (by omega)⟩
  have hn9 : 0 ≤ σ 0 9 := hW.1.1
  have hn69 : σ 0 9 ≤ 6 := hW.1.2.1
  have e49 : vM σ 0 4 = σ 0 9 := rfl
  have e9 : mUp σ 0 0 0 0 9 = σ 0 9 := mUp_ne σ 0 (by omega)
  refine g_aload_n h dX8_chronicle_0 rfl ?_
  refine g_iconst h dX8_chronicle_1 rfl ?_
  refine pm_fault h dX8_chronicle_2 lf_RX8_63 ?_
  refine g_iload_n h dX8_chronicle_5 rfl ?_
  refine g_sI h (c_X8_isSheet _ _ hk) (by decide) lm_RX8_82 dX8_chronicle_6 rfl (Nat.le_of_ble_eq_true rfl) (fun z6 s6 p6 => ?_)
  obtain ⟨e6, r6⟩ := p6; subst e6; replace r6 := Eq.symm r6; subst r6
  refine g_ifb_ne (tgt := 14) h dX8_chronicle_9 (by decide)  (fun c9 => ?_) (fun c9 => ?_)
  · refine g_iload_n h dX8_chronicle_14 rfl ?_
    refine g_sI h (c_X8_isSort _ _ hl) (by decide) lm_RX8_86 dX8_chronicle_15 rfl (Nat.le_of_ble_eq_true rfl) (fun z15 s15 p15 => ?_)
    obtain ⟨e15, r15⟩ := p15; subst e15; replace r15 := Eq.symm r15; subst r15
    refine g_ifb_ne (tgt := 24) h dX8_chronicle_18 (by decide)  (fun c18 => ?_) (fun c18 => ?_)
    · refine g_aload_n h dX8_chronicle_24 rfl ?_
      refine g_iload_n h dX8_chronicle_25 rfl ?_
      refine g_iload_n h dX8_chronicle_26 rfl ?_
      refine g_iload_n h dX8_chronicle_27 rfl ?_
      refine g_iload h dX8_chronicle_28 rfl ?_
      refine g_vI h (c_X8_against _ _ _ _ _ hO0.2.1 c9.1 (by omega) hl hi hn) (by decide) lm_RX8_89 (rvM rfl) dX8_chronicle_30 rfl (Nat.le_of_ble_eq_true rfl) (fun z30 s30 p30 => ?_)
      obtain ⟨e30q, r30q⟩ := p30; rw [hE0.1, qAg_f] at e30q; replace r30q := Eq.symm r30q; subst r30q
      have hag := qAg_rng (vM σ) k l9 i n
      refine g_istore h dX8_chronicle_33 (by decide) rfl ?_
      refine g_iload h dX8_chronicle_35 rfl ?_
      refine g_if_eq (tgt := 47) h dX8_chronicle_37 (by decide) (by first | exact hR _ _ | exact ⟨by omega, by omega⟩) (fun c37 => ?_) (fun c37 => ?_)
      · refine g_aload_n h dX8_chronicle_47 rfl ?_
        refine gm_bills h dX8_chronicle_48 lf_RX8_72 ?_
        refine g_val e9 ?_
        refine g_if_ne (tgt := 57) h dX8_chronicle_51 (by decide) (by first | exact hR _ _ | exact ⟨by omega, by omega⟩) (fun c51 => ?_) (fun c51 => ?_)
        · refine g_aload_n h dX8_chronicle_57 rfl ?_
          refine g_vV h (c_X8_layPassing _ (hO0.1.wf hO0.2.2 (by rw [e9]; omega))) (by decide) lm_RX8_178 (rvM rfl) dX8_chronicle_58 rfl (Nat.le_of_ble_eq_true rfl) (fun s58 p58 => ?_)
          have hld := p58
          rw [hO0.1.Pf hO0.2.2.1 (by rw [e9]; omega)] at hld
          have hin := qAg_in hW c9.1 (show k < 4 by omega) (show qAg (vM σ) k l9 i n = 0 by omega)
          refine g_iconst h dX8_chronicle_61 rfl ?_
          refine g_istore h dX8_chronicle_62 (by decide) rfl ?_
          refine lp_X8_chron h hq hO0 (by rw [e9]; omega) c9.1 (by omega) hin.2.1 hin.1 (by omega) (fun t ht => ⟨?_, ?_⟩) 62 0 s58 (by omega) (by omega) (by omega) hld (fun q a b => by omega)
          · rw [sp_chron_in c9 c18 (show qAg (vM σ) k l9 i n = 0 by omega) (show ¬ vM σ 0 4 = 0 by omega), fstN_cong (p := qCh (vM σ) k i) (q := qCh (vM (mUp σ 0 0 0)) k i) (fun q _ _ => by rw [hE0.1]; exact (qCh_f (vM σ) i q c9.1 hW.1.1).symm)]
          · unfold ns_chron
            rw [if_neg (fun z => z c9), if_neg (fun z => z c18), ← e30q, c37, ← hE0.1]
            exact ht.endd hO0
        · refine g_bipush h dX8_chronicle_54 (by decide) ?_
          refine g_iret h hq rfl dX8_chronicle_56 ⟨by unfold sp_chron; rw [if_neg (fun z => z c9), if_neg (fun z => z c18), if_neg (by omega), e49, if_pos (by omega)], by unfold ns_chron; rw [if_neg (fun z => z c9), if_neg (fun z => z c18), ← e30q, c37]; exact hE0⟩
      · refine g_aload_n h dX8_chronicle_40 rfl ?_
        refine g_iload h dX8_chronicle_41 rfl ?_
        refine g_vI h (c_X8_fails _ _) (by decide) lm_RX8_93 (rvM rfl) dX8_chronicle_43 rfl (Nat.le_of_ble_eq_true rfl) (fun z43 s43 p43 => ?_)
        obtain ⟨e43, r43⟩ := p43; subst e43; replace r43 := Eq.symm r43; subst r43
        refine g_iret h hq rfl dX8_chronicle_46 ⟨by unfold sp_chron; rw [if_neg (fun z => z c9), if_neg (fun z => z c18), if_pos (by omega), e30q], by unfold ns_chron; rw [if_neg (fun z => z c9), if_neg (fun z => z c18), ← e30q, mUp_up]; exact hE.up (vM_up_fault σ _) (by omega)⟩
    · refine g_bipush h dX8_chronicle_21 (by decide) ?_
      refine g_iret h hq rfl dX8_chronicle_23 ⟨by unfold sp_chron; rw [if_neg (fun z => z c9), if_pos c18], by unfold ns_chron; rw [if_neg (fun z => z c9), if_pos c18]; exact hE0⟩
  · refine g_iconst h dX8_chronicle_12 rfl ?_
    refine g_iret h hq rfl dX8_chronicle_13 ⟨by unfold sp_chron; rw [if_pos c9], by unfold ns_chron; rw [if_pos c9]; exact hE0⟩
