/-- a trial: one number is v, then settled -/
theorem xTr {σ s : mS} {r j v0 v : Int} (h : xSc (mUp σ r j v0) s) {t : mS} {st : Int → Bool} (ht : xSt (mUp s r j v) t st) : xSc (mUp σ r j v) t := (h.re v).tr ht.1
theorem xTr_v {σ s : mS} {r j v0 v : Int} (h : xSc (mUp σ r j v0) s) {a b : Int} (e : vX (mUp σ r j v) = mUp (vX σ) a b v) : vX (mUp s r j v) = mUp (vX σ) a b v := (h.re v).view.trans e
theorem xTr_12 {σ s : mS} {r j v0 v : Int} (h : xSc (mUp σ r j v0) s) (hr : ¬ r = 1 ∨ ¬ j = 2) : mUp s r j v 1 2 = σ 1 2 := by
  rw [(h.re v) 1 2 (by omega) (by omega), mUp_ne _ _ (by omega)]
set_option maxRecDepth 100000 in
set_option maxHeartbeats 2000000 in
theorem lp_X6_possibleSpans {x : mX} {l : Launch} {D : va_G} {cs : mC} {ad : Int → Nat} {post : Int → mS → Prop} (h : mOk x l M_X6_possibleSpans 12 (gX D cs ad)) (hq : rI x (gX D cs ad) post) {σ : mS}  (hW : qW (vX σ)) (hn : 0 < σ 1 2)  (hp : ∀ t : mS, xSc σ t → post (setOf 10 (fun v => qAI (mUp (vX σ) 0 3 v))) t) : ∀ (g : Nat) (j : Int) (s : mS) (v0 : Int), 0 ≤ j → j ≤ 10 → 10 - j < g → xSc (mUp σ 1 3 v0) s → mG x 10 [(0, .ref (ad 1)), (1, .ref (ad 11)), (2, mI (σ 1 3)), (3, mI (setOf j.toNat (fun v => qAI (mUp (vX σ) 0 3 v)))), (4, mI j)] [] s := by
  have h6 : σ 1 2 ≤ 6 := hW.1.2.1
  intro g
  induction g with
  | zero => intro j s v0 a b c; omega
  | succ g ih =>
    intro j s v0 j0 j1 hg hs
    refine g_iload h dX6_possibleSpans_10 rfl ?_
    refine g_bipush h dX6_possibleSpans_12 (by decide) ?_
    refine g_icmp_gt (tgt := 52) h dX6_possibleSpans_14 (by decide) ⟨by omega, by omega⟩ ⟨by omega, by omega⟩ (fun c14 => ?_) (fun c14 => ?_)
    · refine g_aload_n h dX6_possibleSpans_52 rfl ?_
      refine g_iload_n h dX6_possibleSpans_53 rfl ?_
      refine pxC_watch h dX6_possibleSpans_54 lf_RX6_60 ?_
      refine g_iload_n h dX6_possibleSpans_57 rfl ?_
      refine g_iret h hq rfl dX6_possibleSpans_58 (by rw [show j.toNat = 10 by omega]; exact hp _ hs.back)
    · have eVj : vX (mUp s 1 3 j) = mUp (vX σ) 0 3 j := xTr_v hs (v := j) (vX_up_span σ j)
      have hWj : qW (vX (mUp s 1 3 j)) := by rw [eVj]; exact qW_span hW j0 (by omega)
      refine g_aload_n h dX6_possibleSpans_17 rfl ?_
      refine g_iload h dX6_possibleSpans_18 rfl ?_
      refine pxC_watch h dX6_possibleSpans_20 lf_RX6_60 ?_
      refine g_aload_n h dX6_possibleSpans_23 rfl ?_
      refine g_vV h (c_X1_settle _ hWj.1 hWj.2.1 (by rw [xTr_12 hs (by omega)]; exact hn)) (by decide) lm_RX6_51 (rvC rfl) dX6_possibleSpans_24 rfl (Nat.le_of_ble_eq_true rfl) (fun s24 p24 => ?_)
      refine g_iload_n h dX6_possibleSpans_27 rfl ?_
      refine g_aload_n h dX6_possibleSpans_28 rfl ?_
      refine g_aload_n h dX6_possibleSpans_29 rfl ?_
      refine g_vI h (c_X2_areSo _ _ (p24.wf hWj) p24.2.1) (by decide) lm_RX6_63 (rvR rfl) dX6_possibleSpans_30 rfl (Nat.le_of_ble_eq_true rfl) (fun z30 s30 p30 => ?_)
      obtain ⟨e30, r30⟩ := p30; subst e30; replace r30 := Eq.symm r30; subst r30
      rw [p24.A, eVj]
      have JJ : ∀ v : Int, v = (if (fun v => qAI (mUp (vX σ) 0 3 v)) j = true then iShl 1 j else 0) → mG x 44 [(0, .ref (ad 1)), (1, .ref (ad 11)), (2, mI (σ 1 3)), (3, mI (setOf j.toNat (fun v => qAI (mUp (vX σ) 0 3 v)))), (4, mI j)] [mI v, mI (setOf j.toNat (fun v => qAI (mUp (vX σ) 0 3 v)))] s24 := by
        intro v hv
        refine g_ior h dX6_possibleSpans_44 ?_
        refine g_istore_n h dX6_possibleSpans_45 (by decide) rfl ?_
        refine g_iinc h dX6_possibleSpans_46 rfl (by decide) rfl ?_
        refine g_goto (tgt := 10) h dX6_possibleSpans_49 (by decide) ?_
        refine g_lv (lv' := [(0, .ref (ad 1)), (1, .ref (ad 11)), (2, mI (σ 1 3)), (3, mI (iOr (setOf j.toNat (fun v => qAI (mUp (vX σ) 0 3 v))) v)), (4, mI (j + 1))]) rfl ?_
        rw [set_next (by omega) (fun v => qAI (mUp (vX σ) 0 3 v)) (by omega) hv]
        exact ih (j + 1) _ j (by omega) (by omega) (by omega) (xTr hs p24)
      refine g_ifb_eq (tgt := 43) h dX6_possibleSpans_33 (by decide)  (fun c33 => ?_) (fun c33 => ?_)
      · refine g_iconst h dX6_possibleSpans_43 rfl ?_
        exact JJ 0 (by show _ = (if qAI (mUp (vX σ) 0 3 j) = true then iShl 1 j else 0); rw [if_neg c33])
      · refine g_iconst h dX6_possibleSpans_36 rfl ?_
        refine g_iload h dX6_possibleSpans_37 rfl ?_
        refine g_ishl h dX6_possibleSpans_39 ?_
        refine g_goto (tgt := 44) h dX6_possibleSpans_40 (by decide) ?_
        exact JJ _ (by show _ = (if qAI (mUp (vX σ) 0 3 j) = true then iShl 1 j else 0); rw [if_pos c33])
set_option maxRecDepth 100000 in
set_option maxHeartbeats 2000000 in
theorem c_X6_possibleSpans {l : Launch} {D : va_G} {cs : mC} {ad : Int → Nat} (σ : mS)  (hW : qW (vX σ)) (hn : 0 < σ 1 2) : CI l (gX D cs ad) M_X6_possibleSpans 12 [.ref (ad 1), .ref (ad 11)] σ (fun z s => z = setOf 10 (fun v => qAI (mUp (vX σ) 0 3 v)) ∧ xSc σ s) := by
  refine CI.of (by decide) (Nat.le_of_ble_eq_true rfl) (fun x h hq => ?_)
  show mG x 0 [(0, .ref (ad 1)), (1, .ref (ad 11))] [] σ
  refine g_aload_n h dX6_possibleSpans_0 rfl ?_
  refine gxC_watch h dX6_possibleSpans_1 lf_RX6_60 ?_
  refine g_istore_n h dX6_possibleSpans_4 (by decide) rfl ?_
  refine g_iconst h dX6_possibleSpans_5 rfl ?_
  refine g_istore_n h dX6_possibleSpans_6 (by decide) rfl ?_
  refine g_iconst h dX6_possibleSpans_7 rfl ?_
  refine g_istore h dX6_possibleSpans_8 (by decide) rfl ?_
  exact lp_X6_possibleSpans h hq hW hn (fun t ht => ⟨rfl, ht⟩) 11 0 σ (σ 1 3) (by omega) (by omega) (by omega) (xSc.id σ 1 3)
set_option maxRecDepth 100000 in
set_option maxHeartbeats 2000000 in
theorem lp_X6_possibleOrigins {x : mX} {l : Launch} {D : va_G} {cs : mC} {ad : Int → Nat} {post : Int → mS → Prop} (h : mOk x l M_X6_possibleOrigins 12 (gX D cs ad)) (hq : rI x (gX D cs ad) post) {σ : mS}  (hW : qW (vX σ)) (hn : 0 < σ 1 2)  (hp : ∀ t : mS, xSc σ t → post (setOf 30 (fun v => qAI (mUp (vX σ) 0 0 v))) t) : ∀ (g : Nat) (j : Int) (s : mS) (v0 : Int), 0 ≤ j → j ≤ 30 → 30 - j < g → xSc (mUp σ 2 2 v0) s → mG x 13 [(0, .ref (ad 1)), (1, .ref (ad 11)), (2, mI (σ 2 2)), (3, mI (setOf j.toNat (fun v => qAI (mUp (vX σ) 0 0 v)))), (4, mI j)] [] s := by
  have h6 : σ 1 2 ≤ 6 := hW.1.2.1
  intro g
  induction g with
  | zero => intro j s v0 a b c; omega
  | succ g ih =>
    intro j s v0 j0 j1 hg hs
    refine g_iload h dX6_possibleOrigins_13 rfl ?_
    refine g_bipush h dX6_possibleOrigins_15 (by decide) ?_
    refine g_icmp_gt (tgt := 58) h dX6_possibleOrigins_17 (by decide) ⟨by omega, by omega⟩ ⟨by omega, by omega⟩ (fun c17 => ?_) (fun c17 => ?_)
    · refine g_aload_n h dX6_possibleOrigins_58 rfl ?_
      refine gxC_sky h dX6_possibleOrigins_59 lf_RX6_14 ?_
      refine g_iload_n h dX6_possibleOrigins_62 rfl ?_
      refine pxK_begins h dX6_possibleOrigins_63 lf_RX6_69 ?_
      refine g_iload_n h dX6_possibleOrigins_66 rfl ?_
      refine g_iret h hq rfl dX6_possibleOrigins_67 (by rw [show j.toNat = 30 by omega]; exact hp _ hs.back)
    · have eVj : vX (mUp s 2 2 j) = mUp (vX σ) 0 0 j := xTr_v hs (v := j) (vX_up_begins σ j)
      have hWj : qW (vX (mUp s 2 2 j)) := by rw [eVj]; exact qW_orig hW j0 (by omega)
      refine g_aload_n h dX6_possibleOrigins_20 rfl ?_
      refine gxC_sky h dX6_possibleOrigins_21 lf_RX6_14 ?_
      refine g_iload h dX6_possibleOrigins_24 rfl ?_
      refine pxK_begins h dX6_possibleOrigins_26 lf_RX6_69 ?_
      refine g_aload_n h dX6_possibleOrigins_29 rfl ?_
      refine g_vV h (c_X1_settle _ hWj.1 hWj.2.1 (by rw [xTr_12 hs (by omega)]; exact hn)) (by decide) lm_RX6_51 (rvC rfl) dX6_possibleOrigins_30 rfl (Nat.le_of_ble_eq_true rfl) (fun s30 p30 => ?_)
      refine g_iload_n h dX6_possibleOrigins_33 rfl ?_
      refine g_aload_n h dX6_possibleOrigins_34 rfl ?_
      refine g_aload_n h dX6_possibleOrigins_35 rfl ?_
      refine g_vI h (c_X2_areSo _ _ (p30.wf hWj) p30.2.1) (by decide) lm_RX6_63 (rvR rfl) dX6_possibleOrigins_36 rfl (Nat.le_of_ble_eq_true rfl) (fun z36 s36 p36 => ?_)
      obtain ⟨e36, r36⟩ := p36; subst e36; replace r36 := Eq.symm r36; subst r36
      rw [p30.A, eVj]
      have JJ : ∀ v : Int, v = (if (fun v => qAI (mUp (vX σ) 0 0 v)) j = true then iShl 1 j else 0) → mG x 50 [(0, .ref (ad 1)), (1, .ref (ad 11)), (2, mI (σ 2 2)), (3, mI (setOf j.toNat (fun v => qAI (mUp (vX σ) 0 0 v)))), (4, mI j)] [mI v, mI (setOf j.toNat (fun v => qAI (mUp (vX σ) 0 0 v)))] s30 := by
        intro v hv
        refine g_ior h dX6_possibleOrigins_50 ?_
        refine g_istore_n h dX6_possibleOrigins_51 (by decide) rfl ?_
        refine g_iinc h dX6_possibleOrigins_52 rfl (by decide) rfl ?_
        refine g_goto (tgt := 13) h dX6_possibleOrigins_55 (by decide) ?_
        refine g_lv (lv' := [(0, .ref (ad 1)), (1, .ref (ad 11)), (2, mI (σ 2 2)), (3, mI (iOr (setOf j.toNat (fun v => qAI (mUp (vX σ) 0 0 v))) v)), (4, mI (j + 1))]) rfl ?_
        rw [set_next (by omega) (fun v => qAI (mUp (vX σ) 0 0 v)) (by omega) hv]
        exact ih (j + 1) _ j (by omega) (by omega) (by omega) (xTr hs p30)
      refine g_ifb_eq (tgt := 49) h dX6_possibleOrigins_39 (by decide)  (fun c39 => ?_) (fun c39 => ?_)
      · refine g_iconst h dX6_possibleOrigins_49 rfl ?_
        exact JJ 0 (by show _ = (if qAI (mUp (vX σ) 0 0 j) = true then iShl 1 j else 0); rw [if_neg c39])
      · refine g_iconst h dX6_possibleOrigins_42 rfl ?_
        refine g_iload h dX6_possibleOrigins_43 rfl ?_
        refine g_ishl h dX6_possibleOrigins_45 ?_
        refine g_goto (tgt := 50) h dX6_possibleOrigins_46 (by decide) ?_
        exact JJ _ (by show _ = (if qAI (mUp (vX σ) 0 0 j) = true then iShl 1 j else 0); rw [if_pos c39])
set_option maxRecDepth 100000 in
set_option maxHeartbeats 2000000 in
theorem c_X6_possibleOrigins {l : Launch} {D : va_G} {cs : mC} {ad : Int → Nat} (σ : mS)  (hW : qW (vX σ)) (hn : 0 < σ 1 2) : CI l (gX D cs ad) M_X6_possibleOrigins 12 [.ref (ad 1), .ref (ad 11)] σ (fun z s => z = setOf 30 (fun v => qAI (mUp (vX σ) 0 0 v)) ∧ xSc σ s) := by
  refine CI.of (by decide) (Nat.le_of_ble_eq_true rfl) (fun x h hq => ?_)
  show mG x 0 [(0, .ref (ad 1)), (1, .ref (ad 11))] [] σ
  refine g_aload_n h dX6_possibleOrigins_0 rfl ?_
  refine gxC_sky h dX6_possibleOrigins_1 lf_RX6_14 ?_
  refine gxK_begins h dX6_possibleOrigins_4 lf_RX6_69 ?_
  refine g_istore_n h dX6_possibleOrigins_7 (by decide) rfl ?_
  refine g_iconst h dX6_possibleOrigins_8 rfl ?_
  refine g_istore_n h dX6_possibleOrigins_9 (by decide) rfl ?_
  refine g_iconst h dX6_possibleOrigins_10 rfl ?_
  refine g_istore h dX6_possibleOrigins_11 (by decide) rfl ?_
  exact lp_X6_possibleOrigins h hq hW hn (fun t ht => ⟨rfl, ht⟩) 31 0 σ (σ 2 2) (by omega) (by omega) (by omega) (xSc.id σ 2 2)
set_option maxRecDepth 100000 in
set_option maxHeartbeats 2000000 in
theorem lp_X6_possibleKinds {x : mX} {l : Launch} {D : va_G} {cs : mC} {ad : Int → Nat} {post : Int → mS → Prop} (h : mOk x l M_X6_possibleKinds 12 (gX D cs ad)) (hq : rI x (gX D cs ad) post) {σ : mS} {b : Int} (hW : qW (vX σ)) (hn : 0 < σ 1 2) (b0 : 0 ≤ b) (b1 : b < 6) (hp : ∀ t : mS, xSc σ t → post (setOf 3 (fun v => qAI (mUp (vX σ) 1 b v))) t) : ∀ (g : Nat) (j : Int) (s : mS) (v0 : Int), 0 ≤ j → j ≤ 3 → 3 - j < g → xSc (mUp σ (5 + b) 0 v0) s → mG x 19 [(0, .ref (ad 1)), (1, .ref (ad 11)), (2, mI b), (3, .ref (ad (5 + b))), (4, mI (σ (5 + b) 0)), (5, mI (setOf j.toNat (fun v => qAI (mUp (vX σ) 1 b v)))), (6, mI j)] [] s := by
  have h6 : σ 1 2 ≤ 6 := hW.1.2.1
  intro g
  induction g with
  | zero => intro j s v0 a b c; omega
  | succ g ih =>
    intro j s v0 j0 j1 hg hs
    refine g_iload h dX6_possibleKinds_19 rfl ?_
    refine g_iconst h dX6_possibleKinds_21 rfl ?_
    refine g_icmp_gt (tgt := 62) h dX6_possibleKinds_22 (by decide) ⟨by omega, by omega⟩ ⟨by omega, by omega⟩ (fun c22 => ?_) (fun c22 => ?_)
    · refine g_aload_n h dX6_possibleKinds_62 rfl ?_
      refine g_iload h dX6_possibleKinds_63 rfl ?_
      refine pxB_kind h (by omega) (by omega) dX6_possibleKinds_65 lf_RX6_72 ?_
      refine g_iload h dX6_possibleKinds_68 rfl ?_
      refine g_iret h hq rfl dX6_possibleKinds_70 (by rw [show j.toNat = 3 by omega]; exact hp _ hs.back)
    · have eVj : vX (mUp s (5 + b) 0 j) = mUp (vX σ) 1 b j := xTr_v hs (v := j) (vX_up_b σ j (by omega) (by omega) b0 (by omega))
      have hWj : qW (vX (mUp s (5 + b) 0 j)) := by rw [eVj]; exact qW_kind hW j0 (by omega)
      refine g_aload_n h dX6_possibleKinds_25 rfl ?_
      refine g_iload h dX6_possibleKinds_26 rfl ?_
      refine pxB_kind h (by omega) (by omega) dX6_possibleKinds_28 lf_RX6_72 ?_
      refine g_aload_n h dX6_possibleKinds_31 rfl ?_
      refine g_vV h (c_X1_settle _ hWj.1 hWj.2.1 (by rw [xTr_12 hs (by omega)]; exact hn)) (by decide) lm_RX6_51 (rvC rfl) dX6_possibleKinds_32 rfl (Nat.le_of_ble_eq_true rfl) (fun s32 p32 => ?_)
      refine g_iload h dX6_possibleKinds_35 rfl ?_
      refine g_aload_n h dX6_possibleKinds_37 rfl ?_
      refine g_aload_n h dX6_possibleKinds_38 rfl ?_
      refine g_vI h (c_X2_areSo _ _ (p32.wf hWj) p32.2.1) (by decide) lm_RX6_63 (rvR rfl) dX6_possibleKinds_39 rfl (Nat.le_of_ble_eq_true rfl) (fun z39 s39 p39 => ?_)
      obtain ⟨e39, r39⟩ := p39; subst e39; replace r39 := Eq.symm r39; subst r39
      rw [p32.A, eVj]
      have JJ : ∀ v : Int, v = (if (fun v => qAI (mUp (vX σ) 1 b v)) j = true then iShl 1 j else 0) → mG x 53 [(0, .ref (ad 1)), (1, .ref (ad 11)), (2, mI b), (3, .ref (ad (5 + b))), (4, mI (σ (5 + b) 0)), (5, mI (setOf j.toNat (fun v => qAI (mUp (vX σ) 1 b v)))), (6, mI j)] [mI v, mI (setOf j.toNat (fun v => qAI (mUp (vX σ) 1 b v)))] s32 := by
        intro v hv
        refine g_ior h dX6_possibleKinds_53 ?_
        refine g_istore h dX6_possibleKinds_54 (by decide) rfl ?_
        refine g_iinc h dX6_possibleKinds_56 rfl (by decide) rfl ?_
        refine g_goto (tgt := 19) h dX6_possibleKinds_59 (by decide) ?_
        refine g_lv (lv' := [(0, .ref (ad 1)), (1, .ref (ad 11)), (2, mI b), (3, .ref (ad (5 + b))), (4, mI (σ (5 + b) 0)), (5, mI (iOr (setOf j.toNat (fun v => qAI (mUp (vX σ) 1 b v))) v)), (6, mI (j + 1))]) rfl ?_
        rw [set_next (by omega) (fun v => qAI (mUp (vX σ) 1 b v)) (by omega) hv]
        exact ih (j + 1) _ j (by omega) (by omega) (by omega) (xTr hs p32)
      refine g_ifb_eq (tgt := 52) h dX6_possibleKinds_42 (by decide)  (fun c42 => ?_) (fun c42 => ?_)
      · refine g_iconst h dX6_possibleKinds_52 rfl ?_
        exact JJ 0 (by show _ = (if qAI (mUp (vX σ) 1 b j) = true then iShl 1 j else 0); rw [if_neg c42])
      · refine g_iconst h dX6_possibleKinds_45 rfl ?_
        refine g_iload h dX6_possibleKinds_46 rfl ?_
        refine g_ishl h dX6_possibleKinds_48 ?_
        refine g_goto (tgt := 53) h dX6_possibleKinds_49 (by decide) ?_
        exact JJ _ (by show _ = (if qAI (mUp (vX σ) 1 b j) = true then iShl 1 j else 0); rw [if_pos c42])
set_option maxRecDepth 100000 in
set_option maxHeartbeats 2000000 in
theorem c_X6_possibleKinds {l : Launch} {D : va_G} {cs : mC} {ad : Int → Nat} (σ : mS) (b : Int) (hW : qW (vX σ)) (hn : 0 < σ 1 2) (b0 : 0 ≤ b) (b1 : b < 6) : CI l (gX D cs ad) M_X6_possibleKinds 12 [.ref (ad 1), .ref (ad 11), mI b] σ (fun z s => z = setOf 3 (fun v => qAI (mUp (vX σ) 1 b v)) ∧ xSc σ s) := by
  refine CI.of (by decide) (Nat.le_of_ble_eq_true rfl) (fun x h hq => ?_)
  show mG x 0 [(0, .ref (ad 1)), (1, .ref (ad 11)), (2, mI b)] [] σ
  refine g_aload_n h dX6_possibleKinds_0 rfl ?_
  refine gxC_bills h dX6_possibleKinds_1 lf_RX6_41 ?_
  refine g_iload_n h dX6_possibleKinds_4 rfl ?_
  refine lx_bills h dX6_possibleKinds_5 (by omega) (by omega) ?_
  refine g_astore_n h dX6_possibleKinds_6 (by decide) rfl ?_
  refine g_aload_n h dX6_possibleKinds_7 rfl ?_
  refine gxB_kind h (by omega) (by omega) dX6_possibleKinds_8 lf_RX6_72 ?_
  refine g_istore h dX6_possibleKinds_11 (by decide) rfl ?_
  refine g_iconst h dX6_possibleKinds_13 rfl ?_
  refine g_istore h dX6_possibleKinds_14 (by decide) rfl ?_
  refine g_iconst h dX6_possibleKinds_16 rfl ?_
  refine g_istore h dX6_possibleKinds_17 (by decide) rfl ?_
  exact lp_X6_possibleKinds h hq hW hn b0 b1 (fun t ht => ⟨rfl, ht⟩) 4 0 σ (σ (5 + b) 0) (by omega) (by omega) (by omega) (xSc.id σ (5 + b) 0)
def fsM (p : Int → Bool) (j : Int) : Int := if fstN p j.toNat < j then fstN p j.toNat else -9
theorem fsM_next (p : Int → Bool) {j : Int} (j0 : 0 ≤ j) : fsM p (j + 1) = if fsM p j = -9 then (if p j = true then j else -9) else fsM p j := by
  have g := fstN_sp p j.toNat
  unfold fsM
  rw [show (j + 1).toNat = j.toNat + 1 by omega, fstN, Int.toNat_of_nonneg j0]
  by_cases h : fstN p j.toNat < j
  · rw [if_pos h, if_pos (by omega), if_pos h, if_neg (by omega)]
  · rw [if_neg h, if_neg h, if_pos rfl]
    by_cases hp : p j = true
    · rw [if_pos hp, if_pos hp, if_pos (by omega)]
    · rw [if_neg hp, if_neg hp, if_neg (by omega)]
theorem fsM_miss (p : Int → Bool) {j : Int} (j0 : 0 ≤ j) (h : ¬ p j = true) : fsM p (j + 1) = fsM p j := by
  rw [fsM_next p j0, if_neg h]
  by_cases q : fsM p j = -9
  · rw [if_pos q, q]
  · rw [if_neg q]
theorem fsM_0 (p : Int → Bool) : fsM p 0 = -9 := rfl
theorem fsM_rng (p : Int → Bool) {j : Int} (j0 : 0 ≤ j) : fsM p j = -9 ∨ (0 ≤ fsM p j ∧ fsM p j < j) := by
  have g := fstN_sp p j.toNat
  unfold fsM
  by_cases h : fstN p j.toNat < j
  · rw [if_pos h]; omega
  · rw [if_neg h]; exact Or.inl rfl
theorem fsM_stay (p : Int → Bool) {j : Int} (j0 : 0 ≤ j) (h : ¬ fsM p j = -9) : ∀ k : Nat, fsM p (j + k) = fsM p j
  | 0 => by simp
  | k + 1 => by rw [show j + ((k + 1 : Nat) : Int) = j + k + 1 by omega, fsM_next p (by omega), fsM_stay p j0 h k, if_neg h]
set_option maxRecDepth 100000 in
set_option maxHeartbeats 2000000 in
theorem lp_X6_possibleMoves {x : mX} {l : Launch} {D : va_G} {cs : mC} {ad : Int → Nat} {post : Int → mS → Prop} (h : mOk x l M_X6_possibleMoves 12 (gX D cs ad)) (hq : rI x (gX D cs ad) post) {σ : mS} {b w : Int} (hW : qW (vX σ)) (hn : 0 < σ 1 2) (b0 : 0 ≤ b) (b1 : b < 6) (hw : w = 0 ∨ w = 1) (hp : ∀ t : mS, xSc σ t → post (if w = 0 then cntN (fun v => qAI (mUp (vX σ) 2 b v)) 100 else fsM (fun v => qAI (mUp (vX σ) 2 b v)) 100) t) : ∀ (g : Nat) (j : Int) (s : mS) (v0 : Int), 0 ≤ j → j ≤ 100 → 100 - j < g → xSc (mUp σ (5 + b) 1 v0) s → mG x 25 [(0, .ref (ad 1)), (1, .ref (ad 11)), (2, mI b), (3, mI w), (4, .ref (ad (5 + b))), (5, mI (σ (5 + b) 1)), (6, mI (cntN (fun v => qAI (mUp (vX σ) 2 b v)) j.toNat)), (7, mI (fsM (fun v => qAI (mUp (vX σ) 2 b v)) j)), (8, mI j)] [] s := by
  have h6 : σ 1 2 ≤ 6 := hW.1.2.1
  intro g
  induction g with
  | zero => intro j s v0 a b c; omega
  | succ g ih =>
    intro j s v0 j0 j1 hg hs
    have hfr := fsM_rng (fun v => qAI (mUp (vX σ) 2 b v)) j0
    refine g_iload h dX6_possibleMoves_25 rfl ?_
    refine g_bipush h dX6_possibleMoves_27 (by decide) ?_
    refine g_icmp_gt (tgt := 76) h dX6_possibleMoves_29 (by decide) ⟨by omega, by omega⟩ ⟨by omega, by omega⟩ (fun c29 => ?_) (fun c29 => ?_)
    · have ej : j = 100 := by omega
      subst ej
      refine g_aload h dX6_possibleMoves_76 rfl ?_
      refine g_iload h dX6_possibleMoves_78 rfl ?_
      refine pxB_day h (by omega) (by omega) dX6_possibleMoves_80 lf_RX6_45 ?_
      refine g_iload_n h dX6_possibleMoves_83 rfl ?_
      refine g_if_eq (tgt := 92) h dX6_possibleMoves_84 (by decide) ⟨by omega, by omega⟩ (fun c84 => ?_) (fun c84 => ?_)
      · refine g_iload h dX6_possibleMoves_92 rfl ?_
        refine g_iret h hq rfl dX6_possibleMoves_94 (by have := hp _ hs.back; rw [if_pos c84] at this; exact this)
      · refine g_iload h dX6_possibleMoves_87 rfl ?_
        refine g_goto (tgt := 94) h dX6_possibleMoves_89 (by decide) ?_
        refine g_iret h hq rfl dX6_possibleMoves_94 (by have := hp _ hs.back; rw [if_neg c84] at this; exact this)
    · have eVj := xTr_v hs (v := j) (vX_up_b σ j (by omega) (by omega) b0 (by omega))
      rw [show (1 : Int) + 1 = 2 by omega] at eVj
      have hWj : qW (vX (mUp s (5 + b) 1 j)) := by rw [eVj]; exact qW_day hW j0 (by omega)
      refine g_aload h dX6_possibleMoves_32 rfl ?_
      refine g_iload h dX6_possibleMoves_34 rfl ?_
      refine pxB_day h (by omega) (by omega) dX6_possibleMoves_36 lf_RX6_45 ?_
      refine g_aload_n h dX6_possibleMoves_39 rfl ?_
      refine g_vV h (c_X1_settle _ hWj.1 hWj.2.1 (by rw [xTr_12 hs (by omega)]; exact hn)) (by decide) lm_RX6_51 (rvC rfl) dX6_possibleMoves_40 rfl (Nat.le_of_ble_eq_true rfl) (fun s40 p40 => ?_)
      refine g_aload_n h dX6_possibleMoves_43 rfl ?_
      refine g_aload_n h dX6_possibleMoves_44 rfl ?_
      refine g_vI h (c_X2_areSo _ _ (p40.wf hWj) p40.2.1) (by decide) lm_RX6_63 (rvR rfl) dX6_possibleMoves_45 rfl (Nat.le_of_ble_eq_true rfl) (fun z45 s45 p45 => ?_)
      obtain ⟨e45, r45⟩ := p45; subst e45; replace r45 := Eq.symm r45; subst r45
      rw [p40.A, eVj]
      refine g_ifb_eq (tgt := 70) h dX6_possibleMoves_48 (by decide)  (fun c48 => ?_) (fun c48 => ?_)
      · refine g_iinc h dX6_possibleMoves_70 rfl (by decide) rfl ?_
        refine g_goto (tgt := 25) h dX6_possibleMoves_73 (by decide) ?_
        refine g_lv (lv' := [(0, .ref (ad 1)), (1, .ref (ad 11)), (2, mI b), (3, mI w), (4, .ref (ad (5 + b))), (5, mI (σ (5 + b) 1)), (6, mI (cntN (fun v => qAI (mUp (vX σ) 2 b v)) j.toNat)), (7, mI (fsM (fun v => qAI (mUp (vX σ) 2 b v)) j)), (8, mI (j + 1))]) rfl ?_
        have ec : cntN (fun v => qAI (mUp (vX σ) 2 b v)) (j + 1).toNat = (cntN (fun v => qAI (mUp (vX σ) 2 b v)) j.toNat) := (show cntN (fun v => qAI (mUp (vX σ) 2 b v)) (j + 1).toNat = (cntN (fun v => qAI (mUp (vX σ) 2 b v)) j.toNat) by rw [← cnt_next (fun v => qAI (mUp (vX σ) 2 b v)) j0]; show _ + bl (qAI (mUp (vX σ) 2 b j) = true) = _; rw [← bl0 c48]; omega)
        have ef : fsM (fun v => qAI (mUp (vX σ) 2 b v)) (j + 1) = (fsM (fun v => qAI (mUp (vX σ) 2 b v)) j) := fsM_miss (fun v => qAI (mUp (vX σ) 2 b v)) j0 c48
        have Z := ih (j + 1) _ j (by omega) (by omega) (by omega) (xTr hs p40)
        rw [ec, ef] at Z
        exact Z
      · refine g_iinc h dX6_possibleMoves_51 rfl (by decide) rfl ?_
        refine g_iload h dX6_possibleMoves_54 rfl ?_
        refine g_bipush h dX6_possibleMoves_56 (by decide) ?_
        refine g_icmp_ne (tgt := 66) h dX6_possibleMoves_58 (by decide) ⟨by omega, by omega⟩ ⟨by omega, by omega⟩ (fun c58 => ?_) (fun c58 => ?_)
        · refine g_iload h dX6_possibleMoves_66 rfl ?_
          refine g_istore h dX6_possibleMoves_68 (by decide) rfl ?_
          refine g_iinc h dX6_possibleMoves_70 rfl (by decide) rfl ?_
          refine g_goto (tgt := 25) h dX6_possibleMoves_73 (by decide) ?_
          refine g_lv (lv' := [(0, .ref (ad 1)), (1, .ref (ad 11)), (2, mI b), (3, mI w), (4, .ref (ad (5 + b))), (5, mI (σ (5 + b) 1)), (6, mI ((cntN (fun v => qAI (mUp (vX σ) 2 b v)) j.toNat) + 1)), (7, mI (fsM (fun v => qAI (mUp (vX σ) 2 b v)) j)), (8, mI (j + 1))]) rfl ?_
          have ec : cntN (fun v => qAI (mUp (vX σ) 2 b v)) (j + 1).toNat = ((cntN (fun v => qAI (mUp (vX σ) 2 b v)) j.toNat) + 1) := (show cntN (fun v => qAI (mUp (vX σ) 2 b v)) (j + 1).toNat = (cntN (fun v => qAI (mUp (vX σ) 2 b v)) j.toNat) + 1 by rw [← cnt_next (fun v => qAI (mUp (vX σ) 2 b v)) j0]; show _ + bl (qAI (mUp (vX σ) 2 b j) = true) = _; rw [← bl1 c48])
          have ef : fsM (fun v => qAI (mUp (vX σ) 2 b v)) (j + 1) = (fsM (fun v => qAI (mUp (vX σ) 2 b v)) j) := by rw [fsM_next (fun v => qAI (mUp (vX σ) 2 b v)) j0, if_neg c58]
          have Z := ih (j + 1) _ j (by omega) (by omega) (by omega) (xTr hs p40)
          rw [ec, ef] at Z
          exact Z
        · refine g_iload h dX6_possibleMoves_61 rfl ?_
          refine g_goto (tgt := 68) h dX6_possibleMoves_63 (by decide) ?_
          refine g_istore h dX6_possibleMoves_68 (by decide) rfl ?_
          refine g_iinc h dX6_possibleMoves_70 rfl (by decide) rfl ?_
          refine g_goto (tgt := 25) h dX6_possibleMoves_73 (by decide) ?_
          refine g_lv (lv' := [(0, .ref (ad 1)), (1, .ref (ad 11)), (2, mI b), (3, mI w), (4, .ref (ad (5 + b))), (5, mI (σ (5 + b) 1)), (6, mI ((cntN (fun v => qAI (mUp (vX σ) 2 b v)) j.toNat) + 1)), (7, mI j), (8, mI (j + 1))]) rfl ?_
          have ec : cntN (fun v => qAI (mUp (vX σ) 2 b v)) (j + 1).toNat = ((cntN (fun v => qAI (mUp (vX σ) 2 b v)) j.toNat) + 1) := (show cntN (fun v => qAI (mUp (vX σ) 2 b v)) (j + 1).toNat = (cntN (fun v => qAI (mUp (vX σ) 2 b v)) j.toNat) + 1 by rw [← cnt_next (fun v => qAI (mUp (vX σ) 2 b v)) j0]; show _ + bl (qAI (mUp (vX σ) 2 b j) = true) = _; rw [← bl1 c48])
          have ef : fsM (fun v => qAI (mUp (vX σ) 2 b v)) (j + 1) = j := by rw [fsM_next (fun v => qAI (mUp (vX σ) 2 b v)) j0, if_pos c58]; exact if_pos c48
          have Z := ih (j + 1) _ j (by omega) (by omega) (by omega) (xTr hs p40)
          rw [ec, ef] at Z
          exact Z
set_option maxRecDepth 100000 in
set_option maxHeartbeats 2000000 in
theorem c_X6_possibleMoves {l : Launch} {D : va_G} {cs : mC} {ad : Int → Nat} (σ : mS) (b w : Int) (hW : qW (vX σ)) (hn : 0 < σ 1 2) (b0 : 0 ≤ b) (b1 : b < 6) (hw : w = 0 ∨ w = 1) : CI l (gX D cs ad) M_X6_possibleMoves 12 [.ref (ad 1), .ref (ad 11), mI b, mI w] σ (fun z s => z = (if w = 0 then cntN (fun v => qAI (mUp (vX σ) 2 b v)) 100 else fsM (fun v => qAI (mUp (vX σ) 2 b v)) 100) ∧ xSc σ s) := by
  refine CI.of (by decide) (Nat.le_of_ble_eq_true rfl) (fun x h hq => ?_)
  show mG x 0 [(0, .ref (ad 1)), (1, .ref (ad 11)), (2, mI b), (3, mI w)] [] σ
  refine g_aload_n h dX6_possibleMoves_0 rfl ?_
  refine gxC_bills h dX6_possibleMoves_1 lf_RX6_41 ?_
  refine g_iload_n h dX6_possibleMoves_4 rfl ?_
  refine lx_bills h dX6_possibleMoves_5 (by omega) (by omega) ?_
  refine g_astore h dX6_possibleMoves_6 (by decide) rfl ?_
  refine g_aload h dX6_possibleMoves_8 rfl ?_
  refine gxB_day h (by omega) (by omega) dX6_possibleMoves_10 lf_RX6_45 ?_
  refine g_istore h dX6_possibleMoves_13 (by decide) rfl ?_
  refine g_iconst h dX6_possibleMoves_15 rfl ?_
  refine g_istore h dX6_possibleMoves_16 (by decide) rfl ?_
  refine g_bipush h dX6_possibleMoves_18 (by decide) ?_
  refine g_istore h dX6_possibleMoves_20 (by decide) rfl ?_
  refine g_iconst h dX6_possibleMoves_22 rfl ?_
  refine g_istore h dX6_possibleMoves_23 (by decide) rfl ?_
  exact lp_X6_possibleMoves h hq hW hn b0 b1 hw (fun t ht => ⟨rfl, ht⟩) 101 0 σ (σ (5 + b) 1) (by omega) (by omega) (by omega) (xSc.id σ (5 + b) 1)
set_option maxRecDepth 100000 in
set_option maxHeartbeats 2000000 in
theorem lp_X6_firstMove {x : mX} {l : Launch} {D : va_G} {cs : mC} {ad : Int → Nat} {post : Int → mS → Prop} (h : mOk x l M_X6_firstMove 12 (gX D cs ad)) (hq : rI x (gX D cs ad) post) {σ : mS} {b d : Int} (hW : qW (vX σ)) (hn : 0 < σ 1 2) (b0 : 0 ≤ b) (b1 : b < σ 1 2) (d0 : 0 ≤ d) (d1 : d ≤ 109) (hp : ∀ t : mS, xSc σ t → post (fsM (fun v => qFI (mUp (vX σ) 2 b v) b d) 100) t) : ∀ (g : Nat) (j : Int) (s : mS) (v0 : Int), 0 ≤ j → j ≤ 100 → 100 - j < g → xSc (mUp σ (5 + b) 1 v0) s → mG x 20 [(0, .ref (ad 1)), (1, mI b), (2, mI d), (3, .ref (ad (5 + b))), (4, mI (σ (5 + b) 1)), (5, mI (fsM (fun v => qFI (mUp (vX σ) 2 b v) b d) j)), (6, mI j)] [] s := by
  have h6 : σ 1 2 ≤ 6 := hW.1.2.1
  intro g
  induction g with
  | zero => intro j s v0 a b c; omega
  | succ g ih =>
    intro j s v0 j0 j1 hg hs
    have hfr := fsM_rng (fun v => qFI (mUp (vX σ) 2 b v) b d) j0
    refine g_iload h dX6_firstMove_20 rfl ?_
    refine g_bipush h dX6_firstMove_22 (by decide) ?_
    refine g_icmp_gt (tgt := 68) h dX6_firstMove_24 (by decide) ⟨by omega, by omega⟩ ⟨by omega, by omega⟩ (fun c24 => ?_) (fun c24 => ?_)
    · refine g_aload_n h dX6_firstMove_68 rfl ?_
      refine g_iload h dX6_firstMove_69 rfl ?_
      refine pxB_day h (by omega) (by omega) dX6_firstMove_71 lf_RX6_45 ?_
      refine g_iload h dX6_firstMove_74 rfl ?_
      refine g_iret h hq rfl dX6_firstMove_76 (by rw [show j = 100 by omega]; exact hp _ hs.back)
    · refine g_iload h dX6_firstMove_27 rfl ?_
      refine g_bipush h dX6_firstMove_29 (by decide) ?_
      refine g_icmp_ne (tgt := 68) h dX6_firstMove_31 (by decide) ⟨by omega, by omega⟩ ⟨by omega, by omega⟩ (fun c31 => ?_) (fun c31 => ?_)
      · refine g_aload_n h dX6_firstMove_68 rfl ?_
        refine g_iload h dX6_firstMove_69 rfl ?_
        refine pxB_day h (by omega) (by omega) dX6_firstMove_71 lf_RX6_45 ?_
        refine g_iload h dX6_firstMove_74 rfl ?_
        refine g_iret h hq rfl dX6_firstMove_76 (by
          have e := fsM_stay (fun v => qFI (mUp (vX σ) 2 b v) b d) j0 c31 (100 - j).toNat
          rw [show j + ((100 - j).toNat : Int) = 100 by omega] at e
          rw [← e]; exact hp _ hs.back)
      · have eVj := xTr_v hs (v := j) (vX_up_b σ j (by omega) (by omega) b0 (by omega))
        rw [show (1 : Int) + 1 = 2 by omega] at eVj
        have hWj : qW (vX (mUp s (5 + b) 1 j)) := by rw [eVj]; exact qW_day hW j0 (by omega)
        refine g_aload_n h dX6_firstMove_34 rfl ?_
        refine g_iload h dX6_firstMove_35 rfl ?_
        refine pxB_day h (by omega) (by omega) dX6_firstMove_37 lf_RX6_45 ?_
        refine g_aload_n h dX6_firstMove_40 rfl ?_
        refine g_vV h (c_X1_settle _ hWj.1 hWj.2.1 (by rw [xTr_12 hs (by omega)]; exact hn)) (by decide) lm_RX6_51 (rvC rfl) dX6_firstMove_41 rfl (Nat.le_of_ble_eq_true rfl) (fun s41 p41 => ?_)
        refine g_aload_n h dX6_firstMove_44 rfl ?_
        refine g_iload_n h dX6_firstMove_45 rfl ?_
        refine g_iload_n h dX6_firstMove_46 rfl ?_
        refine g_vI h (c_X1_isInForce _ _ _ _ (p41.wf hWj).1 p41.2.1 b0 (by rw [p41.1 1 2 (by omega) (by omega), xTr_12 hs (by omega)]; exact b1) d0 d1) (by decide) lm_RX6_37 (rvC rfl) dX6_firstMove_47 rfl (Nat.le_of_ble_eq_true rfl) (fun z47 s47 p47 => ?_)
        obtain ⟨e47, r47⟩ := p47; subst e47; replace r47 := Eq.symm r47; subst r47
        rw [p41.F, eVj]
        refine g_ifb_eq (tgt := 58) h dX6_firstMove_50 (by decide)  (fun c50 => ?_) (fun c50 => ?_)
        · refine g_bipush h dX6_firstMove_58 (by decide) ?_
          refine g_istore h dX6_firstMove_60 (by decide) rfl ?_
          refine g_iinc h dX6_firstMove_62 rfl (by decide) rfl ?_
          refine g_goto (tgt := 20) h dX6_firstMove_65 (by decide) ?_
          refine g_lv (lv' := [(0, .ref (ad 1)), (1, mI b), (2, mI d), (3, .ref (ad (5 + b))), (4, mI (σ (5 + b) 1)), (5, mI (-9)), (6, mI (j + 1))]) rfl ?_
          have ef : fsM (fun v => qFI (mUp (vX σ) 2 b v) b d) (j + 1) = (-9) := by rw [fsM_next (fun v => qFI (mUp (vX σ) 2 b v) b d) j0, if_pos (by omega)]; exact if_neg c50
          have Z := ih (j + 1) _ j (by omega) (by omega) (by omega) (xTr hs p41)
          rw [ef] at Z
          exact Z
        · refine g_iload h dX6_firstMove_53 rfl ?_
          refine g_goto (tgt := 60) h dX6_firstMove_55 (by decide) ?_
          refine g_istore h dX6_firstMove_60 (by decide) rfl ?_
          refine g_iinc h dX6_firstMove_62 rfl (by decide) rfl ?_
          refine g_goto (tgt := 20) h dX6_firstMove_65 (by decide) ?_
          refine g_lv (lv' := [(0, .ref (ad 1)), (1, mI b), (2, mI d), (3, .ref (ad (5 + b))), (4, mI (σ (5 + b) 1)), (5, mI j), (6, mI (j + 1))]) rfl ?_
          have ef : fsM (fun v => qFI (mUp (vX σ) 2 b v) b d) (j + 1) = j := by rw [fsM_next (fun v => qFI (mUp (vX σ) 2 b v) b d) j0, if_pos (by omega)]; exact if_pos c50
          have Z := ih (j + 1) _ j (by omega) (by omega) (by omega) (xTr hs p41)
          rw [ef] at Z
          exact Z
set_option maxRecDepth 100000 in
set_option maxHeartbeats 2000000 in
theorem c_X6_firstMove {l : Launch} {D : va_G} {cs : mC} {ad : Int → Nat} (σ : mS) (b d : Int) (hW : qW (vX σ)) (hn : 0 < σ 1 2) (b0 : 0 ≤ b) (b1 : b < σ 1 2) (d0 : 0 ≤ d) (d1 : d ≤ 109) : CI l (gX D cs ad) M_X6_firstMove 12 [.ref (ad 1), mI b, mI d] σ (fun z s => z = fsM (fun v => qFI (mUp (vX σ) 2 b v) b d) 100 ∧ xSc σ s) := by
  refine CI.of (by decide) (Nat.le_of_ble_eq_true rfl) (fun x h hq => ?_)
  show mG x 0 [(0, .ref (ad 1)), (1, mI b), (2, mI d)] [] σ
  have h6 : σ 1 2 ≤ 6 := hW.1.2.1
  refine g_aload_n h dX6_firstMove_0 rfl ?_
  refine gxC_bills h dX6_firstMove_1 lf_RX6_41 ?_
  refine g_iload_n h dX6_firstMove_4 rfl ?_
  refine lx_bills h dX6_firstMove_5 (by omega) (by omega) ?_
  refine g_astore_n h dX6_firstMove_6 (by decide) rfl ?_
  refine g_aload_n h dX6_firstMove_7 rfl ?_
  refine gxB_day h (by omega) (by omega) dX6_firstMove_8 lf_RX6_45 ?_
  refine g_istore h dX6_firstMove_11 (by decide) rfl ?_
  refine g_bipush h dX6_firstMove_13 (by decide) ?_
  refine g_istore h dX6_firstMove_15 (by decide) rfl ?_
  refine g_iconst h dX6_firstMove_17 rfl ?_
  refine g_istore h dX6_firstMove_18 (by decide) rfl ?_
  exact lp_X6_firstMove h hq hW hn b0 b1 d0 d1 (fun t ht => ⟨rfl, ht⟩) 101 0 σ (σ (5 + b) 1) (by omega) (by omega) (by omega) (xSc.id σ (5 + b) 1)
theorem lgM_rng {f : Int → Int} (hf : ∀ v : Int, 0 ≤ f v ∧ f v ≤ 110) : ∀ n : Nat, -1 ≤ lgM f n ∧ lgM f n ≤ 110
  | 0 => by simp [lgM]
  | n + 1 => by
    have := lgM_rng hf n
    have := hf (n : Int)
    unfold lgM
    split <;> omega
theorem qHd_r9 (τ : mS) (b v : Int) : 0 ≤ qHd τ b v ∧ qHd τ b v ≤ 110 := by
  unfold qHd
  exact cntN_le _ 110
set_option maxRecDepth 100000 in
set_option maxHeartbeats 2000000 in
theorem lp_X6_longestMove {x : mX} {l : Launch} {D : va_G} {cs : mC} {ad : Int → Nat} {post : Int → mS → Prop} (h : mOk x l M_X6_longestMove 12 (gX D cs ad)) (hq : rI x (gX D cs ad) post) {σ : mS} {b w : Int} (hW : qW (vX σ)) (hn : 0 < σ 1 2) (b0 : 0 ≤ b) (b1 : b < σ 1 2) (hw : w = 0 ∨ w = 1) (hp : ∀ t : mS, xSc σ t → post (if w = 0 then lgD (qHd (vX σ) b) 100 else lgM (qHd (vX σ) b) 100) t) : ∀ (g : Nat) (j : Int) (s : mS) (v0 : Int), 0 ≤ j → j ≤ 100 → 100 - j < g → xSc (mUp σ (5 + b) 1 v0) s → mG x 22 [(0, .ref (ad 1)), (1, mI b), (2, mI w), (3, .ref (ad (5 + b))), (4, mI (σ (5 + b) 1)), (5, mI (lgM (qHd (vX σ) b) j.toNat)), (6, mI (lgD (qHd (vX σ) b) j.toNat)), (7, mI j)] [] s := by
  have h6 : σ 1 2 ≤ 6 := hW.1.2.1
  intro g
  induction g with
  | zero => intro j s v0 a b c; omega
  | succ g ih =>
    intro j s v0 j0 j1 hg hs
    have hmr := lgM_rng (qHd_r9 (vX σ) b) j.toNat
    have hdr := qHd_r9 (vX σ) b j
    refine g_iload h dX6_longestMove_22 rfl ?_
    refine g_bipush h dX6_longestMove_24 (by decide) ?_
    refine g_icmp_gt (tgt := 67) h dX6_longestMove_26 (by decide) ⟨by omega, by omega⟩ ⟨by omega, by omega⟩ (fun c26 => ?_) (fun c26 => ?_)
    · have ej : j = 100 := by omega
      subst ej
      refine g_aload_n h dX6_longestMove_67 rfl ?_
      refine g_iload h dX6_longestMove_68 rfl ?_
      refine pxB_day h (by omega) (by omega) dX6_longestMove_70 lf_RX6_45 ?_
      refine g_iload_n h dX6_longestMove_73 rfl ?_
      refine g_if_eq (tgt := 82) h dX6_longestMove_74 (by decide) ⟨by omega, by omega⟩ (fun c74 => ?_) (fun c74 => ?_)
      · refine g_iload h dX6_longestMove_82 rfl ?_
        refine g_iret h hq rfl dX6_longestMove_84 (by have := hp _ hs.back; rw [if_pos c74] at this; exact this)
      · refine g_iload h dX6_longestMove_77 rfl ?_
        refine g_goto (tgt := 84) h dX6_longestMove_79 (by decide) ?_
        refine g_iret h hq rfl dX6_longestMove_84 (by have := hp _ hs.back; rw [if_neg c74] at this; exact this)
    · have eVj := xTr_v hs (v := j) (vX_up_b σ j (by omega) (by omega) b0 (by omega))
      rw [show (1 : Int) + 1 = 2 by omega] at eVj
      have hWj : qW (vX (mUp s (5 + b) 1 j)) := by rw [eVj]; exact qW_day hW j0 (by omega)
      refine g_aload_n h dX6_longestMove_29 rfl ?_
      refine g_iload h dX6_longestMove_30 rfl ?_
      refine pxB_day h (by omega) (by omega) dX6_longestMove_32 lf_RX6_45 ?_
      refine g_aload_n h dX6_longestMove_35 rfl ?_
      refine g_vV h (c_X1_settle _ hWj.1 hWj.2.1 (by rw [xTr_12 hs (by omega)]; exact hn)) (by decide) lm_RX6_51 (rvC rfl) dX6_longestMove_36 rfl (Nat.le_of_ble_eq_true rfl) (fun s36 p36 => ?_)
      refine g_aload_n h dX6_longestMove_39 rfl ?_
      refine g_iload_n h dX6_longestMove_40 rfl ?_
      refine g_vI h (c_X1_daysHeld _ _ _ (p36.wf hWj).1 p36.2.1 b0 (by rw [p36.1 1 2 (by omega) (by omega), xTr_12 hs (by omega)]; exact b1)) (by decide) lm_RX6_54 (rvC rfl) dX6_longestMove_41 rfl (Nat.le_of_ble_eq_true rfl) (fun z41 s41 p41 => ?_)
      obtain ⟨e41, r41⟩ := p41; subst e41; replace r41 := Eq.symm r41; subst r41
      refine g_val (b := qHd (vX σ) b j) (by unfold qHd; refine cntN_cong (fun d _ _ => ?_); rw [p36.F, eVj]; rfl) ?_
      refine g_istore h dX6_longestMove_44 (by decide) rfl ?_
      refine g_iload h dX6_longestMove_46 rfl ?_
      refine g_iload h dX6_longestMove_48 rfl ?_
      refine g_icmp_le (tgt := 61) h dX6_longestMove_50 (by decide) ⟨by omega, by omega⟩ ⟨by omega, by omega⟩ (fun c50 => ?_) (fun c50 => ?_)
      · refine g_iinc h dX6_longestMove_61 rfl (by decide) rfl ?_
        refine g_goto (tgt := 22) h dX6_longestMove_64 (by decide) ?_
        refine g_lv (lv' := [(0, .ref (ad 1)), (1, mI b), (2, mI w), (3, .ref (ad (5 + b))), (4, mI (σ (5 + b) 1)), (5, mI (lgM (qHd (vX σ) b) j.toNat)), (6, mI (lgD (qHd (vX σ) b) j.toNat)), (7, mI (j + 1))]) rfl ?_
        have em : lgM (qHd (vX σ) b) (j + 1).toNat = (lgM (qHd (vX σ) b) j.toNat) := by rw [show (j + 1).toNat = j.toNat + 1 by omega, lgM, Int.toNat_of_nonneg j0]; exact if_neg (by omega)
        have ed : lgD (qHd (vX σ) b) (j + 1).toNat = (lgD (qHd (vX σ) b) j.toNat) := by rw [show (j + 1).toNat = j.toNat + 1 by omega, lgD, Int.toNat_of_nonneg j0]; exact if_neg (by omega)
        have Z := ih (j + 1) _ j (by omega) (by omega) (by omega) (xTr hs p36)
        rw [em, ed] at Z
        exact Z
      · refine g_iload h dX6_longestMove_53 rfl ?_
        refine g_istore h dX6_longestMove_55 (by decide) rfl ?_
        refine g_iload h dX6_longestMove_57 rfl ?_
        refine g_istore h dX6_longestMove_59 (by decide) rfl ?_
        refine g_iinc h dX6_longestMove_61 rfl (by decide) rfl ?_
        refine g_goto (tgt := 22) h dX6_longestMove_64 (by decide) ?_
        refine g_lv (lv' := [(0, .ref (ad 1)), (1, mI b), (2, mI w), (3, .ref (ad (5 + b))), (4, mI (σ (5 + b) 1)), (5, mI (qHd (vX σ) b j)), (6, mI j), (7, mI (j + 1))]) rfl ?_
        have em : lgM (qHd (vX σ) b) (j + 1).toNat = (qHd (vX σ) b j) := by rw [show (j + 1).toNat = j.toNat + 1 by omega, lgM, Int.toNat_of_nonneg j0]; exact if_pos (by omega)
        have ed : lgD (qHd (vX σ) b) (j + 1).toNat = j := by rw [show (j + 1).toNat = j.toNat + 1 by omega, lgD, Int.toNat_of_nonneg j0]; exact if_pos (by omega)
        have Z := ih (j + 1) _ j (by omega) (by omega) (by omega) (xTr hs p36)
        rw [em, ed] at Z
        exact Z
set_option maxRecDepth 100000 in
set_option maxHeartbeats 2000000 in
theorem c_X6_longestMove {l : Launch} {D : va_G} {cs : mC} {ad : Int → Nat} (σ : mS) (b w : Int) (hW : qW (vX σ)) (hn : 0 < σ 1 2) (b0 : 0 ≤ b) (b1 : b < σ 1 2) (hw : w = 0 ∨ w = 1) : CI l (gX D cs ad) M_X6_longestMove 12 [.ref (ad 1), mI b, mI w] σ (fun z s => z = (if w = 0 then lgD (qHd (vX σ) b) 100 else lgM (qHd (vX σ) b) 100) ∧ xSc σ s) := by
  refine CI.of (by decide) (Nat.le_of_ble_eq_true rfl) (fun x h hq => ?_)
  show mG x 0 [(0, .ref (ad 1)), (1, mI b), (2, mI w)] [] σ
  have h6 : σ 1 2 ≤ 6 := hW.1.2.1
  refine g_aload_n h dX6_longestMove_0 rfl ?_
  refine gxC_bills h dX6_longestMove_1 lf_RX6_41 ?_
  refine g_iload_n h dX6_longestMove_4 rfl ?_
  refine lx_bills h dX6_longestMove_5 (by omega) (by omega) ?_
  refine g_astore_n h dX6_longestMove_6 (by decide) rfl ?_
  refine g_aload_n h dX6_longestMove_7 rfl ?_
  refine gxB_day h (by omega) (by omega) dX6_longestMove_8 lf_RX6_45 ?_
  refine g_istore h dX6_longestMove_11 (by decide) rfl ?_
  refine g_iconst h dX6_longestMove_13 rfl ?_
  refine g_istore h dX6_longestMove_14 (by decide) rfl ?_
  refine g_iconst h dX6_longestMove_16 rfl ?_
  refine g_istore h dX6_longestMove_17 (by decide) rfl ?_
  refine g_iconst h dX6_longestMove_19 rfl ?_
  refine g_istore h dX6_longestMove_20 (by decide) rfl ?_
  exact lp_X6_longestMove h hq hW hn b0 b1 hw (fun t ht => ⟨rfl, ht⟩) 101 0 σ (σ (5 + b) 1) (by omega) (by omega) (by omega) (xSc.id σ (5 + b) 1)
theorem sum_add (f g : Int → Int) : ∀ n : Nat, sumN (fun i => f i + g i) n = sumN f n + sumN g n
  | 0 => rfl
  | n + 1 => by
    show sumN (fun i => f i + g i) n + (f (n : Int) + g (n : Int)) = sumN f n + f (n : Int) + (sumN g n + g (n : Int))
    rw [sum_add f g n]; omega
theorem sum_cnt (p : Int → Bool) : ∀ n : Nat, sumN (fun i => if p i then 1 else 0) n = cntN p n
  | 0 => rfl
  | n + 1 => by
    show sumN (fun i => if p i then 1 else 0) n + (if p (n : Int) then 1 else 0) = cntN p n + (if p (n : Int) then 1 else 0)
    rw [sum_cnt p n]
theorem sum_0 : ∀ n : Nat, sumN (fun _ => 0) n = 0
  | 0 => rfl
  | n + 1 => by
    show sumN (fun _ => 0) n + 0 = 0
    rw [sum_0 n]; rfl
theorem sum_exch (g : Int → Int → Bool) (k : Nat) : ∀ n : Nat, sumN (fun a => cntN (fun d => g a d) k) n = sumN (fun d => cntN (fun a => g a d) n) k
  | 0 => (sum_0 k).symm
  | n + 1 => by
    show sumN (fun a => cntN (fun d => g a d) k) n + cntN (fun d => g (n : Int) d) k = sumN (fun d => cntN (fun a => g a d) n + (if g (n : Int) d then 1 else 0)) k
    rw [sum_exch g k n, sum_add, sum_cnt]
theorem cnt_none : ∀ n : Nat, cntN (fun _ => false) n = 0
  | 0 => rfl
  | n + 1 => by
    show cntN (fun _ => false) n + 0 = 0
    rw [cnt_none n]; rfl
theorem oth_is {τ : mS} {st : Int → Bool} {b : Int} : sumN (fun a => if a = b then 0 else cntN (fun d => qF τ st a d) 110) (τ 0 4).toNat = qOh τ st b := by
  unfold qOh
  rw [← sum_exch (fun a d => qF τ st a d && !decide (a = b)) 110]
  refine sumN_cong (fun a _ _ => ?_)
  by_cases e : a = b
  · rw [if_pos e, decide_eq_true e, cntN_cong (q := fun _ => false) (fun d _ _ => by simp), cnt_none]
  · rw [if_neg e, decide_eq_false e]
    exact cntN_cong (fun d _ _ => by simp)
theorem xSt.oth {σ s : mS} {st : Int → Bool} (h : xSc σ s) (b : Int) : sumN (fun a => if a = b then 0 else cntN (fun d => qIn (vX s) (qPf (vX σ) st) 6 a d) 110) (s 1 2).toNat = qOh (vX σ) st b := by
  rw [← oth_is, h.view, h 1 2 (by omega) (by omega)]
  rfl
set_option maxRecDepth 100000 in
set_option maxHeartbeats 2000000 in
theorem c_X6_gainOfOthers {l : Launch} {D : va_G} {cs : mC} {ad : Int → Nat} (σ : mS) (b : Int) (hW : qW (vX σ)) (hn : 0 < σ 1 2) (hb : i32 b) : CI l (gX D cs ad) M_X6_gainOfOthers 12 [.ref (ad 1), mI b] σ (fun z s => z = qOh (vX σ) (qSI (vX σ)) b - qOh (vX σ) (fun a => decide (a = b) || qSI (vX σ) a) b ∧ xSc σ s) := by
  refine CI.of (by decide) (Nat.le_of_ble_eq_true rfl) (fun x h hq => ?_)
  show mG x 0 [(0, .ref (ad 1)), (1, mI b)] [] σ
  have h6 : σ 1 2 ≤ 6 := hW.1.2.1
  refine g_aload_n h dX6_gainOfOthers_0 rfl ?_
  refine g_vV h (c_X1_settle _ hW.1 hW.2.1 hn) (by decide) lm_RX6_51 (rvC rfl) dX6_gainOfOthers_1 rfl (Nat.le_of_ble_eq_true rfl) (fun s1 p1 => ?_)
  have ev := p1.1.view
  have hW3 := p1.wf hW
  have e12 : s1 1 2 = σ 1 2 := p1.1 1 2 (by omega) (by omega)
  refine g_aload_n h dX6_gainOfOthers_4 rfl ?_
  refine g_iload_n h dX6_gainOfOthers_5 rfl ?_
  refine g_vI h (c_X1_daysHeldByOthers _ _ _ hW3.1 p1.2.1 hb) (by decide) lm_RX6_57 (rvC rfl) dX6_gainOfOthers_6 rfl (Nat.le_of_ble_eq_true rfl) (fun z6 s6 p6 => ?_)
  obtain ⟨e6, r6⟩ := p6; subst e6; replace r6 := Eq.symm r6; subst r6
  refine g_val (xSt.oth p1.1 b) ?_
  refine g_istore_n h dX6_gainOfOthers_9 (by decide) rfl ?_
  refine g_aload_n h dX6_gainOfOthers_10 rfl ?_
  refine g_aload_n h dX6_gainOfOthers_11 rfl ?_
  refine gxC_sky h dX6_gainOfOthers_12 lf_RX6_14 ?_
  refine g_vI h (c_X4_cloudedMoons _ hW3.1 hW3.2.1 (by omega)) (by decide) lm_RX6_18 (rvK rfl) dX6_gainOfOthers_15 rfl (Nat.le_of_ble_eq_true rfl) (fun z15 s15 p15 => ?_)
  obtain ⟨e15, r15⟩ := p15; subst e15; replace r15 := Eq.symm r15; subst r15
  refine g_iload_n h dX6_gainOfOthers_18 rfl ?_
  refine g_vV h (c_X1_pass _ _ _ (qWt (vX σ)) (fun a => decide (a = b) || qSI (vX σ) a) hW3.1 (by rw [e12]; exact p1.2.2) hb (fun a a0 a1 => by rw [ev, xSt_st hW.1 a0 (by omega)]; rfl)) (by decide) lm_RX6_33 (rvC rfl) dX6_gainOfOthers_19 rfl (Nat.le_of_ble_eq_true rfl) (fun s19 p19 => ?_)
  rw [ev] at p19
  have sc19 : xSc σ s19 := by rw [p19]; exact p1.1.tr (xSc.up _ _)
  have pp19 : s19 1 4 = setOf 6 (qPf (vX σ) (fun a => decide (a = b) || qSI (vX σ) a)) := by rw [p19, mUp_eq]
  refine g_iload_n h dX6_gainOfOthers_22 rfl ?_
  refine g_aload_n h dX6_gainOfOthers_23 rfl ?_
  refine g_iload_n h dX6_gainOfOthers_24 rfl ?_
  refine g_vI h (c_X1_daysHeldByOthers _ _ _ (sc19.wf hW.1) pp19 hb) (by decide) lm_RX6_57 (rvC rfl) dX6_gainOfOthers_25 rfl (Nat.le_of_ble_eq_true rfl) (fun z25 s25 p25 => ?_)
  obtain ⟨e25, r25⟩ := p25; subst e25; replace r25 := Eq.symm r25; subst r25
  refine g_val (xSt.oth sc19 b) ?_
  refine g_isub h dX6_gainOfOthers_28 ?_
  refine g_iret h hq rfl dX6_gainOfOthers_29 ⟨rfl, sc19⟩
