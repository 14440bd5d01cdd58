def bcI1 (x : Int) : Int := x - iAnd (iUsh x 1) 1431655765
def bcI2 (y : Int) : Int := iAnd y 858993459 + iAnd (iUsh y 2) 858993459
def bcI3 (y : Int) : Int := iAnd (y + iUsh y 4) 252645135
def bcI4 (y : Int) : Int := y + iUsh y 8
def bcI5 (y : Int) : Int := y + iUsh y 16
theorem bcI_tab : ∀ h9, h9 < 64 → ∀ l9, l9 < 32 → iAnd (bcI5 (bcI4 (bcI3 (bcI2 (bcI1 ((32 * h9 + l9 : Nat) : Int)))))) 63 = pcN (32 * h9 + l9) := by decide +kernel
theorem bcI_is {X : Nat} (h : X < 2048) : iAnd (bcI5 (bcI4 (bcI3 (bcI2 (bcI1 (X : Int)))))) 63 = pcN X := by
  have := bcI_tab (X / 32) (by omega) (X % 32) (by omega)
  rwa [show 32 * (X / 32) + X % 32 = X by omega] at this
theorem pcN_rng (X : Nat) : 0 ≤ pcN X ∧ pcN X ≤ 31 := cntN_le _ 31
set_option maxRecDepth 100000 in
set_option maxHeartbeats 2000000 in
theorem c_J6_bitCount_0f7a4 {l : Launch} {D : va_G} {cs : mC} {ad : Int → Nat} (σ : mS) (X : Nat) (h2 : X < 2048) : CI l (gX D cs ad) M_J6_bitCount_0f7a4 0 [mI (X : Int)] σ (fun z s => z = pcN X ∧ s = σ) := by
  refine CI.of (by decide) (Nat.le_of_ble_eq_true rfl) (fun x h hq => ?_)
  show mG x 0 [(0, mI (X : Int))] [] σ
  have hX := bcI_is h2
  refine g_iload_n h dJ6_bitCount_0f7a4_0 rfl ?_
  refine g_iload_n h dJ6_bitCount_0f7a4_1 rfl ?_
  refine g_iconst h dJ6_bitCount_0f7a4_2 rfl ?_
  refine g_iushr h dJ6_bitCount_0f7a4_3 ?_
  refine g_ldcw (v := 1431655765) h dJ6_bitCount_0f7a4_4 lc_RJ6_265 (by decide) ?_
  refine g_iand h dJ6_bitCount_0f7a4_7 ?_
  refine g_isub h dJ6_bitCount_0f7a4_8 ?_
  refine g_val (b := bcI1 (X : Int)) rfl ?_
  generalize bcI1 (X : Int) = Y1 at hX ⊢
  refine g_istore_n h dJ6_bitCount_0f7a4_9 (by decide) rfl ?_
  refine g_iload_n h dJ6_bitCount_0f7a4_10 rfl ?_
  refine g_ldcw (v := 858993459) h dJ6_bitCount_0f7a4_11 lc_RJ6_266 (by decide) ?_
  refine g_iand h dJ6_bitCount_0f7a4_14 ?_
  refine g_iload_n h dJ6_bitCount_0f7a4_15 rfl ?_
  refine g_iconst h dJ6_bitCount_0f7a4_16 rfl ?_
  refine g_iushr h dJ6_bitCount_0f7a4_17 ?_
  refine g_ldcw (v := 858993459) h dJ6_bitCount_0f7a4_18 lc_RJ6_266 (by decide) ?_
  refine g_iand h dJ6_bitCount_0f7a4_21 ?_
  refine g_iadd h dJ6_bitCount_0f7a4_22 ?_
  refine g_val (b := bcI2 Y1) rfl ?_
  generalize bcI2 Y1 = Y2 at hX ⊢
  refine g_istore_n h dJ6_bitCount_0f7a4_23 (by decide) rfl ?_
  refine g_iload_n h dJ6_bitCount_0f7a4_24 rfl ?_
  refine g_iload_n h dJ6_bitCount_0f7a4_25 rfl ?_
  refine g_iconst h dJ6_bitCount_0f7a4_26 rfl ?_
  refine g_iushr h dJ6_bitCount_0f7a4_27 ?_
  refine g_iadd h dJ6_bitCount_0f7a4_28 ?_
  refine g_ldcw (v := 252645135) h dJ6_bitCount_0f7a4_29 lc_RJ6_267 (by decide) ?_
  refine g_iand h dJ6_bitCount_0f7a4_32 ?_
  refine g_val (b := bcI3 Y2) rfl ?_
  generalize bcI3 Y2 = Y3 at hX ⊢
  refine g_istore_n h dJ6_bitCount_0f7a4_33 (by decide) rfl ?_
  refine g_iload_n h dJ6_bitCount_0f7a4_34 rfl ?_
  refine g_iload_n h dJ6_bitCount_0f7a4_35 rfl ?_
  refine g_bipush h dJ6_bitCount_0f7a4_36 (by decide) ?_
  refine g_iushr h dJ6_bitCount_0f7a4_38 ?_
  refine g_iadd h dJ6_bitCount_0f7a4_39 ?_
  refine g_val (b := bcI4 Y3) rfl ?_
  generalize bcI4 Y3 = Y4 at hX ⊢
  refine g_istore_n h dJ6_bitCount_0f7a4_40 (by decide) rfl ?_
  refine g_iload_n h dJ6_bitCount_0f7a4_41 rfl ?_
  refine g_iload_n h dJ6_bitCount_0f7a4_42 rfl ?_
  refine g_bipush h dJ6_bitCount_0f7a4_43 (by decide) ?_
  refine g_iushr h dJ6_bitCount_0f7a4_45 ?_
  refine g_iadd h dJ6_bitCount_0f7a4_46 ?_
  refine g_val (b := bcI5 Y4) rfl ?_
  generalize bcI5 Y4 = Y5 at hX ⊢
  refine g_istore_n h dJ6_bitCount_0f7a4_47 (by decide) rfl ?_
  refine g_iload_n h dJ6_bitCount_0f7a4_48 rfl ?_
  refine g_bipush h dJ6_bitCount_0f7a4_49 (by decide) ?_
  refine g_iand h dJ6_bitCount_0f7a4_51 ?_
  refine g_iret h hq rfl dJ6_bitCount_0f7a4_52 ⟨hX, rfl⟩
/-- who watches is laid -/
def xMo (σ s : mS) : Prop := xSc σ s ∧ ∀ b : Int, 0 ≤ b → b < σ 1 2 → s (5 + b) 5 = setOf 11 (qWt (vX σ) b)
theorem xMo.up {σ s : mS} (h : xMo σ s) (v : Int) : xMo σ (mUp s 1 4 v) := ⟨h.1.tr (xSc.up _ _), fun b b0 b1 => by rw [mUp_ne _ _ (by omega)]; exact h.2 b b0 b1⟩
theorem sub_zero {O : Int → Bool} {S : Nat} (hS : S < 2048) : iAnd (S : Int) (iXor (setOf 11 O) (-1)) = 0 ↔ qSub O S = true := by
  rw [nat_set (n := 11) hS, iDif_set (by omega), set_zero]
  unfold qSub
  rw [Bool.not_eq_true', anyN_no]
theorem sub_rng (O : Int → Bool) {S : Nat} (hS : S < 2048) : i32 (iAnd (S : Int) (iXor (setOf 11 O) (-1))) := by
  rw [nat_set (n := 11) hS, iDif_set (by omega)]
  exact setOf_32 (by omega) _
theorem clo_or (A : Int → Bool) {S : Nat} (hS : S < 2048) : iOr (setOf 11 A) (S : Int) = setOf 11 (fun i => A i || S.testBit i.toNat) := by
  rw [nat_set (n := 11) hS, iOr_set (by omega)]
theorem clo_st {τ : mS} (hw : qWf τ) {b : Int} (b0 : 0 ≤ b) (b1 : b < 6) (S : Nat) : anyN (fun m => qWt τ b m && !((decide (qMd τ m ≤ 109) && qCl τ m) || S.testBit m.toNat)) 11 = qSt τ (fun m => S.testBit m.toNat || qCl τ m) b := by
  unfold qSt
  refine anyN_cong (fun m m0 m1 => ?_)
  cases e : qWt τ b m with
  | false => rfl
  | true =>
    rw [decide_eq_true (show qMd τ m ≤ 109 by have := qWt_in hw b0 b1 e; omega)]
    show (true && !((true && qCl τ m) || S.testBit m.toNat)) = (true && !(S.testBit m.toNat || qCl τ m))
    rw [Bool.true_and, Bool.true_and, Bool.true_and, Bool.or_comm]
set_option maxRecDepth 100000 in
set_option maxHeartbeats 2000000 in
theorem lp_X6_fewestClouds {x : mX} {l : Launch} {D : va_G} {cs : mC} {ad : Int → Nat} {post : Int → mS → Prop} (h : mOk x l M_X6_fewestClouds 11 (gX D cs ad)) (hq : rI x (gX D cs ad) post) {σ : mS} {b d : Int} (hW : qW (vX σ)) (hn : 0 < σ 1 2) (b0 : 0 ≤ b) (b1 : b < σ 1 2) (d0 : 0 ≤ d) (d1 : d ≤ 109) (hp : ∀ t : mS, xSc σ t → post (byF (qBo (vX σ) b d) (setN (qOpn (vX σ)) 11 + 1)) t) : ∀ (g : Nat) (S : Nat) (s : mS), S ≤ setN (qOpn (vX σ)) 11 + 1 → setN (qOpn (vX σ)) 11 + 1 - S < g → xMo σ s → mG x 29 [(0, .ref (ad 1)), (1, mI b), (2, mI d), (3, mI (setOf 11 (fun i => decide (qMd (vX σ) i ≤ 109) && qCl (vX σ) i))), (4, mI (setOf 11 (qOpn (vX σ)))), (5, mI (byF (qBo (vX σ) b d) S)), (6, mI (S : Int))] [] s := by
  have h6 : σ 1 2 ≤ 6 := hW.1.2.1
  have hO : setN (qOpn (vX σ)) 11 < 2048 := setN_lt _ 11
  have eO : (setOf 11 (qOpn (vX σ))) = ((setN (qOpn (vX σ)) 11 : Nat) : Int) := rfl
  intro g
  induction g with
  | zero => intro S s a b; omega
  | succ g ih =>
    intro S s hS hg hs
    have e12 : s 1 2 = σ 1 2 := hs.1 1 2 (by omega) (by omega)
    have hbr := byF_rng (qBo (vX σ) b d) S
    have J61 : ∀ v7 : Int, v7 = bl (byF (qBo (vX σ) b d) S = -9 ∨ pcN S < pcN (byF (qBo (vX σ) b d) S).toNat) → S ≤ setN (qOpn (vX σ)) 11 → mG x 61 [(0, .ref (ad 1)), (1, mI b), (2, mI d), (3, mI (setOf 11 (fun i => decide (qMd (vX σ) i ≤ 109) && qCl (vX σ) i))), (4, mI (setOf 11 (qOpn (vX σ)))), (5, mI (byF (qBo (vX σ) b d) S)), (6, mI (S : Int))] [mI v7] s := by
      intro v7 h7 hSle
      subst h7
      refine g_istore h dX6_fewestClouds_61 (by decide) rfl ?_
      refine g_iload h dX6_fewestClouds_63 rfl ?_
      refine g_iload h dX6_fewestClouds_65 rfl ?_
      refine g_iconst h dX6_fewestClouds_67 rfl ?_
      refine g_ixor h dX6_fewestClouds_68 ?_
      refine g_iand h dX6_fewestClouds_69 ?_
      refine g_if_ne (tgt := 106) h dX6_fewestClouds_70 (by decide) (sub_rng _ (by omega)) (fun c70 => ?_) (fun c70 => ?_)
      · refine g_iinc h dX6_fewestClouds_106 rfl (by decide) rfl ?_
        refine g_goto (tgt := 29) h dX6_fewestClouds_109 (by decide) ?_
        refine g_lv (lv' := [(0, .ref (ad 1)), (1, mI b), (2, mI d), (3, mI (setOf 11 (fun i => decide (qMd (vX σ) i ≤ 109) && qCl (vX σ) i))), (4, mI (setOf 11 (qOpn (vX σ)))), (5, mI (byF (qBo (vX σ) b d) S)), (6, mI ((S : Int) + 1))]) rfl ?_
        have eb : byF (qBo (vX σ) b d) (S + 1) = (byF (qBo (vX σ) b d) S) := by rw [byF]; exact if_neg (fun z => by have z1 := z.1; unfold qBo at z1; rw [Bool.and_eq_true] at z1; exact c70 ((sub_zero (by omega)).mpr z1.1))
        have Z := ih (S + 1) s (by omega) (by omega) hs
        rw [eb, show ((S + 1 : Nat) : Int) = (S : Int) + 1 by omega] at Z
        exact Z
      · refine g_iload h dX6_fewestClouds_73 rfl ?_
        refine g_ifb_eq (tgt := 106) h dX6_fewestClouds_75 (by decide)  (fun c75 => ?_) (fun c75 => ?_)
        · refine g_iinc h dX6_fewestClouds_106 rfl (by decide) rfl ?_
          refine g_goto (tgt := 29) h dX6_fewestClouds_109 (by decide) ?_
          refine g_lv (lv' := [(0, .ref (ad 1)), (1, mI b), (2, mI d), (3, mI (setOf 11 (fun i => decide (qMd (vX σ) i ≤ 109) && qCl (vX σ) i))), (4, mI (setOf 11 (qOpn (vX σ)))), (5, mI (byF (qBo (vX σ) b d) S)), (6, mI ((S : Int) + 1))]) rfl ?_
          have eb : byF (qBo (vX σ) b d) (S + 1) = (byF (qBo (vX σ) b d) S) := by rw [byF]; exact if_neg (fun z => c75 z.2)
          have Z := ih (S + 1) s (by omega) (by omega) hs
          rw [eb, show ((S + 1 : Nat) : Int) = (S : Int) + 1 by omega] at Z
          exact Z
        · refine g_aload_n h dX6_fewestClouds_78 rfl ?_
          refine g_iload_n h dX6_fewestClouds_79 rfl ?_
          refine g_iload h dX6_fewestClouds_80 rfl ?_
          refine g_ior h dX6_fewestClouds_82 ?_
          refine g_val (b := setOf 11 (fun i => (decide (qMd (vX σ) i ≤ 109) && qCl (vX σ) i) || S.testBit i.toNat)) (clo_or _ (by omega)) ?_
          refine g_bipush h dX6_fewestClouds_83 (by decide) ?_
          refine g_vV h (c_X1_pass _ _ _ (qWt (vX σ)) (qSt (vX σ) (fun m => S.testBit m.toNat || qCl (vX σ) m)) (hs.1.wf hW.1) (by rw [e12]; exact hs.2) ⟨by omega, by omega⟩ (fun a a0 a1 => by rw [decide_eq_false (by omega), Bool.false_or, clo_st hW.1 a0 (by omega)])) (by decide) lm_RX6_33 (rvC rfl) dX6_fewestClouds_85 rfl (Nat.le_of_ble_eq_true rfl) (fun s85 p85 => ?_)
          rw [hs.1.view] at p85
          subst p85
          have sc85 := hs.up (setOf 6 (qPf (vX σ) (qSt (vX σ) (fun m => S.testBit m.toNat || qCl (vX σ) m))))
          refine g_aload_n h dX6_fewestClouds_88 rfl ?_
          refine g_iload_n h dX6_fewestClouds_89 rfl ?_
          refine g_iload_n h dX6_fewestClouds_90 rfl ?_
          refine g_vI h (c_X1_isInForce _ _ _ _ (sc85.1.wf hW.1) (mUp_eq _ _ _ _) b0 (by rw [mUp_ne _ _ (by omega), e12]; exact b1) d0 d1) (by decide) lm_RX6_37 (rvC rfl) dX6_fewestClouds_91 rfl (Nat.le_of_ble_eq_true rfl) (fun z91 s91 p91 => ?_)
          obtain ⟨e91, r91⟩ := p91; subst e91; replace r91 := Eq.symm r91; subst r91
          rw [sc85.1.view]
          refine g_ifb_eq (tgt := 102) h dX6_fewestClouds_94 (by decide)  (fun c94 => ?_) (fun c94 => ?_)
          · refine g_iload h dX6_fewestClouds_102 rfl ?_
            refine g_istore h dX6_fewestClouds_104 (by decide) rfl ?_
            refine g_iinc h dX6_fewestClouds_106 rfl (by decide) rfl ?_
            refine g_goto (tgt := 29) h dX6_fewestClouds_109 (by decide) ?_
            refine g_lv (lv' := [(0, .ref (ad 1)), (1, mI b), (2, mI d), (3, mI (setOf 11 (fun i => decide (qMd (vX σ) i ≤ 109) && qCl (vX σ) i))), (4, mI (setOf 11 (qOpn (vX σ)))), (5, mI (byF (qBo (vX σ) b d) S)), (6, mI ((S : Int) + 1))]) rfl ?_
            have eb : byF (qBo (vX σ) b d) (S + 1) = (byF (qBo (vX σ) b d) S) := by rw [byF]; exact if_neg (fun z => by have z1 := z.1; unfold qBo at z1; rw [Bool.and_eq_true] at z1; exact c94 z1.2)
            have Z := ih (S + 1) _ (by omega) (by omega) sc85
            rw [eb, show ((S + 1 : Nat) : Int) = (S : Int) + 1 by omega] at Z
            exact Z
          · refine g_iload h dX6_fewestClouds_97 rfl ?_
            refine g_goto (tgt := 104) h dX6_fewestClouds_99 (by decide) ?_
            refine g_istore h dX6_fewestClouds_104 (by decide) rfl ?_
            refine g_iinc h dX6_fewestClouds_106 rfl (by decide) rfl ?_
            refine g_goto (tgt := 29) h dX6_fewestClouds_109 (by decide) ?_
            refine g_lv (lv' := [(0, .ref (ad 1)), (1, mI b), (2, mI d), (3, mI (setOf 11 (fun i => decide (qMd (vX σ) i ≤ 109) && qCl (vX σ) i))), (4, mI (setOf 11 (qOpn (vX σ)))), (5, mI (S : Int)), (6, mI ((S : Int) + 1))]) rfl ?_
            have eb : byF (qBo (vX σ) b d) (S + 1) = (S : Int) := by rw [byF]; exact if_pos ⟨by unfold qBo; rw [(sub_zero (by omega)).mp c70, Bool.true_and]; exact c94, c75⟩
            have Z := ih (S + 1) _ (by omega) (by omega) sc85
            rw [eb, show ((S + 1 : Nat) : Int) = (S : Int) + 1 by omega] at Z
            exact Z
    refine g_iload h dX6_fewestClouds_29 rfl ?_
    refine g_iload h dX6_fewestClouds_31 rfl ?_
    refine g_icmp_gt (tgt := 112) h dX6_fewestClouds_33 (by decide) ⟨by omega, by omega⟩ (setOf_32 (by omega) _) (fun c33 => ?_) (fun c33 => ?_)
    · refine g_iload h dX6_fewestClouds_112 rfl ?_
      refine g_iret h hq rfl dX6_fewestClouds_114 (by rw [show S = setN (qOpn (vX σ)) 11 + 1 by omega]; exact hp _ hs.1)
    · refine g_iload h dX6_fewestClouds_36 rfl ?_
      refine g_bipush h dX6_fewestClouds_38 (by decide) ?_
      refine g_icmp_eq (tgt := 56) h dX6_fewestClouds_40 (by decide) ⟨by omega, by omega⟩ ⟨by omega, by omega⟩ (fun c40 => ?_) (fun c40 => ?_)
      · refine g_iconst h dX6_fewestClouds_56 rfl ?_
        refine g_goto (tgt := 61) h dX6_fewestClouds_57 (by decide) ?_
        exact J61 1 (bl1 (Or.inl c40)) (by omega)
      · refine g_iload h dX6_fewestClouds_43 rfl ?_
        refine g_sI h (c_J6_bitCount_0f7a4 _ S (by omega)) (by decide) lm_RX6_27 dX6_fewestClouds_45 rfl (Nat.le_of_ble_eq_true rfl) (fun z45 s45 p45 => ?_)
        obtain ⟨e45, r45⟩ := p45; subst e45; replace r45 := Eq.symm r45; subst r45
        refine g_iload h dX6_fewestClouds_48 rfl ?_
        refine g_val (b := (((byF (qBo (vX σ) b d) S).toNat : Nat) : Int)) (by omega) ?_
        refine g_sI h (c_J6_bitCount_0f7a4 _ (byF (qBo (vX σ) b d) S).toNat (by omega)) (by decide) lm_RX6_27 dX6_fewestClouds_50 rfl (Nat.le_of_ble_eq_true rfl) (fun z50 s50 p50 => ?_)
        obtain ⟨e50, r50⟩ := p50; subst e50; replace r50 := Eq.symm r50; subst r50
        refine g_icmp_ge (tgt := 60) h dX6_fewestClouds_53 (by decide) (by have := pcN_rng S; exact ⟨by omega, by omega⟩) (by have := pcN_rng (byF (qBo (vX σ) b d) S).toNat; exact ⟨by omega, by omega⟩) (fun c53 => ?_) (fun c53 => ?_)
        · refine g_iconst h dX6_fewestClouds_60 rfl ?_
          exact J61 0 (bl0 (by omega)) (by omega)
        · refine g_iconst h dX6_fewestClouds_56 rfl ?_
          refine g_goto (tgt := 61) h dX6_fewestClouds_57 (by decide) ?_
          exact J61 1 (bl1 (Or.inr (by omega))) (by omega)
set_option maxRecDepth 100000 in
set_option maxHeartbeats 2000000 in
theorem c_X6_fewestClouds {l : Launch} {D : va_G} {cs : mC} {ad : Int → Nat} (σ : mS) (b d : Int) (hW : qW (vX σ)) (hn : 0 < σ 1 2) (b0 : 0 ≤ b) (b1 : b < σ 1 2) (d0 : 0 ≤ d) (d1 : d ≤ 109) : CI l (gX D cs ad) M_X6_fewestClouds 11 [.ref (ad 1), mI b, mI d] σ (fun z s => z = qBy (vX σ) b d ∧ xSc σ s) := by
  refine CI.of (by decide) (Nat.le_of_ble_eq_true rfl) (fun x h hq => ?_)
  show mG x 0 [(0, .ref (ad 1)), (1, mI b), (2, mI d)] [] σ
  refine g_aload_n h dX6_fewestClouds_0 rfl ?_
  refine g_vV h (c_X1_watchAll _ hW.1) (by decide) lm_RX6_9 (rvC rfl) dX6_fewestClouds_1 rfl (Nat.le_of_ble_eq_true rfl) (fun s1 p1 => ?_)
  obtain ⟨w1, w2, w3⟩ := p1
  have e12 : s1 1 2 = σ 1 2 := w1 1 2 (by omega) (by omega)
  have h6 : σ 1 2 ≤ 6 := hW.1.2.1
  refine g_aload_n h dX6_fewestClouds_4 rfl ?_
  refine gxC_sky h dX6_fewestClouds_5 lf_RX6_14 ?_
  refine g_vI h (c_X4_cloudedMoons _ (w1.wf hW.1) (by rw [w1.view]; exact hW.2.1) (by omega)) (by decide) lm_RX6_18 (rvK rfl) dX6_fewestClouds_8 rfl (Nat.le_of_ble_eq_true rfl) (fun z8 s8 p8 => ?_)
  obtain ⟨e8, r8⟩ := p8; subst e8; replace r8 := Eq.symm r8; subst r8
  rw [w1.view]
  refine g_istore_n h dX6_fewestClouds_11 (by decide) rfl ?_
  refine g_aload_n h dX6_fewestClouds_12 rfl ?_
  refine g_vI h (c_X1_allMoons _ (qWt (vX σ)) (by rw [e12]; exact hW.1.1) (by omega) (by rw [e12]; exact w3)) (by decide) lm_RX6_24 (rvC rfl) dX6_fewestClouds_13 rfl (Nat.le_of_ble_eq_true rfl) (fun z13 s13 p13 => ?_)
  obtain ⟨e13, r13⟩ := p13; subst e13; replace r13 := Eq.symm r13; subst r13
  refine g_iload_n h dX6_fewestClouds_16 rfl ?_
  refine g_iconst h dX6_fewestClouds_17 rfl ?_
  refine g_ixor h dX6_fewestClouds_18 ?_
  refine g_iand h dX6_fewestClouds_19 ?_
  refine g_val (b := (setOf 11 (qOpn (vX σ)))) (by rw [iDif_set (by omega), e12]; rfl) ?_
  refine g_istore h dX6_fewestClouds_20 (by decide) rfl ?_
  refine g_bipush h dX6_fewestClouds_22 (by decide) ?_
  refine g_istore h dX6_fewestClouds_24 (by decide) rfl ?_
  refine g_iconst h dX6_fewestClouds_26 rfl ?_
  refine g_istore h dX6_fewestClouds_27 (by decide) rfl ?_
  have Z := lp_X6_fewestClouds h hq hW hn b0 b1 d0 d1 (fun t ht => ⟨buy_is hW.1 hn b d, ht⟩) (setN (qOpn (vX σ)) 11 + 2) 0 _ (by omega) (by omega) ⟨w1, w3⟩
  exact Z
theorem cl0_st {τ : mS} {b : Int} (S : Nat) : anyN (fun m => qWt τ b m && !S.testBit m.toNat) 11 = qSt τ (fun m => S.testBit m.toNat) b := rfl
set_option maxRecDepth 100000 in
set_option maxHeartbeats 2000000 in
theorem lp_X6_shareOfClouds {x : mX} {l : Launch} {D : va_G} {cs : mC} {ad : Int → Nat} {post : Int → mS → Prop} (h : mOk x l M_X6_shareOfClouds 11 (gX D cs ad)) (hq : rL x (gX D cs ad) post) {σ : mS} {b d w : Int} (hW : qW (vX σ)) (hn : 0 < σ 1 2) (b0 : 0 ≤ b) (b1 : b < σ 1 2) (d0 : 0 ≤ d) (d1 : d ≤ 109) (kk : ∀ (t : mS) (S : Int), xSc σ t → mG x 72 [(0, .ref (ad 1)), (1, mI b), (2, mI d), (3, mI w), (4, mI (setOf 11 (qWn (vX σ)))), (5, mI (cntS (fun S => qSub (qWn (vX σ)) S && qOg (vX σ) b d S) (setN (qWn (vX σ)) 11 + 1))), (6, mI (cntS (qSub (qWn (vX σ))) (setN (qWn (vX σ)) 11 + 1))), (7, mI S)] [] t) : ∀ (g : Nat) (S : Nat) (s : mS), S ≤ setN (qWn (vX σ)) 11 + 1 → setN (qWn (vX σ)) 11 + 1 - S < g → xMo σ s → mG x 19 [(0, .ref (ad 1)), (1, mI b), (2, mI d), (3, mI w), (4, mI (setOf 11 (qWn (vX σ)))), (5, mI (cntS (fun S => qSub (qWn (vX σ)) S && qOg (vX σ) b d S) S)), (6, mI (cntS (qSub (qWn (vX σ))) S)), (7, mI (S : Int))] [] s := by
  have h6 : σ 1 2 ≤ 6 := hW.1.2.1
  have hO : setN (qWn (vX σ)) 11 < 2048 := setN_lt _ 11
  have eO : (setOf 11 (qWn (vX σ))) = ((setN (qWn (vX σ)) 11 : Nat) : Int) := rfl
  intro g
  induction g with
  | zero => intro S s a b; omega
  | succ g ih =>
    intro S s hS hg hs
    have e12 : s 1 2 = σ 1 2 := hs.1 1 2 (by omega) (by omega)
    refine g_iload h dX6_shareOfClouds_19 rfl ?_
    refine g_iload h dX6_shareOfClouds_21 rfl ?_
    refine g_icmp_gt (tgt := 72) h dX6_shareOfClouds_23 (by decide) ⟨by omega, by omega⟩ (setOf_32 (by omega) _) (fun c23 => ?_) (fun c23 => ?_)
    · rw [show S = setN (qWn (vX σ)) 11 + 1 by omega]
      exact kk s _ hs.1
    · refine g_iload h dX6_shareOfClouds_26 rfl ?_
      refine g_iload h dX6_shareOfClouds_28 rfl ?_
      refine g_iconst h dX6_shareOfClouds_30 rfl ?_
      refine g_ixor h dX6_shareOfClouds_31 ?_
      refine g_iand h dX6_shareOfClouds_32 ?_
      refine g_if_ne (tgt := 66) h dX6_shareOfClouds_33 (by decide) (sub_rng _ (by omega)) (fun c33 => ?_) (fun c33 => ?_)
      · refine g_iinc h dX6_shareOfClouds_66 rfl (by decide) rfl ?_
        refine g_goto (tgt := 19) h dX6_shareOfClouds_69 (by decide) ?_
        refine g_lv (lv' := [(0, .ref (ad 1)), (1, mI b), (2, mI d), (3, mI w), (4, mI (setOf 11 (qWn (vX σ)))), (5, mI (cntS (fun S => qSub (qWn (vX σ)) S && qOg (vX σ) b d S) S)), (6, mI (cntS (qSub (qWn (vX σ))) S)), (7, mI ((S : Int) + 1))]) rfl ?_
        have eu : cntS (fun S => qSub (qWn (vX σ)) S && qOg (vX σ) b d S) (S + 1) = (cntS (fun S => qSub (qWn (vX σ)) S && qOg (vX σ) b d S) S) := by rw [cntS, show qSub (qWn (vX σ)) S = false by cases q : qSub (qWn (vX σ)) S; rfl; exact absurd ((sub_zero (by omega)).mpr q) c33]; simp
        have el : cntS (qSub (qWn (vX σ))) (S + 1) = (cntS (qSub (qWn (vX σ))) S) := by rw [cntS, show qSub (qWn (vX σ)) S = false by cases q : qSub (qWn (vX σ)) S; rfl; exact absurd ((sub_zero (by omega)).mpr q) c33]; simp
        have Z := ih (S + 1) s (by omega) (by omega) hs
        rw [eu, el, show ((S + 1 : Nat) : Int) = (S : Int) + 1 by omega] at Z
        exact Z
      · refine g_aload_n h dX6_shareOfClouds_36 rfl ?_
        refine g_iload h dX6_shareOfClouds_37 rfl ?_
        refine g_val (b := setOf 11 (fun i => S.testBit i.toNat)) (nat_set (by omega)) ?_
        refine g_bipush h dX6_shareOfClouds_39 (by decide) ?_
        refine g_vV h (c_X1_pass _ _ _ (qWt (vX σ)) (qSt (vX σ) (fun m => S.testBit m.toNat)) (hs.1.wf hW.1) (by rw [e12]; exact hs.2) ⟨by omega, by omega⟩ (fun a a0 a1 => by rw [decide_eq_false (by omega), Bool.false_or, cl0_st])) (by decide) lm_RX6_33 (rvC rfl) dX6_shareOfClouds_41 rfl (Nat.le_of_ble_eq_true rfl) (fun s41 p41 => ?_)
        rw [hs.1.view] at p41
        subst p41
        have sc41 := hs.up (setOf 6 (qPf (vX σ) (qSt (vX σ) (fun m => S.testBit m.toNat))))
        have J60 : ∀ v : Int, v = bl (qOg (vX σ) b d S = true) → mG x 60 [(0, .ref (ad 1)), (1, mI b), (2, mI d), (3, mI w), (4, mI (setOf 11 (qWn (vX σ)))), (5, mI (cntS (fun S => qSub (qWn (vX σ)) S && qOg (vX σ) b d S) S)), (6, mI (cntS (qSub (qWn (vX σ))) S)), (7, mI (S : Int))] [mI v, mI (cntS (fun S => qSub (qWn (vX σ)) S && qOg (vX σ) b d S) S)] (mUp s 1 4 (setOf 6 (qPf (vX σ) (qSt (vX σ) (fun m => S.testBit m.toNat))))) := by
          intro v hv
          refine g_iadd h dX6_shareOfClouds_60 ?_
          refine g_istore h dX6_shareOfClouds_61 (by decide) rfl ?_
          refine g_iinc h dX6_shareOfClouds_63 rfl (by decide) rfl ?_
          refine g_iinc h dX6_shareOfClouds_66 rfl (by decide) rfl ?_
          refine g_goto (tgt := 19) h dX6_shareOfClouds_69 (by decide) ?_
          refine g_lv (lv' := [(0, .ref (ad 1)), (1, mI b), (2, mI d), (3, mI w), (4, mI (setOf 11 (qWn (vX σ)))), (5, mI ((cntS (fun S => qSub (qWn (vX σ)) S && qOg (vX σ) b d S) S) + v)), (6, mI ((cntS (qSub (qWn (vX σ))) S) + 1)), (7, mI ((S : Int) + 1))]) rfl ?_
          have eu : cntS (fun S => qSub (qWn (vX σ)) S && qOg (vX σ) b d S) (S + 1) = ((cntS (fun S => qSub (qWn (vX σ)) S && qOg (vX σ) b d S) S) + v) := by rw [cntS, (sub_zero (by omega)).mp c33, Bool.true_and, hv]; rfl
          have el : cntS (qSub (qWn (vX σ))) (S + 1) = ((cntS (qSub (qWn (vX σ))) S) + 1) := by rw [cntS, (sub_zero (by omega)).mp c33]; rfl
          have Z := ih (S + 1) _ (by omega) (by omega) sc41
          rw [eu, el, show ((S + 1 : Nat) : Int) = (S : Int) + 1 by omega] at Z
          exact Z
        refine g_iload h dX6_shareOfClouds_44 rfl ?_
        refine g_aload_n h dX6_shareOfClouds_46 rfl ?_
        refine g_iload_n h dX6_shareOfClouds_47 rfl ?_
        refine g_iload_n h dX6_shareOfClouds_48 rfl ?_
        refine g_vI h (c_X1_isInForce _ _ _ _ (sc41.1.wf hW.1) (mUp_eq _ _ _ _) b0 (by rw [mUp_ne _ _ (by omega), e12]; exact b1) d0 d1) (by decide) lm_RX6_37 (rvC rfl) dX6_shareOfClouds_49 rfl (Nat.le_of_ble_eq_true rfl) (fun z49 s49 p49 => ?_)
        obtain ⟨e49, r49⟩ := p49; subst e49; replace r49 := Eq.symm r49; subst r49
        rw [sc41.1.view]
        refine g_ifb_eq (tgt := 59) h dX6_shareOfClouds_52 (by decide)  (fun c52 => ?_) (fun c52 => ?_)
        · refine g_iconst h dX6_shareOfClouds_59 rfl ?_
          exact J60 0 (bl0 c52)
        · refine g_iconst h dX6_shareOfClouds_55 rfl ?_
          refine g_goto (tgt := 60) h dX6_shareOfClouds_56 (by decide) ?_
          exact J60 1 (bl1 c52)
set_option maxRecDepth 100000 in
set_option maxHeartbeats 2000000 in
theorem lr_X6_shareOfClouds {x : mX} {l : Launch} {D : va_G} {cs : mC} {ad : Int → Nat} {post : Int → mS → Prop} (h : mOk x l M_X6_shareOfClouds 11 (gX D cs ad)) (hq : rL x (gX D cs ad) post) {s : mS} {b d w wn S : Int} {U0 k0 : Nat} (hw : w = 0 ∨ w = 1) (hp : post (if w = 0 then ((U0 / Nat.gcd U0 (2 ^ k0) : Nat) : Int) else ((2 ^ k0 / Nat.gcd U0 (2 ^ k0) : Nat) : Int)) s) : ∀ (k u : Nat), k ≤ 11 → u ≤ 2 ^ k → u / Nat.gcd u (2 ^ k) = U0 / Nat.gcd U0 (2 ^ k0) → 2 ^ k / Nat.gcd u (2 ^ k) = 2 ^ k0 / Nat.gcd U0 (2 ^ k0) → mG x 72 [(0, .ref (ad 1)), (1, mI b), (2, mI d), (3, mI w), (4, mI wn), (5, mI (u : Int)), (6, mI ((2 ^ k : Nat) : Int)), (7, mI S)] [] s := by
  have fin : ∀ (k u : Nat), k ≤ 11 → u ≤ 2 ^ k → Nat.gcd u (2 ^ k) = 1 → u / Nat.gcd u (2 ^ k) = U0 / Nat.gcd U0 (2 ^ k0) → 2 ^ k / Nat.gcd u (2 ^ k) = 2 ^ k0 / Nat.gcd U0 (2 ^ k0) → mG x 100 [(0, .ref (ad 1)), (1, mI b), (2, mI d), (3, mI w), (4, mI wn), (5, mI (u : Int)), (6, mI ((2 ^ k : Nat) : Int)), (7, mI S)] [] s := by
    intro k u hk hu hg e1 e2
    have pk : 2 ^ k ≤ 2 ^ 11 := Nat.pow_le_pow_right (by omega) hk
    rw [hg, Nat.div_one] at e1 e2
    refine g_iload_n h dX6_shareOfClouds_100 rfl ?_
    refine g_if_eq (tgt := 110) h dX6_shareOfClouds_101 (by decide) ⟨by omega, by omega⟩ (fun c101 => ?_) (fun c101 => ?_)
    · refine g_iload h dX6_shareOfClouds_110 rfl ?_
      refine g_i2l h dX6_shareOfClouds_112 ⟨by omega, by omega⟩ ?_
      refine g_lret h hq rfl dX6_shareOfClouds_113 (by rw [if_pos c101, ← e1] at hp; exact hp)
    · refine g_iload h dX6_shareOfClouds_104 rfl ?_
      refine g_i2l h dX6_shareOfClouds_106 ⟨by omega, by omega⟩ ?_
      refine g_goto (tgt := 113) h dX6_shareOfClouds_107 (by decide) ?_
      refine g_lret h hq rfl dX6_shareOfClouds_113 (by rw [if_neg c101, ← e2] at hp; exact hp)
  intro k
  induction k with
  | zero =>
    intro u hk hu e1 e2
    refine g_iload h dX6_shareOfClouds_72 rfl ?_
    refine g_iconst h dX6_shareOfClouds_74 rfl ?_
    refine g_icmp_le (tgt := 100) h dX6_shareOfClouds_75 (by decide) ⟨by omega, by omega⟩ ⟨by omega, by omega⟩ (fun c75 => ?_) (fun c75 => ?_)
    · exact fin 0 u (by omega) hu (by rw [Nat.pow_zero, Nat.gcd_one_right]) e1 e2
    · omega
  | succ k ih =>
    intro u hk hu e1 e2
    have pk : 2 ^ (k + 1) ≤ 2 ^ 11 := Nat.pow_le_pow_right (by omega) hk
    have pk2 : 2 ^ (k + 1) = 2 * 2 ^ k := by rw [Nat.pow_succ, Nat.mul_comm]
    have p0 : 0 < 2 ^ k := Nat.two_pow_pos k
    refine g_iload h dX6_shareOfClouds_72 rfl ?_
    refine g_iconst h dX6_shareOfClouds_74 rfl ?_
    refine g_icmp_le (tgt := 100) h dX6_shareOfClouds_75 (by decide) ⟨by omega, by omega⟩ ⟨by omega, by omega⟩ (fun c75 => ?_) (fun c75 => ?_)
    · omega
    · refine g_iload h dX6_shareOfClouds_78 rfl ?_
      refine g_iconst h dX6_shareOfClouds_80 rfl ?_
      refine g_irem h dX6_shareOfClouds_81 (by omega) (by omega) (by omega) (by omega) ?_
      refine g_if_ne (tgt := 100) h dX6_shareOfClouds_82 (by decide) ⟨by omega, by omega⟩ (fun c82 => ?_) (fun c82 => ?_)
      · exact fin (k + 1) u hk hu (gcd_odd_pow (by omega) _) e1 e2
      · refine g_iload h dX6_shareOfClouds_85 rfl ?_
        refine g_iconst h dX6_shareOfClouds_87 rfl ?_
        refine g_idiv h dX6_shareOfClouds_88 (by omega) (by omega) (by omega) (by omega) ?_
        refine g_val (b := ((u / 2 : Nat) : Int)) (by omega) ?_
        refine g_istore h dX6_shareOfClouds_89 (by decide) rfl ?_
        refine g_iload h dX6_shareOfClouds_91 rfl ?_
        refine g_iconst h dX6_shareOfClouds_93 rfl ?_
        refine g_idiv h dX6_shareOfClouds_94 (by omega) (by omega) (by omega) (by omega) ?_
        refine g_val (b := ((2 ^ k : Nat) : Int)) (by omega) ?_
        refine g_istore h dX6_shareOfClouds_95 (by decide) rfl ?_
        refine g_goto (tgt := 72) h dX6_shareOfClouds_97 (by decide) ?_
        have hs9 := half_step (u := u) (l := 2 ^ (k + 1)) (by omega) (by omega)
        rw [show 2 ^ (k + 1) / 2 = 2 ^ k by omega] at hs9
        exact ih (u / 2) (by omega) (by omega) (by rw [← hs9.1]; exact e1) (by rw [← hs9.2]; exact e2)
set_option maxRecDepth 100000 in
set_option maxHeartbeats 2000000 in
theorem c_X6_shareOfClouds {l : Launch} {D : va_G} {cs : mC} {ad : Int → Nat} (σ : mS) (b d w : Int) (hW : qW (vX σ)) (hn : 0 < σ 1 2) (b0 : 0 ≤ b) (b1 : b < σ 1 2) (d0 : 0 ≤ d) (d1 : d ≤ 109) (hw : w = 0 ∨ w = 1) : CL l (gX D cs ad) M_X6_shareOfClouds 11 [.ref (ad 1), mI b, mI d, mI w] σ (fun z s => z = qOd (vX σ) b d w ∧ xSc σ s) := by
  refine CL.of (by decide) (Nat.le_of_ble_eq_true rfl) (fun x h hq => ?_)
  show mG x 0 [(0, .ref (ad 1)), (1, mI b), (2, mI d), (3, mI w)] [] σ
  refine g_aload_n h dX6_shareOfClouds_0 rfl ?_
  refine g_vV h (c_X1_watchAll _ hW.1) (by decide) lm_RX6_9 (rvC rfl) dX6_shareOfClouds_1 rfl (Nat.le_of_ble_eq_true rfl) (fun s1 p1 => ?_)
  obtain ⟨w1, w2, w3⟩ := p1
  have e12 : s1 1 2 = σ 1 2 := w1 1 2 (by omega) (by omega)
  have h6 : σ 1 2 ≤ 6 := hW.1.2.1
  refine g_aload_n h dX6_shareOfClouds_4 rfl ?_
  refine g_vI h (c_X1_allMoons _ (qWt (vX σ)) (by rw [e12]; exact hW.1.1) (by omega) (by rw [e12]; exact w3)) (by decide) lm_RX6_24 (rvC rfl) dX6_shareOfClouds_5 rfl (Nat.le_of_ble_eq_true rfl) (fun z5 s5 p5 => ?_)
  obtain ⟨e5, r5⟩ := p5; subst e5; replace r5 := Eq.symm r5; subst r5
  refine g_val (b := (setOf 11 (qWn (vX σ)))) (by rw [e12]; rfl) ?_
  refine g_istore h dX6_shareOfClouds_8 (by decide) rfl ?_
  refine g_iconst h dX6_shareOfClouds_10 rfl ?_
  refine g_istore h dX6_shareOfClouds_11 (by decide) rfl ?_
  refine g_iconst h dX6_shareOfClouds_13 rfl ?_
  refine g_istore h dX6_shareOfClouds_14 (by decide) rfl ?_
  refine g_iconst h dX6_shareOfClouds_16 rfl ?_
  refine g_istore h dX6_shareOfClouds_17 (by decide) rfl ?_
  obtain ⟨U, k, u1, u2, u3, u4, u5⟩ := odds_is hW.1 hn b d
  exact lp_X6_shareOfClouds h hq hW hn b0 b1 d0 d1 (fun t S ht => by rw [u1, u2]; exact lr_X6_shareOfClouds h hq hw ⟨(u5 w).symm, ht⟩ k U u3 u4 rfl rfl) (setN (qWn (vX σ)) 11 + 2) 0 _ (by omega) (by omega) ⟨w1, w3⟩
