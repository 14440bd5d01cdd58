set_option maxRecDepth 100000 in
set_option maxHeartbeats 2000000 in
theorem c_X7_copy {l : Launch} {D : va_G} {cs : mC} {ad : Int → Nat} (σ : mS) (k i oo j n : Int) (hk9 : i32 k) (hi : i32 i) (ho9 : i32 oo) (hj : i32 j) (hn : i32 n) (hW : qW (vX σ)) : CI l (gX D cs ad) M_X7_copy 2 [.ref (ad 0), mI k, mI i, mI oo, mI j, mI n] σ (fun z s => z = sp_copy (vX σ) k i oo j n ∧ vX s = ns_copy (vX σ) k i oo j n) := by
  refine CI.of (by decide) (Nat.le_of_ble_eq_true rfl) (fun x h hq => ?_)
  show mG x 0 [(0, .ref (ad 0)), (1, mI k), (2, mI i), (3, mI oo), (4, mI j), (5, mI n)] [] σ
  have hF := vX_up_fault σ 0
  have hW1 : qW (vX (mUp σ 0 4 0)) := by rw [hF]; exact qW_up0 hW 0 (by omega)
  refine g_aload_n h dX7_copy_0 rfl ?_
  refine g_iconst h dX7_copy_1 rfl ?_
  refine pxV_latestFault h dX7_copy_2 lf_RX7_32 ?_
  refine g_iload_n h dX7_copy_5 rfl ?_
  refine g_sI h (c_X7_noSheet _ _ hk9) (by decide) lm_RX7_36 dX7_copy_6 rfl (Nat.le_of_ble_eq_true rfl) (fun z6 s6 p6 => ?_)
  obtain ⟨e6, r6⟩ := p6; subst e6; replace r6 := Eq.symm r6; subst r6
  refine g_ifb_ne (tgt := 19) h dX7_copy_9 (by decide)  (fun c9 => ?_) (fun c9 => ?_)
  · refine g_iconst h dX7_copy_19 rfl ?_
    refine g_iret h hq rfl dX7_copy_20 ⟨by unfold sp_copy; rw [if_pos (Or.inl c9)], by unfold ns_copy; rw [if_pos (Or.inl c9)]; exact hF⟩
  · refine g_iload_n h dX7_copy_12 rfl ?_
    refine g_sI h (c_X7_noSheet _ _ ho9) (by decide) lm_RX7_36 dX7_copy_13 rfl (Nat.le_of_ble_eq_true rfl) (fun z13 s13 p13 => ?_)
    obtain ⟨e13, r13⟩ := p13; subst e13; replace r13 := Eq.symm r13; subst r13
    refine g_ifb_eq (tgt := 21) h dX7_copy_16 (by decide)  (fun c16 => ?_) (fun c16 => ?_)
    · have ck : 0 ≤ k ∧ k ≤ 3 := by omega
      have co : 0 ≤ oo ∧ oo ≤ 3 := by omega
      have hk := hW.2.2.2.2.2 k (by omega) (by omega)
      have e10 := vX_so σ (show 0 ≤ k by omega) (show k < 4 by omega)
      have e11 := vX_le σ (show 0 ≤ k by omega) (show k < 4 by omega)
      rw [e10, e11] at hk
      have o1 : mUp σ 0 4 0 (16 + k) 1 = σ (16 + k) 1 := mUp_ne _ _ (by omega)
      have o2 : mUp σ 0 4 0 (16 + k) 2 = σ (16 + k) 2 := mUp_ne _ _ (by omega)
      have hko := hW.2.2.2.2.2 oo (by omega) (by omega)
      have e10o := vX_so σ (show 0 ≤ oo by omega) (show oo < 4 by omega)
      have e11o := vX_le σ (show 0 ≤ oo by omega) (show oo < 4 by omega)
      rw [e10o, e11o] at hko
      have o1o : mUp σ 0 4 0 (16 + oo) 1 = σ (16 + oo) 1 := mUp_ne _ _ (by omega)
      have o2o : mUp σ 0 4 0 (16 + oo) 2 = σ (16 + oo) 2 := mUp_ne _ _ (by omega)
      refine g_aload_n h dX7_copy_21 rfl ?_
      refine gxV_sheets h dX7_copy_22 lf_RX7_27 ?_
      refine g_iload_n h dX7_copy_25 rfl ?_
      refine lx_sheets h dX7_copy_26 (by omega) (by omega) ?_
      refine g_astore h dX7_copy_27 (by decide) rfl ?_
      refine g_aload_n h dX7_copy_29 rfl ?_
      refine gxV_sheets h dX7_copy_30 lf_RX7_27 ?_
      refine g_iload_n h dX7_copy_33 rfl ?_
      refine lx_sheets h dX7_copy_34 (by omega) (by omega) ?_
      refine g_astore h dX7_copy_35 (by decide) rfl ?_
      refine g_aload h dX7_copy_37 rfl ?_
      refine g_vI h (c_X3_isNothing _ _ (by omega) (by omega) (by rw [o1]; omega) (by rw [o1]; omega)) (by decide) lm_RX7_184 (rvS rfl (by omega) (by omega)) dX7_copy_39 rfl (Nat.le_of_ble_eq_true rfl) (fun z39 s39 p39 => ?_)
      obtain ⟨e39, r39⟩ := p39; subst e39; replace r39 := Eq.symm r39; subst r39
      rw [o1]
      refine g_ifb_ne (tgt := 53) h dX7_copy_42 (by decide)  (fun c42 => ?_) (fun c42 => ?_)
      · refine g_aload_n h dX7_copy_53 rfl ?_
        refine g_iconst h dX7_copy_54 rfl ?_
        refine g_vI h (c_X7_failed _ _) (by decide) lm_RX7_48 (rvV rfl) dX7_copy_55 rfl (Nat.le_of_ble_eq_true rfl) (fun z55 s55 p55 => ?_)
        obtain ⟨e55, r55⟩ := p55; subst e55; replace r55 := Eq.symm r55; subst r55
        have hq0 : qCy (vX σ) k i oo j n = 1 := by unfold qCy; rw [e10, e11, e10o, e11o, if_pos (Or.inl c42)]
        refine g_iret h hq rfl dX7_copy_58 ⟨by unfold sp_copy; rw [if_neg (by omega), hq0, if_pos (by omega)], by unfold ns_copy; rw [if_neg (by omega), hq0, if_pos (by omega), mUp_up]; exact vX_up_fault σ 1⟩
      · refine g_aload h dX7_copy_45 rfl ?_
        refine g_vI h (c_X3_isNothing _ _ (by omega) (by omega) (by rw [o1o]; omega) (by rw [o1o]; omega)) (by decide) lm_RX7_184 (rvS rfl (by omega) (by omega)) dX7_copy_47 rfl (Nat.le_of_ble_eq_true rfl) (fun z47 s47 p47 => ?_)
        obtain ⟨e47, r47⟩ := p47; subst e47; replace r47 := Eq.symm r47; subst r47
        rw [o1o]
        refine g_ifb_eq (tgt := 59) h dX7_copy_50 (by decide)  (fun c50 => ?_) (fun c50 => ?_)
        · refine g_aload h dX7_copy_59 rfl ?_
          refine gxS_lane h (by omega) (by omega) dX7_copy_61 lf_RX7_199 ?_
          refine g_val (b := σ (16 + k) 1) o1 ?_
          refine g_aload h dX7_copy_64 rfl ?_
          refine gxS_lane h (by omega) (by omega) dX7_copy_66 lf_RX7_199 ?_
          refine g_val (b := σ (16 + oo) 1) o1o ?_
          refine g_icmp_eq (tgt := 78) h dX7_copy_69 (by decide) ⟨by omega, by omega⟩ ⟨by omega, by omega⟩ (fun c69 => ?_) (fun c69 => ?_)
          · refine g_iload h dX7_copy_78 rfl ?_
            refine g_if_lt (tgt := 106) h dX7_copy_80 (by decide) hn (fun c80 => ?_) (fun c80 => ?_)
            · refine g_aload_n h dX7_copy_106 rfl ?_
              refine g_iconst h dX7_copy_107 rfl ?_
              refine g_vI h (c_X7_failed _ _) (by decide) lm_RX7_48 (rvV rfl) dX7_copy_108 rfl (Nat.le_of_ble_eq_true rfl) (fun z108 s108 p108 => ?_)
              obtain ⟨e108, r108⟩ := p108; subst e108; replace r108 := Eq.symm r108; subst r108
              have hq0 : qCy (vX σ) k i oo j n = 3 := by unfold qCy; rw [e10, e11, e10o, e11o, if_neg (by omega), if_neg (by omega), if_pos (by omega)]
              refine g_iret h hq rfl dX7_copy_111 ⟨by unfold sp_copy; rw [if_neg (by omega), hq0, if_pos (by omega)], by unfold ns_copy; rw [if_neg (by omega), hq0, if_pos (by omega), mUp_up]; exact vX_up_fault σ 3⟩
            · refine g_aload h dX7_copy_83 rfl ?_
              refine g_iload_n h dX7_copy_85 rfl ?_
              refine g_iload h dX7_copy_86 rfl ?_
              refine g_vI h (c_X3_hasAll _ _ _ _ (by omega) (by omega) hi hn (by rw [o2]; omega) (by rw [o2]; omega)) (by decide) lm_RX7_202 (rvS rfl (by omega) (by omega)) dX7_copy_88 rfl (Nat.le_of_ble_eq_true rfl) (fun z88 s88 p88 => ?_)
              obtain ⟨e88, r88⟩ := p88; subst e88; replace r88 := Eq.symm r88; subst r88
              rw [o2]
              refine g_ifb_eq (tgt := 106) h dX7_copy_91 (by decide)  (fun c91 => ?_) (fun c91 => ?_)
              · refine g_aload_n h dX7_copy_106 rfl ?_
                refine g_iconst h dX7_copy_107 rfl ?_
                refine g_vI h (c_X7_failed _ _) (by decide) lm_RX7_48 (rvV rfl) dX7_copy_108 rfl (Nat.le_of_ble_eq_true rfl) (fun z108 s108 p108 => ?_)
                obtain ⟨e108, r108⟩ := p108; subst e108; replace r108 := Eq.symm r108; subst r108
                have hq0 : qCy (vX σ) k i oo j n = 3 := by unfold qCy; rw [e10, e11, e10o, e11o, if_neg (by omega), if_neg (by omega), if_pos (by omega)]
                refine g_iret h hq rfl dX7_copy_111 ⟨by unfold sp_copy; rw [if_neg (by omega), hq0, if_pos (by omega)], by unfold ns_copy; rw [if_neg (by omega), hq0, if_pos (by omega), mUp_up]; exact vX_up_fault σ 3⟩
              · refine g_aload h dX7_copy_94 rfl ?_
                refine g_iload h dX7_copy_96 rfl ?_
                refine g_iload h dX7_copy_98 rfl ?_
                refine g_vI h (c_X3_hasAll _ _ _ _ (by omega) (by omega) hj hn (by rw [o2o]; omega) (by rw [o2o]; omega)) (by decide) lm_RX7_202 (rvS rfl (by omega) (by omega)) dX7_copy_100 rfl (Nat.le_of_ble_eq_true rfl) (fun z100 s100 p100 => ?_)
                obtain ⟨e100, r100⟩ := p100; subst e100; replace r100 := Eq.symm r100; subst r100
                rw [o2o]
                refine g_ifb_ne (tgt := 112) h dX7_copy_103 (by decide)  (fun c103 => ?_) (fun c103 => ?_)
                · refine g_aload h dX7_copy_112 rfl ?_
                  refine gxS_cells h (by omega) (by omega) dX7_copy_114 lf_RX7_134 ?_
                  refine g_iload_n h dX7_copy_117 rfl ?_
                  refine g_aload h dX7_copy_118 rfl ?_
                  refine gxS_cells h (by omega) (by omega) dX7_copy_120 lf_RX7_134 ?_
                  refine g_iload h dX7_copy_123 rfl ?_
                  refine g_iload h dX7_copy_125 rfl ?_
                  refine g_copy h rfl (by omega) (by omega) (by omega) (by omega) (by omega) (by omega) (by omega) (by omega) (by omega) (by decide) dX7_copy_127 (Nat.le_of_ble_eq_true rfl) ?_
                  refine g_iload h dX7_copy_130 rfl ?_
                  have hq0 : qCy (vX σ) k i oo j n = 0 := by unfold qCy; rw [e10, e11, e10o, e11o, if_neg (by omega), if_neg (by omega), if_neg (by omega)]
                  refine g_iret h hq rfl dX7_copy_132 ⟨by unfold sp_copy; rw [if_neg (by omega), if_neg (fun z => z hq0)], by unfold ns_copy; rw [if_neg (by omega), if_neg (fun z => z hq0), vX_cp _ ck.1 (by omega) co.1 (by omega) (by omega) (by omega) (by omega) (by omega), hF]⟩
                · refine g_aload_n h dX7_copy_106 rfl ?_
                  refine g_iconst h dX7_copy_107 rfl ?_
                  refine g_vI h (c_X7_failed _ _) (by decide) lm_RX7_48 (rvV rfl) dX7_copy_108 rfl (Nat.le_of_ble_eq_true rfl) (fun z108 s108 p108 => ?_)
                  obtain ⟨e108, r108⟩ := p108; subst e108; replace r108 := Eq.symm r108; subst r108
                  have hq0 : qCy (vX σ) k i oo j n = 3 := by unfold qCy; rw [e10, e11, e10o, e11o, if_neg (by omega), if_neg (by omega), if_pos (by omega)]
                  refine g_iret h hq rfl dX7_copy_111 ⟨by unfold sp_copy; rw [if_neg (by omega), hq0, if_pos (by omega)], by unfold ns_copy; rw [if_neg (by omega), hq0, if_pos (by omega), mUp_up]; exact vX_up_fault σ 3⟩
          · refine g_aload_n h dX7_copy_72 rfl ?_
            refine g_iconst h dX7_copy_73 rfl ?_
            refine g_vI h (c_X7_failed _ _) (by decide) lm_RX7_48 (rvV rfl) dX7_copy_74 rfl (Nat.le_of_ble_eq_true rfl) (fun z74 s74 p74 => ?_)
            obtain ⟨e74, r74⟩ := p74; subst e74; replace r74 := Eq.symm r74; subst r74
            have hq0 : qCy (vX σ) k i oo j n = 2 := by unfold qCy; rw [e10, e11, e10o, e11o, if_neg (by omega), if_pos c69]
            refine g_iret h hq rfl dX7_copy_77 ⟨by unfold sp_copy; rw [if_neg (by omega), hq0, if_pos (by omega)], by unfold ns_copy; rw [if_neg (by omega), hq0, if_pos (by omega), mUp_up]; exact vX_up_fault σ 2⟩
        · refine g_aload_n h dX7_copy_53 rfl ?_
          refine g_iconst h dX7_copy_54 rfl ?_
          refine g_vI h (c_X7_failed _ _) (by decide) lm_RX7_48 (rvV rfl) dX7_copy_55 rfl (Nat.le_of_ble_eq_true rfl) (fun z55 s55 p55 => ?_)
          obtain ⟨e55, r55⟩ := p55; subst e55; replace r55 := Eq.symm r55; subst r55
          have hq0 : qCy (vX σ) k i oo j n = 1 := by unfold qCy; rw [e10, e11, e10o, e11o, if_pos (Or.inr c50)]
          refine g_iret h hq rfl dX7_copy_58 ⟨by unfold sp_copy; rw [if_neg (by omega), hq0, if_pos (by omega)], by unfold ns_copy; rw [if_neg (by omega), hq0, if_pos (by omega), mUp_up]; exact vX_up_fault σ 1⟩
    · refine g_iconst h dX7_copy_19 rfl ?_
      refine g_iret h hq rfl dX7_copy_20 ⟨by unfold sp_copy; rw [if_pos (Or.inr c16)], by unfold ns_copy; rw [if_pos (Or.inr c16)]; exact hF⟩
set_option maxRecDepth 100000 in
set_option maxHeartbeats 2000000 in
theorem lp_X7_chron {x : mX} {l : Launch} {D : va_G} {cs : mC} {ad : Int → Nat} {post : Int → mS → Prop} (h : mOk x l M_X7_chronicle 12 (gX D cs ad)) (hq : rI x (gX D cs ad) post) {σ s1 : mS} {k i n l9 f9 : Int} (hW : qW (vX σ)) (hn0 : 0 < σ 1 2) (k0 : 0 ≤ k) (k1 : k < 4) (hi0 : 0 ≤ i) (hn1 : 0 ≤ n) (hin : i + n ≤ 60) (hst : xSt (mUp σ 0 4 0) s1 (qSI (vX (mUp σ 0 4 0)))) (hp : post (if fstN (qCh (vX σ) k i) n.toNat < n then fstN (qCh (vX σ) k i) n.toNat else -9) s1) : ∀ (g : Nat) (j : Int), 0 ≤ j → j ≤ n → n - j < g → (∀ q : Int, 0 ≤ q → q < j → qCh (vX σ) k i q = false) → mG x 76 [(0, .ref (ad 0)), (1, mI k), (2, mI l9), (3, mI i), (4, mI n), (5, .ref (ad (16 + k))), (6, mI f9), (7, mI j)] [] s1 := by
  have hF := vX_up_fault σ 0
  have hW1 : qW (vX (mUp σ 0 4 0)) := by rw [hF]; exact qW_up0 hW 0 (by omega)
  have hk := hW.2.2.2.2.2 k (by omega) (by omega)
  intro g
  induction g with
  | zero => intro j a b c; omega
  | succ g ih =>
    intro j j0 j1 hg hall
    refine g_iload h dX7_chronicle_76 rfl ?_
    refine g_iload h dX7_chronicle_78 rfl ?_
    refine g_icmp_ge (tgt := 114) h dX7_chronicle_80 (by decide) ⟨by omega, by omega⟩ ⟨by omega, by omega⟩ (fun c80 => ?_) (fun c80 => ?_)
    · refine g_bipush h dX7_chronicle_114 (by decide) ?_
      refine g_iret h hq rfl dX7_chronicle_116 (by
        have e : fstN (qCh (vX σ) k i) n.toNat = n := by rw [fstN_no (fun q q0 q1 => hall q q0 (by omega))]; omega
        rw [e, if_neg (by omega)] at hp
        exact hp)
    · refine g_aload h dX7_chronicle_83 rfl ?_
      refine gxS_cells h (by omega) (by omega) dX7_chronicle_85 lf_RX7_134 ?_
      refine g_iload_n h dX7_chronicle_88 rfl ?_
      refine g_iload h dX7_chronicle_89 rfl ?_
      refine g_iadd h dX7_chronicle_91 ?_
      refine lx_cells h (by omega) (by omega) dX7_chronicle_92 (by omega) (by omega) ?_
      have ec : s1 (16 + k + 4) (i + j) = vX σ (12 + k) (i + j) := by
        rw [hst.1 (16 + k + 4) (i + j) (by omega) (by omega), mUp_ne _ _ (Or.inl (by omega))]
        exact (vX_ce σ k0 k1 (by omega) (by omega)).symm
      refine g_val (b := vX σ (12 + k) (i + j)) ec ?_
      refine g_aload_n h dX7_chronicle_93 rfl ?_
      refine gxV_council h dX7_chronicle_94 lf_RX7_12 ?_
      refine g_iload h dX7_chronicle_97 rfl ?_
      refine g_vI h (c_X1_allInForce _ _ _ (hst.wf hW1).1 hst.2.1 j0 (by omega)) (by decide) lm_RX7_128 (rvC rfl) dX7_chronicle_99 rfl (Nat.le_of_ble_eq_true rfl) (fun z99 s99 p99 => ?_)
      obtain ⟨e99, r99⟩ := p99; subst e99; replace r99 := Eq.symm r99; subst r99
      have e12 : s1 1 2 = vX σ 0 4 := (hst.1 1 2 (by omega) (by omega)).trans (mUp_ne _ _ (by omega))
      refine g_val (b := setOf (vX σ 0 4).toNat (fun b => qFI (vX σ) b j)) (by
        rw [e12]
        refine setOf_cong (fun b _ _ => ?_)
        rw [hst.F]
        have e8 := qFI_f (τ := vX σ) (τ' := vX (mUp σ 0 4 0)) (fun a ha => by rw [hF]; exact mUp_off _ _ _ ha) (fun q q0 q4 => by rw [hF]; exact mUp_ne _ _ (by omega)) hW.1.1 b j
        exact e8) ?_
      refine g_icmp_eq (tgt := 108) h dX7_chronicle_102 (by decide) (hk.2.2.2.2 (i + j) (by omega) (by omega)) (setOf_32 (by have := hW.1.2.1; omega) _) (fun c102 => ?_) (fun c102 => ?_)
      · refine g_iinc h dX7_chronicle_108 rfl (by decide) rfl ?_
        refine g_goto (tgt := 76) h dX7_chronicle_111 (by decide) ?_
        refine g_lv (lv' := [(0, .ref (ad 0)), (1, mI k), (2, mI l9), (3, mI i), (4, mI n), (5, .ref (ad (16 + k))), (6, mI f9), (7, mI (j + 1))]) rfl ?_
        refine ih (j + 1) (by omega) (by omega) (by omega) (fun q q0 q1 => ?_)
        by_cases e : q = j
        · rw [e]; unfold qCh; exact decide_eq_false (fun z => z c102.symm)
        · exact hall q q0 (by omega)
      · refine g_iload h dX7_chronicle_105 rfl ?_
        refine g_iret h hq rfl dX7_chronicle_107 (by
        have e : fstN (qCh (vX σ) k i) n.toNat = j := fstN_is j0 (by omega) (by unfold qCh; exact decide_eq_true (fun z => c102 z.symm)) hall
        rw [e, if_pos (by omega)] at hp
        exact hp)
set_option maxRecDepth 100000 in
set_option maxHeartbeats 2000000 in
theorem c_X7_chronicle {l : Launch} {D : va_G} {cs : mC} {ad : Int → Nat} (σ : mS) (k l9 i n : Int) (hk9 : i32 k) (hl : i32 l9) (hi : i32 i) (hn : i32 n) (hW : qW (vX σ)) : CI l (gX D cs ad) M_X7_chronicle 12 [.ref (ad 0), mI k, mI l9, mI i, mI n] σ (fun z s => z = sp_chron (vX σ) k l9 i n ∧ vX s = ns_chron (vX σ) k l9 i n) := by
  refine CI.of (by decide) (Nat.le_of_ble_eq_true rfl) (fun x h hq => ?_)
  show mG x 0 [(0, .ref (ad 0)), (1, mI k), (2, mI l9), (3, mI i), (4, mI n)] [] σ
  have hF := vX_up_fault σ 0
  have hW1 : qW (vX (mUp σ 0 4 0)) := by rw [hF]; exact qW_up0 hW 0 (by omega)
  have hn0 : 0 ≤ σ 1 2 := hW.1.1
  have hn6 : σ 1 2 ≤ 6 := hW.1.2.1
  have e4u : vX (mUp σ 0 4 0) 0 4 = vX σ 0 4 := rfl
  have e4 : vX σ 0 4 = σ 1 2 := rfl
  have e12 : mUp σ 0 4 0 1 2 = σ 1 2 := mUp_ne _ _ (by omega)
  refine g_aload_n h dX7_chronicle_0 rfl ?_
  refine g_iconst h dX7_chronicle_1 rfl ?_
  refine pxV_latestFault h dX7_chronicle_2 lf_RX7_32 ?_
  refine g_iload_n h dX7_chronicle_5 rfl ?_
  refine g_sI h (c_X7_noSheet _ _ hk9) (by decide) lm_RX7_36 dX7_chronicle_6 rfl (Nat.le_of_ble_eq_true rfl) (fun z6 s6 p6 => ?_)
  obtain ⟨e6, r6⟩ := p6; subst e6; replace r6 := Eq.symm r6; subst r6
  refine g_ifb_eq (tgt := 14) h dX7_chronicle_9 (by decide)  (fun c9 => ?_) (fun c9 => ?_)
  · have ck : 0 ≤ k ∧ k ≤ 3 := by omega
    refine g_iload_n h dX7_chronicle_14 rfl ?_
    refine g_iconst h dX7_chronicle_15 rfl ?_
    refine g_sI h (c_X7_within _ _ _ hl ⟨by omega, by omega⟩) (by decide) lm_RX7_40 dX7_chronicle_16 rfl (Nat.le_of_ble_eq_true rfl) (fun z16 s16 p16 => ?_)
    obtain ⟨e16, r16⟩ := p16; subst e16; replace r16 := Eq.symm r16; subst r16
    refine g_ifb_ne (tgt := 25) h dX7_chronicle_19 (by decide)  (fun c19 => ?_) (fun c19 => ?_)
    · have hk := hW.2.2.2.2.2 k (by omega) (by omega)
      have e10 := vX_so σ (show 0 ≤ k by omega) (show k < 4 by omega)
      have e11 := vX_le σ (show 0 ≤ k by omega) (show k < 4 by omega)
      rw [e10, e11] at hk
      have o1 : mUp σ 0 4 0 (16 + k) 1 = σ (16 + k) 1 := mUp_ne _ _ (by omega)
      have o2 : mUp σ 0 4 0 (16 + k) 2 = σ (16 + k) 2 := mUp_ne _ _ (by omega)
      refine g_aload_n h dX7_chronicle_25 rfl ?_
      refine gxV_sheets h dX7_chronicle_26 lf_RX7_27 ?_
      refine g_iload_n h dX7_chronicle_29 rfl ?_
      refine lx_sheets h dX7_chronicle_30 (by omega) (by omega) ?_
      refine g_astore h dX7_chronicle_31 (by decide) rfl ?_
      refine g_aload h dX7_chronicle_33 rfl ?_
      refine g_iload_n h dX7_chronicle_35 rfl ?_
      refine g_iload_n h dX7_chronicle_36 rfl ?_
      refine g_iload h dX7_chronicle_37 rfl ?_
      refine g_vI h (c_X3_faultOfCells _ _ _ _ _ (by omega) (by omega) hl hi hn (by rw [o1]; omega) (by rw [o1]; omega) (by rw [o2]; omega) (by rw [o2]; omega)) (by decide) lm_RX7_44 (rvS rfl (by omega) (by omega)) dX7_chronicle_39 rfl (Nat.le_of_ble_eq_true rfl) (fun z39 s39 p39 => ?_)
      obtain ⟨e39, r39⟩ := p39; subst e39; replace r39 := Eq.symm r39; subst r39
      rw [o1, o2, xAg σ ck.1 (by omega)]
      have ag := qAg_rng (vX σ) k l9 i n
      refine g_istore h dX7_chronicle_42 (by decide) rfl ?_
      refine g_iload h dX7_chronicle_44 rfl ?_
      refine g_if_eq (tgt := 56) h dX7_chronicle_46 (by decide) ⟨by omega, by omega⟩ (fun c46 => ?_) (fun c46 => ?_)
      · have hns : vX (mUp σ 0 4 0) = ns_chron (vX σ) k l9 i n := by unfold ns_chron; rw [if_neg (show ¬ ¬ (0 ≤ k ∧ k ≤ 3) from fun z => z ck), if_neg (show ¬ ¬ (0 ≤ l9 ∧ l9 ≤ 2) from fun z => z c19), c46]; exact hF
        have hin := qAg_in hW ck.1 (by omega) c46
        refine g_aload_n h dX7_chronicle_56 rfl ?_
        refine g_vI h (c_X7_noCouncil _ (by rw [e12]; exact hn0) (by rw [e12]; exact hn6)) (by decide) lm_RX7_90 (rvV rfl) dX7_chronicle_57 rfl (Nat.le_of_ble_eq_true rfl) (fun z57 s57 p57 => ?_)
        obtain ⟨e57, r57⟩ := p57; subst e57; replace r57 := Eq.symm r57; subst r57
        rw [e4u]
        refine g_ifb_eq (tgt := 66) h dX7_chronicle_60 (by decide)  (fun c60 => ?_) (fun c60 => ?_)
        · refine g_aload_n h dX7_chronicle_66 rfl ?_
          refine gxV_council h dX7_chronicle_67 lf_RX7_12 ?_
          refine g_vV h (c_X1_settle _ hW1.1 hW1.2.1 (by rw [e12]; omega)) (by decide) lm_RX7_110 (rvC rfl) dX7_chronicle_70 rfl (Nat.le_of_ble_eq_true rfl) (fun s70 p70 => ?_)
          refine g_iconst h dX7_chronicle_73 rfl ?_
          refine g_istore h dX7_chronicle_74 (by decide) rfl ?_
          exact lp_X7_chron h hq hW (by omega) ck.1 (by omega) hin.2.1 hin.1 (by omega) p70 ⟨by unfold sp_chron; rw [if_neg (show ¬ ¬ (0 ≤ k ∧ k ≤ 3) from fun z => z ck), if_neg (show ¬ ¬ (0 ≤ l9 ∧ l9 ≤ 2) from fun z => z c19), if_neg (show ¬ ¬ qAg (vX σ) k l9 i n = 0 from fun z => z c46), if_neg c60], p70.1.view.trans hns⟩ (n.toNat + 1) 0 (by omega) hin.1 (by omega) (fun q q0 q1 => by omega)
        · refine g_bipush h dX7_chronicle_63 (by decide) ?_
          refine g_iret h hq rfl dX7_chronicle_65 ⟨by unfold sp_chron; rw [if_neg (show ¬ ¬ (0 ≤ k ∧ k ≤ 3) from fun z => z ck), if_neg (show ¬ ¬ (0 ≤ l9 ∧ l9 ≤ 2) from fun z => z c19), if_neg (fun z => z c46), if_pos c60], hns⟩
      · refine g_aload_n h dX7_chronicle_49 rfl ?_
        refine g_iload h dX7_chronicle_50 rfl ?_
        refine g_vI h (c_X7_failed _ _) (by decide) lm_RX7_48 (rvV rfl) dX7_chronicle_52 rfl (Nat.le_of_ble_eq_true rfl) (fun z52 s52 p52 => ?_)
        obtain ⟨e52, r52⟩ := p52; subst e52; replace r52 := Eq.symm r52; subst r52
        refine g_iret h hq rfl dX7_chronicle_55 ⟨by unfold sp_chron; rw [if_neg (show ¬ ¬ (0 ≤ k ∧ k ≤ 3) from fun z => z ck), if_neg (show ¬ ¬ (0 ≤ l9 ∧ l9 ≤ 2) from fun z => z c19), if_pos c46], by unfold ns_chron; rw [if_neg (show ¬ ¬ (0 ≤ k ∧ k ≤ 3) from fun z => z ck), if_neg (show ¬ ¬ (0 ≤ l9 ∧ l9 ≤ 2) from fun z => z c19), mUp_up]; exact vX_up_fault σ _⟩
    · refine g_bipush h dX7_chronicle_22 (by decide) ?_
      refine g_iret h hq rfl dX7_chronicle_24 ⟨by unfold sp_chron; rw [if_neg (show ¬ ¬ (0 ≤ k ∧ k ≤ 3) from fun z => z ck), if_pos c19], by unfold ns_chron; rw [if_neg (show ¬ ¬ (0 ≤ k ∧ k ≤ 3) from fun z => z ck), if_pos c19]; exact hF⟩
  · refine g_iconst h dX7_chronicle_12 rfl ?_
    refine g_iret h hq rfl dX7_chronicle_13 ⟨by unfold sp_chron; rw [if_pos c9], by unfold ns_chron; rw [if_pos c9]; exact hF⟩
