set_option maxRecDepth 100000 in
set_option maxHeartbeats 2000000 in
theorem c_X0_term {l : Launch} {D : va_G} {cs : mC} {ad : Int → Nat} (σ : mS) (k hf : Int) (k0 : 5 ≤ k) (k1 : k < 11) (f0 : 0 ≤ hf) (f1 : hf ≤ 1) (kd0 : 0 ≤ σ k 0) (kd2 : σ k 0 ≤ 2) (d0 : 0 ≤ σ k 1) (d99 : σ k 1 ≤ 99) (l0 : 0 ≤ σ k 4) (l9 : σ k 4 ≤ 9) : CL l (gX D cs ad) M_X0_term 1 [.ref (ad k), mI hf] σ (fun z s => z = setOf 55 (fun i => decide (σ k 1 < 55 * hf + i) && (decide (¬ σ k 0 = 1) || decide (55 * hf + i ≤ σ k 1 + 10 * σ k 4))) ∧ s = σ) := by
  refine CL.of (by decide) (Nat.le_of_ble_eq_true rfl) (fun x h hq => ?_)
  show mG x 0 [(0, .ref (ad k)), (1, mI hf)] [] σ
  have J51 : ∀ L : Int, (∀ i : Int, 0 ≤ i → i < 55 → (55 * hf + i ≤ L ↔ (¬ σ k 0 = 1 ∨ 55 * hf + i ≤ σ k 1 + 10 * σ k 4))) → L ≤ hf * 55 + 54 → 0 ≤ L → mG x 51 [(0, .ref (ad k)), (1, mI hf), (2, mI (hf * 55)), (3, mI (if σ k 1 + 1 < hf * 55 then hf * 55 else σ k 1 + 1)), (4, mI L)] [] σ := by
    intro L hL hL1 hL0
    have hf1 : ∃ F : Int, F = (if σ k 1 + 1 < hf * 55 then hf * 55 else σ k 1 + 1) ∧ hf * 55 ≤ F ∧ σ k 1 + 1 ≤ F ∧ (F = hf * 55 ∨ F = σ k 1 + 1) := ⟨_, rfl, by split <;> omega, by split <;> omega, by split; exact Or.inl rfl; exact Or.inr rfl⟩
    obtain ⟨F, hF, F1, F2, F3⟩ := hf1
    rw [← hF]
    refine g_iload h dX0_term_51 rfl ?_
    refine g_iload_n h dX0_term_53 rfl ?_
    refine g_isub h dX0_term_54 ?_
    refine g_iconst h dX0_term_55 rfl ?_
    refine g_iadd h dX0_term_56 ?_
    refine g_istore h dX0_term_57 (by decide) rfl ?_
    refine g_iload h dX0_term_59 rfl ?_
    refine g_if_gt (tgt := 68) h dX0_term_61 (by decide) ⟨by omega, by omega⟩ (fun c61 => ?_) (fun c61 => ?_)
    · refine g_lconst (v := 1) h dX0_term_68 (by decide) ?_
      refine g_iload h dX0_term_69 rfl ?_
      refine g_lshl h dX0_term_71 ?_
      refine g_lconst (v := 1) h dX0_term_72 (by decide) ?_
      refine g_lsub h dX0_term_73 ?_
      refine g_iload_n h dX0_term_74 rfl ?_
      refine g_iload_n h dX0_term_75 rfl ?_
      refine g_isub h dX0_term_76 ?_
      refine g_lshl h dX0_term_77 ?_
      refine g_lret h hq rfl dX0_term_78 (by
        refine ⟨?_, rfl⟩
        rw [lMask (by omega) (by omega) (by omega)]
        refine setOf_cong (fun i i0 i1 => ?_)
        have q := hL i i0 i1
        have q2 : (F - hf * 55 ≤ i ∧ i < F - hf * 55 + (L - F + 1)) ↔ (σ k 1 < 55 * hf + i ∧ 55 * hf + i ≤ L) := by omega
        by_cases e : F - hf * 55 ≤ i ∧ i < F - hf * 55 + (L - F + 1)
        · have e2 := q2.mp e
          have e3 := q.mp e2.2
          rw [decide_eq_true e, decide_eq_true e2.1, Bool.true_and]
          rcases e3 with e3 | e3
          · rw [decide_eq_true e3]; rfl
          · rw [decide_eq_true e3, Bool.or_true]
        · rw [decide_eq_false e]
          by_cases e1 : σ k 1 < 55 * hf + i
          · have e3 : ¬ (¬ σ k 0 = 1 ∨ 55 * hf + i ≤ σ k 1 + 10 * σ k 4) := fun z => e (q2.mpr ⟨e1, q.mpr z⟩)
            rw [decide_eq_true e1, decide_eq_false (fun z => e3 (Or.inl z)), decide_eq_false (fun z => e3 (Or.inr z))]; rfl
          · rw [decide_eq_false e1]; rfl)
      
    · refine g_lconst (v := 0) h dX0_term_64 (by decide) ?_
      refine g_goto (tgt := 78) h dX0_term_65 (by decide) ?_
      refine g_lret h hq rfl dX0_term_78 (by
        refine ⟨?_, rfl⟩
        refine (set_zero.mpr (fun i i0 i1 => ?_)).symm
        have q := hL i i0 i1
        by_cases e1 : σ k 1 < 55 * hf + i
        · have e3 : ¬ (¬ σ k 0 = 1 ∨ 55 * hf + i ≤ σ k 1 + 10 * σ k 4) := fun z => by have := q.mpr z; omega
          rw [decide_eq_true e1, decide_eq_false (fun z => e3 (Or.inl z)), decide_eq_false (fun z => e3 (Or.inr z))]; rfl
        · rw [decide_eq_false e1]; rfl)
      
  refine g_iload_n h dX0_term_0 rfl ?_
  refine g_bipush h dX0_term_1 (by decide) ?_
  refine g_imul h dX0_term_3 ?_
  refine g_istore_n h dX0_term_4 (by decide) rfl ?_
  refine g_aload_n h dX0_term_5 rfl ?_
  refine gxB_day h (by omega) (by omega) dX0_term_6 lf_RX0_35 ?_
  refine g_iconst h dX0_term_9 rfl ?_
  refine g_iadd h dX0_term_10 ?_
  refine g_iload_n h dX0_term_11 rfl ?_
  refine g_max h lw_RX0_50 ⟨by omega, by omega⟩ ⟨by omega, by omega⟩ (by decide) dX0_term_12 (Nat.le_of_ble_eq_true rfl) ?_
  refine g_istore_n h dX0_term_15 (by decide) rfl ?_
  refine g_iload_n h dX0_term_16 rfl ?_
  refine g_bipush h dX0_term_17 (by decide) ?_
  refine g_iadd h dX0_term_19 ?_
  refine g_iconst h dX0_term_20 rfl ?_
  refine g_isub h dX0_term_21 ?_
  refine g_istore h dX0_term_22 (by decide) rfl ?_
  refine g_aload_n h dX0_term_24 rfl ?_
  refine gxB_kind h (by omega) (by omega) dX0_term_25 lf_RX0_25 ?_
  refine g_iconst h dX0_term_28 rfl ?_
  refine g_icmp_ne (tgt := 51) h dX0_term_29 (by decide) ⟨by omega, by omega⟩ ⟨by omega, by omega⟩ (fun c29 => ?_) (fun c29 => ?_)
  · exact J51 _ (fun i i0 i1 => by omega) (by omega) (by omega)
  · refine g_aload_n h dX0_term_32 rfl ?_
    refine gxB_day h (by omega) (by omega) dX0_term_33 lf_RX0_35 ?_
    refine g_bipush h dX0_term_36 (by decide) ?_
    refine g_aload_n h dX0_term_38 rfl ?_
    refine gxB_lasts h (by omega) (by omega) dX0_term_39 lf_RX0_47 ?_
    refine g_imul h dX0_term_42 ?_
    refine g_iadd h dX0_term_43 ?_
    refine g_iload h dX0_term_44 rfl ?_
    refine g_min h lw_RX0_56 ⟨by omega, by omega⟩ ⟨by omega, by omega⟩ (by decide) dX0_term_46 (Nat.le_of_ble_eq_true rfl) ?_
    refine g_istore h dX0_term_49 (by decide) rfl ?_
    exact J51 _ (fun i i0 i1 => by split <;> omega) (by split <;> omega) (by split <;> omega)
/-- who takes it away on a day: the bills up to j -/
def dfR (τ : mS) (P : Int → Bool) (f : Nat) (b d r : Int) : Bool := decide (τ 1 r = 2) && (decide (τ 4 r = b) && (qBf τ b r && qIn τ P f r d))
def dfD (τ : mS) (P : Int → Bool) (f : Nat) (b hf j i : Int) : Bool := qOn τ P b (55 * hf + i) && !(anyN (dfR τ P f b (55 * hf + i)) j.toNat)
theorem dfD_end (τ : mS) (P : Int → Bool) (f : Nat) (b hf i : Int) : dfD τ P f b hf (τ 0 4) i = qIn τ P (f + 1) b (55 * hf + i) := rfl
theorem dfD_skip {τ : mS} {P : Int → Bool} {f : Nat} {b hf j : Int} (j0 : 0 ≤ j) (h : ∀ d : Int, dfR τ P f b d j = false) : setOf 55 (dfD τ P f b hf (j + 1)) = setOf 55 (dfD τ P f b hf j) := by
  refine setOf_cong (fun i _ _ => ?_)
  unfold dfD
  rw [any_next _ j0, h, Bool.or_false]
theorem dfD_cut {τ : mS} {P : Int → Bool} {f : Nat} {b hf j : Int} (j0 : 0 ≤ j) (h : ∀ d : Int, dfR τ P f b d j = qIn τ P f j d) : lAnd (setOf 55 (dfD τ P f b hf j)) (lXor (setOf 55 (fun i => qIn τ P f j (55 * hf + i))) (-1)) = setOf 55 (dfD τ P f b hf (j + 1)) := by
  rw [lDif_set (by omega)]
  refine setOf_cong (fun i _ _ => ?_)
  unfold dfD
  rw [any_next _ j0, h]
  cases qOn τ P b (55 * hf + i) <;> cases anyN (dfR τ P f b (55 * hf + i)) j.toNat <;> cases qIn τ P f j (55 * hf + i) <;> rfl
theorem dfD_stop {τ : mS} {P : Int → Bool} {f : Nat} {b hf j n : Int} (j0 : 0 ≤ j) (jn : j ≤ n) (h : setOf 55 (dfD τ P f b hf j) = 0) : setOf 55 (dfD τ P f b hf n) = 0 := by
  refine set_zero.mpr (fun i i0 i1 => ?_)
  have g := set_zero.mp h i i0 i1
  unfold dfD at g ⊢
  cases q : qOn τ P b (55 * hf + i) with
  | false => rfl
  | true =>
    rw [q] at g
    have a : anyN (dfR τ P f b (55 * hf + i)) j.toNat = true := by
      cases e : anyN (dfR τ P f b (55 * hf + i)) j.toNat with
      | true => rfl
      | false => rw [e] at g; cases g
    obtain ⟨r, r0, r1, r2⟩ := anyN_iff.mp a
    rw [anyN_iff.mpr ⟨r, r0, by omega, r2⟩]
    rfl
set_option maxRecDepth 100000 in
set_option maxHeartbeats 2000000 in
theorem lp_X1_daysInForce {x : mX} {l : Launch} {D : va_G} {cs : mC} {ad : Int → Nat} {post : Int → mS → Prop} {n9 k9 : Nat} (h : mOk x l M_X1_daysInForce n9 (gX D cs ad)) (hq : rL x (gX D cs ad) post)  (hk9 : k9 < n9) (h09 : 0 < n9) {σ : mS} {P : Int → Bool} {f : Nat} {b hf dp : Int} (hw : qWf (vX σ)) (b0 : 0 ≤ b) (b1 : b < σ 1 2) (hrec : ∀ r : Int, 0 ≤ r → r < σ 1 2 → CL l (gX D cs ad) M_X1_daysInForce k9 [.ref (ad 1), mI r, mI hf, mI (dp + 1)] σ (fun z s => z = setOf 55 (fun i => qIn (vX σ) P f r (55 * hf + i)) ∧ s = σ)) (hp : post (setOf 55 (dfD (vX σ) P f b hf (σ 1 2))) σ) : ∀ (g : Nat) (j : Int), 0 ≤ j → j ≤ σ 1 2 → σ 1 2 - j < g → mG x 34 [(0, .ref (ad 1)), (1, mI b), (2, mI hf), (3, mI dp), (4, mL (setOf 55 (dfD (vX σ) P f b hf j))), (6, mI j)] [] σ := by
  have h6 : σ 1 2 ≤ 6 := hw.2.1
  intro g
  induction g with
  | zero => intro j a b c; omega
  | succ g ih =>
    intro j j0 j1 hg
    have i64D := setOf_64 (n := 55) (by omega) (dfD (vX σ) P f b hf j)
    refine g_iload h dX1_daysInForce_34 rfl ?_
    refine g_aload_n h dX1_daysInForce_36 rfl ?_
    refine gxC_count h dX1_daysInForce_37 lf_RX1_45 ?_
    refine g_icmp_ge (tgt := 113) h dX1_daysInForce_40 (by decide) ⟨by omega, by omega⟩ ⟨by omega, by omega⟩ (fun c40 => ?_) (fun c40 => ?_)
    · refine g_lload h dX1_daysInForce_113 rfl ?_
      refine g_lret h hq rfl dX1_daysInForce_115 (by rw [show σ 1 2 = j by omega] at hp; exact hp)
    · refine g_lload h dX1_daysInForce_43 rfl ?_
      refine g_lconst (v := 0) h dX1_daysInForce_45 (by decide) ?_
      refine g_lcmp h dX1_daysInForce_46 i64D ⟨by omega, by omega⟩ ?_
      refine g_if_eq (tgt := 113) h dX1_daysInForce_47 (by decide) (by unfold cmp3; split; exact ⟨by omega, by omega⟩; split <;> exact ⟨by omega, by omega⟩) (fun c47 => ?_) (fun c47 => ?_)
      · refine g_lload h dX1_daysInForce_113 rfl ?_
        refine g_lret h hq rfl dX1_daysInForce_115 (by have z0 := cmp3_eq.mp c47; rw [dfD_stop j0 j1 z0] at hp; rw [z0]; exact hp)
      · have hj := hw.2.2.2.2.2.2.2 j j0 (by omega)
        rw [vX_kind σ j0 (by omega), vX_names σ j0 (by omega)] at hj
        refine g_aload_n h dX1_daysInForce_50 rfl ?_
        refine gxC_bills h dX1_daysInForce_51 lf_RX1_20 ?_
        refine g_iload h dX1_daysInForce_54 rfl ?_
        refine lx_bills h dX1_daysInForce_56 (by omega) (by omega) ?_
        refine gxB_kind h (by omega) (by omega) dX1_daysInForce_57 lf_RX1_87 ?_
        refine g_iconst h dX1_daysInForce_60 rfl ?_
        refine g_icmp_ne (tgt := 107) h dX1_daysInForce_61 (by decide) ⟨by omega, by omega⟩ ⟨by omega, by omega⟩ (fun c61 => ?_) (fun c61 => ?_)
        · refine g_iinc h dX1_daysInForce_107 rfl (by decide) rfl ?_
          refine g_goto (tgt := 34) h dX1_daysInForce_110 (by decide) ?_
          refine g_lv (lv' := [(0, .ref (ad 1)), (1, mI b), (2, mI hf), (3, mI dp), (4, mL (setOf 55 (dfD (vX σ) P f b hf j))), (6, mI (j + 1))]) rfl ?_
          rw [← dfD_skip j0 (fun d => by unfold dfR; rw [vX_kind σ j0 (by omega), decide_eq_false c61]; rfl)]
          exact ih (j + 1) (by omega) (by omega) (by omega)
        · refine g_aload_n h dX1_daysInForce_64 rfl ?_
          refine gxC_bills h dX1_daysInForce_65 lf_RX1_20 ?_
          refine g_iload h dX1_daysInForce_68 rfl ?_
          refine lx_bills h dX1_daysInForce_70 (by omega) (by omega) ?_
          refine gxB_names h (by omega) (by omega) dX1_daysInForce_71 lf_RX1_90 ?_
          refine g_iload_n h dX1_daysInForce_74 rfl ?_
          refine g_icmp_ne (tgt := 107) h dX1_daysInForce_75 (by decide) ⟨by omega, by omega⟩ ⟨by omega, by omega⟩ (fun c75 => ?_) (fun c75 => ?_)
          · refine g_iinc h dX1_daysInForce_107 rfl (by decide) rfl ?_
            refine g_goto (tgt := 34) h dX1_daysInForce_110 (by decide) ?_
            refine g_lv (lv' := [(0, .ref (ad 1)), (1, mI b), (2, mI hf), (3, mI dp), (4, mL (setOf 55 (dfD (vX σ) P f b hf j))), (6, mI (j + 1))]) rfl ?_
            rw [← dfD_skip j0 (fun d => by unfold dfR; rw [vX_names σ j0 (by omega), decide_eq_false c75]; simp)]
            exact ih (j + 1) (by omega) (by omega) (by omega)
          · refine g_aload_n h dX1_daysInForce_78 rfl ?_
            refine g_iload h dX1_daysInForce_79 rfl ?_
            refine g_iload_n h dX1_daysInForce_81 rfl ?_
            refine g_vI h (c_X1_isLater _ _ _ hw j0 (by omega) b0 (by omega)) h09 lm_RX1_93 (rvC rfl) dX1_daysInForce_82 rfl (Nat.le_of_ble_eq_true rfl) (fun z82 s82 p82 => ?_)
            obtain ⟨e82, r82⟩ := p82; subst e82; replace r82 := Eq.symm r82; subst r82
            refine g_ifb_eq (tgt := 107) h dX1_daysInForce_85 (by decide)  (fun c85 => ?_) (fun c85 => ?_)
            · refine g_iinc h dX1_daysInForce_107 rfl (by decide) rfl ?_
              refine g_goto (tgt := 34) h dX1_daysInForce_110 (by decide) ?_
              refine g_lv (lv' := [(0, .ref (ad 1)), (1, mI b), (2, mI hf), (3, mI dp), (4, mL (setOf 55 (dfD (vX σ) P f b hf j))), (6, mI (j + 1))]) rfl ?_
              rw [← dfD_skip j0 (fun d => by unfold dfR; rw [show qBf (vX σ) b j = false by simpa using c85]; simp)]
              exact ih (j + 1) (by omega) (by omega) (by omega)
            · refine g_lload h dX1_daysInForce_88 rfl ?_
              refine g_aload_n h dX1_daysInForce_90 rfl ?_
              refine g_iload h dX1_daysInForce_91 rfl ?_
              refine g_iload_n h dX1_daysInForce_93 rfl ?_
              refine g_iload_n h dX1_daysInForce_94 rfl ?_
              refine g_iconst h dX1_daysInForce_95 rfl ?_
              refine g_iadd h dX1_daysInForce_96 ?_
              refine g_vL h (hrec j j0 (by omega)) hk9 lm_RX1_96 (rvC rfl) dX1_daysInForce_97 rfl (Nat.le_of_ble_eq_true rfl) (fun z97 s97 p97 => ?_)
              obtain ⟨e97, r97⟩ := p97; subst e97; replace r97 := Eq.symm r97; subst r97
              refine g_ldc2 (v := -1) h dX1_daysInForce_100 lc_RX1_100 (by decide) ?_
              refine g_lxor h dX1_daysInForce_103 ?_
              refine g_land h dX1_daysInForce_104 ?_
              refine g_lstore h dX1_daysInForce_105 (by decide) rfl ?_
              refine g_iinc h dX1_daysInForce_107 rfl (by decide) rfl ?_
              refine g_goto (tgt := 34) h dX1_daysInForce_110 (by decide) ?_
              refine g_lv (lv' := [(0, .ref (ad 1)), (1, mI b), (2, mI hf), (3, mI dp), (4, mL (lAnd (setOf 55 (dfD (vX σ) P f b hf j)) (lXor (setOf 55 (fun i => qIn (vX σ) P f j (55 * hf + i))) (-1)))), (6, mI (j + 1))]) rfl ?_
              rw [dfD_cut j0 (fun d => by unfold dfR; rw [vX_kind σ j0 (by omega), vX_names σ j0 (by omega), c61, c75, c85]; simp)]
              exact ih (j + 1) (by omega) (by omega) (by omega)
set_option maxRecDepth 100000 in
set_option maxHeartbeats 2000000 in
theorem c_dif {l : Launch} {D : va_G} {cs : mC} {ad : Int → Nat} (σ : mS) (P : Int → Bool) (hf : Int) (hw : qWf (vX σ)) (hP : σ 1 4 = setOf 6 P) (f0 : 0 ≤ hf) (f1 : hf ≤ 1) : ∀ (f : Nat) (b dp : Int), 0 ≤ b → b < σ 1 2 → dp = 7 - (f : Int) → f ≤ 6 → CL l (gX D cs ad) M_X1_daysInForce (f + 2) [.ref (ad 1), mI b, mI hf, mI dp] σ (fun z s => z = setOf 55 (fun i => qIn (vX σ) P f b (55 * hf + i)) ∧ s = σ) := by
  have h6 : σ 1 2 ≤ 6 := hw.2.1
  intro f
  induction f with
  | zero =>
    intro b dp b0 b1 hd hf6
    refine CL.of (by decide) (Nat.le_of_ble_eq_true rfl) (fun x h hq => ?_)
    show mG x 0 [(0, .ref (ad 1)), (1, mI b), (2, mI hf), (3, mI dp)] [] σ
    refine g_aload_n h dX1_daysInForce_0 rfl ?_
    refine gxC_passes h dX1_daysInForce_1 lf_RX1_69 ?_
    refine g_iload_n h dX1_daysInForce_4 rfl ?_
    refine g_ishr h dX1_daysInForce_5 ?_
    refine g_iconst h dX1_daysInForce_6 rfl ?_
    refine g_iand h dX1_daysInForce_7 ?_
    refine g_val (b := bl (P b = true)) (by rw [hP]; exact set_rd (by omega) P b0 (by omega)) ?_
    refine g_ifb_eq (tgt := 17) h dX1_daysInForce_8 (by decide)  (fun c8 => ?_) (fun c8 => ?_)
    · refine g_lconst (v := 0) h dX1_daysInForce_17 (by decide) ?_
      refine g_lret h hq rfl dX1_daysInForce_18 ⟨(set_zero.mpr (fun i _ _ => rfl)).symm, rfl⟩
    · refine g_iload_n h dX1_daysInForce_11 rfl ?_
      refine g_bipush h dX1_daysInForce_12 (by decide) ?_
      refine g_icmp_le (tgt := 19) h dX1_daysInForce_14 (by decide) ⟨by omega, by omega⟩ ⟨by omega, by omega⟩ (fun c14 => ?_) (fun c14 => ?_)
      · exact absurd c14 (by omega)
      · refine g_lconst (v := 0) h dX1_daysInForce_17 (by decide) ?_
        refine g_lret h hq rfl dX1_daysInForce_18 ⟨(set_zero.mpr (fun i _ _ => rfl)).symm, rfl⟩
  | succ f ih =>
    intro b dp b0 b1 hd hf6
    refine CL.of (by decide) (Nat.le_of_ble_eq_true rfl) (fun x h hq => ?_)
    show mG x 0 [(0, .ref (ad 1)), (1, mI b), (2, mI hf), (3, mI dp)] [] σ
    refine g_aload_n h dX1_daysInForce_0 rfl ?_
    refine gxC_passes h dX1_daysInForce_1 lf_RX1_69 ?_
    refine g_iload_n h dX1_daysInForce_4 rfl ?_
    refine g_ishr h dX1_daysInForce_5 ?_
    refine g_iconst h dX1_daysInForce_6 rfl ?_
    refine g_iand h dX1_daysInForce_7 ?_
    refine g_val (b := bl (P b = true)) (by rw [hP]; exact set_rd (by omega) P b0 (by omega)) ?_
    refine g_ifb_eq (tgt := 17) h dX1_daysInForce_8 (by decide)  (fun c8 => ?_) (fun c8 => ?_)
    · refine g_lconst (v := 0) h dX1_daysInForce_17 (by decide) ?_
      refine g_lret h hq rfl dX1_daysInForce_18 ⟨(set_zero.mpr (fun i _ _ => by unfold qIn qOn; rw [show P b = false by simpa using c8]; rfl)).symm, rfl⟩
    · refine g_iload_n h dX1_daysInForce_11 rfl ?_
      refine g_bipush h dX1_daysInForce_12 (by decide) ?_
      refine g_icmp_le (tgt := 19) h dX1_daysInForce_14 (by decide) ⟨by omega, by omega⟩ ⟨by omega, by omega⟩ (fun c14 => ?_) (fun c14 => ?_)
      · refine g_aload_n h dX1_daysInForce_19 rfl ?_
        refine gxC_bills h dX1_daysInForce_20 lf_RX1_20 ?_
        refine g_iload_n h dX1_daysInForce_23 rfl ?_
        refine lx_bills h dX1_daysInForce_24 (by omega) (by omega) ?_
        refine g_iload_n h dX1_daysInForce_25 rfl ?_
        have hb := hw.2.2.2.2.2.2.2 b b0 (by omega)
        rw [vX_kind σ b0 (by omega), vX_day σ b0 (by omega), vX_lasts σ b0 (by omega)] at hb
        refine g_vL h (c_X0_term _ _ _ (by omega) (by omega) f0 f1 (by omega) (by omega) (by omega) (by omega) (by omega) (by omega)) (by omega) lm_RX1_83 (rvB rfl (by omega) (by omega)) dX1_daysInForce_26 rfl (Nat.le_of_ble_eq_true rfl) (fun z26 s26 p26 => ?_)
        obtain ⟨e26, r26⟩ := p26; subst e26; replace r26 := Eq.symm r26; subst r26
        refine g_vall (b := setOf 55 (dfD (vX σ) P f b hf 0)) (setOf_cong (fun i _ _ => ?_)) ?_
        · unfold dfD qOn
          rw [vX_kind σ b0 (by omega), vX_day σ b0 (by omega), vX_lasts σ b0 (by omega), show P b = true by simpa using c8]
          show _ = (_ && !false)
          rw [Bool.not_false, Bool.and_true, Bool.true_and]
        refine g_lstore h dX1_daysInForce_29 (by decide) rfl ?_
        refine g_iconst h dX1_daysInForce_31 rfl ?_
        refine g_istore h dX1_daysInForce_32 (by decide) rfl ?_
        exact lp_X1_daysInForce h hq (k9 := f + 2) (by omega) (by omega) hw b0 b1 (fun r r0 r1 => ih r (dp + 1) r0 r1 (by omega) (by omega)) ⟨rfl, rfl⟩ 7 0 (by omega) (by omega) (by omega)
      · omega
set_option maxRecDepth 100000 in
set_option maxHeartbeats 2000000 in
theorem c_X1_isInForce {l : Launch} {D : va_G} {cs : mC} {ad : Int → Nat} (σ : mS) (P : Int → Bool) (b d : Int) (hw : qWf (vX σ)) (hP : σ 1 4 = setOf 6 P) (b0 : 0 ≤ b) (b1 : b < σ 1 2) (d0 : 0 ≤ d) (d1 : d ≤ 109) : CI l (gX D cs ad) M_X1_isInForce 9 [.ref (ad 1), mI b, mI d] σ (fun z s => z = bl (qIn (vX σ) P 6 b d = true) ∧ s = σ) := by
  refine CI.of (by decide) (Nat.le_of_ble_eq_true rfl) (fun x h hq => ?_)
  show mG x 0 [(0, .ref (ad 1)), (1, mI b), (2, mI d)] [] σ
  refine g_aload_n h dX1_isInForce_0 rfl ?_
  refine g_iload_n h dX1_isInForce_1 rfl ?_
  refine g_iload_n h dX1_isInForce_2 rfl ?_
  refine g_bipush h dX1_isInForce_3 (by decide) ?_
  refine g_idiv h dX1_isInForce_5 (by omega) (by omega) (by omega) (by omega) ?_
  refine g_iconst h dX1_isInForce_6 rfl ?_
  refine g_vL h (c_dif σ P (d / 55) hw hP (by omega) (by omega) 6 b 1 b0 b1 (by omega) (by omega)) (by decide) lm_RX1_96 (rvC rfl) dX1_isInForce_7 rfl (Nat.le_of_ble_eq_true rfl) (fun z7 s7 p7 => ?_)
  obtain ⟨e7, r7⟩ := p7; subst e7; replace r7 := Eq.symm r7; subst r7
  refine g_iload_n h dX1_isInForce_10 rfl ?_
  refine g_bipush h dX1_isInForce_11 (by decide) ?_
  refine g_irem h dX1_isInForce_13 (by omega) (by omega) (by omega) (by omega) ?_
  refine g_lshr h dX1_isInForce_14 ?_
  refine g_lconst (v := 1) h dX1_isInForce_15 (by decide) ?_
  refine g_land h dX1_isInForce_16 ?_
  refine g_vall (b := bl (qIn (vX σ) P 6 b d = true)) (by rw [lSet_rd (by omega) _ (by omega) (by omega), show 55 * (d / 55) + d % 55 = d by omega]) ?_
  refine g_lconst (v := 0) h dX1_isInForce_17 (by decide) ?_
  refine g_lcmp h dX1_isInForce_18 (by rcases bl_01 (qIn (vX σ) P 6 b d = true) with q | q <;> rw [q] <;> exact ⟨by omega, by omega⟩) ⟨by omega, by omega⟩ ?_
  refine g_if_eq (tgt := 26) h dX1_isInForce_19 (by decide) (by unfold cmp3; split; exact ⟨by omega, by omega⟩; split <;> exact ⟨by omega, by omega⟩) (fun c19 => ?_) (fun c19 => ?_)
  · refine g_iconst h dX1_isInForce_26 rfl ?_
    refine g_zret h hq rfl dX1_isInForce_27 (by first | exact Or.inl rfl | exact Or.inr rfl) ⟨(cmp3_eq.mp c19).symm, rfl⟩
  · refine g_iconst h dX1_isInForce_22 rfl ?_
    refine g_goto (tgt := 27) h dX1_isInForce_23 (by decide) ?_
    refine g_zret h hq rfl dX1_isInForce_27 (by first | exact Or.inl rfl | exact Or.inr rfl) ⟨by rcases bl_01 (qIn (vX σ) P 6 b d = true) with q | q; exact absurd (cmp3_eq.mpr q) c19; exact q.symm, rfl⟩
set_option maxRecDepth 100000 in
set_option maxHeartbeats 2000000 in
theorem lp_X1_allInForce {x : mX} {l : Launch} {D : va_G} {cs : mC} {ad : Int → Nat} {post : Int → mS → Prop} (h : mOk x l M_X1_allInForce 10 (gX D cs ad)) (hq : rI x (gX D cs ad) post) {σ : mS} {P : Int → Bool} {d : Int} (hw : qWf (vX σ)) (hP : σ 1 4 = setOf 6 P) (d0 : 0 ≤ d) (d1 : d ≤ 109) (hp : post (setOf (σ 1 2).toNat (fun b => qIn (vX σ) P 6 b d)) σ) : ∀ (g : Nat) (j : Int), 0 ≤ j → j ≤ σ 1 2 → σ 1 2 - j < g → mG x 4 [(0, .ref (ad 1)), (1, mI d), (2, mI (setOf j.toNat (fun b => qIn (vX σ) P 6 b d))), (3, mI j)] [] σ := by
  have h6 : σ 1 2 ≤ 6 := hw.2.1
  intro g
  induction g with
  | zero => intro j a b c; omega
  | succ g ih =>
    intro j j0 j1 hg
    refine g_iload_n h dX1_allInForce_4 rfl ?_
    refine g_aload_n h dX1_allInForce_5 rfl ?_
    refine gxC_count h dX1_allInForce_6 lf_RX1_45 ?_
    refine g_icmp_ge (tgt := 33) h dX1_allInForce_9 (by decide) ⟨by omega, by omega⟩ ⟨by omega, by omega⟩ (fun c9 => ?_) (fun c9 => ?_)
    · refine g_iload_n h dX1_allInForce_33 rfl ?_
      refine g_iret h hq rfl dX1_allInForce_34 (by rw [show (σ 1 2).toNat = j.toNat by omega] at hp; exact hp)
    · refine g_aload_n h dX1_allInForce_12 rfl ?_
      refine g_iload_n h dX1_allInForce_13 rfl ?_
      refine g_iload_n h dX1_allInForce_14 rfl ?_
      refine g_vI h (c_X1_isInForce _ P _ _ hw hP j0 (by omega) d0 d1) (by decide) lm_RX1_79 (rvC rfl) dX1_allInForce_15 rfl (Nat.le_of_ble_eq_true rfl) (fun z15 s15 p15 => ?_)
      obtain ⟨e15, r15⟩ := p15; subst e15; replace r15 := Eq.symm r15; subst r15
      refine g_ifb_eq (tgt := 27) h dX1_allInForce_18 (by decide)  (fun c18 => ?_) (fun c18 => ?_)
      · refine g_iinc h dX1_allInForce_27 rfl (by decide) rfl ?_
        refine g_goto (tgt := 4) h dX1_allInForce_30 (by decide) ?_
        refine g_lv (lv' := [(0, .ref (ad 1)), (1, mI d), (2, mI (setOf j.toNat (fun b => qIn (vX σ) P 6 b d))), (3, mI (j + 1))]) rfl ?_
        rw [← set_skip (fun b => qIn (vX σ) P 6 b d) j0 (by simpa using c18)]
        exact ih (j + 1) (by omega) (by omega) (by omega)
      · refine g_iload_n h dX1_allInForce_21 rfl ?_
        refine g_iconst h dX1_allInForce_22 rfl ?_
        refine g_iload_n h dX1_allInForce_23 rfl ?_
        refine g_ishl h dX1_allInForce_24 ?_
        refine g_ior h dX1_allInForce_25 ?_
        refine g_istore_n h dX1_allInForce_26 (by decide) rfl ?_
        refine g_iinc h dX1_allInForce_27 rfl (by decide) rfl ?_
        refine g_goto (tgt := 4) h dX1_allInForce_30 (by decide) ?_
        refine g_lv (lv' := [(0, .ref (ad 1)), (1, mI d), (2, mI (iOr (setOf j.toNat (fun b => qIn (vX σ) P 6 b d)) (iShl 1 j))), (3, mI (j + 1))]) rfl ?_
        rw [set_addN (fun b => qIn (vX σ) P 6 b d) j0 (by omega) c18]
        exact ih (j + 1) (by omega) (by omega) (by omega)
set_option maxRecDepth 100000 in
set_option maxHeartbeats 2000000 in
theorem c_X1_allInForce {l : Launch} {D : va_G} {cs : mC} {ad : Int → Nat} (σ : mS) (P : Int → Bool) (d : Int) (hw : qWf (vX σ)) (hP : σ 1 4 = setOf 6 P) (d0 : 0 ≤ d) (d1 : d ≤ 109) : CI l (gX D cs ad) M_X1_allInForce 10 [.ref (ad 1), mI d] σ (fun z s => z = setOf (σ 1 2).toNat (fun b => qIn (vX σ) P 6 b d) ∧ s = σ) := by
  refine CI.of (by decide) (Nat.le_of_ble_eq_true rfl) (fun x h hq => ?_)
  show mG x 0 [(0, .ref (ad 1)), (1, mI d)] [] σ
  refine g_iconst h dX1_allInForce_0 rfl ?_
  refine g_istore_n h dX1_allInForce_1 (by decide) rfl ?_
  refine g_iconst h dX1_allInForce_2 rfl ?_
  refine g_istore_n h dX1_allInForce_3 (by decide) rfl ?_
  exact lp_X1_allInForce h hq hw hP d0 d1 ⟨rfl, rfl⟩ 7 0 (by omega) hw.1 (by have : σ 1 2 ≤ 6 := hw.2.1; omega)
