/-- laid: the order, and what passes -/
def mLd (σ s : mS) (Q : Int → Bool) : Prop := mSc σ s ∧ qSr (vM σ) (σ 0 9) (s 11) ∧ ∀ b : Int, 0 ≤ b → b < σ 0 9 → s 12 b = bl (Q b = true)
theorem qPk_of {τ : mS} {o : Int → Int} {st : Int → Bool} : ∀ (k : Nat) {b : Int}, qPk τ o st k b = true → ∃ i : Int, 0 ≤ i ∧ i < k ∧ b = o i
  | 0, b, h => by cases h
  | k + 1, b, h => by
    have h1 : (qPk τ o st k b || (decide (b = o (k : Int)) && qMay τ st (qPk τ o st k) b)) = true := h
    rw [Bool.or_eq_true] at h1
    rcases h1 with h1 | h1
    · obtain ⟨i, i0, i1, e⟩ := qPk_of k h1
      exact ⟨i, i0, by omega, e⟩
    · rw [Bool.and_eq_true] at h1
      exact ⟨(k : Int), by omega, by omega, of_decide_eq_true h1.1⟩
theorem qPk_at {τ : mS} {o : Int → Int} {st : Int → Bool} {n : Int} (h : qSr τ n o) (k : Nat) (hk : (k : Int) < n) : qPk τ o st (k + 1) (o (k : Int)) = qMay τ st (qPk τ o st k) (o (k : Int)) := by
  show (qPk τ o st k (o k) || (decide (o (k : Int) = o (k : Int)) && qMay τ st (qPk τ o st k) (o k))) = _
  have e : qPk τ o st k (o (k : Int)) = false := by
    cases hq : qPk τ o st k (o (k : Int)) with
    | false => rfl
    | true =>
      obtain ⟨i, i0, i1, e⟩ := qPk_of k hq
      have := qSr_inj h (by omega) hk i0 (by omega) e
      omega
  rw [e]
  simp
theorem qPk_ne {τ : mS} {o : Int → Int} {st : Int → Bool} (k : Nat) {b : Int} (hb : ¬ b = o (k : Int)) : qPk τ o st (k + 1) b = qPk τ o st k b := by
  show (qPk τ o st k b || (decide (b = o (k : Int)) && qMay τ st (qPk τ o st k) b)) = _
  simp [hb]
theorem qFs_rng {τ : mS} (h : qWf τ) (hn : 0 < τ 0 4) (dk : Int → Bool) (b : Int) : i32 (qFs τ dk b) := by
  obtain ⟨g0, g1, g2, g3⟩ := fstN_sp (fun m => qWt τ b m && !dk m) 11
  have g := qMd_rng h hn g0 (show fstN (fun m => qWt τ b m && !dk m) 11 ≤ 100 by omega)
  unfold qFs
  by_cases hl : fstN (fun m => qWt τ b m && !dk m) 11 < 11
  · rw [if_pos hl]; exact ⟨by omega, by omega⟩
  · rw [if_neg hl]; exact ⟨by omega, by omega⟩
set_option maxRecDepth 100000 in
set_option maxHeartbeats 2000000 in
theorem lp2_X8_layPassing {x : mX} {l : Launch} {D : va_G} {cs : mC} {ad : Int → Nat} {post : mS → Prop} (h : mOk x l M_X8_layPassing 3 (gM D cs ad)) (hq : rV x (gM D cs ad) post) {σ : mS} (hw : mWf σ) {o : Int → Int} (ho : qSr (vM σ) (σ 0 9) o) (hp : ∀ s : mS, mSc σ s → (∀ i : Int, 0 ≤ i → i < σ 0 9 → s 11 i = o i) → (∀ b : Int, 0 ≤ b → b < σ 0 9 → s 12 b = bl (qPk (vM σ) o (stM σ) (σ 0 9).toNat b = true)) → post s) : ∀ (f : Nat) (k : Int) (s : mS), 0 ≤ k → k ≤ σ 0 9 → σ 0 9 - k < f → mSc σ s → (∀ i : Int, 0 ≤ i → i < σ 0 9 → s 11 i = o i) → (∀ b : Int, 0 ≤ b → b < σ 0 9 → s 12 b = bl (qPk (vM σ) o (stM σ) k.toNat b = true)) → mG x 29 [(0, .ref (ad 0)), (1, mI k)] [] s := by
  intro f
  have hn0 : 0 ≤ σ 0 9 := hw.1.1
  have hn6 : σ 0 9 ≤ 6 := hw.1.2.1
  induction f with
  | zero => intro k s h0 h1 h2; omega
  | succ f ih =>
    intro k s h0 h1 h2 hs hso2 hP
    have e9 : s 0 9 = σ 0 9 := by rw [hs 0 (by omega) (by omega) (by omega)]
    refine g_iload_n h dX8_layPassing_29 rfl ?_
    refine g_aload_n h dX8_layPassing_30 rfl ?_
    refine gm_bills h dX8_layPassing_31 lf_RX8_72 ?_
    refine g_icmp_ge (tgt := 139) h dX8_layPassing_34 (by decide) (by first | exact hR _ _ | exact ⟨by omega, by omega⟩) (by first | exact hR _ _ | exact ⟨by omega, by omega⟩) (fun c34 => ?_) (fun c34 => ?_)
    · refine g_vret h hq rfl dX8_layPassing_139 (hp s hs hso2 (by rw [show (σ 0 9).toNat = k.toNat by omega]; exact hP))
    · have hb := ho.1 k h0 (by omega)
      have hso : qSr (vM σ) (σ 0 9) (s 11) := ⟨fun i i0 i1 => by rw [hso2 i i0 i1]; exact ho.1 i i0 i1, fun i j i0 ij j1 => by rw [hso2 i i0 (by omega), hso2 j (by omega) j1]; exact ho.2.1 i j i0 ij j1, fun b b0 b1 => by
        obtain ⟨i, i0, i1, e⟩ := ho.2.2 b b0 b1
        exact ⟨i, i0, i1, by rw [hso2 i i0 i1]; exact e⟩⟩
      have J126 : ∀ (v : Int) (s2 : mS), mSc σ s2 → (∀ i : Int, 0 ≤ i → i < σ 0 9 → s2 11 i = o i) → (∀ b : Int, 0 ≤ b → b < σ 0 9 → s2 12 b = bl (qPk (vM σ) o (stM σ) k.toNat b = true)) → v = bl (qMay (vM σ) (stM σ) (qPk (vM σ) o (stM σ) k.toNat) (o k) = true) → mG x 126 [(0, .ref (ad 0)), (1, mI k), (2, mI (o k)), (3, mI v)] [] s2 := by
        intro v s2 hs2 ho2 hP2 hv
        have hv01 := bl_01 (qMay (vM σ) (stM σ) (qPk (vM σ) o (stM σ) k.toNat) (o k) = true)
        refine g_aload_n h dX8_layPassing_126 rfl ?_
        refine gm_doesPass h dX8_layPassing_127 lf_RX8_48 ?_
        refine g_iload_n h dX8_layPassing_130 rfl ?_
        refine g_iload_n h dX8_layPassing_131 rfl ?_
        refine sm_doesPass h dX8_layPassing_132 (by omega) (by omega) (by omega) ?_
        refine g_iinc h dX8_layPassing_133 rfl (by decide) rfl ?_
        refine g_goto (tgt := 29) h dX8_layPassing_136 (by decide) ?_
        refine g_lv (lv' := [(0, .ref (ad 0)), (1, mI (k + 1))]) rfl ?_
        have hkn : ((k.toNat : Nat) : Int) = k := Int.toNat_of_nonneg h0
        refine ih (k + 1) (mUp s2 12 (o k) v) (by omega) (by omega) (by omega) (hs2.tr (mSc.up s2 _ _ (by omega))) (fun i i0 i1 => by rw [mUp_ne s2 v (Or.inl (by omega))]; exact ho2 i i0 i1) (fun b b0 b1 => ?_)
        rw [show (k + 1).toNat = k.toNat + 1 by omega]
        by_cases q : b = o k
        · rw [q, mUp_eq, hv]
          have := qPk_at (st := stM σ) ho k.toNat (by omega)
          rw [hkn] at this
          rw [this]
        · rw [mUp_ne s2 v (Or.inr q), hP2 b b0 b1, qPk_ne k.toNat (by rw [hkn]; exact q)]
      have J67 : ∀ (v : Int), v = bl (stM σ (o k) = false) → mG x 67 [(0, .ref (ad 0)), (1, mI k), (2, mI (o k))] [mI v] s := by
        intro v hv
        refine g_istore_n h dX8_layPassing_67 (by decide) rfl ?_
        refine g_iload_n h dX8_layPassing_68 rfl ?_
        refine g_val hv ?_
        refine g_ifb_eq (tgt := 126) h dX8_layPassing_69 (by decide)  (fun c69 => ?_) (fun c69 => ?_)
        · exact J126 _ s hs hso2 hP (by
            rw [hv, ← bl0 c69]
            exact bl0 (by unfold qMay; intro z; simp only [Bool.and_eq_true, Bool.not_eq_true'] at z; exact c69 z.1))
        · have e6 : s 6 = σ 6 := hs 6 (by omega) (by omega) (by omega)
          have e5 : s 5 = σ 5 := hs 5 (by omega) (by omega) (by omega)
          have e9 : s 0 9 = σ 0 9 := by rw [hs 0 (by omega) (by omega) (by omega)]
          have hbd := hw.1.2.2.2.2.2.2.2 (o k) hb.1 (by omega)
          have v3 := vM_needs σ hb.1 (show o k < 6 by omega)
          have v2 := vM_day σ hb.1 (show o k < 6 by omega)
          refine g_aload_n h dX8_layPassing_72 rfl ?_
          refine gm_needs h dX8_layPassing_73 lf_RX8_25 ?_
          refine g_iload_n h dX8_layPassing_76 rfl ?_
          refine lm_needs h dX8_layPassing_77 (by omega) (by omega) ?_
          refine g_bipush h dX8_layPassing_78 (by decide) ?_
          refine g_val2 (b := σ 6 (o k)) (by rw [e6]) ?_
          refine g_icmp_eq (tgt := 126) h dX8_layPassing_80 (by decide) ⟨by omega, by omega⟩ ⟨by omega, by omega⟩ (fun c80 => ?_) (fun c80 => ?_)
          · exact J126 _ s hs hso2 hP (by
              rw [hv, ← bl1 c69]
              exact bl1 (by unfold qMay; rw [v3, c69]; simp [c80]))
          · refine g_aload_n h dX8_layPassing_83 rfl ?_
            refine g_aload_n h dX8_layPassing_84 rfl ?_
            refine gm_dayOf h dX8_layPassing_85 lf_RX8_22 ?_
            refine g_iload_n h dX8_layPassing_88 rfl ?_
            refine lm_dayOf h dX8_layPassing_89 (by omega) (by omega) ?_
            refine g_val (b := σ 5 (o k)) (by rw [e5]) ?_
            refine g_vV h (c_X8_layForce s _ (by rw [hs.view]; exact hw.1) (by rw [hs.view, e9]; exact hso) (fun b b0 b1 => by rw [hP b b0 (by omega)]; exact bl_01 _) (by omega) (by omega)) (by decide) lm_RX8_174 (rvM rfl) dX8_layPassing_90 rfl (Nat.le_of_ble_eq_true rfl) (fun s90 p90 => ?_)
            obtain ⟨hs9, hF⟩ := p90
            rw [hs.view, e9] at hF
            have hsc9 : mSc σ s90 := hs.tr (hs9.sc (by omega))
            have f6 : s90 6 = σ 6 := hsc9 6 (by omega) (by omega) (by omega)
            have f9 : s90 0 9 = σ 0 9 := by rw [hsc9 0 (by omega) (by omega) (by omega)]
            have hcg := qIn_cong (τ := vM σ) (P := fun j => decide (s 12 j = 1)) (Q := qPk (vM σ) o (stM σ) k.toNat) (fun b b0 b1 => by
              have hb9 := hP b b0 b1
              cases hz : qPk (vM σ) o (stM σ) k.toNat b with
              | true => rw [hz] at hb9; rw [hb9, ← bl1 rfl]; rfl
              | false => rw [hz] at hb9; rw [hb9, ← bl0 (by decide)]; rfl) (σ 5 (o k)) 6
            refine g_aload_n h dX8_layPassing_93 rfl ?_
            refine g_aload_n h dX8_layPassing_94 rfl ?_
            refine gm_needs h dX8_layPassing_95 lf_RX8_25 ?_
            refine g_iload_n h dX8_layPassing_98 rfl ?_
            refine lm_needs h dX8_layPassing_99 (by omega) (by omega) ?_
            refine g_val (b := σ 6 (o k)) (by rw [f6]) ?_
            refine g_vI h (c_X8_isBill _ _ ⟨by omega, by omega⟩ ⟨by omega, by omega⟩) (by decide) lm_RX8_146 (rvM rfl) dX8_layPassing_100 rfl (Nat.le_of_ble_eq_true rfl) (fun z100 s100 p100 => ?_)
            obtain ⟨e100, r100⟩ := p100; rw [f9] at e100; subst e100; replace r100 := Eq.symm r100; subst r100
            refine g_ifb_eq (tgt := 124) h dX8_layPassing_103 (by decide)  (fun c103 => ?_) (fun c103 => ?_)
            · refine g_iconst h dX8_layPassing_124 rfl ?_
            
              refine g_istore_n h dX8_layPassing_125 (by decide) rfl ?_
              exact J126 _ s90 hsc9 (fun i i0 i1 => by rw [hs9 11 (by omega)]; exact hso2 i i0 i1) (fun b b0 b1 => by rw [hs9 12 (by omega)]; exact hP b b0 b1) (bl0 (by
                unfold qMay; rw [v3, v2]
                intro z
                simp only [Bool.and_eq_true, Bool.or_eq_true, decide_eq_true_eq] at z
                rcases z.2 with z | z
                · omega
                · exact c103 ⟨by omega, z.1⟩))
            · refine g_aload_n h dX8_layPassing_106 rfl ?_
              refine gm_inForce h dX8_layPassing_107 lf_RX8_51 ?_
              refine g_aload_n h dX8_layPassing_110 rfl ?_
              refine gm_needs h dX8_layPassing_111 lf_RX8_25 ?_
              refine g_iload_n h dX8_layPassing_114 rfl ?_
              refine lm_needs h dX8_layPassing_115 (by omega) (by omega) ?_
              refine g_val (b := σ 6 (o k)) (by rw [f6]) ?_
              refine lm_inForce h dX8_layPassing_116 c103.1 (by omega) ?_
              refine g_val (hF _ c103.1 c103.2) ?_
              refine g_ifb_eq (tgt := 124) h dX8_layPassing_117 (by decide)  (fun c117 => ?_) (fun c117 => ?_)
              · refine g_iconst h dX8_layPassing_124 rfl ?_
              
                refine g_istore_n h dX8_layPassing_125 (by decide) rfl ?_
                exact J126 _ s90 hsc9 (fun i i0 i1 => by rw [hs9 11 (by omega)]; exact hso2 i i0 i1) (fun b b0 b1 => by rw [hs9 12 (by omega)]; exact hP b b0 b1) (bl0 (by
                  unfold qMay; rw [v3, v2]
                  intro z
                  simp only [Bool.and_eq_true, Bool.or_eq_true, decide_eq_true_eq] at z
                  rcases z.2 with z | z
                  · omega
                  · exact c117 ((hcg (σ 6 (o k)) c103.1 c103.2).trans z.2)))
              · refine g_iconst h dX8_layPassing_120 rfl ?_
                refine g_goto (tgt := 125) h dX8_layPassing_121 (by decide) ?_
              
                refine g_istore_n h dX8_layPassing_125 (by decide) rfl ?_
                exact J126 _ s90 hsc9 (fun i i0 i1 => by rw [hs9 11 (by omega)]; exact hso2 i i0 i1) (fun b b0 b1 => by rw [hs9 12 (by omega)]; exact hP b b0 b1) (bl1 (by
                  have q := hcg (σ 6 (o k)) c103.1 c103.2
                  have c2 : decide (σ 6 (o k) < vM σ 0 4) = true := decide_eq_true c103.2
                  unfold qMay; rw [v3, v2, ← q, c69, c117, c2]; simp))
      refine g_aload_n h dX8_layPassing_37 rfl ?_
      refine gm_order h dX8_layPassing_38 lf_RX8_45 ?_
      refine g_iload_n h dX8_layPassing_41 rfl ?_
      refine lm_order h dX8_layPassing_42 (by omega) (by omega) ?_
      refine g_val (hso2 k h0 (by omega)) ?_
      refine g_istore_n h dX8_layPassing_43 (by decide) rfl ?_
      refine g_iload_n h dX8_layPassing_44 rfl ?_
      refine g_aload_n h dX8_layPassing_45 rfl ?_
      refine gm_struckToo h dX8_layPassing_46 lf_RX8_38 ?_
      have e19 : s 0 19 = σ 0 19 := by rw [hs 0 (by omega) (by omega) (by omega)]
      refine g_val e19 ?_
      refine g_icmp_eq (tgt := 66) h dX8_layPassing_49 (by decide) ⟨by omega, by omega⟩ hw.2.2.2.2.2.1 (fun c49 => ?_) (fun c49 => ?_)
      · refine g_iconst h dX8_layPassing_66 rfl ?_
        exact J67 _ (by first | exact bl1 (by unfold stM; rw [hfs.mp (by assumption)]; simp; omega) | exact bl0 (by unfold stM; first | (intro z; simp only [Bool.or_eq_false_iff] at z; first | exact absurd (hfs.mpr z.2) (by assumption) | (have := z.1; simp at this; omega))))
      · refine g_aload_n h dX8_layPassing_52 rfl ?_
        refine g_iload_n h dX8_layPassing_53 rfl ?_
        refine g_vI h (c_X8_struckOn _ _ (hs.wf hw) (by omega) (by omega)) (by decide) lm_RX8_165 (rvM rfl) dX8_layPassing_54 rfl (Nat.le_of_ble_eq_true rfl) (fun z54 s54 p54 => ?_)
        obtain ⟨e54, r54⟩ := p54; rw [hs.view, hs.dk] at e54; subst e54; replace r54 := Eq.symm r54; subst r54
        have hfs := qFs_st hw.1 hw.2.1 (dk := dkM σ) (b := o k)
        refine g_bipush h dX8_layPassing_57 (by decide) ?_
        refine g_icmp_ne (tgt := 66) h dX8_layPassing_59 (by decide) (qFs_rng hw.1 hw.2.1 _ _) ⟨by omega, by omega⟩ (fun c59 => ?_) (fun c59 => ?_)
        · refine g_iconst h dX8_layPassing_66 rfl ?_
          exact J67 _ (by first | exact bl1 (by unfold stM; rw [hfs.mp (by assumption)]; simp; omega) | exact bl0 (by unfold stM; first | (intro z; simp only [Bool.or_eq_false_iff] at z; first | exact absurd (hfs.mpr z.2) (by assumption) | (have := z.1; simp at this; omega))))
        · refine g_iconst h dX8_layPassing_62 rfl ?_
          refine g_goto (tgt := 67) h dX8_layPassing_63 (by decide) ?_
          exact J67 _ (by first | exact bl1 (by unfold stM; rw [hfs.mp (by assumption)]; simp; omega) | exact bl0 (by unfold stM; first | (intro z; simp only [Bool.or_eq_false_iff] at z; first | exact absurd (hfs.mpr z.2) (by assumption) | (have := z.1; simp at this; omega))))
set_option maxRecDepth 100000 in
set_option maxHeartbeats 2000000 in
theorem lp1_X8_layPassing {x : mX} {l : Launch} {D : va_G} {cs : mC} {ad : Int → Nat} {post : mS → Prop} (h : mOk x l M_X8_layPassing 3 (gM D cs ad)) (hq : rV x (gM D cs ad) post) {σ : mS} (hw : mWf σ) (hp : ∀ s : mS, mLd σ s (qPf (vM σ) (stM σ)) → post s) : ∀ (f : Nat) (k : Int) (s : mS), 0 ≤ k → k ≤ σ 0 9 → σ 0 9 - k < f → mSc σ s → qSr (vM σ) (σ 0 9) (s 11) → (∀ b : Int, 0 ≤ b → b < k → s 12 b = 0) → mG x 6 [(0, .ref (ad 0)), (1, mI k)] [] s := by
  intro f
  have hn0 : 0 ≤ σ 0 9 := hw.1.1
  have hn6 : σ 0 9 ≤ 6 := hw.1.2.1
  induction f with
  | zero => intro k s h0 h1 h2; omega
  | succ f ih =>
    intro k s h0 h1 h2 hs hso hz
    have e9 : s 0 9 = σ 0 9 := by rw [hs 0 (by omega) (by omega) (by omega)]
    refine g_iload_n h dX8_layPassing_6 rfl ?_
    refine g_aload_n h dX8_layPassing_7 rfl ?_
    refine gm_bills h dX8_layPassing_8 lf_RX8_72 ?_
    refine g_icmp_ge (tgt := 27) h dX8_layPassing_11 (by decide) (by first | exact hR _ _ | exact ⟨by omega, by omega⟩) (by first | exact hR _ _ | exact ⟨by omega, by omega⟩) (fun c11 => ?_) (fun c11 => ?_)
    · refine g_iconst h dX8_layPassing_27 rfl ?_
      refine g_istore_n h dX8_layPassing_28 (by decide) rfl ?_
      refine lp2_X8_layPassing h hq hw hso (fun s2 a b c => hp s2 ⟨a, ⟨fun i i0 i1 => by rw [b i i0 i1]; exact hso.1 i i0 i1, fun i j i0 ij j1 => by rw [b i i0 (by omega), b j (by omega) j1]; exact hso.2.1 i j i0 ij j1, fun q q0 q1 => by
          obtain ⟨i, i0, i1, e⟩ := hso.2.2 q q0 q1
          exact ⟨i, i0, i1, by rw [b i i0 i1]; exact e⟩⟩, fun q q0 q1 => by
          rw [c q q0 q1]
          unfold qPf
          rw [qPk_cong (τ := vM σ) (o := s 11) (o' := qO (vM σ)) (st := stM σ) (st' := stM σ) (σ 0 9).toNat (fun i i0 i1 => qO_un hw.1.1 hso i0 (show i < σ 0 9 by omega)) (fun _ _ _ => rfl)]
          rfl⟩) 8 0 s (by omega) (by omega) (by omega) hs (fun i _ _ => rfl) (fun b b0 b1 => by
          rw [hz b b0 (by omega)]
          exact bl0 (fun z => by cases z))
    · refine g_aload_n h dX8_layPassing_14 rfl ?_
      refine gm_doesPass h dX8_layPassing_15 lf_RX8_48 ?_
      refine g_iload_n h dX8_layPassing_18 rfl ?_
      refine g_iconst h dX8_layPassing_19 rfl ?_
      refine sm_doesPass h dX8_layPassing_20 (by omega) (by omega) (by omega) ?_
      refine g_iinc h dX8_layPassing_21 rfl (by decide) rfl ?_
      refine g_goto (tgt := 6) h dX8_layPassing_24 (by decide) ?_
      refine ih (k + 1) (mUp s 12 k 0) (by omega) (by omega) (by omega) (hs.tr (mSc.up s _ _ (by omega))) (by rw [mUp_off s k 0 (show (11 : Int) ≠ 12 by omega)]; exact hso) (fun b b0 b1 => ?_)
      by_cases q : b = k
      · rw [q, mUp_eq]
      · rw [mUp_ne s 0 (Or.inr q)]; exact hz b b0 (by omega)
set_option maxRecDepth 100000 in
set_option maxHeartbeats 2000000 in
theorem c_X8_layPassing {l : Launch} {D : va_G} {cs : mC} {ad : Int → Nat} (σ : mS)  (hw : mWf σ) : CV l (gM D cs ad) M_X8_layPassing 3 [.ref (ad 0)] σ (fun s => mLd σ s (qPf (vM σ) (stM σ))) := by
  refine CV.of (by decide) (Nat.le_of_ble_eq_true rfl) (fun x h hq => ?_)
  show mG x 0 [(0, .ref (ad 0))] [] σ
  refine g_aload_n h dX8_layPassing_0 rfl ?_
  refine g_vV h (c_X8_layOrder _ hw.1) (by decide) lm_RX8_171 (rvM rfl) dX8_layPassing_1 rfl (Nat.le_of_ble_eq_true rfl) (fun s1 p1 => ?_)
  obtain ⟨q1, q2⟩ := p1
  have hn0 : 0 ≤ σ 0 9 := hw.1.1
  have hn6 : σ 0 9 ≤ 6 := hw.1.2.1
  refine g_iconst h dX8_layPassing_4 rfl ?_
  refine g_istore_n h dX8_layPassing_5 (by decide) rfl ?_
  exact lp1_X8_layPassing h hq hw (fun s q => q) 8 0 s1 (by omega) (by omega) (by omega) (q1.sc (by omega)) q2 (fun b b0 b1 => by omega)
