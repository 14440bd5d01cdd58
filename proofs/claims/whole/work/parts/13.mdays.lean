theorem c_moonDay {l : Launch} {D : va_G} {cs : mC} {ad : Int → Nat} (σ : mS) (n : Int) (hw : qWf (vM σ)) (hn : 0 < σ 0 9) (h0 : 0 ≤ n) (h1 : n ≤ 100) : CI l (gM D cs ad) M_X8_moonDay 0 [.ref (ad 0), mI n] σ (fun z σ' => z = qMd (vM σ) n ∧ σ' = σ) := by
  have g := qMd_rng hw hn h0 h1
  have g2 : 20 ≤ σ 0 6 ∧ σ 0 6 ≤ 60 ∧ 1 ≤ σ 0 7 ∧ σ 0 7 ≤ 2 := hw.2.2.2.2.2.2.1 hn
  have e1 : 0 ≤ n * σ 0 6 := g.1
  have e2 : n * σ 0 6 ≤ 6000 := g.2.1
  exact c_X8_moonDay σ n e1 (by omega) (by omega) (by omega)
set_option maxRecDepth 100000 in
set_option maxHeartbeats 2000000 in
theorem lp_X8_moons {x : mX} {l : Launch} {D : va_G} {cs : mC} {ad : Int → Nat} {post : Int → mS → Prop} (h : mOk x l M_X8_moons 1 (gM D cs ad)) (hq : rI x (gM D cs ad) post) {σ : mS} (hw : qWf (vM σ)) (hn : 0 < σ 0 9) (hp : post (qNm (vM σ)) σ) : ∀ (f : Nat) (m : Int), 0 ≤ m → m ≤ qNm (vM σ) → qNm (vM σ) - m < f → mG x 2 [(0, .ref (ad 0)), (1, mI m)] [] σ := by
  intro f
  obtain ⟨q0, q1, q2, q3⟩ := qNm_sp hw hn
  induction f with
  | zero => intro m h0 h1 h2; omega
  | succ f ih =>
    intro m h0 h1 h2
    have g := qMd_rng hw hn h0 (show m ≤ 100 by omega)
    refine g_aload_n h dX8_moons_2 rfl ?_
    refine g_iload_n h dX8_moons_3 rfl ?_
    refine g_vI h (c_moonDay _ _ hw hn (by omega) (by omega)) (by decide) lm_RX8_149 (rvM rfl) dX8_moons_4 rfl (Nat.le_of_ble_eq_true rfl) (fun z4 s4 p4 => ?_)
    obtain ⟨e4, r4⟩ := p4; subst e4; replace r4 := Eq.symm r4; subst r4
    refine g_bipush h dX8_moons_7 (by decide) ?_
    refine g_icmp_ge (tgt := 18) h dX8_moons_9 (by decide) (by first | exact hR _ _ | exact ⟨by omega, by omega⟩) (by first | exact hR _ _ | exact ⟨by omega, by omega⟩) (fun c9 => ?_) (fun c9 => ?_)
    · refine g_iload_n h dX8_moons_18 rfl ?_
      refine g_iret h hq rfl dX8_moons_19 (by
      have e : m = qNm (vM σ) := by
        rcases Int.lt_or_le m (qNm (vM σ)) with q | q
        · have := q2 m h0 q; omega
        · omega
      rw [e]; exact hp)
    · have g9 : m < qNm (vM σ) := by
        rcases Int.lt_or_le m (qNm (vM σ)) with q | q
        · exact q
        · have := q3 m q; omega
      refine g_iinc h dX8_moons_12 rfl (by decide) rfl ?_
      refine g_goto (tgt := 2) h dX8_moons_15 (by decide) ?_
      exact ih (m + 1) (by omega) (by omega) (by omega)
set_option maxRecDepth 100000 in
set_option maxHeartbeats 2000000 in
theorem c_X8_moons {l : Launch} {D : va_G} {cs : mC} {ad : Int → Nat} (σ : mS)  (hw : qWf (vM σ)) (hn : 0 < σ 0 9) : CI l (gM D cs ad) M_X8_moons 1 [.ref (ad 0)] σ (fun z σ' => z = qNm (vM σ) ∧ σ' = σ) := by
  refine CI.of (by decide) (Nat.le_of_ble_eq_true rfl) (fun x h hq => ?_)
  show mG x 0 [(0, .ref (ad 0))] [] σ
  refine g_iconst h dX8_moons_0 rfl ?_
  refine g_istore_n h dX8_moons_1 (by decide) rfl ?_
  have g := qNm_sp hw hn
  exact lp_X8_moons h hq hw hn ⟨rfl, rfl⟩ 13 0 (by omega) (by omega) (by omega)
theorem dk_out {σ : mS} {m : Int} (h0 : 0 ≤ m) (h1 : m < 31) (hc : 0 ≤ σ 0 17) (hc2 : σ 0 17 ≤ 2147483647) : iAnd (iShr (σ 0 17) m) 1 = bl ((σ 0 17).toNat.testBit m.toNat = true) := by
  have := bit_rd (x := (σ 0 17).toNat) (by omega) h0 h1
  rwa [Int.toNat_of_nonneg hc] at this
set_option maxRecDepth 100000 in
set_option maxHeartbeats 2000000 in
theorem c_X8_isDark {l : Launch} {D : va_G} {cs : mC} {ad : Int → Nat} (σ : mS) (m : Int) (hw : mWf σ) (h0 : 0 ≤ m) (h1 : m < 31) (h2 : qMd (vM σ) m < 110) : CI l (gM D cs ad) M_X8_isDark 1 [.ref (ad 0), mI m] σ (fun z σ' => z = bl (dkM σ m = true) ∧ σ' = σ) := by
  refine CI.of (by decide) (Nat.le_of_ble_eq_true rfl) (fun x h hq => ?_)
  show mG x 0 [(0, .ref (ad 0)), (1, mI m)] [] σ
  refine g_aload_n h dX8_isDark_0 rfl ?_
  refine gm_cloudedToo h dX8_isDark_1 lf_RX8_155 ?_
  refine g_iload_n h dX8_isDark_4 rfl ?_
  refine g_ishr h dX8_isDark_5 ?_
  refine g_iconst h dX8_isDark_6 rfl ?_
  refine g_iand h dX8_isDark_7 ?_
  refine g_iconst h dX8_isDark_8 rfl ?_
  rw [dk_out h0 h1 hw.2.2.1 hw.2.2.2.1]
  refine g_icmp_eq (tgt := 32) h dX8_isDark_9 (by decide) (bl_rng _) ⟨by omega, by omega⟩ (fun c9 => ?_) (fun c9 => ?_)
  · have c : (σ 0 17).toNat.testBit m.toNat = true := Decidable.byContradiction fun q => by rw [← bl0 q] at c9; omega
    refine g_iconst h dX8_isDark_32 rfl ?_
    refine g_goto (tgt := 37) h dX8_isDark_33 (by decide) ?_
    refine g_zret h hq rfl dX8_isDark_37 (by omega) ?_
    first | exact ⟨bl1 (by unfold dkM; simp [*]), rfl⟩ | exact ⟨bl0 (by unfold dkM; simp [*]), rfl⟩
  · have c : ¬ (σ 0 17).toNat.testBit m.toNat = true := fun q => c9 (bl1 q).symm
    refine g_aload_n h dX8_isDark_12 rfl ?_
    refine gm_onlyThese h dX8_isDark_13 lf_RX8_158 ?_
    have hz : σ 0 18 = 0 ∨ σ 0 18 = 1 := hw.2.2.2.2.1
    refine g_if_ne (tgt := 36) h dX8_isDark_16 (by decide) (by first | exact hR _ _ | exact ⟨by omega, by omega⟩) (fun c16 => ?_) (fun c16 => ?_)
    · refine g_iconst h dX8_isDark_36 rfl ?_
      refine g_zret h hq rfl dX8_isDark_37 (by omega) ?_
      first | exact ⟨bl1 (by unfold dkM; simp [*]), rfl⟩ | exact ⟨bl0 (by unfold dkM; simp [*]), rfl⟩
    · refine g_aload_n h dX8_isDark_19 rfl ?_
      refine gm_isClouded h dX8_isDark_20 lf_RX8_34 ?_
      refine g_aload_n h dX8_isDark_23 rfl ?_
      refine g_iload_n h dX8_isDark_24 rfl ?_
      refine g_vI h (c_moonDay _ _ hw.1 hw.2.1 (by omega) (by omega)) (by decide) lm_RX8_149 (rvM rfl) dX8_isDark_25 rfl (Nat.le_of_ble_eq_true rfl) (fun z25 s25 p25 => ?_)
      obtain ⟨e25, r25⟩ := p25; subst e25; replace r25 := Eq.symm r25; subst r25
      have g := qMd_rng hw.1 hw.2.1 h0 (show m ≤ 100 by omega)
      refine lm_isClouded h dX8_isDark_28 g.2.2.1 h2 ?_
      have hcl := hw.2.2.2.2.2.2 _ g.2.2.1 h2
      refine g_if_eq (tgt := 36) h dX8_isDark_29 (by decide) (by first | exact hR _ _ | exact ⟨by omega, by omega⟩) (fun c29 => ?_) (fun c29 => ?_)
      · refine g_iconst h dX8_isDark_36 rfl ?_
        refine g_zret h hq rfl dX8_isDark_37 (by omega) ?_
        first | exact ⟨bl1 (by unfold dkM; simp [*]), rfl⟩ | exact ⟨bl0 (by unfold dkM; simp [*]), rfl⟩
      · have c29b : σ 9 (qMd (vM σ) m) = 1 := by omega
        refine g_iconst h dX8_isDark_32 rfl ?_
        refine g_goto (tgt := 37) h dX8_isDark_33 (by decide) ?_
        refine g_zret h hq rfl dX8_isDark_37 (by omega) ?_
        first | exact ⟨bl1 (by unfold dkM; simp [*]), rfl⟩ | exact ⟨bl0 (by unfold dkM; simp [*]), rfl⟩
def qFs (τ : mS) (dk : Int → Bool) (b : Int) : Int := if fstN (fun m => qWt τ b m && !dk m) 11 < 11 then qMd τ (fstN (fun m => qWt τ b m && !dk m) 11) else -9
theorem qFs_st {τ : mS} (h : qWf τ) (hn : 0 < τ 0 4) {dk : Int → Bool} {b : Int} : (qFs τ dk b = -9 ↔ qSt τ dk b = false) := by
  obtain ⟨g0, g1, g2, g3⟩ := fstN_sp (fun m => qWt τ b m && !dk m) 11
  unfold qFs qSt
  by_cases hl : fstN (fun m => qWt τ b m && !dk m) 11 < 11
  · rw [if_pos hl]
    have g := qMd_rng h hn g0 (show fstN (fun m => qWt τ b m && !dk m) 11 ≤ 100 by omega)
    constructor
    · intro q; omega
    · intro q
      have := anyN_no.mp q _ g0 hl
      rw [g3 hl] at this
      cases this
  · rw [if_neg hl]
    have e : fstN (fun m => qWt τ b m && !dk m) 11 = 11 := by omega
    rw [e] at g2
    exact ⟨fun _ => anyN_no.mpr g2, fun _ => rfl⟩
set_option maxRecDepth 100000 in
set_option maxHeartbeats 2000000 in
theorem lp_X8_struckOn {x : mX} {l : Launch} {D : va_G} {cs : mC} {ad : Int → Nat} {post : Int → mS → Prop} (h : mOk x l M_X8_struckOn 2 (gM D cs ad)) (hq : rI x (gM D cs ad) post) {σ : mS} (hw : mWf σ) {b : Int} (b0 : 0 ≤ b) (b1 : b < 6) (hp : post (qFs (vM σ) (dkM σ) b) σ) : ∀ (f : Nat) (m : Int), 0 ≤ m → m ≤ 11 → 11 - m < f → (∀ j : Int, 0 ≤ j → j < m → (qWt (vM σ) b j && !dkM σ j) = false) → mG x 2 [(0, .ref (ad 0)), (1, mI b), (2, mI m)] [] σ := by
  intro f
  have hd := hw.1.2.2.2.2.2.2.2 b b0 b1
  have hs : 0 ≤ σ 0 8 ∧ σ 0 8 ≤ 9 := ⟨hw.1.2.2.2.2.1, hw.1.2.2.2.2.2.1⟩
  rw [vM_day σ b0 b1] at hd
  have e11 := (qMd_rng hw.1 hw.2.1 (m := 11) (by omega) (by omega)).2.2.2.2
  induction f with
  | zero => intro m h0 h1 h2; omega
  | succ f ih =>
    intro m h0 h1 h2 hj
    have g := qMd_rng hw.1 hw.2.1 h0 (show m ≤ 100 by omega)
    have hadv : m < 11 → (qWt (vM σ) b m && !dkM σ m) = false → mG x 2 [(0, .ref (ad 0)), (1, mI b), (2, mI (m + 1))] [] σ := fun q1 q2 => ih (m + 1) (by omega) (by omega) (by omega) (fun j j0 j1 => by
      by_cases q : j = m
      · rw [q]; exact q2
      · exact hj j j0 (by omega))
    refine g_aload_n h dX8_struckOn_2 rfl ?_
    refine g_iload_n h dX8_struckOn_3 rfl ?_
    refine g_vI h (c_moonDay _ _ hw.1 hw.2.1 (by omega) (by omega)) (by decide) lm_RX8_149 (rvM rfl) dX8_struckOn_4 rfl (Nat.le_of_ble_eq_true rfl) (fun z4 s4 p4 => ?_)
    obtain ⟨e4, r4⟩ := p4; subst e4; replace r4 := Eq.symm r4; subst r4
    refine g_bipush h dX8_struckOn_7 (by decide) ?_
    refine g_icmp_ge (tgt := 60) h dX8_struckOn_9 (by decide) (by first | exact hR _ _ | exact ⟨by omega, by omega⟩) (by first | exact hR _ _ | exact ⟨by omega, by omega⟩) (fun c9 => ?_) (fun c9 => ?_)
    · refine g_bipush h dX8_struckOn_60 (by decide) ?_
      refine g_iret h hq rfl dX8_struckOn_62 (by
      have e : fstN (fun m => qWt (vM σ) b m && !dkM σ m) 11 = 11 := fstN_no (fun j j0 j1 => by
        by_cases q : j < m
        · exact hj j j0 q
        · have := qMd_le hw.1 hw.2.1 h0 (show m ≤ j by omega)
          cases hq9 : qWt (vM σ) b j with
          | false => rfl
          | true =>
            have := qWt_in hw.1 b0 b1 hq9
            omega)
      unfold qFs at hp
      rw [e, if_neg (by omega)] at hp
      exact hp)
    · have c9b : m < 11 := by
        rcases Int.lt_or_le m 11 with q | q
        · exact q
        · have : m = 11 := by omega
          subst this; omega
      refine g_aload_n h dX8_struckOn_12 rfl ?_
      refine g_iload_n h dX8_struckOn_13 rfl ?_
      refine g_vI h (c_moonDay _ _ hw.1 hw.2.1 (by omega) (by omega)) (by decide) lm_RX8_149 (rvM rfl) dX8_struckOn_14 rfl (Nat.le_of_ble_eq_true rfl) (fun z14 s14 p14 => ?_)
      obtain ⟨e14, r14⟩ := p14; subst e14; replace r14 := Eq.symm r14; subst r14
      refine g_aload_n h dX8_struckOn_17 rfl ?_
      refine gm_dayOf h dX8_struckOn_18 lf_RX8_22 ?_
      refine g_iload_n h dX8_struckOn_21 rfl ?_
      refine lm_dayOf h dX8_struckOn_22 (by omega) (by omega) ?_
      refine g_aload_n h dX8_struckOn_23 rfl ?_
      refine gm_dayOf h dX8_struckOn_24 lf_RX8_22 ?_
      refine g_iload_n h dX8_struckOn_27 rfl ?_
      refine lm_dayOf h dX8_struckOn_28 (by omega) (by omega) ?_
      refine g_aload_n h dX8_struckOn_29 rfl ?_
      refine gm_span h dX8_struckOn_30 lf_RX8_121 ?_
      refine g_iadd h dX8_struckOn_33 ?_
      refine g_sI h (c_X8_within _ _ _ _ ⟨by omega, by omega⟩ ⟨by omega, by omega⟩ ⟨by omega, by omega⟩) (by decide) lm_RX8_68 dX8_struckOn_34 rfl (Nat.le_of_ble_eq_true rfl) (fun z34 s34 p34 => ?_)
      obtain ⟨e34, r34⟩ := p34; subst e34; replace r34 := Eq.symm r34; subst r34
      refine g_ifb_eq (tgt := 54) h dX8_struckOn_37 (by decide)  (fun c37 => ?_) (fun c37 => ?_)
      · have cw : qWt (vM σ) b m = false := by
          unfold qWt
          rw [vM_day σ b0 b1]
          exact decide_eq_false c37
        refine g_iinc h dX8_struckOn_54 rfl (by decide) rfl ?_
        refine g_goto (tgt := 2) h dX8_struckOn_57 (by decide) ?_
        exact hadv c9b (by first | (rw [cw]; rfl) | simp [cw, c45])
      · have cw : qWt (vM σ) b m = true := by
          unfold qWt
          rw [vM_day σ b0 b1]
          exact decide_eq_true c37
        refine g_aload_n h dX8_struckOn_40 rfl ?_
        refine g_iload_n h dX8_struckOn_41 rfl ?_
        refine g_vI h (c_X8_isDark _ _ hw (by omega) (by omega) (by omega)) (by decide) lm_RX8_162 (rvM rfl) dX8_struckOn_42 rfl (Nat.le_of_ble_eq_true rfl) (fun z42 s42 p42 => ?_)
        obtain ⟨e42, r42⟩ := p42; subst e42; replace r42 := Eq.symm r42; subst r42
        refine g_ifb_ne (tgt := 54) h dX8_struckOn_45 (by decide)  (fun c45 => ?_) (fun c45 => ?_)
        · refine g_iinc h dX8_struckOn_54 rfl (by decide) rfl ?_
          refine g_goto (tgt := 2) h dX8_struckOn_57 (by decide) ?_
          exact hadv c9b (by first | (rw [cw]; rfl) | simp [cw, c45])
        · refine g_aload_n h dX8_struckOn_48 rfl ?_
          refine g_iload_n h dX8_struckOn_49 rfl ?_
          refine g_vI h (c_moonDay _ _ hw.1 hw.2.1 (by omega) (by omega)) (by decide) lm_RX8_149 (rvM rfl) dX8_struckOn_50 rfl (Nat.le_of_ble_eq_true rfl) (fun z50 s50 p50 => ?_)
          obtain ⟨e50, r50⟩ := p50; subst e50; replace r50 := Eq.symm r50; subst r50
          refine g_iret h hq rfl dX8_struckOn_53 (by
            have e : fstN (fun m => qWt (vM σ) b m && !dkM σ m) 11 = m := fstN_is h0 c9b (by simp [cw, c45]) hj
            unfold qFs at hp
            rw [e, if_pos (by omega)] at hp
            exact hp)
set_option maxRecDepth 100000 in
set_option maxHeartbeats 2000000 in
theorem c_X8_struckOn {l : Launch} {D : va_G} {cs : mC} {ad : Int → Nat} (σ : mS) (b : Int) (hw : mWf σ) (b0 : 0 ≤ b) (b1 : b < 6) : CI l (gM D cs ad) M_X8_struckOn 2 [.ref (ad 0), mI b] σ (fun z σ' => z = qFs (vM σ) (dkM σ) b ∧ σ' = σ) := by
  refine CI.of (by decide) (Nat.le_of_ble_eq_true rfl) (fun x h hq => ?_)
  show mG x 0 [(0, .ref (ad 0)), (1, mI b)] [] σ
  refine g_iconst h dX8_struckOn_0 rfl ?_
  refine g_istore_n h dX8_struckOn_1 (by decide) rfl ?_
  exact lp_X8_struckOn h hq hw b0 b1 ⟨rfl, rfl⟩ 12 0 (by omega) (by omega) (by omega) (fun j j0 j1 => by omega)
set_option maxRecDepth 100000 in
set_option maxHeartbeats 2000000 in
theorem c_X8_isOn {l : Launch} {D : va_G} {cs : mC} {ad : Int → Nat} (σ : mS) (b d : Int) (hw : qWf (vM σ)) (b0 : 0 ≤ b) (b1 : b < 6) (d0 : 0 ≤ d) (d1 : d < 200) (hP : σ 12 b = 0 ∨ σ 12 b = 1) : CI l (gM D cs ad) M_X8_isOn 0 [.ref (ad 0), mI b, mI d] σ (fun z σ' => z = bl (qOn (vM σ) (fun k => decide (σ 12 k = 1)) b d = true) ∧ σ' = σ) := by
  refine CI.of (by decide) (Nat.le_of_ble_eq_true rfl) (fun x h hq => ?_)
  show mG x 0 [(0, .ref (ad 0)), (1, mI b), (2, mI d)] [] σ
  refine g_iload_n h dX8_isOn_0 rfl ?_
  refine g_aload_n h dX8_isOn_1 rfl ?_
  refine gm_dayOf h dX8_isOn_2 lf_RX8_22 ?_
  refine g_iload_n h dX8_isOn_5 rfl ?_
  refine lm_dayOf h dX8_isOn_6 (by omega) (by omega) ?_
  refine g_isub h dX8_isOn_7 ?_
  refine g_istore_n h dX8_isOn_8 (by decide) rfl ?_
  refine g_aload_n h dX8_isOn_9 rfl ?_
  refine gm_doesPass h dX8_isOn_10 lf_RX8_48 ?_
  refine g_iload_n h dX8_isOn_13 rfl ?_
  refine lm_doesPass h dX8_isOn_14 (by omega) (by omega) ?_
  have hb := hw.2.2.2.2.2.2.2 b b0 b1
  rw [vM_day σ b0 b1, vM_kind σ b0 b1, vM_lasts σ b0 b1] at hb
  refine g_if_eq (tgt := 49) h dX8_isOn_15 (by decide) (by first | exact hR _ _ | exact ⟨by omega, by omega⟩) (fun c15 => ?_) (fun c15 => ?_)
  · refine g_iconst h dX8_isOn_49 rfl ?_
    refine g_zret h hq rfl dX8_isOn_50 (by omega) ?_
    first | exact ⟨bl1 (by unfold qOn; rw [vM_day σ b0 b1, vM_kind σ b0 b1, vM_lasts σ b0 b1]; simp; omega), rfl⟩ | exact ⟨bl0 (by unfold qOn; rw [vM_day σ b0 b1, vM_kind σ b0 b1, vM_lasts σ b0 b1]; simp; omega), rfl⟩
  · refine g_iload_n h dX8_isOn_18 rfl ?_
    refine g_if_le (tgt := 49) h dX8_isOn_19 (by decide) (by first | exact hR _ _ | exact ⟨by omega, by omega⟩) (fun c19 => ?_) (fun c19 => ?_)
    · refine g_iconst h dX8_isOn_49 rfl ?_
      refine g_zret h hq rfl dX8_isOn_50 (by omega) ?_
      first | exact ⟨bl1 (by unfold qOn; rw [vM_day σ b0 b1, vM_kind σ b0 b1, vM_lasts σ b0 b1]; simp; omega), rfl⟩ | exact ⟨bl0 (by unfold qOn; rw [vM_day σ b0 b1, vM_kind σ b0 b1, vM_lasts σ b0 b1]; simp; omega), rfl⟩
    · refine g_aload_n h dX8_isOn_22 rfl ?_
      refine gm_kind h dX8_isOn_23 lf_RX8_19 ?_
      refine g_iload_n h dX8_isOn_26 rfl ?_
      refine lm_kind h dX8_isOn_27 (by omega) (by omega) ?_
      refine g_iconst h dX8_isOn_28 rfl ?_
      refine g_icmp_ne (tgt := 45) h dX8_isOn_29 (by decide) (by first | exact hR _ _ | exact ⟨by omega, by omega⟩) (by first | exact hR _ _ | exact ⟨by omega, by omega⟩) (fun c29 => ?_) (fun c29 => ?_)
      · refine g_iconst h dX8_isOn_45 rfl ?_
        refine g_goto (tgt := 50) h dX8_isOn_46 (by decide) ?_
        refine g_zret h hq rfl dX8_isOn_50 (by omega) ?_
        first | exact ⟨bl1 (by unfold qOn; rw [vM_day σ b0 b1, vM_kind σ b0 b1, vM_lasts σ b0 b1]; simp; omega), rfl⟩ | exact ⟨bl0 (by unfold qOn; rw [vM_day σ b0 b1, vM_kind σ b0 b1, vM_lasts σ b0 b1]; simp; omega), rfl⟩
      · refine g_iload_n h dX8_isOn_32 rfl ?_
        refine g_bipush h dX8_isOn_33 (by decide) ?_
        refine g_aload_n h dX8_isOn_35 rfl ?_
        refine gm_lasts h dX8_isOn_36 lf_RX8_31 ?_
        refine g_iload_n h dX8_isOn_39 rfl ?_
        refine lm_lasts h dX8_isOn_40 (by omega) (by omega) ?_
        refine g_imul h dX8_isOn_41 ?_
        refine g_icmp_gt (tgt := 49) h dX8_isOn_42 (by decide) (by first | exact hR _ _ | exact ⟨by omega, by omega⟩) (by first | exact hR _ _ | exact ⟨by omega, by omega⟩) (fun c42 => ?_) (fun c42 => ?_)
        · refine g_iconst h dX8_isOn_49 rfl ?_
          refine g_zret h hq rfl dX8_isOn_50 (by omega) ?_
          first | exact ⟨bl1 (by unfold qOn; rw [vM_day σ b0 b1, vM_kind σ b0 b1, vM_lasts σ b0 b1]; simp; omega), rfl⟩ | exact ⟨bl0 (by unfold qOn; rw [vM_day σ b0 b1, vM_kind σ b0 b1, vM_lasts σ b0 b1]; simp; omega), rfl⟩
        · refine g_iconst h dX8_isOn_45 rfl ?_
          refine g_goto (tgt := 50) h dX8_isOn_46 (by decide) ?_
          refine g_zret h hq rfl dX8_isOn_50 (by omega) ?_
          first | exact ⟨bl1 (by unfold qOn; rw [vM_day σ b0 b1, vM_kind σ b0 b1, vM_lasts σ b0 b1]; simp; omega), rfl⟩ | exact ⟨bl0 (by unfold qOn; rw [vM_day σ b0 b1, vM_kind σ b0 b1, vM_lasts σ b0 b1]; simp; omega), rfl⟩
