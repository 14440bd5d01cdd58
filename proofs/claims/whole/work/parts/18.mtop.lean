theorem mRd_of {σ : mS} (h : qW (vM σ)) : mRd σ := by
  obtain ⟨-, -, r0, r8, r, -⟩ := h
  refine ⟨r0, r8, fun q q0 q1 => ?_⟩
  have := r q q0 q1
  rw [vM_rd σ (show (7 : Int) ≤ 7 by omega) (by omega) q0 (by have : σ 0 30 ≤ 8 := r8; omega), vM_rd σ (show (7 : Int) ≤ 8 by omega) (by omega) q0 (by have : σ 0 30 ≤ 8 := r8; omega), vM_rd σ (show (7 : Int) ≤ 9 by omega) (by omega) q0 (by have : σ 0 30 ≤ 8 := r8; omega)] at this
  exact this
theorem mCl_of {σ : mS} (h : qW (vM σ)) : ∀ d : Int, 0 ≤ d → d < 110 → σ 9 d = 0 ∨ σ 9 d = 1 := fun d d0 d1 => by
  have := h.2.1 d d0 d1
  rwa [vM_cl σ d0 d1] at this
theorem mIdl.As {σ : mS} (h : mIdl σ) (hw : qWf (vM σ)) (hn : 0 < σ 0 9) : qAs (vM σ) (stM σ) = qAI (vM σ) := by
  unfold qAI qAs
  rw [anyN_cong (fun q _ _ => by rw [qF_cong hw.1 (h.st hw hn)])]
theorem mIdl.up {σ : mS} (h : mIdl σ) {k j v : Int} (hk : ¬ k = 0 ∨ (¬ j = 17 ∧ ¬ j = 18 ∧ ¬ j = 19)) : mIdl (mUp σ k j v) := by
  obtain ⟨a, b, c⟩ := h
  exact ⟨by rw [mUp_ne σ v (by omega)]; exact a, by rw [mUp_ne σ v (by omega)]; exact b, by rw [mUp_ne σ v (by omega)]; exact c⟩
theorem mRd.up {σ : mS} (h : mRd σ) {k j v : Int} (hk : (k = 0 ∧ ¬ j = 30 ∧ ¬ j = 9) ∨ (0 < k ∧ k < 14)) : mRd (mUp σ k j v) := by
  obtain ⟨a, b, c⟩ := h
  unfold mRd
  rw [mUp_ne σ v (show (0 : Int) ≠ k ∨ (30 : Int) ≠ j by omega), mUp_ne σ v (show (0 : Int) ≠ k ∨ (9 : Int) ≠ j by omega), mUp_off σ j v (show (14 : Int) ≠ k by omega), mUp_off σ j v (show (15 : Int) ≠ k by omega), mUp_off σ j v (show (16 : Int) ≠ k by omega)]
  exact ⟨a, b, c⟩
theorem mRd.sc {σ s : mS} (h : mSc σ s) (w : mRd σ) : mRd s := by
  unfold mRd
  rw [h 0 (by omega) (by omega) (by omega), h 14 (by omega) (by omega) (by omega), h 15 (by omega) (by omega) (by omega), h 16 (by omega) (by omega) (by omega)]
  exact w
theorem mWf_of {σ : mS} (hw : qWf (vM σ)) (hn : 0 < σ 0 9) (hI : mIdl σ) (hc : ∀ d : Int, 0 ≤ d → d < 110 → σ 9 d = 0 ∨ σ 9 d = 1) : mWf σ := by
  obtain ⟨h1, h2, h3⟩ := hI
  exact ⟨hw, hn, by rw [h1]; omega, by rw [h1]; omega, Or.inl h2, by rw [h3]; exact ⟨by omega, by omega⟩, hc⟩
theorem mWf_day {σ : mS} (h : mWf σ) (hI : mIdl σ) {b v : Int} (b0 : 0 ≤ b) (b1 : b < 6) (v0 : 0 ≤ v) (v1 : v ≤ 99) : mWf (mUp σ 5 b v) := mWf_of (by rw [vM_up_b σ v (by omega) (by omega) b0 b1]; exact qWf_day h.1 v0 v1) (by rw [mUp_ne σ v (by omega)]; exact h.2.1) (hI.up (by omega)) (by rw [mUp_off σ b v (by omega)]; exact h.2.2.2.2.2.2)
theorem mWf_kind {σ : mS} (h : mWf σ) (hI : mIdl σ) {b v : Int} (b0 : 0 ≤ b) (b1 : b < 6) (v0 : 0 ≤ v) (v1 : v ≤ 2) : mWf (mUp σ 4 b v) := mWf_of (by rw [vM_up_b σ v (by omega) (by omega) b0 b1]; exact qWf_kind h.1 v0 v1) (by rw [mUp_ne σ v (by omega)]; exact h.2.1) (hI.up (by omega)) (by rw [mUp_off σ b v (by omega)]; exact h.2.2.2.2.2.2)
theorem mWf_span {σ : mS} (h : mWf σ) (hI : mIdl σ) {v : Int} (v0 : 0 ≤ v) (v1 : v ≤ 9) : mWf (mUp σ 0 8 v) := mWf_of (by rw [vM_up_span]; exact qWf_span h.1 v0 v1) (by rw [mUp_ne σ v (by omega)]; exact h.2.1) (hI.up (by omega)) (by rw [mUp_off σ 8 v (by omega)]; exact h.2.2.2.2.2.2)
theorem mWf_orig {σ : mS} (h : mWf σ) (hI : mIdl σ) {v : Int} (v0 : 0 ≤ v) (v1 : v ≤ 29) : mWf (mUp σ 0 5 v) := mWf_of (by rw [vM_up_orig]; exact qWf_orig h.1 v0 v1) (by rw [mUp_ne σ v (by omega)]; exact h.2.1) (hI.up (by omega)) (by rw [mUp_off σ 5 v (by omega)]; exact h.2.2.2.2.2.2)
theorem mF_day {σ : mS} (h : mWf σ) (hI : mIdl σ) {b v : Int} (b0 : 0 ≤ b) (b1 : b < 6) (v0 : 0 ≤ v) (v1 : v ≤ 99) (a d : Int) : qF (vM (mUp σ 5 b v)) (stM (mUp σ 5 b v)) a d = qFI (mUp (vM σ) 2 b v) a d := by
  have w := mWf_day h hI b0 b1 v0 v1
  rw [(hI.up (show ¬ (5 : Int) = 0 ∨ _ by omega)).F w.1 w.2.1, vM_up_b σ v (by omega) (by omega) b0 b1]
  rfl
set_option maxRecDepth 100000 in
set_option maxHeartbeats 2000000 in
theorem lp_X8_passing {x : mX} {l : Launch} {D : va_G} {cs : mC} {ad : Int → Nat} {post : Int → mS → Prop} (h : mOk x l M_X8_passing 4 (gM D cs ad)) (hq : rI x (gM D cs ad) post) {σ s : mS} (hs : mSc σ s) (hn0 : 0 ≤ σ 0 9) (hn6 : σ 0 9 ≤ 6) {p : Int → Bool} (hF : ∀ b : Int, 0 ≤ b → b < σ 0 9 → s 12 b = bl (p b = true)) (hp : post (setOf (σ 0 9).toNat p) s) : ∀ (f : Nat) (k : Int), 0 ≤ k → k ≤ σ 0 9 → σ 0 9 - k < f → mG x 18 [(0, .ref (ad 0)), (1, mI (setOf k.toNat p)), (2, mI k)] [] s := by
  intro f
  have e9 : s 0 9 = σ 0 9 := by rw [hs 0 (by omega) (by omega) (by omega)]
  induction f with
  | zero => intro k h0 h1 h2; omega
  | succ f ih =>
    intro k h0 h1 h2
    have J43 : ∀ v : Int, k < σ 0 9 → v = (if p k = true then iShl 1 k else 0) → mG x 43 [(0, .ref (ad 0)), (1, mI (setOf k.toNat p)), (2, mI k)] [mI v, mI (setOf k.toNat p)] s := by
      intro v hk hv
      refine g_ior h dX8_passing_43 ?_
      refine g_istore_n h dX8_passing_44 (by decide) rfl ?_
      refine g_iinc h dX8_passing_45 rfl (by decide) rfl ?_
      refine g_goto (tgt := 18) h dX8_passing_48 (by decide) ?_
      refine g_lv (lv' := [(0, .ref (ad 0)), (1, mI (iOr (setOf k.toNat p) v)), (2, mI (k + 1))]) rfl ?_
      rw [set_next (by omega) p (by omega) hv]
      exact ih (k + 1) (by omega) (by omega) (by omega)
    refine g_iload_n h dX8_passing_18 rfl ?_
    refine g_aload_n h dX8_passing_19 rfl ?_
    refine gm_bills h dX8_passing_20 lf_RX8_72 ?_
    refine g_icmp_ge (tgt := 51) h dX8_passing_23 (by decide) (by first | exact hR _ _ | exact ⟨by omega, by omega⟩) (by first | exact hR _ _ | exact ⟨by omega, by omega⟩) (fun c23 => ?_) (fun c23 => ?_)
    · refine g_iload_n h dX8_passing_51 rfl ?_
      refine g_iret h hq rfl dX8_passing_52 (by rw [show k.toNat = (σ 0 9).toNat by omega]; exact hp)
    · refine g_iload_n h dX8_passing_26 rfl ?_
      refine g_aload_n h dX8_passing_27 rfl ?_
      refine gm_doesPass h dX8_passing_28 lf_RX8_48 ?_
      refine g_iload_n h dX8_passing_31 rfl ?_
      refine lm_doesPass h dX8_passing_32 (by omega) (by omega) ?_
      refine g_val (hF k h0 (by omega)) ?_
      refine g_ifb_eq (tgt := 42) h dX8_passing_33 (by decide)  (fun c33 => ?_) (fun c33 => ?_)
      · refine g_iconst h dX8_passing_42 rfl ?_
        exact J43 _ (by omega) (by rw [if_neg c33])
      · refine g_iconst h dX8_passing_36 rfl ?_
        refine g_iload_n h dX8_passing_37 rfl ?_
        refine g_ishl h dX8_passing_38 ?_
        refine g_goto (tgt := 43) h dX8_passing_39 (by decide) ?_
        exact J43 _ (by omega) (by rw [if_pos c33])
noncomputable def sp_passing (τ : mS) : Int := if τ 0 4 = 0 then -3 else setOf (τ 0 4).toNat (qPf τ (qSI τ))
noncomputable def sp_force (τ : mS) (d : Int) : Int := if ¬ (0 ≤ d ∧ d ≤ 109) then -2 else if τ 0 4 = 0 then -3 else setOf (τ 0 4).toNat (fun b => qFI τ b d)
noncomputable def sp_holds (τ : mS) (b : Int) : Int := if ¬ (0 ≤ b ∧ b < τ 0 4) then -1 else cntN (fun d => qFI τ b d) 110
noncomputable def sp_when (τ : mS) (b d : Int) : Int := if ¬ (0 ≤ b ∧ b < τ 0 4) then -1 else if ¬ (0 ≤ d ∧ d ≤ 109) then -2 else if fstN (fun m => qFI (mUp τ 2 b m) b d) 100 < 100 then fstN (fun m => qFI (mUp τ 2 b m) b d) 100 else -9
noncomputable def qHd (τ : mS) (b m : Int) : Int := cntN (fun d => qFI (mUp τ 2 b m) b d) 110
noncomputable def sp_longest (τ : mS) (b w : Int) : Int := if ¬ (0 ≤ b ∧ b < τ 0 4) then -1 else if ¬ (0 ≤ w ∧ w ≤ 1) then -2 else if w = 0 then lgD (qHd τ b) 100 else lgM (qHd τ b) 100
noncomputable def sp_worth (τ : mS) (b : Int) : Int := if ¬ (0 ≤ b ∧ b < τ 0 4) then -1 else qOh τ (qSI τ) b - qOh τ (fun a => decide (a = b) || qSI τ a) b + 1000
noncomputable def sp_spans (τ : mS) : Int := if τ 0 4 = 0 then -3 else setOf 10 (fun v => qAI (mUp τ 0 3 v))
noncomputable def sp_origins (τ : mS) : Int := if τ 0 4 = 0 then -3 else setOf 30 (fun v => qAI (mUp τ 0 0 v))
noncomputable def sp_kinds (τ : mS) (b : Int) : Int := if ¬ (0 ≤ b ∧ b < τ 0 4) then -1 else setOf 3 (fun v => qAI (mUp τ 1 b v))
noncomputable def sp_moved (τ : mS) (b w : Int) : Int := if ¬ (0 ≤ b ∧ b < τ 0 4) then -1 else if ¬ (0 ≤ w ∧ w ≤ 1) then -2 else if w = 0 then cntN (fun m => qAI (mUp τ 2 b m)) 100 else if fstN (fun m => qAI (mUp τ 2 b m)) 100 < 100 then fstN (fun m => qAI (mUp τ 2 b m)) 100 else -9
noncomputable def sp_buy (τ : mS) (b d : Int) : Int := if ¬ (0 ≤ b ∧ b < τ 0 4) then -1 else if ¬ (0 ≤ d ∧ d ≤ 109) then -2 else qBy τ b d
theorem sp_when_in {τ : mS} {b d : Int} (h1 : 0 ≤ b ∧ b < τ 0 4) (h2 : 0 ≤ d ∧ d ≤ 109) : sp_when τ b d = if fstN (fun m => qFI (mUp τ 2 b m) b d) 100 < 100 then fstN (fun m => qFI (mUp τ 2 b m) b d) 100 else -9 := by unfold sp_when; rw [if_neg (fun z => z h1), if_neg (fun z => z h2)]
theorem sp_longest_in {τ : mS} {b w : Int} (h1 : 0 ≤ b ∧ b < τ 0 4) (h2 : 0 ≤ w ∧ w ≤ 1) : sp_longest τ b w = if w = 0 then lgD (qHd τ b) 100 else lgM (qHd τ b) 100 := by unfold sp_longest; rw [if_neg (fun z => z h1), if_neg (fun z => z h2)]
theorem sp_moved_in {τ : mS} {b w : Int} (h1 : 0 ≤ b ∧ b < τ 0 4) (h2 : 0 ≤ w ∧ w ≤ 1) : sp_moved τ b w = if w = 0 then cntN (fun m => qAI (mUp τ 2 b m)) 100 else if fstN (fun m => qAI (mUp τ 2 b m)) 100 < 100 then fstN (fun m => qAI (mUp τ 2 b m)) 100 else -9 := by unfold sp_moved; rw [if_neg (fun z => z h1), if_neg (fun z => z h2)]
theorem sp_kinds_in {τ : mS} {b : Int} (h1 : 0 ≤ b ∧ b < τ 0 4) : sp_kinds τ b = setOf 3 (fun v => qAI (mUp τ 1 b v)) := by unfold sp_kinds; rw [if_neg (fun z => z h1)]
theorem sp_worth_in {τ : mS} {b : Int} (h1 : 0 ≤ b ∧ b < τ 0 4) : sp_worth τ b = qOh τ (qSI τ) b - qOh τ (fun a => decide (a = b) || qSI τ a) b + 1000 := by unfold sp_worth; rw [if_neg (fun z => z h1)]
noncomputable def sp_struck (τ : mS) (b : Int) : Int := if ¬ (0 ≤ b ∧ b < τ 0 4) then -1 else qFs τ (qCl τ) b
set_option maxRecDepth 100000 in
set_option maxHeartbeats 2000000 in
theorem c_X8_passing {l : Launch} {D : va_G} {cs : mC} {ad : Int → Nat} (σ : mS)  (hI : mIdl σ) (hW : qW (vM σ)) : CI l (gM D cs ad) M_X8_passing 4 [.ref (ad 0)] σ (fun z s => z = sp_passing (vM σ) ∧ mSc σ s) := by
  refine CI.of (by decide) (Nat.le_of_ble_eq_true rfl) (fun x h hq => ?_)
  show mG x 0 [(0, .ref (ad 0))] [] σ
  have hn0 : 0 ≤ σ 0 9 := hW.1.1
  have hn6 : σ 0 9 ≤ 6 := hW.1.2.1
  have e4 : vM σ 0 4 = σ 0 9 := rfl
  refine g_aload_n h dX8_passing_0 rfl ?_
  refine gm_bills h dX8_passing_1 lf_RX8_72 ?_
  refine g_if_ne (tgt := 10) h dX8_passing_4 (by decide) (by first | exact hR _ _ | exact ⟨by omega, by omega⟩) (fun c4 => ?_) (fun c4 => ?_)
  · refine g_aload_n h dX8_passing_10 rfl ?_
    refine g_vV h (c_X8_layPassing σ (hI.wf hW (by omega))) (by decide) lm_RX8_178 (rvM rfl) dX8_passing_11 rfl (Nat.le_of_ble_eq_true rfl) (fun s11 p11 => ?_)
    obtain ⟨q1, q2, q3⟩ := p11
    rw [hI.Pf hW.1 (by omega)] at q3
    refine g_iconst h dX8_passing_14 rfl ?_
    refine g_istore_n h dX8_passing_15 (by decide) rfl ?_
    refine g_iconst h dX8_passing_16 rfl ?_
    refine g_istore_n h dX8_passing_17 (by decide) rfl ?_
    refine lp_X8_passing h hq q1 hn0 hn6 q3 ⟨?_, q1⟩ 8 0 (by omega) (by omega) (by omega)
    unfold sp_passing
    rw [e4, if_neg (by omega)]
  · refine g_bipush h dX8_passing_7 (by decide) ?_
    refine g_iret h hq rfl dX8_passing_9 ⟨by unfold sp_passing; rw [e4, if_pos (by omega)], mSc.rf σ⟩
set_option maxRecDepth 100000 in
set_option maxHeartbeats 2000000 in
theorem c_X8_force {l : Launch} {D : va_G} {cs : mC} {ad : Int → Nat} (σ : mS) (d : Int) (hd : i32 d) (hI : mIdl σ) (hW : qW (vM σ)) : CI l (gM D cs ad) M_X8_force 5 [.ref (ad 0), mI d] σ (fun z s => z = sp_force (vM σ) d ∧ mSc σ s) := by
  refine CI.of (by decide) (Nat.le_of_ble_eq_true rfl) (fun x h hq => ?_)
  show mG x 0 [(0, .ref (ad 0)), (1, mI d)] [] σ
  have hn0 : 0 ≤ σ 0 9 := hW.1.1
  have hn6 : σ 0 9 ≤ 6 := hW.1.2.1
  have e4 : vM σ 0 4 = σ 0 9 := rfl
  refine g_iload_n h dX8_force_0 rfl ?_
  refine g_sI h (c_X8_isDay _ _ hd) (by decide) lm_RX8_152 dX8_force_1 rfl (Nat.le_of_ble_eq_true rfl) (fun z1 s1 p1 => ?_)
  obtain ⟨e1, r1⟩ := p1; subst e1; replace r1 := Eq.symm r1; subst r1
  refine g_ifb_ne (tgt := 10) h dX8_force_4 (by decide)  (fun c4 => ?_) (fun c4 => ?_)
  · refine g_aload_n h dX8_force_10 rfl ?_
    refine gm_bills h dX8_force_11 lf_RX8_72 ?_
    refine g_if_ne (tgt := 22) h dX8_force_14 (by decide) (by first | exact hR _ _ | exact ⟨by omega, by omega⟩) (fun c14 => ?_) (fun c14 => ?_)
    · refine g_aload_n h dX8_force_22 rfl ?_
      refine g_iload_n h dX8_force_23 rfl ?_
      refine g_vI h (c_X8_forceOn σ _ (hI.wf hW (by omega)) (by omega) (by omega)) (by decide) lm_RX8_184 (rvM rfl) dX8_force_24 rfl (Nat.le_of_ble_eq_true rfl) (fun z24 s24 p24 => ?_)
      obtain ⟨e24, r24⟩ := p24
      refine g_iret h hq rfl dX8_force_27 ⟨by unfold sp_force; rw [e4, if_neg (fun z => z c4), if_neg (by omega), e24]; exact setOf_cong (fun b _ _ => hI.F hW.1 (by omega) b d), r24⟩
    · refine g_bipush h dX8_force_17 (by decide) ?_
      refine g_goto (tgt := 27) h dX8_force_19 (by decide) ?_
      refine g_iret h hq rfl dX8_force_27 ⟨by unfold sp_force; rw [e4, if_neg (fun z => z c4), if_pos (by omega)], mSc.rf σ⟩
  · refine g_bipush h dX8_force_7 (by decide) ?_
    refine g_iret h hq rfl dX8_force_9 ⟨by unfold sp_force; rw [if_pos c4], mSc.rf σ⟩
set_option maxRecDepth 100000 in
set_option maxHeartbeats 2000000 in
theorem c_X8_holds {l : Launch} {D : va_G} {cs : mC} {ad : Int → Nat} (σ : mS) (b : Int) (hb : i32 b) (hI : mIdl σ) (hW : qW (vM σ)) : CI l (gM D cs ad) M_X8_holds 5 [.ref (ad 0), mI b] σ (fun z s => z = sp_holds (vM σ) b ∧ mSc σ s) := by
  refine CI.of (by decide) (Nat.le_of_ble_eq_true rfl) (fun x h hq => ?_)
  show mG x 0 [(0, .ref (ad 0)), (1, mI b)] [] σ
  have hn0 : 0 ≤ σ 0 9 := hW.1.1
  have hn6 : σ 0 9 ≤ 6 := hW.1.2.1
  have e4 : vM σ 0 4 = σ 0 9 := rfl
  refine g_aload_n h dX8_holds_0 rfl ?_
  refine g_iload_n h dX8_holds_1 rfl ?_
  refine g_vI h (c_X8_isBill _ _ hb ⟨by omega, by omega⟩) (by decide) lm_RX8_146 (rvM rfl) dX8_holds_2 rfl (Nat.le_of_ble_eq_true rfl) (fun z2 s2 p2 => ?_)
  obtain ⟨e2, r2⟩ := p2; subst e2; replace r2 := Eq.symm r2; subst r2
  refine g_ifb_eq (tgt := 16) h dX8_holds_5 (by decide)  (fun c5 => ?_) (fun c5 => ?_)
  · refine g_iconst h dX8_holds_16 rfl ?_
    refine g_iret h hq rfl dX8_holds_17 ⟨by unfold sp_holds; rw [e4, if_pos c5], mSc.rf σ⟩
  · refine g_aload_n h dX8_holds_8 rfl ?_
    refine g_iload_n h dX8_holds_9 rfl ?_
    refine g_vI h (c_X8_holdsNow σ _ (hI.wf hW (by omega)) c5.1 c5.2) (by decide) lm_RX8_187 (rvM rfl) dX8_holds_10 rfl (Nat.le_of_ble_eq_true rfl) (fun z10 s10 p10 => ?_)
    obtain ⟨e10, r10⟩ := p10
    refine g_goto (tgt := 17) h dX8_holds_13 (by decide) ?_
    refine g_iret h hq rfl dX8_holds_17 ⟨by unfold sp_holds; rw [e4, if_neg (fun z => z c5), e10]; exact cntN_cong (fun d _ _ => hI.F hW.1 (by omega) b d), r10⟩
set_option maxRecDepth 100000 in
set_option maxHeartbeats 2000000 in
theorem c_X8_struck {l : Launch} {D : va_G} {cs : mC} {ad : Int → Nat} (σ : mS) (b : Int) (hb : i32 b) (hI : mIdl σ) (hW : qW (vM σ)) : CI l (gM D cs ad) M_X8_struck 3 [.ref (ad 0), mI b] σ (fun z s => z = sp_struck (vM σ) b ∧ mSc σ s) := by
  refine CI.of (by decide) (Nat.le_of_ble_eq_true rfl) (fun x h hq => ?_)
  show mG x 0 [(0, .ref (ad 0)), (1, mI b)] [] σ
  have hn0 : 0 ≤ σ 0 9 := hW.1.1
  have hn6 : σ 0 9 ≤ 6 := hW.1.2.1
  have e4 : vM σ 0 4 = σ 0 9 := rfl
  refine g_aload_n h dX8_struck_0 rfl ?_
  refine g_iload_n h dX8_struck_1 rfl ?_
  refine g_vI h (c_X8_isBill _ _ hb ⟨by omega, by omega⟩) (by decide) lm_RX8_146 (rvM rfl) dX8_struck_2 rfl (Nat.le_of_ble_eq_true rfl) (fun z2 s2 p2 => ?_)
  obtain ⟨e2, r2⟩ := p2; subst e2; replace r2 := Eq.symm r2; subst r2
  refine g_ifb_eq (tgt := 16) h dX8_struck_5 (by decide)  (fun c5 => ?_) (fun c5 => ?_)
  · refine g_iconst h dX8_struck_16 rfl ?_
    refine g_iret h hq rfl dX8_struck_17 ⟨by unfold sp_struck; rw [e4, if_pos c5], mSc.rf σ⟩
  · refine g_aload_n h dX8_struck_8 rfl ?_
    refine g_iload_n h dX8_struck_9 rfl ?_
    refine g_vI h (c_X8_struckOn σ _ (hI.wf hW (by omega)) c5.1 (by omega)) (by decide) lm_RX8_165 (rvM rfl) dX8_struck_10 rfl (Nat.le_of_ble_eq_true rfl) (fun z10 s10 p10 => ?_)
    obtain ⟨e10, r10⟩ := p10; subst e10; replace r10 := Eq.symm r10; subst r10
    refine g_goto (tgt := 17) h dX8_struck_13 (by decide) ?_
    refine g_iret h hq rfl dX8_struck_17 ⟨by
    unfold sp_struck
    rw [e4, if_neg (fun z => z c5)]
    unfold qFs
    have e : fstN (fun m => qWt (vM σ) b m && !dkM σ m) 11 = fstN (fun m => qWt (vM σ) b m && !qCl (vM σ) m) 11 := fstN_cong (fun m m0 m1 => by
      cases hz : qWt (vM σ) b m with
      | false => rfl
      | true =>
        have g2 := qWt_in hW.1 c5.1 (by omega) hz
        rw [vM_qCl hW.1 (by omega) m0 (by omega) (by omega)]
        unfold dkM
        rw [hI.1, hI.2.1]; simp)
    rw [e], mSc.rf σ⟩
set_option maxRecDepth 100000 in
set_option maxHeartbeats 2000000 in
theorem lpf_X8_when {x : mX} {l : Launch} {D : va_G} {cs : mC} {ad : Int → Nat} {post : Int → mS → Prop} (h : mOk x l M_X8_when 5 (gM D cs ad)) (hq : rI x (gM D cs ad) post) {σ s : mS} {b d v k : Int} (b0 : 0 ≤ b) (b1 : b < 6) (hs : mSq 5 b σ s) (hp : ∀ t : mS, mSc σ t → post v t) : mG x 84 [(0, .ref (ad 0)), (1, mI b), (2, mI d), (3, mI (σ 5 b)), (4, mI v), (5, mI k)] [] s := by

  refine g_aload_n h dX8_when_84 rfl ?_
  refine gm_dayOf h dX8_when_85 lf_RX8_22 ?_
  refine g_iload_n h dX8_when_88 rfl ?_
  refine g_iload_n h dX8_when_89 rfl ?_
  refine sm_dayOf h dX8_when_90 (by omega) (by omega) ?_
  refine g_iload h dX8_when_91 rfl ?_
  refine g_iret h hq rfl dX8_when_93 (hp _ (hs.back (by omega)))
set_option maxRecDepth 100000 in
set_option maxHeartbeats 2000000 in
theorem lp_X8_when {x : mX} {l : Launch} {D : va_G} {cs : mC} {ad : Int → Nat} {post : Int → mS → Prop} (h : mOk x l M_X8_when 5 (gM D cs ad)) (hq : rI x (gM D cs ad) post) {σ : mS} {b d : Int} (b0 : 0 ≤ b) (b1 : b < σ 0 9) (d0 : 0 ≤ d) (d1 : d ≤ 109) (hw : mWf σ) (hI : mIdl σ) (hp : ∀ t : mS, mSc σ t → post (if fstN (fun m => qFI (mUp (vM σ) 2 b m) b d) 100 < 100 then fstN (fun m => qFI (mUp (vM σ) 2 b m) b d) 100 else -9) t) : ∀ (f : Nat) (k : Int) (s : mS), 0 ≤ k → k ≤ 100 → 100 - k < f → mSq 5 b σ s → (∀ j : Int, 0 ≤ j → j < k → qFI (mUp (vM σ) 2 b j) b d = false) → mG x 34 [(0, .ref (ad 0)), (1, mI b), (2, mI d), (3, mI (σ 5 b)), (4, mI (-9)), (5, mI k)] [] s := by
  intro f
  have hn6 : σ 0 9 ≤ 6 := hw.1.2.1
  induction f with
  | zero => intro k s h0 h1 h2; omega
  | succ f ih =>
    intro k s h0 h1 h2 hs hj
    refine g_iload h dX8_when_34 rfl ?_
    refine g_bipush h dX8_when_36 (by decide) ?_
    refine g_icmp_ge (tgt := 84) h dX8_when_38 (by decide) (by first | exact hR _ _ | exact ⟨by omega, by omega⟩) (by first | exact hR _ _ | exact ⟨by omega, by omega⟩) (fun c38 => ?_) (fun c38 => ?_)
    · exact lpf_X8_when h hq b0 (by omega) hs (fun t ht => by
        have e := fstN_no (n := 100) (fun j j0 j1 => hj j j0 (by omega))
        have := hp t ht
        rw [e, if_neg (by omega)] at this
        exact this)
    · refine g_iload h dX8_when_41 rfl ?_
      refine g_bipush h dX8_when_43 (by decide) ?_
      refine g_icmp_ne (tgt := 84) h dX8_when_45 (by decide) ⟨by omega, by omega⟩ ⟨by omega, by omega⟩ (fun c45 => ?_) (fun c45 => ?_)
      · omega
      · refine g_aload_n h dX8_when_48 rfl ?_
        refine gm_dayOf h dX8_when_49 lf_RX8_22 ?_
        refine g_iload_n h dX8_when_52 rfl ?_
        refine g_iload h dX8_when_53 rfl ?_
        refine sm_dayOf h dX8_when_55 b0 (by omega) ?_
        have hsc := hs.sc (by omega) k
        have w := hsc.wf (mWf_day hw hI b0 (by omega) h0 (by omega))
        have e9 : mUp s 5 b k 0 9 = σ 0 9 := by rw [hsc 0 (by omega) (by omega) (by omega), mUp_ne σ k (by omega)]
        refine g_aload_n h dX8_when_56 rfl ?_
        refine g_iload_n h dX8_when_57 rfl ?_
        refine g_vI h (c_X8_forceOn _ _ w d0 (by omega)) (by decide) lm_RX8_184 (rvM rfl) dX8_when_58 rfl (Nat.le_of_ble_eq_true rfl) (fun z58 s58 p58 => ?_)
        obtain ⟨e58, r58⟩ := p58
        rw [e9, setOf_cong (q := fun a => qFI (mUp (vM σ) 2 b k) a d) (fun a _ _ => by rw [hsc.view, hsc.st]; exact mF_day hw hI b0 (by omega) h0 (by omega) a d)] at e58
        subst e58
        have hq58 : mSq 5 b σ s58 := mSq.next (by omega) (hsc.tr r58)
        refine g_iload_n h dX8_when_61 rfl ?_
        refine g_ishr h dX8_when_62 ?_
        refine g_iconst h dX8_when_63 rfl ?_
        refine g_iand h dX8_when_64 ?_
        refine g_iconst h dX8_when_65 rfl ?_
        refine g_val2 (b := bl (qFI (mUp (vM σ) 2 b k) b d = true)) (set_rd (by omega) _ b0 (by omega)) ?_
        refine g_icmp_ne (tgt := 74) h dX8_when_66 (by decide) (bl_rng _) ⟨by omega, by omega⟩ (fun c66 => ?_) (fun c66 => ?_)
        · have cF : qFI (mUp (vM σ) 2 b k) b d = false := by
            cases hz : qFI (mUp (vM σ) 2 b k) b d with
            | false => rfl
            | true => rw [hz, ← bl1 rfl] at c66; exact absurd rfl c66
          refine g_bipush h dX8_when_74 (by decide) ?_
          refine g_istore h dX8_when_76 (by decide) rfl ?_
          refine g_iinc h dX8_when_78 rfl (by decide) rfl ?_
          refine g_goto (tgt := 34) h dX8_when_81 (by decide) ?_
          exact ih (k + 1) s58 (by omega) (by omega) (by omega) hq58 (fun j j0 j1 => by
            by_cases q : j = k
            · rw [q]; exact cF
            · exact hj j j0 (by omega))
        · have cF : qFI (mUp (vM σ) 2 b k) b d = true := by
            cases hz : qFI (mUp (vM σ) 2 b k) b d with
            | true => rfl
            | false => rw [hz, ← bl0 (by decide)] at c66; omega
          refine g_iload h dX8_when_69 rfl ?_
          refine g_goto (tgt := 76) h dX8_when_71 (by decide) ?_
          refine g_istore h dX8_when_76 (by decide) rfl ?_
          refine g_iinc h dX8_when_78 rfl (by decide) rfl ?_
          refine g_goto (tgt := 34) h dX8_when_81 (by decide) ?_
          have fin : mG x 84 [(0, .ref (ad 0)), (1, mI b), (2, mI d), (3, mI (σ 5 b)), (4, mI k), (5, mI (k + 1))] [] s58 := lpf_X8_when h hq b0 (by omega) hq58 (fun t ht => by
            have e := fstN_is (n := 100) h0 (by omega) cF hj
            have := hp t ht
            rw [e, if_pos (by omega)] at this
            exact this)
          refine g_iload h dX8_when_34 rfl ?_
          refine g_bipush h dX8_when_36 (by decide) ?_
          refine g_icmp_ge (tgt := 84) h dX8_when_38 (by decide) ⟨by omega, by omega⟩ ⟨by omega, by omega⟩ (fun c => ?_) (fun c => ?_)
          · exact fin
          · refine g_iload h dX8_when_41 rfl ?_
            refine g_bipush h dX8_when_43 (by decide) ?_
            refine g_icmp_ne (tgt := 84) h dX8_when_45 (by decide) ⟨by omega, by omega⟩ ⟨by omega, by omega⟩ (fun c => ?_) (fun c => ?_)
            · exact fin
            · omega
set_option maxRecDepth 100000 in
set_option maxHeartbeats 2000000 in
theorem c_X8_when {l : Launch} {D : va_G} {cs : mC} {ad : Int → Nat} (σ : mS) (b d : Int) (hb : i32 b) (hd : i32 d) (hI : mIdl σ) (hW : qW (vM σ)) : CI l (gM D cs ad) M_X8_when 5 [.ref (ad 0), mI b, mI d] σ (fun z s => z = sp_when (vM σ) b d ∧ mSc σ s) := by
  refine CI.of (by decide) (Nat.le_of_ble_eq_true rfl) (fun x h hq => ?_)
  show mG x 0 [(0, .ref (ad 0)), (1, mI b), (2, mI d)] [] σ
  have hn0 : 0 ≤ σ 0 9 := hW.1.1
  have hn6 : σ 0 9 ≤ 6 := hW.1.2.1
  have e4 : vM σ 0 4 = σ 0 9 := rfl
  refine g_aload_n h dX8_when_0 rfl ?_
  refine g_iload_n h dX8_when_1 rfl ?_
  refine g_vI h (c_X8_isBill _ _ hb ⟨by omega, by omega⟩) (by decide) lm_RX8_146 (rvM rfl) dX8_when_2 rfl (Nat.le_of_ble_eq_true rfl) (fun z2 s2 p2 => ?_)
  obtain ⟨e2, r2⟩ := p2; subst e2; replace r2 := Eq.symm r2; subst r2
  refine g_ifb_ne (tgt := 10) h dX8_when_5 (by decide)  (fun c5 => ?_) (fun c5 => ?_)
  · refine g_iload_n h dX8_when_10 rfl ?_
    refine g_sI h (c_X8_isDay _ _ hd) (by decide) lm_RX8_152 dX8_when_11 rfl (Nat.le_of_ble_eq_true rfl) (fun z11 s11 p11 => ?_)
    obtain ⟨e11, r11⟩ := p11; subst e11; replace r11 := Eq.symm r11; subst r11
    refine g_ifb_ne (tgt := 20) h dX8_when_14 (by decide)  (fun c14 => ?_) (fun c14 => ?_)
    · refine g_aload_n h dX8_when_20 rfl ?_
      refine gm_dayOf h dX8_when_21 lf_RX8_22 ?_
      refine g_iload_n h dX8_when_24 rfl ?_
      refine lm_dayOf h dX8_when_25 c5.1 (by omega) ?_
      refine g_istore_n h dX8_when_26 (by decide) rfl ?_
      refine g_bipush h dX8_when_27 (by decide) ?_
      refine g_istore h dX8_when_29 (by decide) rfl ?_
      refine g_iconst h dX8_when_31 rfl ?_
      refine g_istore h dX8_when_32 (by decide) rfl ?_
      exact lp_X8_when h hq c5.1 c5.2 c14.1 c14.2 (hI.wf hW (by omega)) hI (fun t ht => ⟨(sp_when_in (show 0 ≤ b ∧ b < vM σ 0 4 from c5) c14).symm, ht⟩) 101 0 σ (by omega) (by omega) (by omega) (mSq.of (by omega) (mSc.rf σ)) (fun j j0 j1 => by omega)
    · refine g_bipush h dX8_when_17 (by decide) ?_
      refine g_iret h hq rfl dX8_when_19 ⟨by unfold sp_when; rw [e4, if_neg (fun z => z c5), if_pos c14], mSc.rf σ⟩
  · refine g_iconst h dX8_when_8 rfl ?_
    refine g_iret h hq rfl dX8_when_9 ⟨by unfold sp_when; rw [e4, if_pos c5], mSc.rf σ⟩
theorem sp_buy_in {τ : mS} {b d : Int} (h1 : 0 ≤ b ∧ b < τ 0 4) (h2 : 0 ≤ d ∧ d ≤ 109) : sp_buy τ b d = qBy τ b d := by unfold sp_buy; rw [if_neg (fun z => z h1), if_neg (fun z => z h2)]
theorem lg_next (f : Int → Int) {k : Int} (h0 : 0 ≤ k) : lgM f (k + 1).toNat = (if lgM f k.toNat < f k then f k else lgM f k.toNat) ∧ lgD f (k + 1).toNat = (if lgM f k.toNat < f k then k else lgD f k.toNat) := by
  rw [show (k + 1).toNat = k.toNat + 1 by omega]
  have e : ((k.toNat : Nat) : Int) = k := Int.toNat_of_nonneg h0
  constructor
  · show (if lgM f k.toNat < f ((k.toNat : Nat) : Int) then f ((k.toNat : Nat) : Int) else lgM f k.toNat) = _
    rw [e]
  · show (if lgM f k.toNat < f ((k.toNat : Nat) : Int) then ((k.toNat : Nat) : Int) else lgD f k.toNat) = _
    rw [e]
theorem lg_rng {f : Int → Int} (hf : ∀ i : Int, 0 ≤ f i ∧ f i ≤ 110) : ∀ n : Nat, -1 ≤ lgM f n ∧ lgM f n ≤ 110 ∧ 0 ≤ lgD f n ∧ lgD f n ≤ n ∧ (0 < n → 0 ≤ lgM f n)
  | 0 => ⟨by simp [lgM], by simp [lgM], by simp [lgD], by simp [lgD], fun h => by omega⟩
  | n + 1 => by
    obtain ⟨a, b, c, d, e⟩ := lg_rng hf n
    have := hf (n : Int)
    unfold lgM lgD
    by_cases q : lgM f n < f (n : Int)
    · rw [if_pos q, if_pos q]; refine ⟨by omega, by omega, by omega, by omega, fun _ => by omega⟩
    · rw [if_neg q, if_neg q]; refine ⟨by omega, by omega, by omega, by omega, fun _ => by omega⟩
theorem qHd_rng (τ : mS) (b : Int) : ∀ m : Int, 0 ≤ qHd τ b m ∧ qHd τ b m ≤ 110 := fun m => cntN_le _ 110
set_option maxRecDepth 100000 in
set_option maxHeartbeats 2000000 in
theorem lp_X8_longest {x : mX} {l : Launch} {D : va_G} {cs : mC} {ad : Int → Nat} {post : Int → mS → Prop} (h : mOk x l M_X8_longest 5 (gM D cs ad)) (hq : rI x (gM D cs ad) post) {σ : mS} {b w : Int} (b0 : 0 ≤ b) (b1 : b < σ 0 9) (w0 : 0 ≤ w) (w1 : w ≤ 1) (hw : mWf σ) (hI : mIdl σ) (hp : ∀ t : mS, mSc σ t → post (if w = 0 then lgD (qHd (vM σ) b) 100 else lgM (qHd (vM σ) b) 100) t) : ∀ (f : Nat) (k be mo : Int) (s : mS), 0 ≤ k → k ≤ 100 → 100 - k < f → mSq 5 b σ s → ((k = 0 ∧ be = -9 ∧ mo = 0) ∨ (0 < k ∧ be = lgD (qHd (vM σ) b) k.toNat ∧ mo = lgM (qHd (vM σ) b) k.toNat)) → mG x 39 [(0, .ref (ad 0)), (1, mI b), (2, mI w), (3, mI (σ 5 b)), (4, mI be), (5, mI mo), (6, mI k)] [] s := by
  intro f
  have hn6 : σ 0 9 ≤ 6 := hw.1.2.1
  induction f with
  | zero => intro k be mo s h0 h1 h2; omega
  | succ f ih =>
    intro k be mo s h0 h1 h2 hs hbm
    have hlr := lg_rng (qHd_rng (vM σ) b) k.toNat
    have hln := lg_next (qHd (vM σ) b) h0
    have hnn := qHd_rng (vM σ) b k
    have hbr : -9 ≤ be ∧ be ≤ 100 ∧ -1 ≤ mo ∧ mo ≤ 110 := by rcases hbm with ⟨a1, a2, a3⟩ | ⟨a1, a2, a3⟩ <;> omega
    refine g_iload h dX8_longest_39 rfl ?_
    refine g_bipush h dX8_longest_41 (by decide) ?_
    refine g_icmp_ge (tgt := 89) h dX8_longest_43 (by decide) (by first | exact hR _ _ | exact ⟨by omega, by omega⟩) (by first | exact hR _ _ | exact ⟨by omega, by omega⟩) (fun c43 => ?_) (fun c43 => ?_)
    · refine g_aload_n h dX8_longest_89 rfl ?_
      refine gm_dayOf h dX8_longest_90 lf_RX8_22 ?_
      refine g_iload_n h dX8_longest_93 rfl ?_
      refine g_iload_n h dX8_longest_94 rfl ?_
      refine sm_dayOf h dX8_longest_95 b0 (by omega) ?_
      refine g_iload_n h dX8_longest_96 rfl ?_
      refine g_if_ne (tgt := 105) h dX8_longest_97 (by decide) (by first | exact hR _ _ | exact ⟨by omega, by omega⟩) (fun c97 => ?_) (fun c97 => ?_)
      · refine g_iload h dX8_longest_105 rfl ?_
        refine g_iret h hq rfl dX8_longest_107 (by
        have e : mo = lgM (qHd (vM σ) b) 100 := by rw [← show k.toNat = 100 by omega]; omega
        have := hp _ (hs.back (by omega))
        rw [if_neg c97] at this
        rw [e]; exact this)
      · refine g_iload h dX8_longest_100 rfl ?_
        refine g_goto (tgt := 107) h dX8_longest_102 (by decide) ?_
        refine g_iret h hq rfl dX8_longest_107 (by
        have e : be = lgD (qHd (vM σ) b) 100 := by rw [← show k.toNat = 100 by omega]; omega
        have := hp _ (hs.back (by omega))
        rw [if_pos c97] at this
        rw [e]; exact this)
    · refine g_aload_n h dX8_longest_46 rfl ?_
      refine gm_dayOf h dX8_longest_47 lf_RX8_22 ?_
      refine g_iload_n h dX8_longest_50 rfl ?_
      refine g_iload h dX8_longest_51 rfl ?_
      refine sm_dayOf h dX8_longest_53 b0 (by omega) ?_
      have hsc := hs.sc (by omega) k
      have wf9 := hsc.wf (mWf_day hw hI b0 (by omega) h0 (by omega))
      have e9 : mUp s 5 b k 0 9 = σ 0 9 := by rw [hsc 0 (by omega) (by omega) (by omega), mUp_ne σ k (by omega)]
      refine g_aload_n h dX8_longest_54 rfl ?_
      refine g_iload_n h dX8_longest_55 rfl ?_
      refine g_vI h (c_X8_holdsNow _ _ wf9 b0 (by rw [e9]; exact b1)) (by decide) lm_RX8_187 (rvM rfl) dX8_longest_56 rfl (Nat.le_of_ble_eq_true rfl) (fun z56 s56 p56 => ?_)
      obtain ⟨e56, r56⟩ := p56
      have e56b : z56 = qHd (vM σ) b k := by
        rw [e56, hsc.view, hsc.st]
        exact cntN_cong (fun d _ _ => mF_day hw hI b0 (by omega) h0 (by omega) b d)
      clear e56
      subst e56b
      have hq56 : mSq 5 b σ s56 := mSq.next (by omega) (hsc.tr r56)
      have hfin : ∀ be2 mo2 : Int, be2 = lgD (qHd (vM σ) b) (k + 1).toNat → mo2 = lgM (qHd (vM σ) b) (k + 1).toNat → mG x 39 [(0, .ref (ad 0)), (1, mI b), (2, mI w), (3, mI (σ 5 b)), (4, mI be2), (5, mI mo2), (6, mI (k + 1))] [] s56 := fun be2 mo2 q1 q2 => ih (k + 1) be2 mo2 s56 (by omega) (by omega) (by omega) hq56 (Or.inr ⟨by omega, q1, q2⟩)
      refine g_istore h dX8_longest_59 (by decide) rfl ?_
      refine g_iload h dX8_longest_61 rfl ?_
      refine g_bipush h dX8_longest_63 (by decide) ?_
      refine g_icmp_eq (tgt := 75) h dX8_longest_65 (by decide) (by first | exact hR _ _ | exact ⟨by omega, by omega⟩) (by first | exact hR _ _ | exact ⟨by omega, by omega⟩) (fun c65 => ?_) (fun c65 => ?_)
      · refine g_iload h dX8_longest_75 rfl ?_
        refine g_istore h dX8_longest_77 (by decide) rfl ?_
        refine g_iload h dX8_longest_79 rfl ?_
        refine g_istore h dX8_longest_81 (by decide) rfl ?_
        refine g_iinc h dX8_longest_83 rfl (by decide) rfl ?_
        refine g_goto (tgt := 39) h dX8_longest_86 (by decide) ?_
        refine g_lv (lv' := [(0, .ref (ad 0)), (1, mI b), (2, mI w), (3, mI (σ 5 b)), (4, mI k), (5, mI (qHd (vM σ) b k)), (6, mI (k + 1))]) rfl (hfin _ _ ?_ ?_)
        · rw [hln.2, if_pos (by rcases hbm with ⟨q1, q2, q3⟩ | ⟨q1, q2, q3⟩ <;> first | (subst q1; show (-1 : Int) < _; omega) | omega)]
        · rw [hln.1, if_pos (by rcases hbm with ⟨q1, q2, q3⟩ | ⟨q1, q2, q3⟩ <;> first | (subst q1; show (-1 : Int) < _; omega) | omega)]
      · refine g_iload h dX8_longest_68 rfl ?_
        refine g_iload h dX8_longest_70 rfl ?_
        refine g_icmp_le (tgt := 83) h dX8_longest_72 (by decide) (by first | exact hR _ _ | exact ⟨by omega, by omega⟩) (by first | exact hR _ _ | exact ⟨by omega, by omega⟩) (fun c72 => ?_) (fun c72 => ?_)
        · refine g_iinc h dX8_longest_83 rfl (by decide) rfl ?_
          refine g_goto (tgt := 39) h dX8_longest_86 (by decide) ?_
          refine g_lv (lv' := [(0, .ref (ad 0)), (1, mI b), (2, mI w), (3, mI (σ 5 b)), (4, mI be), (5, mI mo), (6, mI (k + 1))]) rfl (hfin _ _ ?_ ?_)
          · rw [hln.2, if_neg (by omega)]; omega
          · rw [hln.1, if_neg (by omega)]; omega
        · refine g_iload h dX8_longest_75 rfl ?_
          refine g_istore h dX8_longest_77 (by decide) rfl ?_
          refine g_iload h dX8_longest_79 rfl ?_
          refine g_istore h dX8_longest_81 (by decide) rfl ?_
          refine g_iinc h dX8_longest_83 rfl (by decide) rfl ?_
          refine g_goto (tgt := 39) h dX8_longest_86 (by decide) ?_
          refine g_lv (lv' := [(0, .ref (ad 0)), (1, mI b), (2, mI w), (3, mI (σ 5 b)), (4, mI k), (5, mI (qHd (vM σ) b k)), (6, mI (k + 1))]) rfl (hfin _ _ ?_ ?_)
          · rw [hln.2, if_pos (by omega)]
          · rw [hln.1, if_pos (by omega)]
set_option maxRecDepth 100000 in
set_option maxHeartbeats 2000000 in
theorem c_X8_longest {l : Launch} {D : va_G} {cs : mC} {ad : Int → Nat} (σ : mS) (b w : Int) (hb : i32 b) (hw9 : i32 w) (hI : mIdl σ) (hW : qW (vM σ)) : CI l (gM D cs ad) M_X8_longest 5 [.ref (ad 0), mI b, mI w] σ (fun z s => z = sp_longest (vM σ) b w ∧ mSc σ s) := by
  refine CI.of (by decide) (Nat.le_of_ble_eq_true rfl) (fun x h hq => ?_)
  show mG x 0 [(0, .ref (ad 0)), (1, mI b), (2, mI w)] [] σ
  have hn0 : 0 ≤ σ 0 9 := hW.1.1
  have hn6 : σ 0 9 ≤ 6 := hW.1.2.1
  have e4 : vM σ 0 4 = σ 0 9 := rfl
  refine g_aload_n h dX8_longest_0 rfl ?_
  refine g_iload_n h dX8_longest_1 rfl ?_
  refine g_vI h (c_X8_isBill _ _ hb ⟨by omega, by omega⟩) (by decide) lm_RX8_146 (rvM rfl) dX8_longest_2 rfl (Nat.le_of_ble_eq_true rfl) (fun z2 s2 p2 => ?_)
  obtain ⟨e2, r2⟩ := p2; subst e2; replace r2 := Eq.symm r2; subst r2
  refine g_ifb_ne (tgt := 10) h dX8_longest_5 (by decide)  (fun c5 => ?_) (fun c5 => ?_)
  · refine g_iload_n h dX8_longest_10 rfl ?_
    refine g_iconst h dX8_longest_11 rfl ?_
    refine g_iconst h dX8_longest_12 rfl ?_
    refine g_sI h (c_X8_within _ _ _ _ hw9 ⟨by omega, by omega⟩ ⟨by omega, by omega⟩) (by decide) lm_RX8_68 dX8_longest_13 rfl (Nat.le_of_ble_eq_true rfl) (fun z13 s13 p13 => ?_)
    obtain ⟨e13, r13⟩ := p13; subst e13; replace r13 := Eq.symm r13; subst r13
    refine g_ifb_ne (tgt := 22) h dX8_longest_16 (by decide)  (fun c16 => ?_) (fun c16 => ?_)
    · refine g_aload_n h dX8_longest_22 rfl ?_
      refine gm_dayOf h dX8_longest_23 lf_RX8_22 ?_
      refine g_iload_n h dX8_longest_26 rfl ?_
      refine lm_dayOf h dX8_longest_27 c5.1 (by omega) ?_
      refine g_istore_n h dX8_longest_28 (by decide) rfl ?_
      refine g_bipush h dX8_longest_29 (by decide) ?_
      refine g_istore h dX8_longest_31 (by decide) rfl ?_
      refine g_iconst h dX8_longest_33 rfl ?_
      refine g_istore h dX8_longest_34 (by decide) rfl ?_
      refine g_iconst h dX8_longest_36 rfl ?_
      refine g_istore h dX8_longest_37 (by decide) rfl ?_
      exact lp_X8_longest h hq c5.1 c5.2 c16.1 c16.2 (hI.wf hW (by omega)) hI (fun t ht => ⟨(sp_longest_in (show 0 ≤ b ∧ b < vM σ 0 4 from c5) c16).symm, ht⟩) 101 0 (-9) 0 σ (by omega) (by omega) (by omega) (mSq.of (by omega) (mSc.rf σ)) (Or.inl ⟨rfl, rfl, rfl⟩)
    · refine g_bipush h dX8_longest_19 (by decide) ?_
      refine g_iret h hq rfl dX8_longest_21 ⟨by unfold sp_longest; rw [e4, if_neg (fun z => z c5), if_pos c16], mSc.rf σ⟩
  · refine g_iconst h dX8_longest_8 rfl ?_
    refine g_iret h hq rfl dX8_longest_9 ⟨by unfold sp_longest; rw [e4, if_pos c5], mSc.rf σ⟩
theorem mWf_19 {σ : mS} (h : mWf σ) {b : Int} (hb : i32 b) : mWf (mUp σ 0 19 b) := by
  have v := (mSh.up0 σ b (show (17 : Int) ≤ 19 by omega) (by omega)).view
  unfold mWf
  rw [v, mUp_eq, mUp_ne σ b (show (0 : Int) ≠ 0 ∨ (9 : Int) ≠ 19 by omega), mUp_ne σ b (show (0 : Int) ≠ 0 ∨ (17 : Int) ≠ 19 by omega), mUp_ne σ b (show (0 : Int) ≠ 0 ∨ (18 : Int) ≠ 19 by omega), mUp_off σ 19 b (show (9 : Int) ≠ 0 by omega)]
  exact ⟨h.1, h.2.1, h.2.2.1, h.2.2.2.1, h.2.2.2.2.1, hb, h.2.2.2.2.2.2⟩
theorem qOh_cong {τ : mS} (h : 0 ≤ τ 0 4) {st st' : Int → Bool} (hs : ∀ b : Int, 0 ≤ b → b < τ 0 4 → st b = st' b) (b : Int) : qOh τ st b = qOh τ st' b := by
  unfold qOh
  exact sumN_cong (fun d _ _ => cntN_cong (fun a _ _ => by rw [qF_cong h hs]))
theorem st_19 {σ : mS} (hI : mIdl σ) (hw : qWf (vM σ)) (hn : 0 < σ 0 9) (b : Int) : ∀ a : Int, 0 ≤ a → a < vM σ 0 4 → stM (mUp σ 0 19 b) a = (decide (a = b) || qSI (vM σ) a) := by
  intro a a0 a1
  have q := hI.st hw hn a a0 a1
  have v := (mSh.up0 σ b (show (17 : Int) ≤ 19 by omega) (by omega)).view
  have d : dkM (mUp σ 0 19 b) = dkM σ := by
    funext m
    unfold dkM
    rw [v, mUp_ne σ b (show (0 : Int) ≠ 0 ∨ (17 : Int) ≠ 19 by omega), mUp_ne σ b (show (0 : Int) ≠ 0 ∨ (18 : Int) ≠ 19 by omega), mUp_off σ 19 b (show (9 : Int) ≠ 0 by omega)]
  unfold stM at q ⊢
  rw [v, d, mUp_eq, ← q, hI.2.2]
  have : decide (a = -9) = false := by simp; omega
  rw [this, Bool.false_or]
set_option maxRecDepth 100000 in
set_option maxHeartbeats 2000000 in
theorem c_X8_worth {l : Launch} {D : va_G} {cs : mC} {ad : Int → Nat} (σ : mS) (b : Int) (hb : i32 b) (hI : mIdl σ) (hW : qW (vM σ)) : CI l (gM D cs ad) M_X8_worth 5 [.ref (ad 0), mI b] σ (fun z s => z = sp_worth (vM σ) b ∧ mSc σ s) := by
  refine CI.of (by decide) (Nat.le_of_ble_eq_true rfl) (fun x h hq => ?_)
  show mG x 0 [(0, .ref (ad 0)), (1, mI b)] [] σ
  have hn0 : 0 ≤ σ 0 9 := hW.1.1
  have hn6 : σ 0 9 ≤ 6 := hW.1.2.1
  have e4 : vM σ 0 4 = σ 0 9 := rfl
  refine g_aload_n h dX8_worth_0 rfl ?_
  refine g_iload_n h dX8_worth_1 rfl ?_
  refine g_vI h (c_X8_isBill _ _ hb ⟨by omega, by omega⟩) (by decide) lm_RX8_146 (rvM rfl) dX8_worth_2 rfl (Nat.le_of_ble_eq_true rfl) (fun z2 s2 p2 => ?_)
  obtain ⟨e2, r2⟩ := p2; subst e2; replace r2 := Eq.symm r2; subst r2
  refine g_ifb_ne (tgt := 10) h dX8_worth_5 (by decide)  (fun c5 => ?_) (fun c5 => ?_)
  · refine g_aload_n h dX8_worth_10 rfl ?_
    refine g_iload_n h dX8_worth_11 rfl ?_
    refine g_vI h (c_X8_othersHold σ _ (hI.wf hW (by omega)) c5.1 c5.2) (by decide) lm_RX8_200 (rvM rfl) dX8_worth_12 rfl (Nat.le_of_ble_eq_true rfl) (fun z12 s12 p12 => ?_)
    obtain ⟨e12, r12⟩ := p12
    have wf9 := hI.wf hW (show 0 < σ 0 9 by omega)
    have hs12 : mSq 0 19 σ s12 := mSq.of (by omega) r12
    have hsc := hs12.sc (by omega) b
    have g9 : mUp s12 0 19 b 0 9 = σ 0 9 := by rw [mUp_ne s12 b (by omega), r12 0 (by omega) (by omega) (by omega)]
    refine g_istore_n h dX8_worth_15 (by decide) rfl ?_
    refine g_aload_n h dX8_worth_16 rfl ?_
    refine g_iload_n h dX8_worth_17 rfl ?_
    refine pm_struckToo h dX8_worth_18 lf_RX8_38 ?_
    refine g_aload_n h dX8_worth_21 rfl ?_
    refine g_iload_n h dX8_worth_22 rfl ?_
    refine g_vI h (c_X8_othersHold (mUp s12 0 19 b) _ (hsc.wf (mWf_19 wf9 hb)) c5.1 (by rw [g9]; exact c5.2)) (by decide) lm_RX8_200 (rvM rfl) dX8_worth_23 rfl (Nat.le_of_ble_eq_true rfl) (fun z23 s23 p23 => ?_)
    obtain ⟨e23, r23⟩ := p23
    have hs23 : mSq 0 19 σ s23 := mSq.next (by omega) (hsc.tr r23)
    have hbk := hs23.back (by omega)
    rw [hI.2.2] at hbk
    have v19 := (mSh.up0 σ b (show (17 : Int) ≤ 19 by omega) (by omega)).view
    refine g_istore_n h dX8_worth_26 (by decide) rfl ?_
    refine g_aload_n h dX8_worth_27 rfl ?_
    refine g_bipush h dX8_worth_28 (by decide) ?_
    refine pm_struckToo h dX8_worth_30 lf_RX8_38 ?_
    refine g_iload_n h dX8_worth_33 rfl ?_
    refine g_iload_n h dX8_worth_34 rfl ?_
    refine g_isub h dX8_worth_35 ?_
    refine g_sipush h dX8_worth_36 (by decide) ?_
    refine g_iadd h dX8_worth_39 ?_
    refine g_iret h hq rfl dX8_worth_40 ⟨by
    rw [sp_worth_in (show 0 ≤ b ∧ b < vM σ 0 4 from c5), e12, e23, hsc.view, hsc.st, v19, qOh_cong hW.1.1 (hI.st hW.1 (by omega)) b, qOh_cong hW.1.1 (st_19 hI hW.1 (by omega) b) b], hbk⟩
  · refine g_iconst h dX8_worth_8 rfl ?_
    refine g_iret h hq rfl dX8_worth_9 ⟨by unfold sp_worth; rw [e4, if_pos c5], mSc.rf σ⟩
set_option maxRecDepth 100000 in
set_option maxHeartbeats 2000000 in
theorem lp_X8_spans {x : mX} {l : Launch} {D : va_G} {cs : mC} {ad : Int → Nat} {post : Int → mS → Prop} (h : mOk x l M_X8_spans 5 (gM D cs ad)) (hq : rI x (gM D cs ad) post) {σ : mS} (hw : mWf σ) (hI : mIdl σ) (hr : mRd σ) (hp : ∀ t : mS, mSc σ t → post (setOf 10 (fun v => qAI (mUp (vM σ) 0 3 v))) t) : ∀ (f : Nat) (k : Int) (s : mS), 0 ≤ k → k ≤ 10 → 10 - k < f → mSq 0 8 σ s → mG x 19 [(0, .ref (ad 0)), (1, mI (σ 0 8)), (2, mI (setOf k.toNat (fun v => qAI (mUp (vM σ) 0 3 v)))), (3, mI k)] [] s := by
  intro f
  have hn6 : σ 0 9 ≤ 6 := hw.1.2.1
  induction f with
  | zero => intro k s h0 h1 h2; omega
  | succ f ih =>
    intro k s h0 h1 h2 hs
    have JJ : ∀ (v : Int) (s2 : mS), k < 10 → mSq 0 8 σ s2 → v = (if (fun v => qAI (mUp (vM σ) 0 3 v)) k = true then iShl 1 k else 0) → mG x 45 [(0, .ref (ad 0)), (1, mI (σ 0 8)), (2, mI (setOf k.toNat (fun v => qAI (mUp (vM σ) 0 3 v)))), (3, mI k)] [mI v, mI (setOf k.toNat (fun v => qAI (mUp (vM σ) 0 3 v)))] s2 := by
      intro v s2 hk hs2 hv
      refine g_ior h dX8_spans_45 ?_
      refine g_istore_n h dX8_spans_46 (by decide) rfl ?_
      refine g_iinc h dX8_spans_47 rfl (by decide) rfl ?_
      refine g_goto (tgt := 19) h dX8_spans_50 (by decide) ?_
      refine g_lv (lv' := [(0, .ref (ad 0)), (1, mI (σ 0 8)), (2, mI (iOr (setOf k.toNat (fun v => qAI (mUp (vM σ) 0 3 v))) v)), (3, mI (k + 1))]) rfl ?_
      rw [set_next (by omega) (fun v => qAI (mUp (vM σ) 0 3 v)) (by omega) hv]
      exact ih (k + 1) s2 (by omega) (by omega) (by omega) hs2
    refine g_iload_n h dX8_spans_19 rfl ?_
    refine g_bipush h dX8_spans_20 (by decide) ?_
    refine g_icmp_gt (tgt := 53) h dX8_spans_22 (by decide) (by first | exact hR _ _ | exact ⟨by omega, by omega⟩) (by first | exact hR _ _ | exact ⟨by omega, by omega⟩) (fun c22 => ?_) (fun c22 => ?_)
    · refine g_aload_n h dX8_spans_53 rfl ?_
      refine g_iload_n h dX8_spans_54 rfl ?_
      refine pm_span h dX8_spans_55 lf_RX8_121 ?_
      refine g_iload_n h dX8_spans_58 rfl ?_
      refine g_iret h hq rfl dX8_spans_59 (by rw [show k.toNat = 10 by omega]; exact hp _ (hs.back (by omega)))
    · refine g_aload_n h dX8_spans_25 rfl ?_
      refine g_iload_n h dX8_spans_26 rfl ?_
      refine pm_span h dX8_spans_27 lf_RX8_121 ?_
      have hsc := hs.sc (by omega) k
      refine g_iload_n h dX8_spans_30 rfl ?_
      refine g_aload_n h dX8_spans_31 rfl ?_
      refine g_vI h (c_X8_areSo _ (hsc.wf (mWf_span hw hI h0 (show k ≤ 9 by omega))) (mRd.sc hsc (hr.up (by omega)))) (by decide) lm_RX8_203 (rvM rfl) dX8_spans_32 rfl (Nat.le_of_ble_eq_true rfl) (fun z32 s32 p32 => ?_)
      obtain ⟨e32q, r32q⟩ := p32
      have hw2 := mWf_span hw hI h0 (show k ≤ 9 by omega)
      have hI2 : mIdl (mUp σ 0 8 k) := hI.up (by omega)
      rw [hsc.view, hsc.st, hI2.As hw2.1 hw2.2.1, vM_up_span] at e32q
      subst e32q
      have hq2 : mSq 0 8 σ s32 := mSq.next (by omega) (hsc.tr r32q)
      refine g_ifb_eq (tgt := 44) h dX8_spans_35 (by decide)  (fun c35 => ?_) (fun c35 => ?_)
      · refine g_iconst h dX8_spans_44 rfl ?_
        exact JJ _ _ (by omega) hq2 (by rw [if_neg (by assumption)])
      · refine g_iconst h dX8_spans_38 rfl ?_
        refine g_iload_n h dX8_spans_39 rfl ?_
        refine g_ishl h dX8_spans_40 ?_
        refine g_goto (tgt := 45) h dX8_spans_41 (by decide) ?_
        exact JJ _ _ (by omega) hq2 (by rw [if_pos (by assumption)])
set_option maxRecDepth 100000 in
set_option maxHeartbeats 2000000 in
theorem lp_X8_origins {x : mX} {l : Launch} {D : va_G} {cs : mC} {ad : Int → Nat} {post : Int → mS → Prop} (h : mOk x l M_X8_origins 5 (gM D cs ad)) (hq : rI x (gM D cs ad) post) {σ : mS} (hw : mWf σ) (hI : mIdl σ) (hr : mRd σ) (hp : ∀ t : mS, mSc σ t → post (setOf 30 (fun v => qAI (mUp (vM σ) 0 0 v))) t) : ∀ (f : Nat) (k : Int) (s : mS), 0 ≤ k → k ≤ 30 → 30 - k < f → mSq 0 5 σ s → mG x 19 [(0, .ref (ad 0)), (1, mI (σ 0 5)), (2, mI (setOf k.toNat (fun v => qAI (mUp (vM σ) 0 0 v)))), (3, mI k)] [] s := by
  intro f
  have hn6 : σ 0 9 ≤ 6 := hw.1.2.1
  induction f with
  | zero => intro k s h0 h1 h2; omega
  | succ f ih =>
    intro k s h0 h1 h2 hs
    have JJ : ∀ (v : Int) (s2 : mS), k < 30 → mSq 0 5 σ s2 → v = (if (fun v => qAI (mUp (vM σ) 0 0 v)) k = true then iShl 1 k else 0) → mG x 45 [(0, .ref (ad 0)), (1, mI (σ 0 5)), (2, mI (setOf k.toNat (fun v => qAI (mUp (vM σ) 0 0 v)))), (3, mI k)] [mI v, mI (setOf k.toNat (fun v => qAI (mUp (vM σ) 0 0 v)))] s2 := by
      intro v s2 hk hs2 hv
      refine g_ior h dX8_origins_45 ?_
      refine g_istore_n h dX8_origins_46 (by decide) rfl ?_
      refine g_iinc h dX8_origins_47 rfl (by decide) rfl ?_
      refine g_goto (tgt := 19) h dX8_origins_50 (by decide) ?_
      refine g_lv (lv' := [(0, .ref (ad 0)), (1, mI (σ 0 5)), (2, mI (iOr (setOf k.toNat (fun v => qAI (mUp (vM σ) 0 0 v))) v)), (3, mI (k + 1))]) rfl ?_
      rw [set_next (by omega) (fun v => qAI (mUp (vM σ) 0 0 v)) (by omega) hv]
      exact ih (k + 1) s2 (by omega) (by omega) (by omega) hs2
    refine g_iload_n h dX8_origins_19 rfl ?_
    refine g_bipush h dX8_origins_20 (by decide) ?_
    refine g_icmp_ge (tgt := 53) h dX8_origins_22 (by decide) (by first | exact hR _ _ | exact ⟨by omega, by omega⟩) (by first | exact hR _ _ | exact ⟨by omega, by omega⟩) (fun c22 => ?_) (fun c22 => ?_)
    · refine g_aload_n h dX8_origins_53 rfl ?_
      refine g_iload_n h dX8_origins_54 rfl ?_
      refine pm_origin h dX8_origins_55 lf_RX8_103 ?_
      refine g_iload_n h dX8_origins_58 rfl ?_
      refine g_iret h hq rfl dX8_origins_59 (by rw [show k.toNat = 30 by omega]; exact hp _ (hs.back (by omega)))
    · refine g_aload_n h dX8_origins_25 rfl ?_
      refine g_iload_n h dX8_origins_26 rfl ?_
      refine pm_origin h dX8_origins_27 lf_RX8_103 ?_
      have hsc := hs.sc (by omega) k
      refine g_iload_n h dX8_origins_30 rfl ?_
      refine g_aload_n h dX8_origins_31 rfl ?_
      refine g_vI h (c_X8_areSo _ (hsc.wf (mWf_orig hw hI h0 (show k ≤ 29 by omega))) (mRd.sc hsc (hr.up (by omega)))) (by decide) lm_RX8_203 (rvM rfl) dX8_origins_32 rfl (Nat.le_of_ble_eq_true rfl) (fun z32 s32 p32 => ?_)
      obtain ⟨e32q, r32q⟩ := p32
      have hw2 := mWf_orig hw hI h0 (show k ≤ 29 by omega)
      have hI2 : mIdl (mUp σ 0 5 k) := hI.up (by omega)
      rw [hsc.view, hsc.st, hI2.As hw2.1 hw2.2.1, vM_up_orig] at e32q
      subst e32q
      have hq2 : mSq 0 5 σ s32 := mSq.next (by omega) (hsc.tr r32q)
      refine g_ifb_eq (tgt := 44) h dX8_origins_35 (by decide)  (fun c35 => ?_) (fun c35 => ?_)
      · refine g_iconst h dX8_origins_44 rfl ?_
        exact JJ _ _ (by omega) hq2 (by rw [if_neg (by assumption)])
      · refine g_iconst h dX8_origins_38 rfl ?_
        refine g_iload_n h dX8_origins_39 rfl ?_
        refine g_ishl h dX8_origins_40 ?_
        refine g_goto (tgt := 45) h dX8_origins_41 (by decide) ?_
        exact JJ _ _ (by omega) hq2 (by rw [if_pos (by assumption)])
set_option maxRecDepth 100000 in
set_option maxHeartbeats 2000000 in
theorem lp_X8_kinds {x : mX} {l : Launch} {D : va_G} {cs : mC} {ad : Int → Nat} {post : Int → mS → Prop} (h : mOk x l M_X8_kinds 5 (gM D cs ad)) (hq : rI x (gM D cs ad) post) {σ : mS} {b : Int} (b0 : 0 ≤ b) (b1 : b < σ 0 9) (hw : mWf σ) (hI : mIdl σ) (hr : mRd σ) (hp : ∀ t : mS, mSc σ t → post (setOf 3 (fun v => qAI (mUp (vM σ) 1 b v))) t) : ∀ (f : Nat) (k : Int) (s : mS), 0 ≤ k → k ≤ 3 → 3 - k < f → mSq 4 b σ s → mG x 22 [(0, .ref (ad 0)), (1, mI b), (2, mI (σ 4 b)), (3, mI (setOf k.toNat (fun v => qAI (mUp (vM σ) 1 b v)))), (4, mI k)] [] s := by
  intro f
  have hn6 : σ 0 9 ≤ 6 := hw.1.2.1
  induction f with
  | zero => intro k s h0 h1 h2; omega
  | succ f ih =>
    intro k s h0 h1 h2 hs
    have JJ : ∀ (v : Int) (s2 : mS), k < 3 → mSq 4 b σ s2 → v = (if (fun v => qAI (mUp (vM σ) 1 b v)) k = true then iShl 1 k else 0) → mG x 52 [(0, .ref (ad 0)), (1, mI b), (2, mI (σ 4 b)), (3, mI (setOf k.toNat (fun v => qAI (mUp (vM σ) 1 b v)))), (4, mI k)] [mI v, mI (setOf k.toNat (fun v => qAI (mUp (vM σ) 1 b v)))] s2 := by
      intro v s2 hk hs2 hv
      refine g_ior h dX8_kinds_52 ?_
      refine g_istore_n h dX8_kinds_53 (by decide) rfl ?_
      refine g_iinc h dX8_kinds_54 rfl (by decide) rfl ?_
      refine g_goto (tgt := 22) h dX8_kinds_57 (by decide) ?_
      refine g_lv (lv' := [(0, .ref (ad 0)), (1, mI b), (2, mI (σ 4 b)), (3, mI (iOr (setOf k.toNat (fun v => qAI (mUp (vM σ) 1 b v))) v)), (4, mI (k + 1))]) rfl ?_
      rw [set_next (by omega) (fun v => qAI (mUp (vM σ) 1 b v)) (by omega) hv]
      exact ih (k + 1) s2 (by omega) (by omega) (by omega) hs2
    refine g_iload h dX8_kinds_22 rfl ?_
    refine g_iconst h dX8_kinds_24 rfl ?_
    refine g_icmp_ge (tgt := 60) h dX8_kinds_25 (by decide) (by first | exact hR _ _ | exact ⟨by omega, by omega⟩) (by first | exact hR _ _ | exact ⟨by omega, by omega⟩) (fun c25 => ?_) (fun c25 => ?_)
    · refine g_aload_n h dX8_kinds_60 rfl ?_
      refine gm_kind h dX8_kinds_61 lf_RX8_19 ?_
      refine g_iload_n h dX8_kinds_64 rfl ?_
      refine g_iload_n h dX8_kinds_65 rfl ?_
      refine sm_kind h dX8_kinds_66 b0 (by omega) ?_
      refine g_iload_n h dX8_kinds_67 rfl ?_
      refine g_iret h hq rfl dX8_kinds_68 (by rw [show k.toNat = 3 by omega]; exact hp _ (hs.back (by omega)))
    · refine g_aload_n h dX8_kinds_28 rfl ?_
      refine gm_kind h dX8_kinds_29 lf_RX8_19 ?_
      refine g_iload_n h dX8_kinds_32 rfl ?_
      refine g_iload h dX8_kinds_33 rfl ?_
      refine sm_kind h dX8_kinds_35 b0 (by omega) ?_
      have hsc := hs.sc (by omega) k
      refine g_iload_n h dX8_kinds_36 rfl ?_
      refine g_aload_n h dX8_kinds_37 rfl ?_
      refine g_vI h (c_X8_areSo _ (hsc.wf (mWf_kind hw hI b0 (show b < 6 by omega) h0 (show k ≤ 2 by omega))) (mRd.sc hsc (hr.up (by omega)))) (by decide) lm_RX8_203 (rvM rfl) dX8_kinds_38 rfl (Nat.le_of_ble_eq_true rfl) (fun z38 s38 p38 => ?_)
      obtain ⟨e38q, r38q⟩ := p38
      have hw2 := mWf_kind hw hI b0 (show b < 6 by omega) h0 (show k ≤ 2 by omega)
      have hI2 : mIdl (mUp σ 4 b k) := hI.up (by omega)
      rw [hsc.view, hsc.st, hI2.As hw2.1 hw2.2.1, vM_up_b σ k (show (4 : Int) ≤ 4 by omega) (by omega) b0 (show b < 6 by omega)] at e38q
      subst e38q
      have hq2 : mSq 4 b σ s38 := mSq.next (by omega) (hsc.tr r38q)
      refine g_ifb_eq (tgt := 51) h dX8_kinds_41 (by decide)  (fun c41 => ?_) (fun c41 => ?_)
      · refine g_iconst h dX8_kinds_51 rfl ?_
        exact JJ _ _ (by omega) hq2 (by rw [if_neg (by assumption)])
      · refine g_iconst h dX8_kinds_44 rfl ?_
        refine g_iload h dX8_kinds_45 rfl ?_
        refine g_ishl h dX8_kinds_47 ?_
        refine g_goto (tgt := 52) h dX8_kinds_48 (by decide) ?_
        exact JJ _ _ (by omega) hq2 (by rw [if_pos (by assumption)])
set_option maxRecDepth 100000 in
set_option maxHeartbeats 2000000 in
theorem c_X8_spans {l : Launch} {D : va_G} {cs : mC} {ad : Int → Nat} (σ : mS)  (hI : mIdl σ) (hW : qW (vM σ)) : CI l (gM D cs ad) M_X8_spans 5 [.ref (ad 0)] σ (fun z s => z = sp_spans (vM σ) ∧ mSc σ s) := by
  refine CI.of (by decide) (Nat.le_of_ble_eq_true rfl) (fun x h hq => ?_)
  show mG x 0 [(0, .ref (ad 0))] [] σ
  have hn0 : 0 ≤ σ 0 9 := hW.1.1
  have hn6 : σ 0 9 ≤ 6 := hW.1.2.1
  have e4 : vM σ 0 4 = σ 0 9 := rfl
  refine g_aload_n h dX8_spans_0 rfl ?_
  refine gm_bills h dX8_spans_1 lf_RX8_72 ?_
  refine g_if_ne (tgt := 10) h dX8_spans_4 (by decide) (by first | exact hR _ _ | exact ⟨by omega, by omega⟩) (fun c4 => ?_) (fun c4 => ?_)
  · refine g_aload_n h dX8_spans_10 rfl ?_
    refine gm_span h dX8_spans_11 lf_RX8_121 ?_
    refine g_istore_n h dX8_spans_14 (by decide) rfl ?_
    refine g_iconst h dX8_spans_15 rfl ?_
    refine g_istore_n h dX8_spans_16 (by decide) rfl ?_
    refine g_iconst h dX8_spans_17 rfl ?_
    refine g_istore_n h dX8_spans_18 (by decide) rfl ?_
    exact lp_X8_spans h hq (hI.wf hW (by omega)) hI (mRd_of hW) (fun t ht => ⟨by unfold sp_spans; rw [e4, if_neg (by omega)], ht⟩) 11 0 σ (by omega) (by omega) (by omega) (mSq.of (by omega) (mSc.rf σ))
  · refine g_bipush h dX8_spans_7 (by decide) ?_
    refine g_iret h hq rfl dX8_spans_9 ⟨by unfold sp_spans; rw [e4, if_pos (by omega)], mSc.rf σ⟩
set_option maxRecDepth 100000 in
set_option maxHeartbeats 2000000 in
theorem c_X8_origins {l : Launch} {D : va_G} {cs : mC} {ad : Int → Nat} (σ : mS)  (hI : mIdl σ) (hW : qW (vM σ)) : CI l (gM D cs ad) M_X8_origins 5 [.ref (ad 0)] σ (fun z s => z = sp_origins (vM σ) ∧ mSc σ s) := by
  refine CI.of (by decide) (Nat.le_of_ble_eq_true rfl) (fun x h hq => ?_)
  show mG x 0 [(0, .ref (ad 0))] [] σ
  have hn0 : 0 ≤ σ 0 9 := hW.1.1
  have hn6 : σ 0 9 ≤ 6 := hW.1.2.1
  have e4 : vM σ 0 4 = σ 0 9 := rfl
  refine g_aload_n h dX8_origins_0 rfl ?_
  refine gm_bills h dX8_origins_1 lf_RX8_72 ?_
  refine g_if_ne (tgt := 10) h dX8_origins_4 (by decide) (by first | exact hR _ _ | exact ⟨by omega, by omega⟩) (fun c4 => ?_) (fun c4 => ?_)
  · refine g_aload_n h dX8_origins_10 rfl ?_
    refine gm_origin h dX8_origins_11 lf_RX8_103 ?_
    refine g_istore_n h dX8_origins_14 (by decide) rfl ?_
    refine g_iconst h dX8_origins_15 rfl ?_
    refine g_istore_n h dX8_origins_16 (by decide) rfl ?_
    refine g_iconst h dX8_origins_17 rfl ?_
    refine g_istore_n h dX8_origins_18 (by decide) rfl ?_
    exact lp_X8_origins h hq (hI.wf hW (by omega)) hI (mRd_of hW) (fun t ht => ⟨by unfold sp_origins; rw [e4, if_neg (by omega)], ht⟩) 31 0 σ (by omega) (by omega) (by omega) (mSq.of (by omega) (mSc.rf σ))
  · refine g_bipush h dX8_origins_7 (by decide) ?_
    refine g_iret h hq rfl dX8_origins_9 ⟨by unfold sp_origins; rw [e4, if_pos (by omega)], mSc.rf σ⟩
set_option maxRecDepth 100000 in
set_option maxHeartbeats 2000000 in
theorem c_X8_kinds {l : Launch} {D : va_G} {cs : mC} {ad : Int → Nat} (σ : mS) (b : Int) (hb : i32 b) (hI : mIdl σ) (hW : qW (vM σ)) : CI l (gM D cs ad) M_X8_kinds 5 [.ref (ad 0), mI b] σ (fun z s => z = sp_kinds (vM σ) b ∧ mSc σ s) := by
  refine CI.of (by decide) (Nat.le_of_ble_eq_true rfl) (fun x h hq => ?_)
  show mG x 0 [(0, .ref (ad 0)), (1, mI b)] [] σ
  have hn0 : 0 ≤ σ 0 9 := hW.1.1
  have hn6 : σ 0 9 ≤ 6 := hW.1.2.1
  have e4 : vM σ 0 4 = σ 0 9 := rfl
  refine g_aload_n h dX8_kinds_0 rfl ?_
  refine g_iload_n h dX8_kinds_1 rfl ?_
  refine g_vI h (c_X8_isBill _ _ hb ⟨by omega, by omega⟩) (by decide) lm_RX8_146 (rvM rfl) dX8_kinds_2 rfl (Nat.le_of_ble_eq_true rfl) (fun z2 s2 p2 => ?_)
  obtain ⟨e2, r2⟩ := p2; subst e2; replace r2 := Eq.symm r2; subst r2
  refine g_ifb_ne (tgt := 10) h dX8_kinds_5 (by decide)  (fun c5 => ?_) (fun c5 => ?_)
  · refine g_aload_n h dX8_kinds_10 rfl ?_
    refine gm_kind h dX8_kinds_11 lf_RX8_19 ?_
    refine g_iload_n h dX8_kinds_14 rfl ?_
    refine lm_kind h dX8_kinds_15 c5.1 (by omega) ?_
    refine g_istore_n h dX8_kinds_16 (by decide) rfl ?_
    refine g_iconst h dX8_kinds_17 rfl ?_
    refine g_istore_n h dX8_kinds_18 (by decide) rfl ?_
    refine g_iconst h dX8_kinds_19 rfl ?_
    refine g_istore h dX8_kinds_20 (by decide) rfl ?_
    exact lp_X8_kinds h hq c5.1 c5.2 (hI.wf hW (by omega)) hI (mRd_of hW) (fun t ht => ⟨(sp_kinds_in (show 0 ≤ b ∧ b < vM σ 0 4 from c5)).symm, ht⟩) 4 0 σ (by omega) (by omega) (by omega) (mSq.of (by omega) (mSc.rf σ))
  · refine g_iconst h dX8_kinds_8 rfl ?_
    refine g_iret h hq rfl dX8_kinds_9 ⟨by unfold sp_kinds; rw [e4, if_pos c5], mSc.rf σ⟩
