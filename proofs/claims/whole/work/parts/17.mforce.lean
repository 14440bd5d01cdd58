theorem ior0 {n : Nat} (hn : n ≤ 31) (p : Int → Bool) : iOr (setOf n p) 0 = setOf n p := by
  have := iOr_set hn p (fun _ => false)
  rw [set_zero.mpr (fun i _ _ => rfl)] at this
  simpa using this
theorem set_next {n : Nat} (hn : n < 31) (p : Int → Bool) {k : Int} (hk : k = n) {v : Int} (hv : v = if p k = true then iShl 1 k else 0) : iOr (setOf n p) v = setOf (k + 1).toNat p := by
  subst hk
  rw [show ((n : Int) + 1).toNat = n + 1 by omega]
  exact set_succ hn p (by rw [hv])
set_option maxRecDepth 100000 in
set_option maxHeartbeats 2000000 in
theorem lp_X8_forceNow {x : mX} {l : Launch} {D : va_G} {cs : mC} {ad : Int → Nat} {post : Int → mS → Prop} (h : mOk x l M_X8_forceNow 2 (gM D cs ad)) (hq : rI x (gM D cs ad) post) {σ s : mS} (hs : m1 13 σ s) (hn0 : 0 ≤ σ 0 9) (hn6 : σ 0 9 ≤ 6) {p : Int → Bool} (hF : ∀ b : Int, 0 ≤ b → b < σ 0 9 → s 13 b = bl (p b = true)) {d : Int} (hp : post (setOf (σ 0 9).toNat p) s) : ∀ (f : Nat) (k : Int), 0 ≤ k → k ≤ σ 0 9 → σ 0 9 - k < f → mG x 9 [(0, .ref (ad 0)), (1, mI d), (2, mI (setOf k.toNat p)), (3, mI k)] [] s := by
  intro f
  have e9 : s 0 9 = σ 0 9 := by rw [hs 0 (by omega)]
  induction f with
  | zero => intro k h0 h1 h2; omega
  | succ f ih =>
    intro k h0 h1 h2
    have J34 : ∀ v : Int, k < σ 0 9 → v = (if p k = true then iShl 1 k else 0) → mG x 34 [(0, .ref (ad 0)), (1, mI d), (2, mI (setOf k.toNat p)), (3, mI k)] [mI v, mI (setOf k.toNat p)] s := by
      intro v hk hv
      refine g_ior h dX8_forceNow_34 ?_
      refine g_istore_n h dX8_forceNow_35 (by decide) rfl ?_
      refine g_iinc h dX8_forceNow_36 rfl (by decide) rfl ?_
      refine g_goto (tgt := 9) h dX8_forceNow_39 (by decide) ?_
      refine g_lv (lv' := [(0, .ref (ad 0)), (1, mI d), (2, mI (iOr (setOf k.toNat p) v)), (3, mI (k + 1))]) rfl ?_
      rw [set_next (by omega) p (by omega) hv]
      exact ih (k + 1) (by omega) (by omega) (by omega)
    refine g_iload_n h dX8_forceNow_9 rfl ?_
    refine g_aload_n h dX8_forceNow_10 rfl ?_
    refine gm_bills h dX8_forceNow_11 lf_RX8_72 ?_
    refine g_icmp_ge (tgt := 42) h dX8_forceNow_14 (by decide) (by first | exact hR _ _ | exact ⟨by omega, by omega⟩) (by first | exact hR _ _ | exact ⟨by omega, by omega⟩) (fun c14 => ?_) (fun c14 => ?_)
    · refine g_iload_n h dX8_forceNow_42 rfl ?_
      refine g_iret h hq rfl dX8_forceNow_43 (by rw [show k.toNat = (σ 0 9).toNat by omega]; exact hp)
    · refine g_iload_n h dX8_forceNow_17 rfl ?_
      refine g_aload_n h dX8_forceNow_18 rfl ?_
      refine gm_inForce h dX8_forceNow_19 lf_RX8_51 ?_
      refine g_iload_n h dX8_forceNow_22 rfl ?_
      refine lm_inForce h dX8_forceNow_23 (by omega) (by omega) ?_
      refine g_val (hF k h0 (by omega)) ?_
      refine g_ifb_eq (tgt := 33) h dX8_forceNow_24 (by decide)  (fun c24 => ?_) (fun c24 => ?_)
      · refine g_iconst h dX8_forceNow_33 rfl ?_
        exact J34 _ (by omega) (by rw [if_neg c24])
      · refine g_iconst h dX8_forceNow_27 rfl ?_
        refine g_iload_n h dX8_forceNow_28 rfl ?_
        refine g_ishl h dX8_forceNow_29 ?_
        refine g_goto (tgt := 34) h dX8_forceNow_30 (by decide) ?_
        exact J34 _ (by omega) (by rw [if_pos c24])
set_option maxRecDepth 100000 in
set_option maxHeartbeats 2000000 in
theorem c_X8_forceNow {l : Launch} {D : va_G} {cs : mC} {ad : Int → Nat} (σ : mS) (Q : Int → Bool) (d : Int) (hw : qWf (vM σ)) (hord : qSr (vM σ) (σ 0 9) (σ 11)) (hP : ∀ b : Int, 0 ≤ b → b < σ 0 9 → σ 12 b = bl (Q b = true)) (d0 : 0 ≤ d) (d1 : d < 200) : CI l (gM D cs ad) M_X8_forceNow 2 [.ref (ad 0), mI d] σ (fun z s => z = setOf (σ 0 9).toNat (fun b => qIn (vM σ) Q 6 b d) ∧ m1 13 σ s) := by
  refine CI.of (by decide) (Nat.le_of_ble_eq_true rfl) (fun x h hq => ?_)
  show mG x 0 [(0, .ref (ad 0)), (1, mI d)] [] σ
  refine g_aload_n h dX8_forceNow_0 rfl ?_
  refine g_iload_n h dX8_forceNow_1 rfl ?_
  refine g_vV h (c_X8_layForce σ _ hw hord (fun b b0 b1 => by rw [hP b b0 b1]; exact bl_01 _) d0 d1) (by decide) lm_RX8_174 (rvM rfl) dX8_forceNow_2 rfl (Nat.le_of_ble_eq_true rfl) (fun s2 p2 => ?_)
  obtain ⟨hs, hF⟩ := p2
  have hn0 : 0 ≤ σ 0 9 := hw.1
  have hn6 : σ 0 9 ≤ 6 := hw.2.1
  have hF2 : ∀ b : Int, 0 ≤ b → b < σ 0 9 → s2 13 b = bl (qIn (vM σ) Q 6 b d = true) := fun b b0 b1 => by
    rw [hF b b0 b1, qIn_cong (τ := vM σ) (P := fun k => decide (σ 12 k = 1)) (Q := Q) (fun a a0 a1 => by
      have := hP a a0 a1
      cases hz : Q a with
      | true => rw [hz] at this; rw [this, ← bl1 rfl]; rfl
      | false => rw [hz] at this; rw [this, ← bl0 (by decide)]; rfl) d 6 b b0 b1]
  refine g_iconst h dX8_forceNow_5 rfl ?_
  refine g_istore_n h dX8_forceNow_6 (by decide) rfl ?_
  refine g_iconst h dX8_forceNow_7 rfl ?_
  refine g_istore_n h dX8_forceNow_8 (by decide) rfl ?_
  exact lp_X8_forceNow h hq hs hn0 hn6 hF2 ⟨rfl, hs⟩ 8 0 (by omega) (by omega) (by omega)
set_option maxRecDepth 100000 in
set_option maxHeartbeats 2000000 in
theorem c_X8_forceOn {l : Launch} {D : va_G} {cs : mC} {ad : Int → Nat} (σ : mS) (d : Int) (hw : mWf σ) (d0 : 0 ≤ d) (d1 : d < 200) : CI l (gM D cs ad) M_X8_forceOn 4 [.ref (ad 0), mI d] σ (fun z s => z = setOf (σ 0 9).toNat (fun b => qF (vM σ) (stM σ) b d) ∧ mSc σ s) := by
  refine CI.of (by decide) (Nat.le_of_ble_eq_true rfl) (fun x h hq => ?_)
  show mG x 0 [(0, .ref (ad 0)), (1, mI d)] [] σ
  refine g_aload_n h dX8_forceOn_0 rfl ?_
  refine g_vV h (c_X8_layPassing σ hw) (by decide) lm_RX8_178 (rvM rfl) dX8_forceOn_1 rfl (Nat.le_of_ble_eq_true rfl) (fun s1 p1 => ?_)
  obtain ⟨q1, q2, q3⟩ := p1
  have e9 : s1 0 9 = σ 0 9 := by rw [q1 0 (by omega) (by omega) (by omega)]
  refine g_aload_n h dX8_forceOn_4 rfl ?_
  refine g_iload_n h dX8_forceOn_5 rfl ?_
  refine g_vI h (c_X8_forceNow s1 (qPf (vM σ) (stM σ)) _ (by rw [q1.view]; exact hw.1) (by rw [q1.view, e9]; exact q2) (by rw [e9]; exact q3) d0 d1) (by decide) lm_RX8_181 (rvM rfl) dX8_forceOn_6 rfl (Nat.le_of_ble_eq_true rfl) (fun z6 s6 p6 => ?_)
  obtain ⟨e6, r6⟩ := p6
  rw [q1.view, e9] at e6
  refine g_iret h hq rfl dX8_forceOn_9 ⟨e6, q1.tr (r6.sc (by omega))⟩
theorem cnt_next (p : Int → Bool) {k : Int} (h0 : 0 ≤ k) : cntN p k.toNat + bl (p k = true) = cntN p (k + 1).toNat := by
  rw [show (k + 1).toNat = k.toNat + 1 by omega]
  show _ = cntN p k.toNat + (if p ((k.toNat : Nat) : Int) then 1 else 0)
  rw [Int.toNat_of_nonneg h0]
  rfl
set_option maxRecDepth 100000 in
set_option maxHeartbeats 2000000 in
theorem lp_X8_holdsNow {x : mX} {l : Launch} {D : va_G} {cs : mC} {ad : Int → Nat} {post : Int → mS → Prop} (h : mOk x l M_X8_holdsNow 4 (gM D cs ad)) (hq : rI x (gM D cs ad) post) {σ : mS} (hw : mWf σ) {b : Int} (b0 : 0 ≤ b) (b1 : b < σ 0 9) (hp : ∀ s : mS, mSc σ s → post (cntN (fun d => qF (vM σ) (stM σ) b d) 110) s) : ∀ (f : Nat) (k : Int) (s : mS), 0 ≤ k → k ≤ 110 → 110 - k < f → mLd σ s (qPf (vM σ) (stM σ)) → mG x 8 [(0, .ref (ad 0)), (1, mI b), (2, mI (cntN (fun d => qF (vM σ) (stM σ) b d) k.toNat)), (3, mI k)] [] s := by
  intro f
  have hn6 : σ 0 9 ≤ 6 := hw.1.2.1
  induction f with
  | zero => intro k s h0 h1 h2; omega
  | succ f ih =>
    intro k s h0 h1 h2 hl
    have hl9 := hl
    obtain ⟨q1, q2, q3⟩ := hl
    have e9 : s 0 9 = σ 0 9 := by rw [q1 0 (by omega) (by omega) (by omega)]
    refine g_iload_n h dX8_holdsNow_8 rfl ?_
    refine g_bipush h dX8_holdsNow_9 (by decide) ?_
    refine g_icmp_ge (tgt := 32) h dX8_holdsNow_11 (by decide) (by first | exact hR _ _ | exact ⟨by omega, by omega⟩) (by first | exact hR _ _ | exact ⟨by omega, by omega⟩) (fun c11 => ?_) (fun c11 => ?_)
    · refine g_iload_n h dX8_holdsNow_32 rfl ?_
      refine g_iret h hq rfl dX8_holdsNow_33 (by rw [show k.toNat = 110 by omega]; exact hp s q1)
    · refine g_iload_n h dX8_holdsNow_14 rfl ?_
      refine g_aload_n h dX8_holdsNow_15 rfl ?_
      refine g_iload_n h dX8_holdsNow_16 rfl ?_
      refine g_vI h (c_X8_forceNow s (qPf (vM σ) (stM σ)) _ (by rw [q1.view]; exact hw.1) (by rw [q1.view, e9]; exact q2) (by rw [e9]; exact q3) h0 (by omega)) (by decide) lm_RX8_181 (rvM rfl) dX8_holdsNow_17 rfl (Nat.le_of_ble_eq_true rfl) (fun z17 s17 p17 => ?_)
      obtain ⟨e17, r17⟩ := p17
      rw [q1.view, e9] at e17
      subst e17
      refine g_iload_n h dX8_holdsNow_20 rfl ?_
      refine g_ishr h dX8_holdsNow_21 ?_
      refine g_iconst h dX8_holdsNow_22 rfl ?_
      refine g_iand h dX8_holdsNow_23 ?_
      refine g_val (b := bl (qF (vM σ) (stM σ) b k = true)) (set_rd (by omega) _ b0 (by omega)) ?_
      refine g_iadd h dX8_holdsNow_24 ?_
      refine g_val (cnt_next (fun d => qF (vM σ) (stM σ) b d) h0) ?_
      refine g_istore_n h dX8_holdsNow_25 (by decide) rfl ?_
      refine g_iinc h dX8_holdsNow_26 rfl (by decide) rfl ?_
      refine g_goto (tgt := 8) h dX8_holdsNow_29 (by decide) ?_
      exact ih (k + 1) s17 (by omega) (by omega) (by omega) ⟨q1.tr (r17.sc (by omega)), by rw [r17 11 (by omega)]; exact q2, fun a a0 a1 => by rw [r17 12 (by omega)]; exact q3 a a0 a1⟩
set_option maxRecDepth 100000 in
set_option maxHeartbeats 2000000 in
theorem c_X8_holdsNow {l : Launch} {D : va_G} {cs : mC} {ad : Int → Nat} (σ : mS) (b : Int) (hw : mWf σ) (b0 : 0 ≤ b) (b1 : b < σ 0 9) : CI l (gM D cs ad) M_X8_holdsNow 4 [.ref (ad 0), mI b] σ (fun z s => z = cntN (fun d => qF (vM σ) (stM σ) b d) 110 ∧ mSc σ s) := by
  refine CI.of (by decide) (Nat.le_of_ble_eq_true rfl) (fun x h hq => ?_)
  show mG x 0 [(0, .ref (ad 0)), (1, mI b)] [] σ
  refine g_aload_n h dX8_holdsNow_0 rfl ?_
  refine g_vV h (c_X8_layPassing σ hw) (by decide) lm_RX8_178 (rvM rfl) dX8_holdsNow_1 rfl (Nat.le_of_ble_eq_true rfl) (fun s1 p1 => ?_)
  skip
  refine g_iconst h dX8_holdsNow_4 rfl ?_
  refine g_istore_n h dX8_holdsNow_5 (by decide) rfl ?_
  refine g_iconst h dX8_holdsNow_6 rfl ?_
  refine g_istore_n h dX8_holdsNow_7 (by decide) rfl ?_
  exact lp_X8_holdsNow h hq hw b0 b1 (fun s q => ⟨rfl, q⟩) 111 0 s1 (by omega) (by omega) (by omega) p1
theorem cnt_shift (p : Int → Bool) : ∀ n : Nat, cntN p (n + 1) = bl (p 0 = true) + cntN (fun i => p (i + 1)) n
  | 0 => by
    show 0 + (if p ((0 : Nat) : Int) then 1 else 0) = bl (p 0 = true) + 0
    rw [Int.add_zero, Int.zero_add]; rfl
  | n + 1 => by
    have h := cnt_shift p n
    show cntN p (n + 1) + (if p ((n + 1 : Nat) : Int) then 1 else 0) = bl (p 0 = true) + (cntN (fun i => p (i + 1)) n + (if p ((n : Int) + 1) then 1 else 0))
    rw [h, show ((n + 1 : Nat) : Int) = (n : Int) + 1 by omega]
    omega
theorem cnt_0 : ∀ {n : Nat} {p : Int → Bool}, (∀ i : Int, 0 ≤ i → i < n → p i = false) → cntN p n = 0
  | 0, _, _ => rfl
  | n + 1, p, h => by
    unfold cntN
    rw [cnt_0 (fun i h0 h1 => h i h0 (by omega)), h (n : Int) (by omega) (by omega)]
    rfl
theorem cnt_more (p : Int → Bool) (n : Nat) : ∀ m : Nat, (∀ i : Int, n ≤ i → p i = false) → cntN p (n + m) = cntN p n
  | 0, _ => rfl
  | m + 1, h => by
    show cntN p (n + m) + (if p ((n + m : Nat) : Int) then 1 else 0) = _
    rw [cnt_more p n m h, h ((n + m : Nat) : Int) (by omega)]
    simp
/-- how many bits from the lowest m on -/
def pcM (x : Nat) (m : Nat) : Int := cntN (fun i => x.testBit i.toNat) m
theorem pcM_half (x : Nat) (m : Nat) : pcM x (m + 1) = (x % 2 : Nat) + pcM (x / 2) m := by
  unfold pcM
  rw [cnt_shift]
  have e : cntN (fun i => x.testBit (i + 1).toNat) m = cntN (fun i => (x / 2).testBit i.toNat) m := cntN_cong (fun i h0 h1 => by
    rw [show (i + 1).toNat = i.toNat + 1 by omega, Nat.testBit_succ])
  rw [e]
  have e2 : bl (x.testBit (0 : Int).toNat = true) = ((x % 2 : Nat) : Int) := by
    show bl (x.testBit 0 = true) = _
    rw [Nat.testBit_zero]
    unfold bl
    by_cases q : x % 2 = 1
    · rw [if_pos (by simp [q])]; omega
    · rw [if_neg (by simp [q])]; omega
  rw [e2]
theorem pc_set {n : Nat} (hn : n ≤ 31) (p : Int → Bool) : pcN (setN p n) = cntN p n := by
  unfold pcN
  have h := cnt_more (fun i => (setN p n).testBit i.toNat) n (31 - n) (fun i hi => by
    rw [setN_tb]
    have : decide (i.toNat < n) = false := by simp; omega
    rw [this]; rfl)
  rw [show n + (31 - n) = 31 by omega] at h
  rw [h]
  refine cntN_cong (fun i h0 h1 => ?_)
  rw [setN_tb, Int.toNat_of_nonneg h0]
  have : decide (i.toNat < n) = true := by simp; omega
  rw [this]; rfl
theorem and1 {x : Nat} (hx : x < 2 ^ 31) : iAnd (x : Int) 1 = ((x % 2 : Nat) : Int) := by
  have e : ((1 : Nat) : Int) = 1 := rfl
  rw [← e]
  refine iAnd_nat (by omega) (fun i _ => ?_)
  cases i with
  | zero => simp [Nat.testBit_zero]
  | succ i =>
    rw [Nat.testBit_succ, Nat.testBit_succ, Nat.testBit_succ]
    have : x % 2 / 2 = 0 := by omega
    rw [this]
    simp
theorem shr1 {x : Nat} (hx : x < 2 ^ 31) : iShr (x : Int) 1 = ((x / 2 : Nat) : Int) := by
  have ex : Int32.ofInt (x : Int) = nI x := Int32.ofInt_eq_ofNat
  have e1 : Int32.ofInt 1 = nI 1 := by decide
  unfold iShr
  rw [ex, e1, pk_shrN hx _ 1 (s_l9 1 (by omega)), nI_toInt (by omega), Nat.pow_one]
set_option maxRecDepth 100000 in
set_option maxHeartbeats 2000000 in
theorem lp_X8_size {x : mX} {l : Launch} {D : va_G} {cs : mC} {ad : Int → Nat} {post : Int → mS → Prop} (h : mOk x l M_X8_size 0 (gM D cs ad)) (hq : rI x (gM D cs ad) post) {σ : mS} {x0 : Int} {r : Int} (hp : post r σ) : ∀ (f : Nat) (y : Nat) (a : Int), y < 2 ^ f → f ≤ 31 → a + pcM y f = r → mG x 4 [(0, mI x0), (1, mI a), (2, mI (y : Int))] [] σ := by
  intro f
  induction f with
  | zero =>
    intro y a hy hf ha
    have hy0 : y = 0 := by simpa using hy
    subst hy0
    refine g_iload_n h dX8_size_4 rfl ?_
    refine g_if_le (tgt := 21) h dX8_size_5 (by decide) ⟨by omega, by omega⟩ (fun c => ?_) (fun c => ?_)
    · refine g_iload_n h dX8_size_21 rfl ?_
      exact g_iret h hq rfl dX8_size_22 (by
        have e : a = r := by rw [← ha]; exact (Int.add_zero a).symm
        rw [e]; exact hp)
    · exact absurd (Int.le_refl 0) c
  | succ f ih =>
    intro y a hy hf ha
    have hy31 : y < 2 ^ 31 := Nat.lt_of_lt_of_le hy (Nat.pow_le_pow_right (by omega) hf)
    refine g_iload_n h dX8_size_4 rfl ?_
    refine g_if_le (tgt := 21) h dX8_size_5 (by decide) ⟨by omega, by omega⟩ (fun c5 => ?_) (fun c5 => ?_)
    · refine g_iload_n h dX8_size_21 rfl ?_
      refine g_iret h hq rfl dX8_size_22 (by
      have hy0 : y = 0 := by omega
      subst hy0
      have e : pcM 0 (f + 1) = 0 := cnt_0 (fun i _ _ => by simp)
      rw [e, Int.add_zero] at ha
      rw [ha]; exact hp)
    · refine g_iload_n h dX8_size_8 rfl ?_
      refine g_iload_n h dX8_size_9 rfl ?_
      refine g_iconst h dX8_size_10 rfl ?_
      refine g_iand h dX8_size_11 ?_
      refine g_val (and1 hy31) ?_
      refine g_iadd h dX8_size_12 ?_
      refine g_istore_n h dX8_size_13 (by decide) rfl ?_
      refine g_iload_n h dX8_size_14 rfl ?_
      refine g_iconst h dX8_size_15 rfl ?_
      refine g_ishr h dX8_size_16 ?_
      refine g_val (shr1 hy31) ?_
      refine g_istore_n h dX8_size_17 (by decide) rfl ?_
      refine g_goto (tgt := 4) h dX8_size_18 (by decide) ?_
      refine ih (y / 2) (a + ((y % 2 : Nat) : Int)) (by rw [Nat.pow_succ] at hy; omega) (by omega) ?_
      rw [← ha, pcM_half y f]
      omega
set_option maxRecDepth 100000 in
set_option maxHeartbeats 2000000 in
theorem c_X8_size {l : Launch} {D : va_G} {cs : mC} {ad : Int → Nat} (σ : mS) (y : Nat) (hy : y < 2 ^ 31) : CI l (gM D cs ad) M_X8_size 0 [mI (y : Int)] σ (fun z s => z = pcN y ∧ s = σ) := by
  refine CI.of (by decide) (Nat.le_of_ble_eq_true rfl) (fun x h hq => ?_)
  show mG x 0 [(0, mI (y : Int))] [] σ
  refine g_iconst h dX8_size_0 rfl ?_
  refine g_istore_n h dX8_size_1 (by decide) rfl ?_
  refine g_iload_n h dX8_size_2 rfl ?_
  refine g_istore_n h dX8_size_3 (by decide) rfl ?_
  exact lp_X8_size h hq ⟨rfl, rfl⟩ 31 y 0 hy (by omega) (by rw [Int.zero_add]; rfl)
theorem vM_qCl {σ : mS} (hw : qWf (vM σ)) (hn : 0 < σ 0 9) {m : Int} (h0 : 0 ≤ m) (h1 : m ≤ 100) (h2 : qMd (vM σ) m < 110) : qCl (vM σ) m = decide (σ 9 (qMd (vM σ) m) = 1) := by
  have g := qMd_rng hw hn h0 h1
  unfold qCl
  rw [vM_cl σ g.2.2.1 h2]
set_option maxRecDepth 100000 in
set_option maxHeartbeats 2000000 in
theorem lp_X8_darkMoons {x : mX} {l : Launch} {D : va_G} {cs : mC} {ad : Int → Nat} {post : Int → mS → Prop} (h : mOk x l M_X8_darkMoons 1 (gM D cs ad)) (hq : rI x (gM D cs ad) post) {σ : mS} (hw : qWf (vM σ)) (hn : 0 < σ 0 9) (hcl : ∀ d : Int, 0 ≤ d → d < 110 → σ 9 d = 0 ∨ σ 9 d = 1) (hp : post (setOf (qNm (vM σ)).toNat (qCl (vM σ))) σ) : ∀ (f : Nat) (k : Int), 0 ≤ k → k ≤ qNm (vM σ) → qNm (vM σ) - k < f → mG x 4 [(0, .ref (ad 0)), (1, mI (setOf k.toNat (qCl (vM σ)))), (2, mI k)] [] σ := by
  intro f
  obtain ⟨q0, q1, q2, q3⟩ := qNm_sp hw hn
  induction f with
  | zero => intro k h0 h1 h2; omega
  | succ f ih =>
    intro k h0 h1 h2
    have g := qMd_rng hw hn h0 (show k ≤ 100 by omega)
    have J35 : ∀ v : Int, k < qNm (vM σ) → v = (if qCl (vM σ) k = true then iShl 1 k else 0) → mG x 35 [(0, .ref (ad 0)), (1, mI (setOf k.toNat (qCl (vM σ)))), (2, mI k)] [mI v, mI (setOf k.toNat (qCl (vM σ)))] σ := by
      intro v hk hv
      refine g_ior h dX8_darkMoons_35 ?_
      refine g_istore_n h dX8_darkMoons_36 (by decide) rfl ?_
      refine g_iinc h dX8_darkMoons_37 rfl (by decide) rfl ?_
      refine g_goto (tgt := 4) h dX8_darkMoons_40 (by decide) ?_
      refine g_lv (lv' := [(0, .ref (ad 0)), (1, mI (iOr (setOf k.toNat (qCl (vM σ))) v)), (2, mI (k + 1))]) rfl ?_
      rw [set_next (by omega) (qCl (vM σ)) (by omega) hv]
      exact ih (k + 1) (by omega) (by omega) (by omega)
    refine g_aload_n h dX8_darkMoons_4 rfl ?_
    refine g_iload_n h dX8_darkMoons_5 rfl ?_
    refine g_vI h (c_moonDay _ _ hw hn (by omega) (by omega)) (by decide) lm_RX8_149 (rvM rfl) dX8_darkMoons_6 rfl (Nat.le_of_ble_eq_true rfl) (fun z6 s6 p6 => ?_)
    obtain ⟨e6, r6⟩ := p6; subst e6; replace r6 := Eq.symm r6; subst r6
    refine g_bipush h dX8_darkMoons_9 (by decide) ?_
    refine g_icmp_ge (tgt := 43) h dX8_darkMoons_11 (by decide) (by first | exact hR _ _ | exact ⟨by omega, by omega⟩) (by first | exact hR _ _ | exact ⟨by omega, by omega⟩) (fun c11 => ?_) (fun c11 => ?_)
    · have hk : k = qNm (vM σ) := by
        rcases Int.lt_or_le k (qNm (vM σ)) with q | q
        · have := q2 k h0 q; omega
        · omega
      refine g_iload_n h dX8_darkMoons_43 rfl ?_
      refine g_iret h hq rfl dX8_darkMoons_44 (by rw [hk]; exact hp)
    · have hk : k < qNm (vM σ) := by
        rcases Int.lt_or_le k (qNm (vM σ)) with q | q
        · exact q
        · have := q3 k q; omega
      have hc9 := hcl _ g.2.2.1 (q2 k h0 hk)
      have ec := vM_qCl hw hn h0 (show k ≤ 100 by omega) (q2 k h0 hk)
      refine g_iload_n h dX8_darkMoons_14 rfl ?_
      refine g_aload_n h dX8_darkMoons_15 rfl ?_
      refine gm_isClouded h dX8_darkMoons_16 lf_RX8_34 ?_
      refine g_aload_n h dX8_darkMoons_19 rfl ?_
      refine g_iload_n h dX8_darkMoons_20 rfl ?_
      refine g_vI h (c_moonDay _ _ hw hn (by omega) (by omega)) (by decide) lm_RX8_149 (rvM rfl) dX8_darkMoons_21 rfl (Nat.le_of_ble_eq_true rfl) (fun z21 s21 p21 => ?_)
      obtain ⟨e21, r21⟩ := p21; subst e21; replace r21 := Eq.symm r21; subst r21
      refine lm_isClouded h dX8_darkMoons_24 g.2.2.1 (q2 k h0 hk) ?_
      refine g_if_eq (tgt := 34) h dX8_darkMoons_25 (by decide) ⟨by omega, by omega⟩ (fun c25 => ?_) (fun c25 => ?_)
      · refine g_iconst h dX8_darkMoons_34 rfl ?_
        exact J35 _ hk (by rw [ec, if_neg (by simp; omega)])
      · refine g_iconst h dX8_darkMoons_28 rfl ?_
        refine g_iload_n h dX8_darkMoons_29 rfl ?_
        refine g_ishl h dX8_darkMoons_30 ?_
        refine g_goto (tgt := 35) h dX8_darkMoons_31 (by decide) ?_
        exact J35 _ hk (by rw [ec, if_pos (by simp; omega)])
set_option maxRecDepth 100000 in
set_option maxHeartbeats 2000000 in
theorem c_X8_darkMoons {l : Launch} {D : va_G} {cs : mC} {ad : Int → Nat} (σ : mS)  (hw : qWf (vM σ)) (hn : 0 < σ 0 9) (hcl : ∀ d : Int, 0 ≤ d → d < 110 → σ 9 d = 0 ∨ σ 9 d = 1) : CI l (gM D cs ad) M_X8_darkMoons 1 [.ref (ad 0)] σ (fun z s => z = setOf (qNm (vM σ)).toNat (qCl (vM σ)) ∧ s = σ) := by
  refine CI.of (by decide) (Nat.le_of_ble_eq_true rfl) (fun x h hq => ?_)
  show mG x 0 [(0, .ref (ad 0))] [] σ
  refine g_iconst h dX8_darkMoons_0 rfl ?_
  refine g_istore_n h dX8_darkMoons_1 (by decide) rfl ?_
  refine g_iconst h dX8_darkMoons_2 rfl ?_
  refine g_istore_n h dX8_darkMoons_3 (by decide) rfl ?_
  have g := qNm_sp hw hn
  exact lp_X8_darkMoons h hq hw hn hcl ⟨rfl, rfl⟩ 13 0 (by omega) (by omega) (by omega)
theorem sum_next (p : Int → Int) {k : Int} (h0 : 0 ≤ k) : sumN p k.toNat + p k = sumN p (k + 1).toNat := by
  rw [show (k + 1).toNat = k.toNat + 1 by omega]
  show _ = sumN p k.toNat + p ((k.toNat : Nat) : Int)
  rw [Int.toNat_of_nonneg h0]
set_option maxRecDepth 100000 in
set_option maxHeartbeats 2000000 in
theorem lp_X8_othersHold {x : mX} {l : Launch} {D : va_G} {cs : mC} {ad : Int → Nat} {post : Int → mS → Prop} (h : mOk x l M_X8_othersHold 4 (gM D cs ad)) (hq : rI x (gM D cs ad) post) {σ : mS} (hw : mWf σ) {b : Int} (b0 : 0 ≤ b) (b1 : b < σ 0 9) (hp : ∀ s : mS, mSc σ s → post (sumN (fun d => cntN (fun a => qF (vM σ) (stM σ) a d && !decide (a = b)) (σ 0 9).toNat) 110) s) : ∀ (f : Nat) (k : Int) (s : mS), 0 ≤ k → k ≤ 110 → 110 - k < f → mLd σ s (qPf (vM σ) (stM σ)) → mG x 8 [(0, .ref (ad 0)), (1, mI b), (2, mI (sumN (fun d => cntN (fun a => qF (vM σ) (stM σ) a d && !decide (a = b)) (σ 0 9).toNat) k.toNat)), (3, mI k)] [] s := by
  intro f
  have hn6 : σ 0 9 ≤ 6 := hw.1.2.1
  induction f with
  | zero => intro k s h0 h1 h2; omega
  | succ f ih =>
    intro k s h0 h1 h2 hl
    have hl9 := hl
    obtain ⟨q1, q2, q3⟩ := hl
    have e9 : s 0 9 = σ 0 9 := by rw [q1 0 (by omega) (by omega) (by omega)]
    refine g_iload_n h dX8_othersHold_8 rfl ?_
    refine g_bipush h dX8_othersHold_9 (by decide) ?_
    refine g_icmp_ge (tgt := 37) h dX8_othersHold_11 (by decide) (by first | exact hR _ _ | exact ⟨by omega, by omega⟩) (by first | exact hR _ _ | exact ⟨by omega, by omega⟩) (fun c11 => ?_) (fun c11 => ?_)
    · refine g_iload_n h dX8_othersHold_37 rfl ?_
      refine g_iret h hq rfl dX8_othersHold_38 (by rw [show k.toNat = 110 by omega]; exact hp s q1)
    · refine g_iload_n h dX8_othersHold_14 rfl ?_
      refine g_aload_n h dX8_othersHold_15 rfl ?_
      refine g_iload_n h dX8_othersHold_16 rfl ?_
      refine g_vI h (c_X8_forceNow s (qPf (vM σ) (stM σ)) _ (by rw [q1.view]; exact hw.1) (by rw [q1.view, e9]; exact q2) (by rw [e9]; exact q3) h0 (by omega)) (by decide) lm_RX8_181 (rvM rfl) dX8_othersHold_17 rfl (Nat.le_of_ble_eq_true rfl) (fun z17 s17 p17 => ?_)
      obtain ⟨e17, r17⟩ := p17
      rw [q1.view, e9] at e17
      subst e17
      refine g_iconst h dX8_othersHold_20 rfl ?_
      refine g_iload_n h dX8_othersHold_21 rfl ?_
      refine g_ishl h dX8_othersHold_22 ?_
      refine g_iconst h dX8_othersHold_23 rfl ?_
      refine g_ixor h dX8_othersHold_24 ?_
      refine g_iand h dX8_othersHold_25 ?_
      refine g_val (b := ((setN (fun a => qF (vM σ) (stM σ) a k && !decide (a = b)) (σ 0 9).toNat : Nat) : Int)) (by rw [iShl_set (n := (σ 0 9).toNat) (by omega) b0 (by omega)]; exact iDif_set (by omega) _ _) ?_
      refine g_sI h (c_X8_size _ _ (Nat.lt_of_lt_of_le (setN_lt _ _) (Nat.pow_le_pow_right (by omega) (by omega)))) (by decide) lm_RX8_197 dX8_othersHold_26 rfl (Nat.le_of_ble_eq_true rfl) (fun z26 s26 p26 => ?_)
      obtain ⟨e26, r26⟩ := p26; rw [pc_set (by omega)] at e26; subst e26; replace r26 := Eq.symm r26; subst r26
      refine g_iadd h dX8_othersHold_29 ?_
      refine g_val (sum_next (fun d => cntN (fun a => qF (vM σ) (stM σ) a d && !decide (a = b)) (σ 0 9).toNat) h0) ?_
      refine g_istore_n h dX8_othersHold_30 (by decide) rfl ?_
      refine g_iinc h dX8_othersHold_31 rfl (by decide) rfl ?_
      refine g_goto (tgt := 8) h dX8_othersHold_34 (by decide) ?_
      exact ih (k + 1) s17 (by omega) (by omega) (by omega) ⟨q1.tr (r17.sc (by omega)), by rw [r17 11 (by omega)]; exact q2, fun a a0 a1 => by rw [r17 12 (by omega)]; exact q3 a a0 a1⟩
set_option maxRecDepth 100000 in
set_option maxHeartbeats 2000000 in
theorem c_X8_othersHold {l : Launch} {D : va_G} {cs : mC} {ad : Int → Nat} (σ : mS) (b : Int) (hw : mWf σ) (b0 : 0 ≤ b) (b1 : b < σ 0 9) : CI l (gM D cs ad) M_X8_othersHold 4 [.ref (ad 0), mI b] σ (fun z s => z = qOh (vM σ) (stM σ) b ∧ mSc σ s) := by
  refine CI.of (by decide) (Nat.le_of_ble_eq_true rfl) (fun x h hq => ?_)
  show mG x 0 [(0, .ref (ad 0)), (1, mI b)] [] σ
  refine g_aload_n h dX8_othersHold_0 rfl ?_
  refine g_vV h (c_X8_layPassing σ hw) (by decide) lm_RX8_178 (rvM rfl) dX8_othersHold_1 rfl (Nat.le_of_ble_eq_true rfl) (fun s1 p1 => ?_)
  skip
  refine g_iconst h dX8_othersHold_4 rfl ?_
  refine g_istore_n h dX8_othersHold_5 (by decide) rfl ?_
  refine g_iconst h dX8_othersHold_6 rfl ?_
  refine g_istore_n h dX8_othersHold_7 (by decide) rfl ?_
  exact lp_X8_othersHold h hq hw b0 b1 (fun s q => ⟨rfl, q⟩) 111 0 s1 (by omega) (by omega) (by omega) p1
/-- the readings of the reference, well formed -/
def mRd (σ : mS) : Prop := 0 ≤ σ 0 30 ∧ σ 0 30 ≤ 8 ∧ ∀ q : Int, 0 ≤ q → q < σ 0 30 → 0 ≤ σ 14 q ∧ σ 14 q < σ 0 9 ∧ 0 ≤ σ 15 q ∧ σ 15 q ≤ 109 ∧ (σ 16 q = 0 ∨ σ 16 q = 1)
set_option maxRecDepth 100000 in
set_option maxHeartbeats 2000000 in
theorem lp_X8_areSo {x : mX} {l : Launch} {D : va_G} {cs : mC} {ad : Int → Nat} {post : Int → mS → Prop} (h : mOk x l M_X8_areSo 4 (gM D cs ad)) (hq : rI x (gM D cs ad) post) {σ : mS} (hw : mWf σ) (hr : mRd σ) (hp : ∀ s : mS, mSc σ s → post (bl (qAs (vM σ) (stM σ) = true)) s) : ∀ (f : Nat) (k : Int) (s : mS), 0 ≤ k → k ≤ σ 0 30 → σ 0 30 - k < f → mLd σ s (qPf (vM σ) (stM σ)) → (∀ j : Int, 0 ≤ j → j < k → (fun q => decide (¬ bl (qF (vM σ) (stM σ) (vM σ 7 q) (vM σ 8 q) = true) = vM σ 9 q)) j = false) → mG x 6 [(0, .ref (ad 0)), (1, mI k)] [] s := by
  intro f
  have hn6 : σ 0 9 ≤ 6 := hw.1.2.1
  have hr0 := hr.1
  have hr8 := hr.2.1
  induction f with
  | zero => intro k s h0 h1 h2; omega
  | succ f ih =>
    intro k s h0 h1 h2 hl hj
    have hl9 := hl
    obtain ⟨q1, q2, q3⟩ := hl
    have e9 : s 0 9 = σ 0 9 := by rw [q1 0 (by omega) (by omega) (by omega)]
    have e30 : s 0 30 = σ 0 30 := by rw [q1 0 (by omega) (by omega) (by omega)]
    have e14 : s 14 = σ 14 := q1 14 (by omega) (by omega) (by omega)
    have e15 : s 15 = σ 15 := q1 15 (by omega) (by omega) (by omega)
    have e16 : s 16 = σ 16 := q1 16 (by omega) (by omega) (by omega)
    refine g_iload_n h dX8_areSo_6 rfl ?_
    refine g_aload_n h dX8_areSo_7 rfl ?_
    refine gm_readings h dX8_areSo_8 lf_RX8_130 ?_
    refine g_icmp_ge (tgt := 52) h dX8_areSo_11 (by decide) (by first | exact hR _ _ | exact ⟨by omega, by omega⟩) (by first | exact hR _ _ | exact ⟨by omega, by omega⟩) (fun c11 => ?_) (fun c11 => ?_)
    · refine g_iconst h dX8_areSo_52 rfl ?_
      refine g_zret h hq rfl dX8_areSo_53 (Or.inr rfl) (by
      have e : qAs (vM σ) (stM σ) = true := by
        unfold qAs
        rw [anyN_no.mpr (fun j j0 j1 => hj j j0 (by have : j < σ 0 30 := (by have e : (vM σ 0 6) = σ 0 30 := rfl; omega); omega))]
        rfl
      rw [bl1 e]; exact hp s q1)
    · have hrk := hr.2.2 k h0 (by omega)
      have v7 : vM σ 7 k = σ 14 k := vM_rd σ (by omega) (by omega) h0 (by omega)
      have v8 : vM σ 8 k = σ 15 k := vM_rd σ (by omega) (by omega) h0 (by omega)
      have v9 : vM σ 9 k = σ 16 k := vM_rd σ (by omega) (by omega) h0 (by omega)
      refine g_aload_n h dX8_areSo_14 rfl ?_
      refine g_aload_n h dX8_areSo_15 rfl ?_
      refine gm_readDay h dX8_areSo_16 lf_RX8_57 ?_
      refine g_iload_n h dX8_areSo_19 rfl ?_
      refine lm_readDay h dX8_areSo_20 (by omega) (by omega) ?_
      refine g_val (b := σ 15 k) (by rw [e15]) ?_
      refine g_vV h (c_X8_layForce s _ (by rw [q1.view]; exact hw.1) (by rw [q1.view, e9]; exact q2) (fun b b0 b1 => by rw [q3 b b0 (by omega)]; exact bl_01 _) (by omega) (by omega)) (by decide) lm_RX8_174 (rvM rfl) dX8_areSo_21 rfl (Nat.le_of_ble_eq_true rfl) (fun s21 p21 => ?_)
      obtain ⟨r21, hF⟩ := p21
      rw [q1.view, e9] at hF
      have f14 : s21 14 = σ 14 := (r21 14 (by omega)).trans e14
      have f16 : s21 16 = σ 16 := (r21 16 (by omega)).trans e16
      have hFk : s21 13 (σ 14 k) = bl (qF (vM σ) (stM σ) (σ 14 k) (σ 15 k) = true) := by
        rw [hF _ hrk.1 hrk.2.1]
        unfold qF
        rw [qIn_cong (τ := vM σ) (P := fun j => decide (s 12 j = 1)) (Q := qPf (vM σ) (stM σ)) (fun a a0 a1 => by
          have := q3 a a0 a1
          cases hz : qPf (vM σ) (stM σ) a with
          | true => rw [hz] at this; rw [this, ← bl1 rfl]; rfl
          | false => rw [hz] at this; rw [this, ← bl0 (by decide)]; rfl) (σ 15 k) 6 _ hrk.1 hrk.2.1]
      refine g_aload_n h dX8_areSo_24 rfl ?_
      refine gm_inForce h dX8_areSo_25 lf_RX8_51 ?_
      refine g_aload_n h dX8_areSo_28 rfl ?_
      refine gm_readBillOf h dX8_areSo_29 lf_RX8_54 ?_
      refine g_iload_n h dX8_areSo_32 rfl ?_
      refine lm_readBillOf h dX8_areSo_33 (by omega) (by omega) ?_
      refine g_val (b := σ 14 k) (by rw [f14]) ?_
      refine lm_inForce h dX8_areSo_34 hrk.1 (by omega) ?_
      refine g_val hFk ?_
      refine g_aload_n h dX8_areSo_35 rfl ?_
      refine gm_readWas h dX8_areSo_36 lf_RX8_60 ?_
      refine g_iload_n h dX8_areSo_39 rfl ?_
      refine lm_readWas h dX8_areSo_40 (by omega) (by omega) ?_
      refine g_val (b := σ 16 k) (by rw [f16]) ?_
      refine g_icmp_eq (tgt := 46) h dX8_areSo_41 (by decide) (bl_rng _) ⟨by omega, by omega⟩ (fun c41 => ?_) (fun c41 => ?_)
      · refine g_iinc h dX8_areSo_46 rfl (by decide) rfl ?_
        refine g_goto (tgt := 6) h dX8_areSo_49 (by decide) ?_
        exact ih (k + 1) s21 (by omega) (by omega) (by omega) ⟨q1.tr (r21.sc (by omega)), by rw [r21 11 (by omega)]; exact q2, fun a a0 a1 => by rw [r21 12 (by omega)]; exact q3 a a0 a1⟩ (fun j j0 j1 => by
          by_cases q : j = k
          · subst q; dsimp only; rw [v7, v8, v9]; simp [c41]
          · exact hj j j0 (by omega))
      · refine g_iconst h dX8_areSo_44 rfl ?_
        refine g_zret h hq rfl dX8_areSo_45 (Or.inl rfl) (by
        have e : ¬ qAs (vM σ) (stM σ) = true := by
          unfold qAs
          have e2 : (vM σ 0 6) = σ 0 30 := rfl
          rw [anyN_iff.mpr ⟨k, h0, by omega, by rw [v7, v8, v9]; exact decide_eq_true c41⟩]
          decide
        rw [bl0 e]; exact hp s21 (q1.tr (r21.sc (by omega))))
set_option maxRecDepth 100000 in
set_option maxHeartbeats 2000000 in
theorem c_X8_areSo {l : Launch} {D : va_G} {cs : mC} {ad : Int → Nat} (σ : mS)  (hw : mWf σ) (hr : mRd σ) : CI l (gM D cs ad) M_X8_areSo 4 [.ref (ad 0)] σ (fun z s => z = bl (qAs (vM σ) (stM σ) = true) ∧ mSc σ s) := by
  refine CI.of (by decide) (Nat.le_of_ble_eq_true rfl) (fun x h hq => ?_)
  show mG x 0 [(0, .ref (ad 0))] [] σ
  refine g_aload_n h dX8_areSo_0 rfl ?_
  refine g_vV h (c_X8_layPassing σ hw) (by decide) lm_RX8_178 (rvM rfl) dX8_areSo_1 rfl (Nat.le_of_ble_eq_true rfl) (fun s1 p1 => ?_)
  have hr0 := hr.1
  have hr8 := hr.2.1
  refine g_iconst h dX8_areSo_4 rfl ?_
  refine g_istore_n h dX8_areSo_5 (by decide) rfl ?_
  exact lp_X8_areSo h hq hw hr (fun s q => ⟨rfl, q⟩) 9 0 s1 (by omega) (by omega) (by omega) p1 (fun j j0 j1 => by omega)
