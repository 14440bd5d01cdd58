/-! well formed stays well formed -/
theorem qW_of {τ τ' : mS} (h : qW τ) (hf : qWf τ') (h6 : τ' 6 = τ 6) (e6 : τ' 0 6 = τ 0 6) (e4 : τ' 0 4 = τ 0 4) (h7 : τ' 7 = τ 7) (h8 : τ' 8 = τ 8) (h9 : τ' 9 = τ 9) (hs : ∀ k : Int, 10 ≤ k → τ' k = τ k) : qW τ' := by
  unfold qW
  rw [h6, e6, e4, h7, h8, h9, hs 10 (by omega), hs 11 (by omega)]
  refine ⟨hf, h.2.1, h.2.2.1, h.2.2.2.1, h.2.2.2.2.1, fun k k0 k1 => ?_⟩
  rw [hs (12 + k) (by omega)]
  exact h.2.2.2.2.2 k k0 k1
theorem qW_span {τ : mS} (h : qW τ) {v : Int} (h0 : 0 ≤ v) (h1 : v ≤ 9) : qW (mUp τ 0 3 v) := qW_of h (qWf_span h.1 h0 h1) (mUp_off _ _ _ (by omega)) (mUp_ne _ _ (by omega)) (mUp_ne _ _ (by omega)) (mUp_off _ _ _ (by omega)) (mUp_off _ _ _ (by omega)) (mUp_off _ _ _ (by omega)) (fun k hk => mUp_off _ _ _ (by omega))
theorem qW_orig {τ : mS} (h : qW τ) {v : Int} (h0 : 0 ≤ v) (h1 : v ≤ 29) : qW (mUp τ 0 0 v) := qW_of h (qWf_orig h.1 h0 h1) (mUp_off _ _ _ (by omega)) (mUp_ne _ _ (by omega)) (mUp_ne _ _ (by omega)) (mUp_off _ _ _ (by omega)) (mUp_off _ _ _ (by omega)) (mUp_off _ _ _ (by omega)) (fun k hk => mUp_off _ _ _ (by omega))
theorem qW_day {τ : mS} (h : qW τ) {b v : Int} (h0 : 0 ≤ v) (h1 : v ≤ 99) : qW (mUp τ 2 b v) := qW_of h (qWf_day h.1 h0 h1) (mUp_off _ _ _ (by omega)) (mUp_ne _ _ (by omega)) (mUp_ne _ _ (by omega)) (mUp_off _ _ _ (by omega)) (mUp_off _ _ _ (by omega)) (mUp_off _ _ _ (by omega)) (fun k hk => mUp_off _ _ _ (by omega))
theorem qW_kind {τ : mS} (h : qW τ) {b v : Int} (h0 : 0 ≤ v) (h1 : v ≤ 2) : qW (mUp τ 1 b v) := qW_of h (qWf_kind h.1 h0 h1) (mUp_off _ _ _ (by omega)) (mUp_ne _ _ (by omega)) (mUp_ne _ _ (by omega)) (mUp_off _ _ _ (by omega)) (mUp_off _ _ _ (by omega)) (mUp_off _ _ _ (by omega)) (fun k hk => mUp_off _ _ _ (by omega))
/-! one number is another for a while -/
theorem xSc.re {σ s : mS} {r j v : Int} (h : xSc (mUp σ r j v) s) (v' : Int) : xSc (mUp σ r j v') (mUp s r j v') := by
  intro k i a b
  by_cases e : k = r ∧ i = j
  · rw [e.1, e.2, mUp_eq, mUp_eq]
  · rw [mUp_ne _ _ (by omega), mUp_ne _ _ (by omega), h k i a b, mUp_ne _ _ (by omega)]
theorem xSc.back {σ s : mS} {r j v : Int} (h : xSc (mUp σ r j v) s) : xSc σ (mUp s r j (σ r j)) := by
  have := h.re (σ r j)
  rwa [mUp_id] at this
theorem xSc.id (σ : mS) (r j : Int) : xSc (mUp σ r j (σ r j)) σ := by rw [mUp_id]; exact xSc.rf σ
theorem xSt.wf {σ s : mS} {st : Int → Bool} (h : xSt σ s st) (w : qW (vX σ)) : qW (vX s) := by rw [h.1.view]; exact w
theorem xSt.F {σ s : mS} {st : Int → Bool} (h : xSt σ s st) (b d : Int) : qIn (vX s) (qPf (vX σ) st) 6 b d = qF (vX σ) st b d := by rw [h.1.view]; rfl
set_option maxRecDepth 100000 in
set_option maxHeartbeats 2000000 in
theorem lp_X2_areSo {x : mX} {l : Launch} {D : va_G} {cs : mC} {ad : Int → Nat} {post : Int → mS → Prop} (h : mOk x l M_X2_areSo 10 (gX D cs ad)) (hq : rI x (gX D cs ad) post) {σ : mS} {P : Int → Bool} (hW : qW (vX σ)) (hP : σ 1 4 = setOf 6 P) (hp : ∀ z : Int, z = bl ((!anyN (fun q => decide (¬ bl (qIn (vX σ) P 6 (vX σ 7 q) (vX σ 8 q) = true) = vX σ 9 q)) (σ 11 3).toNat) = true) → post z σ) : ∀ (g : Nat) (j : Int), 0 ≤ j → j ≤ σ 11 3 → σ 11 3 - j < g → (∀ q : Int, 0 ≤ q → q < j → (fun q => decide (¬ bl (qIn (vX σ) P 6 (vX σ 7 q) (vX σ 8 q) = true) = vX σ 9 q)) q = false) → mG x 2 [(0, .ref (ad 11)), (1, .ref (ad 1)), (2, mI j)] [] σ := by
  have h8 : σ 11 3 ≤ 8 := hW.2.2.2.1
  intro g
  induction g with
  | zero => intro j a b c; omega
  | succ g ih =>
    intro j j0 j1 hg hall
    refine g_iload_n h dX2_areSo_2 rfl ?_
    refine g_aload_n h dX2_areSo_3 rfl ?_
    refine gxR_count h dX2_areSo_4 lf_RX2_22 ?_
    refine g_icmp_ge (tgt := 43) h dX2_areSo_7 (by decide) ⟨by omega, by omega⟩ ⟨by omega, by omega⟩ (fun c7 => ?_) (fun c7 => ?_)
    · refine g_iconst h dX2_areSo_43 rfl ?_
      refine g_zret h hq rfl dX2_areSo_44 (Or.inr rfl) (hp 1 (bl1 (by rw [anyN_no.mpr (fun q q0 q1 => hall q q0 (by omega))]; rfl)))
    · have hr := hW.2.2.2.2.1 j j0 (show j < σ 11 3 by omega)
      have e7 := vX_rd σ (show (7 : Int) ≤ 7 by omega) (by omega) j0 (show j < 8 by omega)
      have e8 := vX_rd σ (show (7 : Int) ≤ 8 by omega) (by omega) j0 (show j < 8 by omega)
      have e9 := vX_rd σ (show (7 : Int) ≤ 9 by omega) (by omega) j0 (show j < 8 by omega)
      refine g_aload_n h dX2_areSo_10 rfl ?_
      refine g_aload_n h dX2_areSo_11 rfl ?_
      refine gxR_bills h dX2_areSo_12 lf_RX2_9 ?_
      refine g_iload_n h dX2_areSo_15 rfl ?_
      refine lx_rbills h dX2_areSo_16 (by omega) (by omega) ?_
      refine g_val (b := vX σ 7 j) e7.symm ?_
      refine g_aload_n h dX2_areSo_17 rfl ?_
      refine gxR_days h dX2_areSo_18 lf_RX2_15 ?_
      refine g_iload_n h dX2_areSo_21 rfl ?_
      refine lx_rdays h dX2_areSo_22 (by omega) (by omega) ?_
      refine g_val (b := vX σ 8 j) e8.symm ?_
      refine g_vI h (c_X1_isInForce _ P _ _ hW.1 hP (by omega) (by exact hr.2.1) (by omega) (by omega)) (by decide) lm_RX2_26 (rvC rfl) dX2_areSo_23 rfl (Nat.le_of_ble_eq_true rfl) (fun z23 s23 p23 => ?_)
      obtain ⟨e23, r23⟩ := p23; subst e23; replace r23 := Eq.symm r23; subst r23
      refine g_aload_n h dX2_areSo_26 rfl ?_
      refine gxR_were h dX2_areSo_27 lf_RX2_18 ?_
      refine g_iload_n h dX2_areSo_30 rfl ?_
      refine lx_rwere h dX2_areSo_31 (by omega) (by omega) ?_
      refine g_val (b := vX σ 9 j) e9.symm ?_
      refine g_icmp_eq (tgt := 37) h dX2_areSo_32 (by decide) (bl_rng _) ⟨by omega, by omega⟩ (fun c32 => ?_) (fun c32 => ?_)
      · refine g_iinc h dX2_areSo_37 rfl (by decide) rfl ?_
        refine g_goto (tgt := 2) h dX2_areSo_40 (by decide) ?_
        refine ih (j + 1) (by omega) (by omega) (by omega) (fun q q0 q1 => ?_)
        by_cases e : q = j
        · rw [e]; exact decide_eq_false (fun z => z c32)
        · exact hall q q0 (by omega)
      · refine g_iconst h dX2_areSo_35 rfl ?_
        refine g_zret h hq rfl dX2_areSo_36 (Or.inl rfl) (hp 0 (bl0 (by rw [anyN_iff.mpr ⟨j, j0, by omega, decide_eq_true c32⟩]; simp)))
set_option maxRecDepth 100000 in
set_option maxHeartbeats 2000000 in
theorem c_X2_areSo {l : Launch} {D : va_G} {cs : mC} {ad : Int → Nat} (σ : mS) (P : Int → Bool) (hW : qW (vX σ)) (hP : σ 1 4 = setOf 6 P) : CI l (gX D cs ad) M_X2_areSo 10 [.ref (ad 11), .ref (ad 1)] σ (fun z s => z = bl ((!anyN (fun q => decide (¬ bl (qIn (vX σ) P 6 (vX σ 7 q) (vX σ 8 q) = true) = vX σ 9 q)) (σ 11 3).toNat) = true) ∧ s = σ) := by
  refine CI.of (by decide) (Nat.le_of_ble_eq_true rfl) (fun x h hq => ?_)
  show mG x 0 [(0, .ref (ad 11)), (1, .ref (ad 1))] [] σ
  refine g_iconst h dX2_areSo_0 rfl ?_
  refine g_istore_n h dX2_areSo_1 (by decide) rfl ?_
  exact lp_X2_areSo h hq hW hP (fun z hz => ⟨hz, rfl⟩) 9 0 (by omega) hW.2.2.1 (by have : σ 11 3 ≤ 8 := hW.2.2.2.1; omega) (fun q q0 q1 => by omega)
def ntzF : Nat → Nat → Nat
  | 0, _ => 0
  | f + 1, x => if x % 2 = 1 then 0 else ntzF f (x / 2) + 1
theorem xSt.A {σ s : mS} (h : xSt σ s (qSI (vX σ))) : (!anyN (fun q => decide (¬ bl (qIn (vX s) (qPf (vX σ) (qSI (vX σ))) 6 (vX s 7 q) (vX s 8 q) = true) = vX s 9 q)) (s 11 3).toNat) = qAI (vX σ) := by
  rw [h.1.view, h.1 11 3 (by omega) (by omega)]
  rfl
theorem ntz_tab : ∀ h9, h9 < 64 → ∀ l9, l9 < 32 → 0 < 32 * h9 + l9 → iAnd (iXor ((32 * h9 + l9 : Nat) : Int) (-1)) (((32 * h9 + l9 : Nat) : Int) - 1) = ((2 ^ ntzF 11 (32 * h9 + l9) - 1 : Nat) : Int) ∧ ntzF 11 (32 * h9 + l9) < 11 ∧ (32 * h9 + l9).testBit (ntzF 11 (32 * h9 + l9)) = true ∧ ∀ i, i < ntzF 11 (32 * h9 + l9) → (32 * h9 + l9).testBit i = false := by decide +kernel
theorem ntz_of {X : Nat} (h : X < 2048) (h0 : 0 < X) : ∃ t : Nat, t < 11 ∧ iAnd (iXor (X : Int) (-1)) ((X : Int) - 1) = ((2 ^ t - 1 : Nat) : Int) ∧ X.testBit t = true ∧ ∀ i, i < t → X.testBit i = false := by
  have := ntz_tab (X / 32) (by omega) (X % 32) (by omega) (by omega)
  rw [show 32 * (X / 32) + X % 32 = X by omega] at this
  exact ⟨ntzF 11 X, this.2.1, this.1, this.2.2.1, this.2.2.2⟩
set_option maxRecDepth 100000 in
set_option maxHeartbeats 2000000 in
theorem c_J6_numberOfTrailingZeros_0f7a4 {l : Launch} {D : va_G} {cs : mC} {ad : Int → Nat} (σ : mS) (X : Nat) (h2 : X < 2048) (h0 : 0 < X) : CI l (gX D cs ad) M_J6_numberOfTrailingZeros_0f7a4 0 [mI (X : Int)] σ (fun z s => (0 ≤ z ∧ z < 11 ∧ X.testBit z.toNat = true ∧ ∀ i : Nat, i < z.toNat → X.testBit i = false) ∧ s = σ) := by
  refine CI.of (by decide) (Nat.le_of_ble_eq_true rfl) (fun x h hq => ?_)
  show mG x 0 [(0, mI (X : Int))] [] σ
  obtain ⟨t, t1, t2, t3, t4⟩ := ntz_of h2 h0
  refine g_iload_n h dJ6_numberOfTrailingZeros_0f7a4_0 rfl ?_
  refine g_iconst h dJ6_numberOfTrailingZeros_0f7a4_1 rfl ?_
  refine g_ixor h dJ6_numberOfTrailingZeros_0f7a4_2 ?_
  refine g_iload_n h dJ6_numberOfTrailingZeros_0f7a4_3 rfl ?_
  refine g_iconst h dJ6_numberOfTrailingZeros_0f7a4_4 rfl ?_
  refine g_isub h dJ6_numberOfTrailingZeros_0f7a4_5 ?_
  refine g_iand h dJ6_numberOfTrailingZeros_0f7a4_6 ?_
  refine g_val (b := ((2 ^ t - 1 : Nat) : Int)) t2 ?_
  rcases (show t = 0 ∨ t = 1 ∨ t = 2 ∨ t = 3 ∨ t = 4 ∨ t = 5 ∨ t = 6 ∨ t = 7 ∨ t = 8 ∨ t = 9 ∨ t = 10 by omega) with q | q | q | q | q | q | q | q | q | q | q
  · subst q
    refine g_val (b := 0) (by decide) ?_
    refine g_istore_n h dJ6_numberOfTrailingZeros_0f7a4_7 (by decide) rfl ?_
    refine g_iload_n h dJ6_numberOfTrailingZeros_0f7a4_8 rfl ?_
    refine g_if_gt (tgt := 17) h dJ6_numberOfTrailingZeros_0f7a4_9 (by decide) ⟨by omega, by omega⟩ (fun c9 => ?_) (fun c9 => ?_)
    · omega
    · refine g_iload_n h dJ6_numberOfTrailingZeros_0f7a4_12 rfl ?_
      refine g_bipush h dJ6_numberOfTrailingZeros_0f7a4_13 (by decide) ?_
      refine g_iand h dJ6_numberOfTrailingZeros_0f7a4_15 ?_
      refine g_val (b := 0) (by decide) ?_
      refine g_iret h hq rfl dJ6_numberOfTrailingZeros_0f7a4_16 ⟨⟨by omega, by omega, t3, t4⟩, rfl⟩
  · subst q
    refine g_val (b := 1) (by decide) ?_
    refine g_istore_n h dJ6_numberOfTrailingZeros_0f7a4_7 (by decide) rfl ?_
    refine g_iload_n h dJ6_numberOfTrailingZeros_0f7a4_8 rfl ?_
    refine g_if_gt (tgt := 17) h dJ6_numberOfTrailingZeros_0f7a4_9 (by decide) ⟨by omega, by omega⟩ (fun c9 => ?_) (fun c9 => ?_)
    · refine g_iconst h dJ6_numberOfTrailingZeros_0f7a4_17 rfl ?_
      refine g_istore_n h dJ6_numberOfTrailingZeros_0f7a4_18 (by decide) rfl ?_
      refine g_iload_n h dJ6_numberOfTrailingZeros_0f7a4_19 rfl ?_
      refine g_ldcw (v := 65536) h dJ6_numberOfTrailingZeros_0f7a4_20 lc_RJ6_264 (by decide) ?_
      refine g_icmp_le (tgt := 34) h dJ6_numberOfTrailingZeros_0f7a4_23 (by decide) ⟨by omega, by omega⟩ ⟨by omega, by omega⟩ (fun c23 => ?_) (fun c23 => ?_)
      · refine g_iload_n h dJ6_numberOfTrailingZeros_0f7a4_34 rfl ?_
        refine g_sipush h dJ6_numberOfTrailingZeros_0f7a4_35 (by decide) ?_
        refine g_icmp_le (tgt := 49) h dJ6_numberOfTrailingZeros_0f7a4_38 (by decide) ⟨by omega, by omega⟩ ⟨by omega, by omega⟩ (fun c38 => ?_) (fun c38 => ?_)
        · refine g_iload_n h dJ6_numberOfTrailingZeros_0f7a4_49 rfl ?_
          refine g_bipush h dJ6_numberOfTrailingZeros_0f7a4_50 (by decide) ?_
          refine g_icmp_le (tgt := 62) h dJ6_numberOfTrailingZeros_0f7a4_52 (by decide) ⟨by omega, by omega⟩ ⟨by omega, by omega⟩ (fun c52 => ?_) (fun c52 => ?_)
          · refine g_iload_n h dJ6_numberOfTrailingZeros_0f7a4_62 rfl ?_
            refine g_iconst h dJ6_numberOfTrailingZeros_0f7a4_63 rfl ?_
            refine g_icmp_le (tgt := 74) h dJ6_numberOfTrailingZeros_0f7a4_64 (by decide) ⟨by omega, by omega⟩ ⟨by omega, by omega⟩ (fun c64 => ?_) (fun c64 => ?_)
            · refine g_iload_n h dJ6_numberOfTrailingZeros_0f7a4_74 rfl ?_
              refine g_iload_n h dJ6_numberOfTrailingZeros_0f7a4_75 rfl ?_
              refine g_iconst h dJ6_numberOfTrailingZeros_0f7a4_76 rfl ?_
              refine g_iushr h dJ6_numberOfTrailingZeros_0f7a4_77 ?_
              refine g_val (b := 0) (by decide) ?_
              refine g_iadd h dJ6_numberOfTrailingZeros_0f7a4_78 ?_
              refine g_val (b := 1) (by omega) ?_
              refine g_iret h hq rfl dJ6_numberOfTrailingZeros_0f7a4_79 ⟨⟨by omega, by omega, t3, t4⟩, rfl⟩
            · omega
          · omega
        · omega
      · omega
    · omega
  · subst q
    refine g_val (b := 3) (by decide) ?_
    refine g_istore_n h dJ6_numberOfTrailingZeros_0f7a4_7 (by decide) rfl ?_
    refine g_iload_n h dJ6_numberOfTrailingZeros_0f7a4_8 rfl ?_
    refine g_if_gt (tgt := 17) h dJ6_numberOfTrailingZeros_0f7a4_9 (by decide) ⟨by omega, by omega⟩ (fun c9 => ?_) (fun c9 => ?_)
    · refine g_iconst h dJ6_numberOfTrailingZeros_0f7a4_17 rfl ?_
      refine g_istore_n h dJ6_numberOfTrailingZeros_0f7a4_18 (by decide) rfl ?_
      refine g_iload_n h dJ6_numberOfTrailingZeros_0f7a4_19 rfl ?_
      refine g_ldcw (v := 65536) h dJ6_numberOfTrailingZeros_0f7a4_20 lc_RJ6_264 (by decide) ?_
      refine g_icmp_le (tgt := 34) h dJ6_numberOfTrailingZeros_0f7a4_23 (by decide) ⟨by omega, by omega⟩ ⟨by omega, by omega⟩ (fun c23 => ?_) (fun c23 => ?_)
      · refine g_iload_n h dJ6_numberOfTrailingZeros_0f7a4_34 rfl ?_
        refine g_sipush h dJ6_numberOfTrailingZeros_0f7a4_35 (by decide) ?_
        refine g_icmp_le (tgt := 49) h dJ6_numberOfTrailingZeros_0f7a4_38 (by decide) ⟨by omega, by omega⟩ ⟨by omega, by omega⟩ (fun c38 => ?_) (fun c38 => ?_)
        · refine g_iload_n h dJ6_numberOfTrailingZeros_0f7a4_49 rfl ?_
          refine g_bipush h dJ6_numberOfTrailingZeros_0f7a4_50 (by decide) ?_
          refine g_icmp_le (tgt := 62) h dJ6_numberOfTrailingZeros_0f7a4_52 (by decide) ⟨by omega, by omega⟩ ⟨by omega, by omega⟩ (fun c52 => ?_) (fun c52 => ?_)
          · refine g_iload_n h dJ6_numberOfTrailingZeros_0f7a4_62 rfl ?_
            refine g_iconst h dJ6_numberOfTrailingZeros_0f7a4_63 rfl ?_
            refine g_icmp_le (tgt := 74) h dJ6_numberOfTrailingZeros_0f7a4_64 (by decide) ⟨by omega, by omega⟩ ⟨by omega, by omega⟩ (fun c64 => ?_) (fun c64 => ?_)
            · refine g_iload_n h dJ6_numberOfTrailingZeros_0f7a4_74 rfl ?_
              refine g_iload_n h dJ6_numberOfTrailingZeros_0f7a4_75 rfl ?_
              refine g_iconst h dJ6_numberOfTrailingZeros_0f7a4_76 rfl ?_
              refine g_iushr h dJ6_numberOfTrailingZeros_0f7a4_77 ?_
              refine g_val (b := 1) (by decide) ?_
              refine g_iadd h dJ6_numberOfTrailingZeros_0f7a4_78 ?_
              refine g_val (b := 2) (by omega) ?_
              refine g_iret h hq rfl dJ6_numberOfTrailingZeros_0f7a4_79 ⟨⟨by omega, by omega, t3, t4⟩, rfl⟩
            · omega
          · omega
        · omega
      · omega
    · omega
  · subst q
    refine g_val (b := 7) (by decide) ?_
    refine g_istore_n h dJ6_numberOfTrailingZeros_0f7a4_7 (by decide) rfl ?_
    refine g_iload_n h dJ6_numberOfTrailingZeros_0f7a4_8 rfl ?_
    refine g_if_gt (tgt := 17) h dJ6_numberOfTrailingZeros_0f7a4_9 (by decide) ⟨by omega, by omega⟩ (fun c9 => ?_) (fun c9 => ?_)
    · refine g_iconst h dJ6_numberOfTrailingZeros_0f7a4_17 rfl ?_
      refine g_istore_n h dJ6_numberOfTrailingZeros_0f7a4_18 (by decide) rfl ?_
      refine g_iload_n h dJ6_numberOfTrailingZeros_0f7a4_19 rfl ?_
      refine g_ldcw (v := 65536) h dJ6_numberOfTrailingZeros_0f7a4_20 lc_RJ6_264 (by decide) ?_
      refine g_icmp_le (tgt := 34) h dJ6_numberOfTrailingZeros_0f7a4_23 (by decide) ⟨by omega, by omega⟩ ⟨by omega, by omega⟩ (fun c23 => ?_) (fun c23 => ?_)
      · refine g_iload_n h dJ6_numberOfTrailingZeros_0f7a4_34 rfl ?_
        refine g_sipush h dJ6_numberOfTrailingZeros_0f7a4_35 (by decide) ?_
        refine g_icmp_le (tgt := 49) h dJ6_numberOfTrailingZeros_0f7a4_38 (by decide) ⟨by omega, by omega⟩ ⟨by omega, by omega⟩ (fun c38 => ?_) (fun c38 => ?_)
        · refine g_iload_n h dJ6_numberOfTrailingZeros_0f7a4_49 rfl ?_
          refine g_bipush h dJ6_numberOfTrailingZeros_0f7a4_50 (by decide) ?_
          refine g_icmp_le (tgt := 62) h dJ6_numberOfTrailingZeros_0f7a4_52 (by decide) ⟨by omega, by omega⟩ ⟨by omega, by omega⟩ (fun c52 => ?_) (fun c52 => ?_)
          · refine g_iload_n h dJ6_numberOfTrailingZeros_0f7a4_62 rfl ?_
            refine g_iconst h dJ6_numberOfTrailingZeros_0f7a4_63 rfl ?_
            refine g_icmp_le (tgt := 74) h dJ6_numberOfTrailingZeros_0f7a4_64 (by decide) ⟨by omega, by omega⟩ ⟨by omega, by omega⟩ (fun c64 => ?_) (fun c64 => ?_)
            · omega
            · refine g_iinc h dJ6_numberOfTrailingZeros_0f7a4_67 rfl (by decide) rfl ?_
              refine g_iload_n h dJ6_numberOfTrailingZeros_0f7a4_70 rfl ?_
              refine g_iconst h dJ6_numberOfTrailingZeros_0f7a4_71 rfl ?_
              refine g_iushr h dJ6_numberOfTrailingZeros_0f7a4_72 ?_
              refine g_val (b := 1) (by decide) ?_
              refine g_istore_n h dJ6_numberOfTrailingZeros_0f7a4_73 (by decide) rfl ?_
              refine g_iload_n h dJ6_numberOfTrailingZeros_0f7a4_74 rfl ?_
              refine g_iload_n h dJ6_numberOfTrailingZeros_0f7a4_75 rfl ?_
              refine g_iconst h dJ6_numberOfTrailingZeros_0f7a4_76 rfl ?_
              refine g_iushr h dJ6_numberOfTrailingZeros_0f7a4_77 ?_
              refine g_val (b := 0) (by decide) ?_
              refine g_iadd h dJ6_numberOfTrailingZeros_0f7a4_78 ?_
              refine g_val (b := 3) (by omega) ?_
              refine g_iret h hq rfl dJ6_numberOfTrailingZeros_0f7a4_79 ⟨⟨by omega, by omega, t3, t4⟩, rfl⟩
          · omega
        · omega
      · omega
    · omega
  · subst q
    refine g_val (b := 15) (by decide) ?_
    refine g_istore_n h dJ6_numberOfTrailingZeros_0f7a4_7 (by decide) rfl ?_
    refine g_iload_n h dJ6_numberOfTrailingZeros_0f7a4_8 rfl ?_
    refine g_if_gt (tgt := 17) h dJ6_numberOfTrailingZeros_0f7a4_9 (by decide) ⟨by omega, by omega⟩ (fun c9 => ?_) (fun c9 => ?_)
    · refine g_iconst h dJ6_numberOfTrailingZeros_0f7a4_17 rfl ?_
      refine g_istore_n h dJ6_numberOfTrailingZeros_0f7a4_18 (by decide) rfl ?_
      refine g_iload_n h dJ6_numberOfTrailingZeros_0f7a4_19 rfl ?_
      refine g_ldcw (v := 65536) h dJ6_numberOfTrailingZeros_0f7a4_20 lc_RJ6_264 (by decide) ?_
      refine g_icmp_le (tgt := 34) h dJ6_numberOfTrailingZeros_0f7a4_23 (by decide) ⟨by omega, by omega⟩ ⟨by omega, by omega⟩ (fun c23 => ?_) (fun c23 => ?_)
      · refine g_iload_n h dJ6_numberOfTrailingZeros_0f7a4_34 rfl ?_
        refine g_sipush h dJ6_numberOfTrailingZeros_0f7a4_35 (by decide) ?_
        refine g_icmp_le (tgt := 49) h dJ6_numberOfTrailingZeros_0f7a4_38 (by decide) ⟨by omega, by omega⟩ ⟨by omega, by omega⟩ (fun c38 => ?_) (fun c38 => ?_)
        · refine g_iload_n h dJ6_numberOfTrailingZeros_0f7a4_49 rfl ?_
          refine g_bipush h dJ6_numberOfTrailingZeros_0f7a4_50 (by decide) ?_
          refine g_icmp_le (tgt := 62) h dJ6_numberOfTrailingZeros_0f7a4_52 (by decide) ⟨by omega, by omega⟩ ⟨by omega, by omega⟩ (fun c52 => ?_) (fun c52 => ?_)
          · refine g_iload_n h dJ6_numberOfTrailingZeros_0f7a4_62 rfl ?_
            refine g_iconst h dJ6_numberOfTrailingZeros_0f7a4_63 rfl ?_
            refine g_icmp_le (tgt := 74) h dJ6_numberOfTrailingZeros_0f7a4_64 (by decide) ⟨by omega, by omega⟩ ⟨by omega, by omega⟩ (fun c64 => ?_) (fun c64 => ?_)
            · omega
            · refine g_iinc h dJ6_numberOfTrailingZeros_0f7a4_67 rfl (by decide) rfl ?_
              refine g_iload_n h dJ6_numberOfTrailingZeros_0f7a4_70 rfl ?_
              refine g_iconst h dJ6_numberOfTrailingZeros_0f7a4_71 rfl ?_
              refine g_iushr h dJ6_numberOfTrailingZeros_0f7a4_72 ?_
              refine g_val (b := 3) (by decide) ?_
              refine g_istore_n h dJ6_numberOfTrailingZeros_0f7a4_73 (by decide) rfl ?_
              refine g_iload_n h dJ6_numberOfTrailingZeros_0f7a4_74 rfl ?_
              refine g_iload_n h dJ6_numberOfTrailingZeros_0f7a4_75 rfl ?_
              refine g_iconst h dJ6_numberOfTrailingZeros_0f7a4_76 rfl ?_
              refine g_iushr h dJ6_numberOfTrailingZeros_0f7a4_77 ?_
              refine g_val (b := 1) (by decide) ?_
              refine g_iadd h dJ6_numberOfTrailingZeros_0f7a4_78 ?_
              refine g_val (b := 4) (by omega) ?_
              refine g_iret h hq rfl dJ6_numberOfTrailingZeros_0f7a4_79 ⟨⟨by omega, by omega, t3, t4⟩, rfl⟩
          · omega
        · omega
      · omega
    · omega
  · subst q
    refine g_val (b := 31) (by decide) ?_
    refine g_istore_n h dJ6_numberOfTrailingZeros_0f7a4_7 (by decide) rfl ?_
    refine g_iload_n h dJ6_numberOfTrailingZeros_0f7a4_8 rfl ?_
    refine g_if_gt (tgt := 17) h dJ6_numberOfTrailingZeros_0f7a4_9 (by decide) ⟨by omega, by omega⟩ (fun c9 => ?_) (fun c9 => ?_)
    · refine g_iconst h dJ6_numberOfTrailingZeros_0f7a4_17 rfl ?_
      refine g_istore_n h dJ6_numberOfTrailingZeros_0f7a4_18 (by decide) rfl ?_
      refine g_iload_n h dJ6_numberOfTrailingZeros_0f7a4_19 rfl ?_
      refine g_ldcw (v := 65536) h dJ6_numberOfTrailingZeros_0f7a4_20 lc_RJ6_264 (by decide) ?_
      refine g_icmp_le (tgt := 34) h dJ6_numberOfTrailingZeros_0f7a4_23 (by decide) ⟨by omega, by omega⟩ ⟨by omega, by omega⟩ (fun c23 => ?_) (fun c23 => ?_)
      · refine g_iload_n h dJ6_numberOfTrailingZeros_0f7a4_34 rfl ?_
        refine g_sipush h dJ6_numberOfTrailingZeros_0f7a4_35 (by decide) ?_
        refine g_icmp_le (tgt := 49) h dJ6_numberOfTrailingZeros_0f7a4_38 (by decide) ⟨by omega, by omega⟩ ⟨by omega, by omega⟩ (fun c38 => ?_) (fun c38 => ?_)
        · refine g_iload_n h dJ6_numberOfTrailingZeros_0f7a4_49 rfl ?_
          refine g_bipush h dJ6_numberOfTrailingZeros_0f7a4_50 (by decide) ?_
          refine g_icmp_le (tgt := 62) h dJ6_numberOfTrailingZeros_0f7a4_52 (by decide) ⟨by omega, by omega⟩ ⟨by omega, by omega⟩ (fun c52 => ?_) (fun c52 => ?_)
          · omega
          · refine g_iinc h dJ6_numberOfTrailingZeros_0f7a4_55 rfl (by decide) rfl ?_
            refine g_iload_n h dJ6_numberOfTrailingZeros_0f7a4_58 rfl ?_
            refine g_iconst h dJ6_numberOfTrailingZeros_0f7a4_59 rfl ?_
            refine g_iushr h dJ6_numberOfTrailingZeros_0f7a4_60 ?_
            refine g_val (b := 1) (by decide) ?_
            refine g_istore_n h dJ6_numberOfTrailingZeros_0f7a4_61 (by decide) rfl ?_
            refine g_iload_n h dJ6_numberOfTrailingZeros_0f7a4_62 rfl ?_
            refine g_iconst h dJ6_numberOfTrailingZeros_0f7a4_63 rfl ?_
            refine g_icmp_le (tgt := 74) h dJ6_numberOfTrailingZeros_0f7a4_64 (by decide) ⟨by omega, by omega⟩ ⟨by omega, by omega⟩ (fun c64 => ?_) (fun c64 => ?_)
            · refine g_iload_n h dJ6_numberOfTrailingZeros_0f7a4_74 rfl ?_
              refine g_iload_n h dJ6_numberOfTrailingZeros_0f7a4_75 rfl ?_
              refine g_iconst h dJ6_numberOfTrailingZeros_0f7a4_76 rfl ?_
              refine g_iushr h dJ6_numberOfTrailingZeros_0f7a4_77 ?_
              refine g_val (b := 0) (by decide) ?_
              refine g_iadd h dJ6_numberOfTrailingZeros_0f7a4_78 ?_
              refine g_val (b := 5) (by omega) ?_
              refine g_iret h hq rfl dJ6_numberOfTrailingZeros_0f7a4_79 ⟨⟨by omega, by omega, t3, t4⟩, rfl⟩
            · omega
        · omega
      · omega
    · omega
  · subst q
    refine g_val (b := 63) (by decide) ?_
    refine g_istore_n h dJ6_numberOfTrailingZeros_0f7a4_7 (by decide) rfl ?_
    refine g_iload_n h dJ6_numberOfTrailingZeros_0f7a4_8 rfl ?_
    refine g_if_gt (tgt := 17) h dJ6_numberOfTrailingZeros_0f7a4_9 (by decide) ⟨by omega, by omega⟩ (fun c9 => ?_) (fun c9 => ?_)
    · refine g_iconst h dJ6_numberOfTrailingZeros_0f7a4_17 rfl ?_
      refine g_istore_n h dJ6_numberOfTrailingZeros_0f7a4_18 (by decide) rfl ?_
      refine g_iload_n h dJ6_numberOfTrailingZeros_0f7a4_19 rfl ?_
      refine g_ldcw (v := 65536) h dJ6_numberOfTrailingZeros_0f7a4_20 lc_RJ6_264 (by decide) ?_
      refine g_icmp_le (tgt := 34) h dJ6_numberOfTrailingZeros_0f7a4_23 (by decide) ⟨by omega, by omega⟩ ⟨by omega, by omega⟩ (fun c23 => ?_) (fun c23 => ?_)
      · refine g_iload_n h dJ6_numberOfTrailingZeros_0f7a4_34 rfl ?_
        refine g_sipush h dJ6_numberOfTrailingZeros_0f7a4_35 (by decide) ?_
        refine g_icmp_le (tgt := 49) h dJ6_numberOfTrailingZeros_0f7a4_38 (by decide) ⟨by omega, by omega⟩ ⟨by omega, by omega⟩ (fun c38 => ?_) (fun c38 => ?_)
        · refine g_iload_n h dJ6_numberOfTrailingZeros_0f7a4_49 rfl ?_
          refine g_bipush h dJ6_numberOfTrailingZeros_0f7a4_50 (by decide) ?_
          refine g_icmp_le (tgt := 62) h dJ6_numberOfTrailingZeros_0f7a4_52 (by decide) ⟨by omega, by omega⟩ ⟨by omega, by omega⟩ (fun c52 => ?_) (fun c52 => ?_)
          · omega
          · refine g_iinc h dJ6_numberOfTrailingZeros_0f7a4_55 rfl (by decide) rfl ?_
            refine g_iload_n h dJ6_numberOfTrailingZeros_0f7a4_58 rfl ?_
            refine g_iconst h dJ6_numberOfTrailingZeros_0f7a4_59 rfl ?_
            refine g_iushr h dJ6_numberOfTrailingZeros_0f7a4_60 ?_
            refine g_val (b := 3) (by decide) ?_
            refine g_istore_n h dJ6_numberOfTrailingZeros_0f7a4_61 (by decide) rfl ?_
            refine g_iload_n h dJ6_numberOfTrailingZeros_0f7a4_62 rfl ?_
            refine g_iconst h dJ6_numberOfTrailingZeros_0f7a4_63 rfl ?_
            refine g_icmp_le (tgt := 74) h dJ6_numberOfTrailingZeros_0f7a4_64 (by decide) ⟨by omega, by omega⟩ ⟨by omega, by omega⟩ (fun c64 => ?_) (fun c64 => ?_)
            · refine g_iload_n h dJ6_numberOfTrailingZeros_0f7a4_74 rfl ?_
              refine g_iload_n h dJ6_numberOfTrailingZeros_0f7a4_75 rfl ?_
              refine g_iconst h dJ6_numberOfTrailingZeros_0f7a4_76 rfl ?_
              refine g_iushr h dJ6_numberOfTrailingZeros_0f7a4_77 ?_
              refine g_val (b := 1) (by decide) ?_
              refine g_iadd h dJ6_numberOfTrailingZeros_0f7a4_78 ?_
              refine g_val (b := 6) (by omega) ?_
              refine g_iret h hq rfl dJ6_numberOfTrailingZeros_0f7a4_79 ⟨⟨by omega, by omega, t3, t4⟩, rfl⟩
            · omega
        · omega
      · omega
    · omega
  · subst q
    refine g_val (b := 127) (by decide) ?_
    refine g_istore_n h dJ6_numberOfTrailingZeros_0f7a4_7 (by decide) rfl ?_
    refine g_iload_n h dJ6_numberOfTrailingZeros_0f7a4_8 rfl ?_
    refine g_if_gt (tgt := 17) h dJ6_numberOfTrailingZeros_0f7a4_9 (by decide) ⟨by omega, by omega⟩ (fun c9 => ?_) (fun c9 => ?_)
    · refine g_iconst h dJ6_numberOfTrailingZeros_0f7a4_17 rfl ?_
      refine g_istore_n h dJ6_numberOfTrailingZeros_0f7a4_18 (by decide) rfl ?_
      refine g_iload_n h dJ6_numberOfTrailingZeros_0f7a4_19 rfl ?_
      refine g_ldcw (v := 65536) h dJ6_numberOfTrailingZeros_0f7a4_20 lc_RJ6_264 (by decide) ?_
      refine g_icmp_le (tgt := 34) h dJ6_numberOfTrailingZeros_0f7a4_23 (by decide) ⟨by omega, by omega⟩ ⟨by omega, by omega⟩ (fun c23 => ?_) (fun c23 => ?_)
      · refine g_iload_n h dJ6_numberOfTrailingZeros_0f7a4_34 rfl ?_
        refine g_sipush h dJ6_numberOfTrailingZeros_0f7a4_35 (by decide) ?_
        refine g_icmp_le (tgt := 49) h dJ6_numberOfTrailingZeros_0f7a4_38 (by decide) ⟨by omega, by omega⟩ ⟨by omega, by omega⟩ (fun c38 => ?_) (fun c38 => ?_)
        · refine g_iload_n h dJ6_numberOfTrailingZeros_0f7a4_49 rfl ?_
          refine g_bipush h dJ6_numberOfTrailingZeros_0f7a4_50 (by decide) ?_
          refine g_icmp_le (tgt := 62) h dJ6_numberOfTrailingZeros_0f7a4_52 (by decide) ⟨by omega, by omega⟩ ⟨by omega, by omega⟩ (fun c52 => ?_) (fun c52 => ?_)
          · omega
          · refine g_iinc h dJ6_numberOfTrailingZeros_0f7a4_55 rfl (by decide) rfl ?_
            refine g_iload_n h dJ6_numberOfTrailingZeros_0f7a4_58 rfl ?_
            refine g_iconst h dJ6_numberOfTrailingZeros_0f7a4_59 rfl ?_
            refine g_iushr h dJ6_numberOfTrailingZeros_0f7a4_60 ?_
            refine g_val (b := 7) (by decide) ?_
            refine g_istore_n h dJ6_numberOfTrailingZeros_0f7a4_61 (by decide) rfl ?_
            refine g_iload_n h dJ6_numberOfTrailingZeros_0f7a4_62 rfl ?_
            refine g_iconst h dJ6_numberOfTrailingZeros_0f7a4_63 rfl ?_
            refine g_icmp_le (tgt := 74) h dJ6_numberOfTrailingZeros_0f7a4_64 (by decide) ⟨by omega, by omega⟩ ⟨by omega, by omega⟩ (fun c64 => ?_) (fun c64 => ?_)
            · omega
            · refine g_iinc h dJ6_numberOfTrailingZeros_0f7a4_67 rfl (by decide) rfl ?_
              refine g_iload_n h dJ6_numberOfTrailingZeros_0f7a4_70 rfl ?_
              refine g_iconst h dJ6_numberOfTrailingZeros_0f7a4_71 rfl ?_
              refine g_iushr h dJ6_numberOfTrailingZeros_0f7a4_72 ?_
              refine g_val (b := 1) (by decide) ?_
              refine g_istore_n h dJ6_numberOfTrailingZeros_0f7a4_73 (by decide) rfl ?_
              refine g_iload_n h dJ6_numberOfTrailingZeros_0f7a4_74 rfl ?_
              refine g_iload_n h dJ6_numberOfTrailingZeros_0f7a4_75 rfl ?_
              refine g_iconst h dJ6_numberOfTrailingZeros_0f7a4_76 rfl ?_
              refine g_iushr h dJ6_numberOfTrailingZeros_0f7a4_77 ?_
              refine g_val (b := 0) (by decide) ?_
              refine g_iadd h dJ6_numberOfTrailingZeros_0f7a4_78 ?_
              refine g_val (b := 7) (by omega) ?_
              refine g_iret h hq rfl dJ6_numberOfTrailingZeros_0f7a4_79 ⟨⟨by omega, by omega, t3, t4⟩, rfl⟩
        · omega
      · omega
    · omega
  · subst q
    refine g_val (b := 255) (by decide) ?_
    refine g_istore_n h dJ6_numberOfTrailingZeros_0f7a4_7 (by decide) rfl ?_
    refine g_iload_n h dJ6_numberOfTrailingZeros_0f7a4_8 rfl ?_
    refine g_if_gt (tgt := 17) h dJ6_numberOfTrailingZeros_0f7a4_9 (by decide) ⟨by omega, by omega⟩ (fun c9 => ?_) (fun c9 => ?_)
    · refine g_iconst h dJ6_numberOfTrailingZeros_0f7a4_17 rfl ?_
      refine g_istore_n h dJ6_numberOfTrailingZeros_0f7a4_18 (by decide) rfl ?_
      refine g_iload_n h dJ6_numberOfTrailingZeros_0f7a4_19 rfl ?_
      refine g_ldcw (v := 65536) h dJ6_numberOfTrailingZeros_0f7a4_20 lc_RJ6_264 (by decide) ?_
      refine g_icmp_le (tgt := 34) h dJ6_numberOfTrailingZeros_0f7a4_23 (by decide) ⟨by omega, by omega⟩ ⟨by omega, by omega⟩ (fun c23 => ?_) (fun c23 => ?_)
      · refine g_iload_n h dJ6_numberOfTrailingZeros_0f7a4_34 rfl ?_
        refine g_sipush h dJ6_numberOfTrailingZeros_0f7a4_35 (by decide) ?_
        refine g_icmp_le (tgt := 49) h dJ6_numberOfTrailingZeros_0f7a4_38 (by decide) ⟨by omega, by omega⟩ ⟨by omega, by omega⟩ (fun c38 => ?_) (fun c38 => ?_)
        · refine g_iload_n h dJ6_numberOfTrailingZeros_0f7a4_49 rfl ?_
          refine g_bipush h dJ6_numberOfTrailingZeros_0f7a4_50 (by decide) ?_
          refine g_icmp_le (tgt := 62) h dJ6_numberOfTrailingZeros_0f7a4_52 (by decide) ⟨by omega, by omega⟩ ⟨by omega, by omega⟩ (fun c52 => ?_) (fun c52 => ?_)
          · omega
          · refine g_iinc h dJ6_numberOfTrailingZeros_0f7a4_55 rfl (by decide) rfl ?_
            refine g_iload_n h dJ6_numberOfTrailingZeros_0f7a4_58 rfl ?_
            refine g_iconst h dJ6_numberOfTrailingZeros_0f7a4_59 rfl ?_
            refine g_iushr h dJ6_numberOfTrailingZeros_0f7a4_60 ?_
            refine g_val (b := 15) (by decide) ?_
            refine g_istore_n h dJ6_numberOfTrailingZeros_0f7a4_61 (by decide) rfl ?_
            refine g_iload_n h dJ6_numberOfTrailingZeros_0f7a4_62 rfl ?_
            refine g_iconst h dJ6_numberOfTrailingZeros_0f7a4_63 rfl ?_
            refine g_icmp_le (tgt := 74) h dJ6_numberOfTrailingZeros_0f7a4_64 (by decide) ⟨by omega, by omega⟩ ⟨by omega, by omega⟩ (fun c64 => ?_) (fun c64 => ?_)
            · omega
            · refine g_iinc h dJ6_numberOfTrailingZeros_0f7a4_67 rfl (by decide) rfl ?_
              refine g_iload_n h dJ6_numberOfTrailingZeros_0f7a4_70 rfl ?_
              refine g_iconst h dJ6_numberOfTrailingZeros_0f7a4_71 rfl ?_
              refine g_iushr h dJ6_numberOfTrailingZeros_0f7a4_72 ?_
              refine g_val (b := 3) (by decide) ?_
              refine g_istore_n h dJ6_numberOfTrailingZeros_0f7a4_73 (by decide) rfl ?_
              refine g_iload_n h dJ6_numberOfTrailingZeros_0f7a4_74 rfl ?_
              refine g_iload_n h dJ6_numberOfTrailingZeros_0f7a4_75 rfl ?_
              refine g_iconst h dJ6_numberOfTrailingZeros_0f7a4_76 rfl ?_
              refine g_iushr h dJ6_numberOfTrailingZeros_0f7a4_77 ?_
              refine g_val (b := 1) (by decide) ?_
              refine g_iadd h dJ6_numberOfTrailingZeros_0f7a4_78 ?_
              refine g_val (b := 8) (by omega) ?_
              refine g_iret h hq rfl dJ6_numberOfTrailingZeros_0f7a4_79 ⟨⟨by omega, by omega, t3, t4⟩, rfl⟩
        · omega
      · omega
    · omega
  · subst q
    refine g_val (b := 511) (by decide) ?_
    refine g_istore_n h dJ6_numberOfTrailingZeros_0f7a4_7 (by decide) rfl ?_
    refine g_iload_n h dJ6_numberOfTrailingZeros_0f7a4_8 rfl ?_
    refine g_if_gt (tgt := 17) h dJ6_numberOfTrailingZeros_0f7a4_9 (by decide) ⟨by omega, by omega⟩ (fun c9 => ?_) (fun c9 => ?_)
    · refine g_iconst h dJ6_numberOfTrailingZeros_0f7a4_17 rfl ?_
      refine g_istore_n h dJ6_numberOfTrailingZeros_0f7a4_18 (by decide) rfl ?_
      refine g_iload_n h dJ6_numberOfTrailingZeros_0f7a4_19 rfl ?_
      refine g_ldcw (v := 65536) h dJ6_numberOfTrailingZeros_0f7a4_20 lc_RJ6_264 (by decide) ?_
      refine g_icmp_le (tgt := 34) h dJ6_numberOfTrailingZeros_0f7a4_23 (by decide) ⟨by omega, by omega⟩ ⟨by omega, by omega⟩ (fun c23 => ?_) (fun c23 => ?_)
      · refine g_iload_n h dJ6_numberOfTrailingZeros_0f7a4_34 rfl ?_
        refine g_sipush h dJ6_numberOfTrailingZeros_0f7a4_35 (by decide) ?_
        refine g_icmp_le (tgt := 49) h dJ6_numberOfTrailingZeros_0f7a4_38 (by decide) ⟨by omega, by omega⟩ ⟨by omega, by omega⟩ (fun c38 => ?_) (fun c38 => ?_)
        · omega
        · refine g_iinc h dJ6_numberOfTrailingZeros_0f7a4_41 rfl (by decide) rfl ?_
          refine g_iload_n h dJ6_numberOfTrailingZeros_0f7a4_44 rfl ?_
          refine g_bipush h dJ6_numberOfTrailingZeros_0f7a4_45 (by decide) ?_
          refine g_iushr h dJ6_numberOfTrailingZeros_0f7a4_47 ?_
          refine g_val (b := 1) (by decide) ?_
          refine g_istore_n h dJ6_numberOfTrailingZeros_0f7a4_48 (by decide) rfl ?_
          refine g_iload_n h dJ6_numberOfTrailingZeros_0f7a4_49 rfl ?_
          refine g_bipush h dJ6_numberOfTrailingZeros_0f7a4_50 (by decide) ?_
          refine g_icmp_le (tgt := 62) h dJ6_numberOfTrailingZeros_0f7a4_52 (by decide) ⟨by omega, by omega⟩ ⟨by omega, by omega⟩ (fun c52 => ?_) (fun c52 => ?_)
          · refine g_iload_n h dJ6_numberOfTrailingZeros_0f7a4_62 rfl ?_
            refine g_iconst h dJ6_numberOfTrailingZeros_0f7a4_63 rfl ?_
            refine g_icmp_le (tgt := 74) h dJ6_numberOfTrailingZeros_0f7a4_64 (by decide) ⟨by omega, by omega⟩ ⟨by omega, by omega⟩ (fun c64 => ?_) (fun c64 => ?_)
            · refine g_iload_n h dJ6_numberOfTrailingZeros_0f7a4_74 rfl ?_
              refine g_iload_n h dJ6_numberOfTrailingZeros_0f7a4_75 rfl ?_
              refine g_iconst h dJ6_numberOfTrailingZeros_0f7a4_76 rfl ?_
              refine g_iushr h dJ6_numberOfTrailingZeros_0f7a4_77 ?_
              refine g_val (b := 0) (by decide) ?_
              refine g_iadd h dJ6_numberOfTrailingZeros_0f7a4_78 ?_
              refine g_val (b := 9) (by omega) ?_
              refine g_iret h hq rfl dJ6_numberOfTrailingZeros_0f7a4_79 ⟨⟨by omega, by omega, t3, t4⟩, rfl⟩
            · omega
          · omega
      · omega
    · omega
  · subst q
    refine g_val (b := 1023) (by decide) ?_
    refine g_istore_n h dJ6_numberOfTrailingZeros_0f7a4_7 (by decide) rfl ?_
    refine g_iload_n h dJ6_numberOfTrailingZeros_0f7a4_8 rfl ?_
    refine g_if_gt (tgt := 17) h dJ6_numberOfTrailingZeros_0f7a4_9 (by decide) ⟨by omega, by omega⟩ (fun c9 => ?_) (fun c9 => ?_)
    · refine g_iconst h dJ6_numberOfTrailingZeros_0f7a4_17 rfl ?_
      refine g_istore_n h dJ6_numberOfTrailingZeros_0f7a4_18 (by decide) rfl ?_
      refine g_iload_n h dJ6_numberOfTrailingZeros_0f7a4_19 rfl ?_
      refine g_ldcw (v := 65536) h dJ6_numberOfTrailingZeros_0f7a4_20 lc_RJ6_264 (by decide) ?_
      refine g_icmp_le (tgt := 34) h dJ6_numberOfTrailingZeros_0f7a4_23 (by decide) ⟨by omega, by omega⟩ ⟨by omega, by omega⟩ (fun c23 => ?_) (fun c23 => ?_)
      · refine g_iload_n h dJ6_numberOfTrailingZeros_0f7a4_34 rfl ?_
        refine g_sipush h dJ6_numberOfTrailingZeros_0f7a4_35 (by decide) ?_
        refine g_icmp_le (tgt := 49) h dJ6_numberOfTrailingZeros_0f7a4_38 (by decide) ⟨by omega, by omega⟩ ⟨by omega, by omega⟩ (fun c38 => ?_) (fun c38 => ?_)
        · omega
        · refine g_iinc h dJ6_numberOfTrailingZeros_0f7a4_41 rfl (by decide) rfl ?_
          refine g_iload_n h dJ6_numberOfTrailingZeros_0f7a4_44 rfl ?_
          refine g_bipush h dJ6_numberOfTrailingZeros_0f7a4_45 (by decide) ?_
          refine g_iushr h dJ6_numberOfTrailingZeros_0f7a4_47 ?_
          refine g_val (b := 3) (by decide) ?_
          refine g_istore_n h dJ6_numberOfTrailingZeros_0f7a4_48 (by decide) rfl ?_
          refine g_iload_n h dJ6_numberOfTrailingZeros_0f7a4_49 rfl ?_
          refine g_bipush h dJ6_numberOfTrailingZeros_0f7a4_50 (by decide) ?_
          refine g_icmp_le (tgt := 62) h dJ6_numberOfTrailingZeros_0f7a4_52 (by decide) ⟨by omega, by omega⟩ ⟨by omega, by omega⟩ (fun c52 => ?_) (fun c52 => ?_)
          · refine g_iload_n h dJ6_numberOfTrailingZeros_0f7a4_62 rfl ?_
            refine g_iconst h dJ6_numberOfTrailingZeros_0f7a4_63 rfl ?_
            refine g_icmp_le (tgt := 74) h dJ6_numberOfTrailingZeros_0f7a4_64 (by decide) ⟨by omega, by omega⟩ ⟨by omega, by omega⟩ (fun c64 => ?_) (fun c64 => ?_)
            · refine g_iload_n h dJ6_numberOfTrailingZeros_0f7a4_74 rfl ?_
              refine g_iload_n h dJ6_numberOfTrailingZeros_0f7a4_75 rfl ?_
              refine g_iconst h dJ6_numberOfTrailingZeros_0f7a4_76 rfl ?_
              refine g_iushr h dJ6_numberOfTrailingZeros_0f7a4_77 ?_
              refine g_val (b := 1) (by decide) ?_
              refine g_iadd h dJ6_numberOfTrailingZeros_0f7a4_78 ?_
              refine g_val (b := 10) (by omega) ?_
              refine g_iret h hq rfl dJ6_numberOfTrailingZeros_0f7a4_79 ⟨⟨by omega, by omega, t3, t4⟩, rfl⟩
            · omega
          · omega
      · omega
    · omega
theorem xSeen {τ : mS} (hw : qWf τ) {b : Int} (b0 : 0 ≤ b) (b1 : b < 6) (m : Int) : (qWt τ b m && !(decide (qMd τ m ≤ 109) && qCl τ m)) = (qWt τ b m && !qCl τ m) := by
  cases e : qWt τ b m with
  | false => rfl
  | true => rw [decide_eq_true (show qMd τ m ≤ 109 by have := qWt_in hw b0 b1 e; omega)]; rfl
set_option maxRecDepth 100000 in
set_option maxHeartbeats 2000000 in
theorem c_X7_struck {l : Launch} {D : va_G} {cs : mC} {ad : Int → Nat} (σ : mS) (b : Int) (hb : i32 b) (hW : qW (vX σ)) : CI l (gX D cs ad) M_X7_struck 12 [.ref (ad 0), mI b] σ (fun z s => z = sp_struck (vX σ) b ∧ vX s = vX σ) := by
  refine CI.of (by decide) (Nat.le_of_ble_eq_true rfl) (fun x h hq => ?_)
  show mG x 0 [(0, .ref (ad 0)), (1, mI b)] [] σ
  have hn0 : 0 ≤ σ 1 2 := hW.1.1
  have hn6 : σ 1 2 ≤ 6 := hW.1.2.1
  have e4 : vX σ 0 4 = σ 1 2 := rfl
  refine g_aload_n h dX7_struck_0 rfl ?_
  refine g_iload_n h dX7_struck_1 rfl ?_
  refine g_vI h (c_X7_noBill _ _ hb hn0 hn6) (by decide) lm_RX7_66 (rvV rfl) dX7_struck_2 rfl (Nat.le_of_ble_eq_true rfl) (fun z2 s2 p2 => ?_)
  obtain ⟨e2, r2⟩ := p2; subst e2; replace r2 := Eq.symm r2; subst r2
  refine g_ifb_eq (tgt := 10) h dX7_struck_5 (by decide)  (fun c5 => ?_) (fun c5 => ?_)
  · have cb : 0 ≤ b ∧ b < σ 1 2 := by omega
    refine g_aload_n h dX7_struck_10 rfl ?_
    refine gxV_council h dX7_struck_11 lf_RX7_12 ?_
    refine g_vV h (c_X1_settle _ hW.1 hW.2.1 (by omega)) (by decide) lm_RX7_110 (rvC rfl) dX7_struck_14 rfl (Nat.le_of_ble_eq_true rfl) (fun s14 p14 => ?_)
    have ev := p14.1.view
    have hW3 := p14.wf hW
    have e12 : s14 1 2 = σ 1 2 := p14.1 1 2 (by omega) (by omega)
    refine g_aload_n h dX7_struck_17 rfl ?_
    refine gxV_council h dX7_struck_18 lf_RX7_12 ?_
    refine gxC_bills h dX7_struck_21 lf_RX7_69 ?_
    refine g_iload_n h dX7_struck_24 rfl ?_
    refine lx_bills h dX7_struck_25 (by omega) (by omega) ?_
    refine gxB_moons h (by omega) (by omega) dX7_struck_26 lf_RX7_113 ?_
    refine g_val (b := setOf 11 (qWt (vX σ) b)) (p14.2.2 b cb.1 cb.2) ?_
    refine g_aload_n h dX7_struck_29 rfl ?_
    refine gxV_council h dX7_struck_30 lf_RX7_12 ?_
    refine gxC_sky h dX7_struck_33 lf_RX7_94 ?_
    refine g_vI h (c_X4_cloudedMoons _ hW3.1 hW3.2.1 (by omega)) (by decide) lm_RX7_116 (rvK rfl) dX7_struck_36 rfl (Nat.le_of_ble_eq_true rfl) (fun z36 s36 p36 => ?_)
    obtain ⟨e36, r36⟩ := p36; subst e36; replace r36 := Eq.symm r36; subst r36
    rw [ev]
    refine g_iconst h dX7_struck_39 rfl ?_
    refine g_ixor h dX7_struck_40 ?_
    refine g_iand h dX7_struck_41 ?_
    refine g_val (b := setOf 11 (fun i => qWt (vX σ) b i && !qCl (vX σ) i)) ((iDif_set (by omega) _ _).trans (setOf_cong (fun i _ _ => xSeen hW.1 cb.1 (by omega) i))) ?_
    refine g_istore_n h dX7_struck_42 (by decide) rfl ?_
    refine g_iload_n h dX7_struck_43 rfl ?_
    refine g_if_ne (tgt := 52) h dX7_struck_44 (by decide) (setOf_32 (by omega) _) (fun c44 => ?_) (fun c44 => ?_)
    · refine g_aload_n h dX7_struck_52 rfl ?_
      refine gxV_council h dX7_struck_53 lf_RX7_12 ?_
      refine gxC_sky h dX7_struck_56 lf_RX7_94 ?_
      refine g_iload_n h dX7_struck_59 rfl ?_
      refine g_sI h (c_J6_numberOfTrailingZeros_0f7a4 _ (setN (fun i => qWt (vX σ) b i && !qCl (vX σ) i) 11) (setN_lt _ 11) (by unfold setOf at c44; omega)) (by decide) lm_RX7_120 dX7_struck_60 rfl (Nat.le_of_ble_eq_true rfl) (fun z60 s60 p60 => ?_)
      obtain ⟨⟨t0, t1, t2, t3⟩, r60⟩ := p60; replace r60 := Eq.symm r60; subst r60
      refine g_vI h (c_X4_dayOfMoon _ _ hW3.1 (by omega) t0 (by omega)) (by decide) lm_RX7_98 (rvK rfl) dX7_struck_63 rfl (Nat.le_of_ble_eq_true rfl) (fun z63 s63 p63 => ?_)
      obtain ⟨e63, r63⟩ := p63; subst e63; replace r63 := Eq.symm r63; subst r63
      refine g_iret h hq rfl dX7_struck_66 ⟨by
        unfold sp_struck qFs
        have ef : fstN (fun i => qWt (vX σ) b i && !qCl (vX σ) i) 11 = z60 := fstN_is t0 t1 (by rw [setN_tb, Int.toNat_of_nonneg t0, decide_eq_true (show z60.toNat < 11 by omega), Bool.true_and] at t2; exact t2) (fun j j0 j1 => by have := t3 j.toNat (by omega); rw [setN_tb, Int.toNat_of_nonneg j0, decide_eq_true (show j.toNat < 11 by omega), Bool.true_and] at this; exact this)
        rw [if_neg (fun z => z cb), ef, if_pos (by omega), ev], ev⟩
    · refine g_bipush h dX7_struck_47 (by decide) ?_
      refine g_goto (tgt := 66) h dX7_struck_49 (by decide) ?_
      refine g_iret h hq rfl dX7_struck_66 ⟨by
        unfold sp_struck qFs
        have ef : fstN (fun i => qWt (vX σ) b i && !qCl (vX σ) i) 11 = 11 := fstN_no (fun i i0 i1 => set_zero.mp c44 i i0 i1)
        rw [if_neg (fun z => z cb), ef, if_neg (by omega)], ev⟩
  · refine g_iconst h dX7_struck_8 rfl ?_
    refine g_iret h hq rfl dX7_struck_9 ⟨by unfold sp_struck; rw [if_pos c5], rfl⟩
theorem qPk_out {τ : mS} {o : Int → Int} {st : Int → Bool} {n : Int} (h : ∀ i : Int, 0 ≤ i → i < n → o i < n) {b : Int} (hb : n ≤ b) : ∀ k : Nat, k ≤ n → qPk τ o st k b = false
  | 0, _ => rfl
  | k + 1, hk => by
    have := h (k : Int) (by omega) (by omega)
    rw [qPk, qPk_out h hb k (by omega), decide_eq_false (by omega)]
    rfl
theorem qPf_out {τ : mS} (h : 0 ≤ τ 0 4) {st : Int → Bool} {b : Int} (hb : τ 0 4 ≤ b) : qPf τ st b = false := qPk_out (fun i i0 i1 => ((qO_ok h).1 i i0 i1).2) hb _ (by omega)
theorem qPf_set {τ : mS} (h : 0 ≤ τ 0 4) (h6 : τ 0 4 ≤ 6) (st : Int → Bool) : setOf 6 (qPf τ st) = setOf (τ 0 4).toNat (qPf τ st) := set_stop _ h 6 (by omega) (fun i i0 i1 => qPf_out h i0)
set_option maxRecDepth 100000 in
set_option maxHeartbeats 2000000 in
theorem c_X7_passing {l : Launch} {D : va_G} {cs : mC} {ad : Int → Nat} (σ : mS)  (hW : qW (vX σ)) : CI l (gX D cs ad) M_X7_passing 12 [.ref (ad 0)] σ (fun z s => z = sp_passing (vX σ) ∧ vX s = vX σ) := by
  refine CI.of (by decide) (Nat.le_of_ble_eq_true rfl) (fun x h hq => ?_)
  show mG x 0 [(0, .ref (ad 0))] [] σ
  have hn0 : 0 ≤ σ 1 2 := hW.1.1
  have hn6 : σ 1 2 ≤ 6 := hW.1.2.1
  have e4 : vX σ 0 4 = σ 1 2 := rfl
  refine g_aload_n h dX7_passing_0 rfl ?_
  refine g_vI h (c_X7_noCouncil _ hn0 hn6) (by decide) lm_RX7_90 (rvV rfl) dX7_passing_1 rfl (Nat.le_of_ble_eq_true rfl) (fun z1 s1 p1 => ?_)
  obtain ⟨e1, r1⟩ := p1; subst e1; replace r1 := Eq.symm r1; subst r1
  refine g_ifb_eq (tgt := 10) h dX7_passing_4 (by decide)  (fun c4 => ?_) (fun c4 => ?_)
  · refine g_aload_n h dX7_passing_10 rfl ?_
    refine gxV_council h dX7_passing_11 lf_RX7_12 ?_
    refine g_vV h (c_X1_settle _ hW.1 hW.2.1 (by omega)) (by decide) lm_RX7_110 (rvC rfl) dX7_passing_14 rfl (Nat.le_of_ble_eq_true rfl) (fun s14 p14 => ?_)
    refine g_aload_n h dX7_passing_17 rfl ?_
    refine gxV_council h dX7_passing_18 lf_RX7_12 ?_
    refine gxC_passes h dX7_passing_21 lf_RX7_125 ?_
    refine g_iret h hq rfl dX7_passing_24 ⟨by unfold sp_passing; rw [if_neg c4, p14.2.1, qPf_set hW.1.1 hW.1.2.1], p14.1.view⟩
  · refine g_bipush h dX7_passing_7 (by decide) ?_
    refine g_iret h hq rfl dX7_passing_9 ⟨by unfold sp_passing; rw [if_pos c4], rfl⟩
set_option maxRecDepth 100000 in
set_option maxHeartbeats 2000000 in
theorem c_X7_force {l : Launch} {D : va_G} {cs : mC} {ad : Int → Nat} (σ : mS) (d : Int) (hd : i32 d) (hW : qW (vX σ)) : CI l (gX D cs ad) M_X7_force 12 [.ref (ad 0), mI d] σ (fun z s => z = sp_force (vX σ) d ∧ vX s = vX σ) := by
  refine CI.of (by decide) (Nat.le_of_ble_eq_true rfl) (fun x h hq => ?_)
  show mG x 0 [(0, .ref (ad 0)), (1, mI d)] [] σ
  have hn0 : 0 ≤ σ 1 2 := hW.1.1
  have hn6 : σ 1 2 ≤ 6 := hW.1.2.1
  have e4 : vX σ 0 4 = σ 1 2 := rfl
  refine g_iload_n h dX7_force_0 rfl ?_
  refine g_bipush h dX7_force_1 (by decide) ?_
  refine g_sI h (c_X7_within _ _ _ hd ⟨by omega, by omega⟩) (by decide) lm_RX7_40 dX7_force_3 rfl (Nat.le_of_ble_eq_true rfl) (fun z3 s3 p3 => ?_)
  obtain ⟨e3, r3⟩ := p3; subst e3; replace r3 := Eq.symm r3; subst r3
  refine g_ifb_ne (tgt := 12) h dX7_force_6 (by decide)  (fun c6 => ?_) (fun c6 => ?_)
  · refine g_aload_n h dX7_force_12 rfl ?_
    refine g_vI h (c_X7_noCouncil _ hn0 hn6) (by decide) lm_RX7_90 (rvV rfl) dX7_force_13 rfl (Nat.le_of_ble_eq_true rfl) (fun z13 s13 p13 => ?_)
    obtain ⟨e13, r13⟩ := p13; subst e13; replace r13 := Eq.symm r13; subst r13
    refine g_ifb_eq (tgt := 22) h dX7_force_16 (by decide)  (fun c16 => ?_) (fun c16 => ?_)
    · refine g_aload_n h dX7_force_22 rfl ?_
      refine gxV_council h dX7_force_23 lf_RX7_12 ?_
      refine g_vV h (c_X1_settle _ hW.1 hW.2.1 (by omega)) (by decide) lm_RX7_110 (rvC rfl) dX7_force_26 rfl (Nat.le_of_ble_eq_true rfl) (fun s26 p26 => ?_)
      refine g_aload_n h dX7_force_29 rfl ?_
      refine gxV_council h dX7_force_30 lf_RX7_12 ?_
      refine g_iload_n h dX7_force_33 rfl ?_
      refine g_vI h (c_X1_allInForce _ _ _ (p26.wf hW).1 p26.2.1 c6.1 c6.2) (by decide) lm_RX7_128 (rvC rfl) dX7_force_34 rfl (Nat.le_of_ble_eq_true rfl) (fun z34 s34 p34 => ?_)
      obtain ⟨e34, r34⟩ := p34; subst e34; replace r34 := Eq.symm r34; subst r34
      refine g_iret h hq rfl dX7_force_37 ⟨by unfold sp_force; rw [if_neg (fun z => z c6), if_neg c16, p26.1 1 2 (by omega) (by omega)]; exact setOf_cong (fun b _ _ => p26.F b d), p26.1.view⟩
    · refine g_bipush h dX7_force_19 (by decide) ?_
      refine g_iret h hq rfl dX7_force_21 ⟨by unfold sp_force; rw [if_neg (fun z => z c6), if_pos c16], rfl⟩
  · refine g_bipush h dX7_force_9 (by decide) ?_
    refine g_iret h hq rfl dX7_force_11 ⟨by unfold sp_force; rw [if_pos c6], rfl⟩
set_option maxRecDepth 100000 in
set_option maxHeartbeats 2000000 in
theorem c_X7_holds {l : Launch} {D : va_G} {cs : mC} {ad : Int → Nat} (σ : mS) (b : Int) (hb : i32 b) (hW : qW (vX σ)) : CI l (gX D cs ad) M_X7_holds 12 [.ref (ad 0), mI b] σ (fun z s => z = sp_holds (vX σ) b ∧ vX s = vX σ) := by
  refine CI.of (by decide) (Nat.le_of_ble_eq_true rfl) (fun x h hq => ?_)
  show mG x 0 [(0, .ref (ad 0)), (1, mI b)] [] σ
  have hn0 : 0 ≤ σ 1 2 := hW.1.1
  have hn6 : σ 1 2 ≤ 6 := hW.1.2.1
  have e4 : vX σ 0 4 = σ 1 2 := rfl
  refine g_aload_n h dX7_holds_0 rfl ?_
  refine g_iload_n h dX7_holds_1 rfl ?_
  refine g_vI h (c_X7_noBill _ _ hb hn0 hn6) (by decide) lm_RX7_66 (rvV rfl) dX7_holds_2 rfl (Nat.le_of_ble_eq_true rfl) (fun z2 s2 p2 => ?_)
  obtain ⟨e2, r2⟩ := p2; subst e2; replace r2 := Eq.symm r2; subst r2
  refine g_ifb_eq (tgt := 10) h dX7_holds_5 (by decide)  (fun c5 => ?_) (fun c5 => ?_)
  · have cb : 0 ≤ b ∧ b < σ 1 2 := by omega
    refine g_aload_n h dX7_holds_10 rfl ?_
    refine gxV_council h dX7_holds_11 lf_RX7_12 ?_
    refine g_vV h (c_X1_settle _ hW.1 hW.2.1 (by omega)) (by decide) lm_RX7_110 (rvC rfl) dX7_holds_14 rfl (Nat.le_of_ble_eq_true rfl) (fun s14 p14 => ?_)
    refine g_aload_n h dX7_holds_17 rfl ?_
    refine gxV_council h dX7_holds_18 lf_RX7_12 ?_
    refine g_iload_n h dX7_holds_21 rfl ?_
    refine g_vI h (c_X1_daysHeld _ _ _ (p14.wf hW).1 p14.2.1 cb.1 (by rw [p14.1 1 2 (by omega) (by omega)]; exact cb.2)) (by decide) lm_RX7_131 (rvC rfl) dX7_holds_22 rfl (Nat.le_of_ble_eq_true rfl) (fun z22 s22 p22 => ?_)
    obtain ⟨e22, r22⟩ := p22; subst e22; replace r22 := Eq.symm r22; subst r22
    refine g_iret h hq rfl dX7_holds_25 ⟨by unfold sp_holds; rw [if_neg (fun z => z cb)]; exact cntN_cong (fun d _ _ => p14.F b d), p14.1.view⟩
  · refine g_iconst h dX7_holds_8 rfl ?_
    refine g_iret h hq rfl dX7_holds_9 ⟨by unfold sp_holds; rw [if_pos c5], rfl⟩
