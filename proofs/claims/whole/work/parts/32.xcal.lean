theorem set_skip (p : Int → Bool) {k : Int} (k0 : 0 ≤ k) (hp : p k = false) : setOf (k + 1).toNat p = setOf k.toNat p := by
  rw [show (k + 1).toNat = k.toNat + 1 by omega, set_grow, Int.toNat_of_nonneg k0, hp]
  simp
theorem set_stop (p : Int → Bool) {k : Int} (k0 : 0 ≤ k) : ∀ n : Nat, k ≤ n → (∀ i : Int, k ≤ i → i < n → p i = false) → setOf n p = setOf k.toNat p
  | 0, h, _ => by rw [show k.toNat = 0 by omega]
  | n + 1, h, hp => by
    by_cases e : k = (n + 1 : Nat)
    · rw [e]; rfl
    · rw [← set_stop p k0 n (by omega) (fun i a b => hp i a (by omega)), set_grow, hp (n : Int) (by omega) (by omega)]
      simp
theorem set_addN (p : Int → Bool) {k : Int} (k0 : 0 ≤ k) (k1 : k < 31) (hp : p k = true) : iOr (setOf k.toNat p) (iShl 1 k) = setOf (k + 1).toNat p := set_next (n := k.toNat) (by omega) p (by omega) (by rw [if_pos hp])
theorem lw_RX1_39 : Cond.methodLink RX1 39 yJ9_min_7cf53 ∈ gT := tb_of 280 (by decide +kernel) (by decide +kernel)
theorem lw_RX0_50 : Cond.methodLink RX0 50 yJ9_max_7cf53 ∈ gT := tb_of 369 (by decide +kernel) (by decide +kernel)
theorem lw_RX0_56 : Cond.methodLink RX0 56 yJ9_min_7cf53 ∈ gT := tb_of 372 (by decide +kernel) (by decide +kernel)
section MMX
variable {x : mX} {l : Launch} {μ : mM} {n : Nat} {Γ : mE} {pc : Nat} {lv : List (Nat × Value)} {st : List Value} {σ : mS}
theorem g_max (h : mOk x l μ n Γ) {idx : Nat} {a b : Int} (hlk : Cond.methodLink μ.1.cls idx yJ9_max_7cf53 ∈ gT) (ha : i32 a) (hb : i32 b) (hn : 0 < n) (hd : decode μ.2.1 pc = .ok (.invokestatic idx, 3)) (hw9 : (st.map fun v => v.category).sum ≤ 8) (kk : mG x (pc + 3) lv (mI (if a < b then b else a) :: st) σ) : mG x pc lv (mI b :: mI a :: st) σ := by
  obtain ⟨hx, hb9, hm, hnl, ho, ht, hR, hΓ, hD, hK, hN, hS9, hlk9, hrt, hll⟩ := h
  intro H locs ls hP hS hl
  refine va_mmax hx hb9 (hm.trans hl.1.symm) ho (ht _ hlk) (ht _ st_J9_max_7cf53) (ht _ ini_RJ9) (ht _ co_J9_max_7cf53) (by rw [hR]; exact hn) (by rw [hR]; show _ ≤ 40 * n; omega) (Nat.zero_le _) (Nat.zero_le _) hd ?_
  have q := kk H locs ls hP hS hl
  have e : (if Int32.ofInt a < Int32.ofInt b then Int32.ofInt b else Int32.ofInt a) = Int32.ofInt (if a < b then b else a) := by
    by_cases c : a < b
    · rw [if_pos c, if_pos ((i32_lt ha hb).mpr c)]
    · rw [if_neg c, if_neg (fun z => c ((i32_lt ha hb).mp z))]
  rw [e]
  exact q
theorem g_min (h : mOk x l μ n Γ) {idx : Nat} {a b : Int} (hlk : Cond.methodLink μ.1.cls idx yJ9_min_7cf53 ∈ gT) (ha : i32 a) (hb : i32 b) (hn : 0 < n) (hd : decode μ.2.1 pc = .ok (.invokestatic idx, 3)) (hw9 : (st.map fun v => v.category).sum ≤ 8) (kk : mG x (pc + 3) lv (mI (if b < a then b else a) :: st) σ) : mG x pc lv (mI b :: mI a :: st) σ := by
  obtain ⟨hx, hb9, hm, hnl, ho, ht, hR, hΓ, hD, hK, hN, hS9, hlk9, hrt, hll⟩ := h
  intro H locs ls hP hS hl
  refine va_mmin hx hb9 (hm.trans hl.1.symm) ho (ht _ hlk) (ht _ st_J9_min_7cf53) (ht _ ini_RJ9) (ht _ co_J9_min_7cf53) (by rw [hR]; exact hn) (by rw [hR]; show _ ≤ 40 * n; omega) (Nat.zero_le _) (Nat.zero_le _) hd ?_
  have q := kk H locs ls hP hS hl
  have e : (if Int32.ofInt b < Int32.ofInt a then Int32.ofInt b else Int32.ofInt a) = Int32.ofInt (if b < a then b else a) := by
    by_cases c : b < a
    · rw [if_pos c, if_pos ((i32_lt hb ha).mpr c)]
    · rw [if_neg c, if_neg (fun z => c ((i32_lt hb ha).mp z))]
  rw [e]
  exact q
end MMX
set_option maxRecDepth 100000 in
set_option maxHeartbeats 2000000 in
theorem lp_X4_moonsWithin {x : mX} {l : Launch} {D : va_G} {cs : mC} {ad : Int → Nat} {post : Int → mS → Prop} (h : mOk x l M_X4_moonsWithin 1 (gX D cs ad)) (hq : rI x (gX D cs ad) post) {σ : mS} {a t : Int} (hw : qWf (vX σ)) (hn : 0 < σ 1 2) (ha : i32 a) (ht : i32 t) (hp : post (setOf 11 (fun i => decide (a ≤ qMd (vX σ) i ∧ qMd (vX σ) i ≤ t))) σ) : ∀ (g : Nat) (j : Int), 0 ≤ j → j ≤ 11 → 11 - j < g → mG x 5 [(0, .ref (ad 2)), (1, mI a), (2, mI t), (3, mI (setOf j.toNat (fun i => decide (a ≤ qMd (vX σ) i ∧ qMd (vX σ) i ≤ t)))), (4, mI j)] [] σ := by
  intro g
  induction g with
  | zero => intro j a b c; omega
  | succ g ih =>
    intro j j0 j1 hg
    have hmj := qMd_rng hw hn j0 (show j ≤ 100 by omega)
    refine g_iload h dX4_moonsWithin_5 rfl ?_
    refine g_bipush h dX4_moonsWithin_7 (by decide) ?_
    refine g_icmp_ge (tgt := 48) h dX4_moonsWithin_9 (by decide) ⟨by omega, by omega⟩ ⟨by omega, by omega⟩ (fun c9 => ?_) (fun c9 => ?_)
    · refine g_iload_n h dX4_moonsWithin_48 rfl ?_
      refine g_iret h hq rfl dX4_moonsWithin_49 (by rw [show j.toNat = 11 by omega]; exact hp)
    · refine g_aload_n h dX4_moonsWithin_12 rfl ?_
      refine g_iload h dX4_moonsWithin_13 rfl ?_
      refine g_vI h (c_X4_dayOfMoon _ _ hw hn j0 (by omega)) (by decide) lm_RX4_37 (rvK rfl) dX4_moonsWithin_15 rfl (Nat.le_of_ble_eq_true rfl) (fun z15 s15 p15 => ?_)
      obtain ⟨e15, r15⟩ := p15; subst e15; replace r15 := Eq.symm r15; subst r15
      refine g_istore h dX4_moonsWithin_18 (by decide) rfl ?_
      refine g_iload h dX4_moonsWithin_20 rfl ?_
      refine g_iload_n h dX4_moonsWithin_22 rfl ?_
      refine g_icmp_le (tgt := 29) h dX4_moonsWithin_23 (by decide) ⟨by omega, by omega⟩ ht (fun c23 => ?_) (fun c23 => ?_)
      · refine g_iload h dX4_moonsWithin_29 rfl ?_
        refine g_iload_n h dX4_moonsWithin_31 rfl ?_
        refine g_icmp_lt (tgt := 42) h dX4_moonsWithin_32 (by decide) ⟨by omega, by omega⟩ ha (fun c32 => ?_) (fun c32 => ?_)
        · refine g_iinc h dX4_moonsWithin_42 rfl (by decide) rfl ?_
          refine g_goto (tgt := 5) h dX4_moonsWithin_45 (by decide) ?_
          refine g_lv (lv' := [(0, .ref (ad 2)), (1, mI a), (2, mI t), (3, mI (setOf j.toNat (fun i => decide (a ≤ qMd (vX σ) i ∧ qMd (vX σ) i ≤ t)))), (4, mI (j + 1))]) rfl ?_
          rw [← set_skip (fun i => decide (a ≤ qMd (vX σ) i ∧ qMd (vX σ) i ≤ t)) j0 (by simp; omega)]
          exact ih (j + 1) (by omega) (by omega) (by omega)
        · refine g_iload_n h dX4_moonsWithin_35 rfl ?_
          refine g_iconst h dX4_moonsWithin_36 rfl ?_
          refine g_iload h dX4_moonsWithin_37 rfl ?_
          refine g_ishl h dX4_moonsWithin_39 ?_
          refine g_ior h dX4_moonsWithin_40 ?_
          refine g_istore_n h dX4_moonsWithin_41 (by decide) rfl ?_
          refine g_iinc h dX4_moonsWithin_42 rfl (by decide) rfl ?_
          refine g_goto (tgt := 5) h dX4_moonsWithin_45 (by decide) ?_
          refine g_lv (lv' := [(0, .ref (ad 2)), (1, mI a), (2, mI t), (3, mI (iOr (setOf j.toNat (fun i => decide (a ≤ qMd (vX σ) i ∧ qMd (vX σ) i ≤ t))) (iShl 1 j))), (4, mI (j + 1))]) rfl ?_
          rw [set_addN (fun i => decide (a ≤ qMd (vX σ) i ∧ qMd (vX σ) i ≤ t)) j0 (by omega) (by simp; omega)]
          exact ih (j + 1) (by omega) (by omega) (by omega)
      · refine g_goto (tgt := 48) h dX4_moonsWithin_26 (by decide) ?_
        refine g_iload_n h dX4_moonsWithin_48 rfl ?_
        refine g_iret h hq rfl dX4_moonsWithin_49 (by rw [← set_stop (fun i => decide (a ≤ qMd (vX σ) i ∧ qMd (vX σ) i ≤ t)) j0 11 (by omega) (fun i i0 i1 => by have := qMd_le hw hn j0 i0; simp; omega)]; exact hp)
set_option maxRecDepth 100000 in
set_option maxHeartbeats 2000000 in
theorem c_X4_moonsWithin {l : Launch} {D : va_G} {cs : mC} {ad : Int → Nat} (σ : mS) (a t : Int) (hw : qWf (vX σ)) (hn : 0 < σ 1 2) (ha : i32 a) (ht : i32 t) : CI l (gX D cs ad) M_X4_moonsWithin 1 [.ref (ad 2), mI a, mI t] σ (fun z s => z = setOf 11 (fun i => decide (a ≤ qMd (vX σ) i ∧ qMd (vX σ) i ≤ t)) ∧ s = σ) := by
  refine CI.of (by decide) (Nat.le_of_ble_eq_true rfl) (fun x h hq => ?_)
  show mG x 0 [(0, .ref (ad 2)), (1, mI a), (2, mI t)] [] σ
  refine g_iconst h dX4_moonsWithin_0 rfl ?_
  refine g_istore_n h dX4_moonsWithin_1 (by decide) rfl ?_
  refine g_iconst h dX4_moonsWithin_2 rfl ?_
  refine g_istore h dX4_moonsWithin_3 (by decide) rfl ?_
  exact lp_X4_moonsWithin h hq hw hn ha ht ⟨rfl, rfl⟩ 12 0 (by omega) (by omega) (by omega)
set_option maxRecDepth 100000 in
set_option maxHeartbeats 2000000 in
theorem lp_X4_cloudedMoons {x : mX} {l : Launch} {D : va_G} {cs : mC} {ad : Int → Nat} {post : Int → mS → Prop} (h : mOk x l M_X4_cloudedMoons 1 (gX D cs ad)) (hq : rI x (gX D cs ad) post) {σ : mS} (hw : qWf (vX σ)) (hc : ∀ d : Int, 0 ≤ d → d < 110 → vX σ 6 d = 0 ∨ vX σ 6 d = 1) (hn : 0 < σ 1 2) (hp : post (setOf 11 (fun i => decide (qMd (vX σ) i ≤ 109) && qCl (vX σ) i)) σ) : ∀ (g : Nat) (j : Int), 0 ≤ j → j ≤ 11 → 11 - j < g → mG x 4 [(0, .ref (ad 2)), (1, mI (setOf j.toNat (fun i => decide (qMd (vX σ) i ≤ 109) && qCl (vX σ) i))), (2, mI j)] [] σ := by
  intro g
  induction g with
  | zero => intro j a b c; omega
  | succ g ih =>
    intro j j0 j1 hg
    have hmj := qMd_rng hw hn j0 (show j ≤ 100 by omega)
    refine g_iload_n h dX4_cloudedMoons_4 rfl ?_
    refine g_bipush h dX4_cloudedMoons_5 (by decide) ?_
    refine g_icmp_ge (tgt := 46) h dX4_cloudedMoons_7 (by decide) ⟨by omega, by omega⟩ ⟨by omega, by omega⟩ (fun c7 => ?_) (fun c7 => ?_)
    · refine g_iload_n h dX4_cloudedMoons_46 rfl ?_
      refine g_iret h hq rfl dX4_cloudedMoons_47 (by rw [show j.toNat = 11 by omega]; exact hp)
    · refine g_aload_n h dX4_cloudedMoons_10 rfl ?_
      refine g_iload_n h dX4_cloudedMoons_11 rfl ?_
      refine g_vI h (c_X4_dayOfMoon _ _ hw hn j0 (by omega)) (by decide) lm_RX4_37 (rvK rfl) dX4_cloudedMoons_12 rfl (Nat.le_of_ble_eq_true rfl) (fun z12 s12 p12 => ?_)
      obtain ⟨e12, r12⟩ := p12; subst e12; replace r12 := Eq.symm r12; subst r12
      refine g_istore_n h dX4_cloudedMoons_15 (by decide) rfl ?_
      refine g_iload_n h dX4_cloudedMoons_16 rfl ?_
      refine g_bipush h dX4_cloudedMoons_17 (by decide) ?_
      refine g_icmp_le (tgt := 25) h dX4_cloudedMoons_19 (by decide) ⟨by omega, by omega⟩ ⟨by omega, by omega⟩ (fun c19 => ?_) (fun c19 => ?_)
      · have hcj := hc (qMd (vX σ) j) (by omega) (by omega)
        have eC := vX_cl σ (b := qMd (vX σ) j) (by omega) (by omega)
        rw [eC] at hcj
        refine g_aload_n h dX4_cloudedMoons_25 rfl ?_
        refine gxK_clouded h dX4_cloudedMoons_26 lf_RX4_9 ?_
        refine g_iload_n h dX4_cloudedMoons_29 rfl ?_
        refine lx_nights h dX4_cloudedMoons_30 (by omega) (by omega) ?_
        refine g_if_eq (tgt := 40) h dX4_cloudedMoons_31 (by decide) ⟨by omega, by omega⟩ (fun c31 => ?_) (fun c31 => ?_)
        · refine g_iinc h dX4_cloudedMoons_40 rfl (by decide) rfl ?_
          refine g_goto (tgt := 4) h dX4_cloudedMoons_43 (by decide) ?_
          refine g_lv (lv' := [(0, .ref (ad 2)), (1, mI (setOf j.toNat (fun i => decide (qMd (vX σ) i ≤ 109) && qCl (vX σ) i))), (2, mI (j + 1))]) rfl ?_
          rw [← set_skip (fun i => decide (qMd (vX σ) i ≤ 109) && qCl (vX σ) i) j0 (by simp [qCl, eC]; omega)]
          exact ih (j + 1) (by omega) (by omega) (by omega)
        · refine g_iload_n h dX4_cloudedMoons_34 rfl ?_
          refine g_iconst h dX4_cloudedMoons_35 rfl ?_
          refine g_iload_n h dX4_cloudedMoons_36 rfl ?_
          refine g_ishl h dX4_cloudedMoons_37 ?_
          refine g_ior h dX4_cloudedMoons_38 ?_
          refine g_istore_n h dX4_cloudedMoons_39 (by decide) rfl ?_
          refine g_iinc h dX4_cloudedMoons_40 rfl (by decide) rfl ?_
          refine g_goto (tgt := 4) h dX4_cloudedMoons_43 (by decide) ?_
          refine g_lv (lv' := [(0, .ref (ad 2)), (1, mI (iOr (setOf j.toNat (fun i => decide (qMd (vX σ) i ≤ 109) && qCl (vX σ) i)) (iShl 1 j))), (2, mI (j + 1))]) rfl ?_
          rw [set_addN (fun i => decide (qMd (vX σ) i ≤ 109) && qCl (vX σ) i) j0 (by omega) (by simp [qCl, eC]; omega)]
          exact ih (j + 1) (by omega) (by omega) (by omega)
      · refine g_goto (tgt := 46) h dX4_cloudedMoons_22 (by decide) ?_
        refine g_iload_n h dX4_cloudedMoons_46 rfl ?_
        refine g_iret h hq rfl dX4_cloudedMoons_47 (by rw [← set_stop (fun i => decide (qMd (vX σ) i ≤ 109) && qCl (vX σ) i) j0 11 (by omega) (fun i i0 i1 => by have := qMd_le hw hn j0 i0; simp; omega)]; exact hp)
set_option maxRecDepth 100000 in
set_option maxHeartbeats 2000000 in
theorem c_X4_cloudedMoons {l : Launch} {D : va_G} {cs : mC} {ad : Int → Nat} (σ : mS)  (hw : qWf (vX σ)) (hc : ∀ d : Int, 0 ≤ d → d < 110 → vX σ 6 d = 0 ∨ vX σ 6 d = 1) (hn : 0 < σ 1 2) : CI l (gX D cs ad) M_X4_cloudedMoons 1 [.ref (ad 2)] σ (fun z s => z = setOf 11 (fun i => decide (qMd (vX σ) i ≤ 109) && qCl (vX σ) i) ∧ s = σ) := by
  refine CI.of (by decide) (Nat.le_of_ble_eq_true rfl) (fun x h hq => ?_)
  show mG x 0 [(0, .ref (ad 2))] [] σ
  refine g_iconst h dX4_cloudedMoons_0 rfl ?_
  refine g_istore_n h dX4_cloudedMoons_1 (by decide) rfl ?_
  refine g_iconst h dX4_cloudedMoons_2 rfl ?_
  refine g_istore_n h dX4_cloudedMoons_3 (by decide) rfl ?_
  exact lp_X4_cloudedMoons h hq hw hc hn ⟨rfl, rfl⟩ 12 0 (by omega) (by omega) (by omega)
/-- who watches: laid for the first b bills -/
def xWa (σ s : mS) (b : Int) : Prop := xSc σ s ∧ s 1 4 = σ 1 4 ∧ ∀ a : Int, 0 ≤ a → a < b → s (5 + a) 5 = setOf 11 (qWt (vX σ) a)
theorem xSc.wf {σ s : mS} (h : xSc σ s) (w : qWf (vX σ)) : qWf (vX s) := by rw [h.view]; exact w
set_option maxRecDepth 100000 in
set_option maxHeartbeats 2000000 in
theorem lp_X1_watchAll {x : mX} {l : Launch} {D : va_G} {cs : mC} {ad : Int → Nat} {post : mS → Prop} (h : mOk x l M_X1_watchAll 2 (gX D cs ad)) (hq : rV x (gX D cs ad) post) {σ : mS} (hw : qWf (vX σ)) (hp : ∀ s : mS, xWa σ s (σ 1 2) → post s) : ∀ (g : Nat) (j : Int) (s : mS) (lv : List (Nat × Value)), 0 ≤ j → j ≤ σ 1 2 → σ 1 2 - j < g → xWa σ s j → mG x 2 [(0, .ref (ad 1)), (1, mI j)] [] s := by
  have h6 : σ 1 2 ≤ 6 := hw.2.1
  intro g
  induction g with
  | zero => intro j s _ a b c; omega
  | succ g ih =>
    intro j s _ j0 j1 hg hs
    have e12 : s 1 2 = σ 1 2 := hs.1 1 2 (by omega) (by omega)
    have e13 : s 1 3 = σ 1 3 := hs.1 1 3 (by omega) (by omega)
    have hsp := hw.2.2.2.2
    refine g_iload_n h dX1_watchAll_2 rfl ?_
    refine g_aload_n h dX1_watchAll_3 rfl ?_
    refine gxC_count h dX1_watchAll_4 lf_RX1_45 ?_
    refine g_icmp_ge (tgt := 47) h dX1_watchAll_7 (by decide) ⟨by omega, by omega⟩ ⟨by omega, by omega⟩ (fun c7 => ?_) (fun c7 => ?_)
    · refine g_vret h hq rfl dX1_watchAll_47 (hp s (by rw [show σ 1 2 = j by omega]; exact hs))
    · have hb := hw.2.2.2.2.2.2.2 j j0 (by omega)
      have ed : s (5 + j) 1 = vX σ 2 j := by rw [hs.1 (5 + j) 1 (by omega) (by omega)]; exact (vX_day σ j0 (by omega)).symm
      have esp : vX σ 0 3 = σ 1 3 := rfl
      rw [esp] at hsp
      refine g_aload_n h dX1_watchAll_10 rfl ?_
      refine gxC_bills h dX1_watchAll_11 lf_RX1_20 ?_
      refine g_iload_n h dX1_watchAll_14 rfl ?_
      refine lx_bills h dX1_watchAll_15 (by omega) (by omega) ?_
      refine g_astore_n h dX1_watchAll_16 (by decide) rfl ?_
      refine g_aload_n h dX1_watchAll_17 rfl ?_
      refine g_aload_n h dX1_watchAll_18 rfl ?_
      refine gxC_sky h dX1_watchAll_19 lf_RX1_12 ?_
      refine g_aload_n h dX1_watchAll_22 rfl ?_
      refine gxB_day h (by omega) (by omega) dX1_watchAll_23 lf_RX1_60 ?_
      refine g_aload_n h dX1_watchAll_26 rfl ?_
      refine gxB_day h (by omega) (by omega) dX1_watchAll_27 lf_RX1_60 ?_
      refine g_aload_n h dX1_watchAll_30 rfl ?_
      refine gxC_watch h dX1_watchAll_31 lf_RX1_35 ?_
      refine g_iadd h dX1_watchAll_34 ?_
      refine g_val (b := vX σ 2 j + vX σ 0 3) (by rw [ed, e13, esp]) ?_
      refine g_val2 (b := vX σ 2 j) ed ?_
      refine g_vI h (c_X4_moonsWithin _ _ _ (hs.1.wf hw) (by omega) ⟨by omega, by omega⟩ ⟨by omega, by omega⟩) (by decide) lm_RX1_63 (rvK rfl) dX1_watchAll_35 rfl (Nat.le_of_ble_eq_true rfl) (fun z35 s35 p35 => ?_)
      obtain ⟨e35, r35⟩ := p35; subst e35; replace r35 := Eq.symm r35; subst r35
      refine pxB_moons h (by omega) (by omega) dX1_watchAll_38 lf_RX1_66 ?_
      refine g_iinc h dX1_watchAll_41 rfl (by decide) rfl ?_
      refine g_goto (tgt := 2) h dX1_watchAll_44 (by decide) ?_
      refine g_lv (lv' := [(0, .ref (ad 1)), (1, mI (j + 1))]) rfl ?_
      refine ih (j + 1) _ [] (by omega) (by omega) (by omega) ⟨hs.1.tr (xSc.upb _ _ (by omega) (by omega)), (mUp_ne _ _ (by omega)).trans hs.2.1, fun a a0 a1 => ?_⟩
      by_cases e : a = j
      · rw [e, mUp_eq, hs.1.view]
        refine setOf_cong (fun i _ _ => ?_)
        rfl
      · rw [mUp_ne _ _ (by omega)]; exact hs.2.2 a a0 (by omega)
set_option maxRecDepth 100000 in
set_option maxHeartbeats 2000000 in
theorem c_X1_watchAll {l : Launch} {D : va_G} {cs : mC} {ad : Int → Nat} (σ : mS)  (hw : qWf (vX σ)) : CV l (gX D cs ad) M_X1_watchAll 2 [.ref (ad 1)] σ (fun s => xWa σ s (σ 1 2)) := by
  refine CV.of (by decide) (Nat.le_of_ble_eq_true rfl) (fun x h hq => ?_)
  show mG x 0 [(0, .ref (ad 1))] [] σ
  refine g_iconst h dX1_watchAll_0 rfl ?_
  refine g_istore_n h dX1_watchAll_1 (by decide) rfl ?_
  exact lp_X1_watchAll h hq hw (fun s hs => hs) 7 0 σ [] (by omega) hw.1 (by have : σ 1 2 ≤ 6 := hw.2.1; omega) ⟨xSc.rf σ, rfl, fun a a0 a1 => by omega⟩
theorem any_next (p : Int → Bool) {k : Int} (k0 : 0 ≤ k) : anyN p (k + 1).toNat = (anyN p k.toNat || p k) := by
  rw [show (k + 1).toNat = k.toNat + 1 by omega, anyN, Int.toNat_of_nonneg k0]
set_option maxRecDepth 100000 in
set_option maxHeartbeats 2000000 in
theorem lp_X1_allMoons {x : mX} {l : Launch} {D : va_G} {cs : mC} {ad : Int → Nat} {post : Int → mS → Prop} (h : mOk x l M_X1_allMoons 0 (gX D cs ad)) (hq : rI x (gX D cs ad) post) {σ : mS} {w : Int → Int → Bool} (h6 : σ 1 2 ≤ 6) (hm : ∀ b : Int, 0 ≤ b → b < σ 1 2 → σ (5 + b) 5 = setOf 11 (w b)) (hp : post (setOf 11 (fun i => anyN (fun b => w b i) (σ 1 2).toNat)) σ) : ∀ (g : Nat) (j : Int), 0 ≤ j → j ≤ σ 1 2 → σ 1 2 - j < g → mG x 4 [(0, .ref (ad 1)), (1, mI (setOf 11 (fun i => anyN (fun b => w b i) j.toNat))), (2, mI j)] [] σ := by
  intro g
  induction g with
  | zero => intro j a b c; omega
  | succ g ih =>
    intro j j0 j1 hg
    refine g_iload_n h dX1_allMoons_4 rfl ?_
    refine g_aload_n h dX1_allMoons_5 rfl ?_
    refine gxC_count h dX1_allMoons_6 lf_RX1_45 ?_
    refine g_icmp_ge (tgt := 30) h dX1_allMoons_9 (by decide) ⟨by omega, by omega⟩ ⟨by omega, by omega⟩ (fun c9 => ?_) (fun c9 => ?_)
    · refine g_iload_n h dX1_allMoons_30 rfl ?_
      refine g_iret h hq rfl dX1_allMoons_31 (by rw [show j.toNat = (σ 1 2).toNat by omega]; exact hp)
    · refine g_iload_n h dX1_allMoons_12 rfl ?_
      refine g_aload_n h dX1_allMoons_13 rfl ?_
      refine gxC_bills h dX1_allMoons_14 lf_RX1_20 ?_
      refine g_iload_n h dX1_allMoons_17 rfl ?_
      refine lx_bills h dX1_allMoons_18 (by omega) (by omega) ?_
      refine gxB_moons h (by omega) (by omega) dX1_allMoons_19 lf_RX1_66 ?_
      refine g_ior h dX1_allMoons_22 ?_
      refine g_istore_n h dX1_allMoons_23 (by decide) rfl ?_
      refine g_iinc h dX1_allMoons_24 rfl (by decide) rfl ?_
      refine g_goto (tgt := 4) h dX1_allMoons_27 (by decide) ?_
      refine g_lv (lv' := [(0, .ref (ad 1)), (1, mI (iOr (setOf 11 (fun i => anyN (fun b => w b i) j.toNat)) (σ (5 + j) 5))), (2, mI (j + 1))]) rfl ?_
      rw [hm j j0 (by omega), iOr_set (by omega), ← setOf_cong (p := fun i => anyN (fun b => w b i) (j + 1).toNat) (fun i _ _ => any_next (fun b => w b i) j0)]
      exact ih (j + 1) (by omega) (by omega) (by omega)
set_option maxRecDepth 100000 in
set_option maxHeartbeats 2000000 in
theorem c_X1_allMoons {l : Launch} {D : va_G} {cs : mC} {ad : Int → Nat} (σ : mS) (w : Int → Int → Bool) (h0 : 0 ≤ σ 1 2) (h6 : σ 1 2 ≤ 6) (hm : ∀ b : Int, 0 ≤ b → b < σ 1 2 → σ (5 + b) 5 = setOf 11 (w b)) : CI l (gX D cs ad) M_X1_allMoons 0 [.ref (ad 1)] σ (fun z s => z = setOf 11 (fun i => anyN (fun b => w b i) (σ 1 2).toNat) ∧ s = σ) := by
  refine CI.of (by decide) (Nat.le_of_ble_eq_true rfl) (fun x h hq => ?_)
  show mG x 0 [(0, .ref (ad 1))] [] σ
  refine g_iconst h dX1_allMoons_0 rfl ?_
  refine g_istore_n h dX1_allMoons_1 (by decide) rfl ?_
  refine g_iconst h dX1_allMoons_2 rfl ?_
  refine g_istore_n h dX1_allMoons_3 (by decide) rfl ?_
  have Z := lp_X1_allMoons h hq h6 hm ⟨rfl, rfl⟩ 7 0 (by omega) h0 (by omega)
  rw [show setOf 11 (fun i => anyN (fun b => w b i) (0 : Int).toNat) = 0 from set_zero.mpr (fun i _ _ => rfl)] at Z
  exact Z
