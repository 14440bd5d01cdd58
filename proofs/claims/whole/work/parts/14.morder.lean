/-- but for one row the same -/
def m1 (r : Int) (σ s : mS) : Prop := ∀ k : Int, ¬ k = r → s k = σ k
theorem m1.rf (r : Int) (σ : mS) : m1 r σ σ := fun _ _ => rfl
theorem m1.up {r : Int} {σ s : mS} (h : m1 r σ s) (j v : Int) : m1 r σ (mUp s r j v) := fun k hk => (mUp_off s j v hk).trans (h k hk)
theorem m1.sc {r : Int} {σ s : mS} (h : m1 r σ s) (hr : r = 11 ∨ r = 12 ∨ r = 13) : mSc σ s := fun k a b c => h k (by omega)
theorem m1.tr {r : Int} {σ s t : mS} (h : m1 r σ s) (h' : m1 r s t) : m1 r σ t := fun k hk => (h' k hk).trans (h k hk)
set_option maxRecDepth 100000 in
set_option maxHeartbeats 2000000 in
theorem lpi_X8_layOrder {x : mX} {l : Launch} {D : va_G} {cs : mC} {ad : Int → Nat} {post : mS → Prop} (h : mOk x l M_X8_layOrder 0 (gM D cs ad)) (hq : rV x (gM D cs ad) post) {σ : mS} (hw : qWf (vM σ)) {k : Int} (k0 : 0 ≤ k) (k1 : k < 6) {o : Int → Int} (ho : qSr (vM σ) k o) (hk : ∀ s : mS, m1 11 σ s → qSr (vM σ) (k + 1) (s 11) → mG x 2 [(0, .ref (ad 0)), (1, mI (k + 1))] [] s) : ∀ (f : Nat) (a : Int) (s : mS), a < f → m1 11 σ s → 0 ≤ a → a ≤ k → (∀ i : Int, 0 ≤ i → i < a → s 11 i = o i) → (∀ i : Int, a < i → i ≤ k → s 11 i = o (i - 1)) → (∀ i : Int, a ≤ i → i < k → vM σ 2 k < vM σ 2 (o i)) → mG x 12 [(0, .ref (ad 0)), (1, mI k), (2, mI a)] [] s := by
  intro f
  induction f with
  | zero => intro a s hf hs ha0 ha1; omega
  | succ f ih =>
    intro a s hf hs ha0 ha1 h1 h2 h3
    refine g_iload_n h dX8_layOrder_12 rfl ?_
    refine g_if_le (tgt := 58) h dX8_layOrder_13 (by decide) (by first | exact hR _ _ | exact ⟨by omega, by omega⟩) (fun c13 => ?_) (fun c13 => ?_)
    · have hlo : ∀ i : Int, 0 ≤ i → i < a → vM σ 2 (o i) ≤ vM σ 2 k := fun i i0 i1 => by omega
      refine g_aload_n h dX8_layOrder_58 rfl ?_
      refine gm_order h dX8_layOrder_59 lf_RX8_45 ?_
      refine g_iload_n h dX8_layOrder_62 rfl ?_
      refine g_iload_n h dX8_layOrder_63 rfl ?_
      refine sm_order h dX8_layOrder_64 (by omega) (by omega) ?_
      refine g_iinc h dX8_layOrder_65 rfl (by decide) rfl ?_
      refine g_goto (tgt := 2) h dX8_layOrder_68 (by decide) ?_
      have key : mG x 2 [(0, .ref (ad 0)), (1, mI (k + 1))] [] (mUp s 11 a k) := hk _ (hs.up a k) (qSr_ins ho ha0 ha1 hlo h3 (fun i i0 i1 => by rw [mUp_ne s k (Or.inr (by omega)), h1 i i0 i1]) (mUp_eq s 11 a k) (fun i i0 i1 => by rw [mUp_ne s k (Or.inr (by omega)), h2 i i0 i1]))
      exact g_lv rfl key
    · have ea : s 11 (a - 1) = o (a - 1) := h1 (a - 1) (by omega) (by omega)
      have hr := ho.1 (a - 1) (by omega) (by omega)
      have e5 : s 5 = σ 5 := hs 5 (by omega)
      have hda := hw.2.2.2.2.2.2.2 (o (a - 1)) hr.1 (by omega)
      have hdk := hw.2.2.2.2.2.2.2 k k0 (by omega)
      have v1 := vM_day σ hr.1 (show o (a - 1) < 6 by omega)
      have v2 := vM_day σ k0 (show k < 6 by omega)
      refine g_aload_n h dX8_layOrder_16 rfl ?_
      refine gm_dayOf h dX8_layOrder_17 lf_RX8_22 ?_
      refine g_aload_n h dX8_layOrder_20 rfl ?_
      refine gm_order h dX8_layOrder_21 lf_RX8_45 ?_
      refine g_iload_n h dX8_layOrder_24 rfl ?_
      refine g_iconst h dX8_layOrder_25 rfl ?_
      refine g_isub h dX8_layOrder_26 ?_
      refine lm_order h dX8_layOrder_27 (by omega) (by omega) ?_
      refine lm_dayOf h dX8_layOrder_28 (by omega) (by omega) ?_
      refine g_aload_n h dX8_layOrder_29 rfl ?_
      refine gm_dayOf h dX8_layOrder_30 lf_RX8_22 ?_
      refine g_iload_n h dX8_layOrder_33 rfl ?_
      refine lm_dayOf h dX8_layOrder_34 (by omega) (by omega) ?_
      rw [ea, e5]
      refine g_icmp_le (tgt := 58) h dX8_layOrder_35 (by decide) ⟨by omega, by omega⟩ ⟨by omega, by omega⟩ (fun c35 => ?_) (fun c35 => ?_)
      · have hlo : ∀ i : Int, 0 ≤ i → i < a → vM σ 2 (o i) ≤ vM σ 2 k := by
          intro i i0 i1
          by_cases q : i = a - 1
          · rw [q]; omega
          · have r := ho.2.1 i (a - 1) i0 (by omega) (by omega)
            unfold qBf at r
            simp only [decide_eq_true_eq] at r
            omega
        refine g_aload_n h dX8_layOrder_58 rfl ?_
        refine gm_order h dX8_layOrder_59 lf_RX8_45 ?_
        refine g_iload_n h dX8_layOrder_62 rfl ?_
        refine g_iload_n h dX8_layOrder_63 rfl ?_
        refine sm_order h dX8_layOrder_64 (by omega) (by omega) ?_
        refine g_iinc h dX8_layOrder_65 rfl (by decide) rfl ?_
        refine g_goto (tgt := 2) h dX8_layOrder_68 (by decide) ?_
        have key : mG x 2 [(0, .ref (ad 0)), (1, mI (k + 1))] [] (mUp s 11 a k) := hk _ (hs.up a k) (qSr_ins ho ha0 ha1 hlo h3 (fun i i0 i1 => by rw [mUp_ne s k (Or.inr (by omega)), h1 i i0 i1]) (mUp_eq s 11 a k) (fun i i0 i1 => by rw [mUp_ne s k (Or.inr (by omega)), h2 i i0 i1]))
        exact g_lv rfl key
      · refine g_aload_n h dX8_layOrder_38 rfl ?_
        refine gm_order h dX8_layOrder_39 lf_RX8_45 ?_
        refine g_iload_n h dX8_layOrder_42 rfl ?_
        refine g_aload_n h dX8_layOrder_43 rfl ?_
        refine gm_order h dX8_layOrder_44 lf_RX8_45 ?_
        refine g_iload_n h dX8_layOrder_47 rfl ?_
        refine g_iconst h dX8_layOrder_48 rfl ?_
        refine g_isub h dX8_layOrder_49 ?_
        refine lm_order h dX8_layOrder_50 (by omega) (by omega) ?_
        refine sm_order h dX8_layOrder_51 (by omega) (by omega) ?_
        refine g_iinc h dX8_layOrder_52 rfl (by decide) rfl ?_
        refine g_goto (tgt := 12) h dX8_layOrder_55 (by decide) ?_
        exact ih (a - 1) (mUp s 11 a (s 11 (a - 1))) (by omega) (hs.up _ _) (by omega) (by omega) (fun i i0 i1 => by rw [mUp_ne s _ (Or.inr (by omega))]; exact h1 i i0 (by omega)) (fun i i0 i1 => by
          by_cases q : i = a
          · rw [q, mUp_eq]; exact ea
          · rw [mUp_ne s _ (Or.inr (by omega))]; exact h2 i (by omega) i1) (fun i i0 i1 => by
          by_cases q : i = a - 1
          · rw [q]; omega
          · exact h3 i (by omega) i1)
set_option maxRecDepth 100000 in
set_option maxHeartbeats 2000000 in
theorem lp_X8_layOrder {x : mX} {l : Launch} {D : va_G} {cs : mC} {ad : Int → Nat} {post : mS → Prop} (h : mOk x l M_X8_layOrder 0 (gM D cs ad)) (hq : rV x (gM D cs ad) post) {σ : mS} (hw : qWf (vM σ)) (hp : ∀ s : mS, m1 11 σ s → qSr (vM σ) (σ 0 9) (s 11) → post s) : ∀ (f : Nat) (k : Int) (s : mS), 0 ≤ k → k ≤ σ 0 9 → σ 0 9 - k < f → m1 11 σ s → qSr (vM σ) k (s 11) → mG x 2 [(0, .ref (ad 0)), (1, mI k)] [] s := by
  intro f
  have hn0 : 0 ≤ σ 0 9 := hw.1
  have hn6 : σ 0 9 ≤ 6 := hw.2.1
  induction f with
  | zero => intro k s h0 h1 h2; omega
  | succ f ih =>
    intro k s h0 h1 h2 hs ho
    have e9 : s 0 9 = σ 0 9 := by rw [hs 0 (by omega)]
    refine g_iload_n h dX8_layOrder_2 rfl ?_
    refine g_aload_n h dX8_layOrder_3 rfl ?_
    refine gm_bills h dX8_layOrder_4 lf_RX8_72 ?_
    refine g_icmp_ge (tgt := 71) h dX8_layOrder_7 (by decide) (by first | exact hR _ _ | exact ⟨by omega, by omega⟩) (by first | exact hR _ _ | exact ⟨by omega, by omega⟩) (fun c7 => ?_) (fun c7 => ?_)
    · refine g_vret h hq rfl dX8_layOrder_71 (hp s hs (by rw [show σ 0 9 = k by omega]; exact ho))
    · refine g_iload_n h dX8_layOrder_10 rfl ?_
      refine g_istore_n h dX8_layOrder_11 (by decide) rfl ?_
      exact lpi_X8_layOrder h hq hw h0 (by omega) ho (fun s2 q1 q2 => ih (k + 1) s2 (by omega) (by omega) (by omega) q1 q2) (k.toNat + 1) k s (by omega) hs h0 (by omega) (fun i _ _ => rfl) (fun i i0 i1 => by omega) (fun i i0 i1 => by omega)
set_option maxRecDepth 100000 in
set_option maxHeartbeats 2000000 in
theorem c_X8_layOrder {l : Launch} {D : va_G} {cs : mC} {ad : Int → Nat} (σ : mS)  (hw : qWf (vM σ)) : CV l (gM D cs ad) M_X8_layOrder 0 [.ref (ad 0)] σ (fun s => m1 11 σ s ∧ qSr (vM σ) (σ 0 9) (s 11)) := by
  refine CV.of (by decide) (Nat.le_of_ble_eq_true rfl) (fun x h hq => ?_)
  show mG x 0 [(0, .ref (ad 0))] [] σ
  refine g_iconst h dX8_layOrder_0 rfl ?_
  refine g_istore_n h dX8_layOrder_1 (by decide) rfl ?_
  have hn0 : 0 ≤ σ 0 9 := hw.1
  have hn6 : σ 0 9 ≤ 6 := hw.2.1
  exact lp_X8_layOrder h hq hw (fun s a b => ⟨a, b⟩) 7 0 σ (by omega) (by omega) (by omega) (m1.rf 11 σ) (qSr_0 _ _)
/-- who is named, by those behind place k -/
def qNd (τ : mS) (P : Int → Bool) (o : Int → Int) (d k b : Int) : Bool := anyN (fun j => decide (k < j) && (decide (τ 1 (o j) = 2) && (decide (τ 4 (o j) = b) && qIn τ P 6 (o j) d))) (τ 0 4).toNat
theorem qNd_top {τ : mS} {P : Int → Bool} {o : Int → Int} {d k b : Int} (h : τ 0 4 ≤ k + 1) : qNd τ P o d k b = false := anyN_no.mpr (fun i h0 h1 => by
  have : decide (k < i) = false := by simp; omega
  rw [this]; rfl)
theorem qNd_step {τ : mS} {P : Int → Bool} {o : Int → Int} {d k : Int} (h0 : 0 ≤ k) (h1 : k < τ 0 4) (b : Int) : qNd τ P o d (k - 1) b = (qNd τ P o d k b || (decide (τ 1 (o k) = 2) && (decide (τ 4 (o k) = b) && qIn τ P 6 (o k) d))) := by
  unfold qNd
  cases hr : (decide (τ 1 (o k) = 2) && (decide (τ 4 (o k) = b) && qIn τ P 6 (o k) d)) with
  | true =>
    rw [Bool.or_true]
    refine anyN_iff.mpr ⟨k, h0, by omega, ?_⟩
    rw [hr]
    simp
    omega
  | false =>
    rw [Bool.or_false]
    refine anyN_cong (fun j j0 j1 => ?_)
    by_cases hj : j = k
    · subst hj
      rw [hr]
      simp
    · have : decide (k - 1 < j) = decide (k < j) := by
        rw [decide_eq_decide]; omega
      rw [this]
theorem qIn_nd {τ : mS} {P : Int → Bool} {o : Int → Int} (h : qSr τ (τ 0 4) o) (h6 : τ 0 4 ≤ 6) {d k : Int} (h0 : 0 ≤ k) (h1 : k < τ 0 4) : qIn τ P 6 (o k) d = (qOn τ P (o k) d && !qNd τ P o d k (o k)) := by
  show (qOn τ P (o k) d && !(anyN (fun r => decide (τ 1 r = 2) && (decide (τ 4 r = o k) && (qBf τ (o k) r && qIn τ P 5 r d))) (τ 0 4).toNat)) = _
  have e : anyN (fun r => decide (τ 1 r = 2) && (decide (τ 4 r = o k) && (qBf τ (o k) r && qIn τ P 5 r d))) (τ 0 4).toNat = qNd τ P o d k (o k) := by
    cases hq : qNd τ P o d k (o k) with
    | true =>
      obtain ⟨j, j0, j1, hj⟩ := anyN_iff.mp hq
      simp only [Bool.and_eq_true, decide_eq_true_eq] at hj
      obtain ⟨a1, a2, a3, a4⟩ := hj
      refine anyN_iff.mpr ⟨o j, (h.1 j j0 (by omega)).1, by have := (h.1 j j0 (by omega)).2; omega, ?_⟩
      rw [qIn_st h d 5 j j0 (by omega) (by omega), a4, h.2.1 k j h0 a1 (by omega)]
      simp [a2, a3]
    | false =>
      refine anyN_no.mpr (fun r r0 r1 => ?_)
      obtain ⟨j, j0, j1, rfl⟩ := h.2.2 r r0 (by omega)
      cases hb : qBf τ (o k) (o j) with
      | false => simp
      | true =>
        have hkj := qSr_lt h h0 h1 j0 j1 hb
        have := anyN_no.mp hq j j0 (by omega)
        rw [qIn_st h d 5 j j0 (by omega) (by omega)]
        have e1 : decide (k < j) = true := by simp; omega
        rw [e1, Bool.true_and] at this
        simpa using this
  rw [e]
set_option maxRecDepth 100000 in
set_option maxHeartbeats 2000000 in
theorem lp_X8_layForce {x : mX} {l : Launch} {D : va_G} {cs : mC} {ad : Int → Nat} {post : mS → Prop} (h : mOk x l M_X8_layForce 1 (gM D cs ad)) (hq : rV x (gM D cs ad) post) {σ : mS} (hw : qWf (vM σ)) {o : Int → Int} (hord : qSr (vM σ) (σ 0 9) o) (hoe : ∀ i : Int, 0 ≤ i → i < σ 0 9 → σ 11 i = o i) (hP : ∀ b : Int, 0 ≤ b → b < σ 0 9 → σ 12 b = 0 ∨ σ 12 b = 1) {d : Int} (d0 : 0 ≤ d) (d1 : d < 200) (hp : ∀ s : mS, m1 13 σ s → (∀ b : Int, 0 ≤ b → b < σ 0 9 → s 13 b = bl (qIn (vM σ) (fun k => decide (σ 12 k = 1)) 6 b d = true)) → post s) : ∀ (f : Nat) (k : Int) (s : mS) (nd : Int), -1 ≤ k → k < σ 0 9 → k < f → m1 13 σ s → nd = setOf 7 (qNd (vM σ) (fun k => decide (σ 12 k = 1)) o d k) → (∀ j : Int, k < j → j < σ 0 9 → 0 ≤ j → s 13 (o j) = bl (qIn (vM σ) (fun k => decide (σ 12 k = 1)) 6 (o j) d = true)) → mG x 9 [(0, .ref (ad 0)), (1, mI d), (2, mI nd), (3, mI k)] [] s := by
  intro f
  have hn0 : 0 ≤ σ 0 9 := hw.1
  have hn6 : σ 0 9 ≤ 6 := hw.2.1
  have hfin : ∀ (k : Int) (s : mS), k < 0 → m1 13 σ s → (∀ j : Int, k < j → j < σ 0 9 → 0 ≤ j → s 13 (o j) = bl (qIn (vM σ) (fun k => decide (σ 12 k = 1)) 6 (o j) d = true)) → post s := fun k s hk hs hj => hp s hs (fun b b0 b1 => by
    obtain ⟨i, i0, i1, rfl⟩ := hord.2.2 b b0 b1
    exact hj i (by omega) i1 i0)
  induction f with
  | zero =>
    intro k s nd h0 h1 h2 hs hnd hj
    refine g_iload_n h dX8_layForce_9 rfl ?_
    refine g_if_lt (tgt := 95) h dX8_layForce_10 (by decide) ⟨by omega, by omega⟩ (fun c10 => ?_) (fun c10 => ?_)
    · exact g_vret h hq rfl dX8_layForce_95 (hfin k s (by omega) hs hj)
    · omega
  | succ f ih =>
    intro k s nd h0' h1 h2 hs hnd hj
    refine g_iload_n h dX8_layForce_9 rfl ?_
    refine g_if_lt (tgt := 95) h dX8_layForce_10 (by decide) (by first | exact hR _ _ | exact ⟨by omega, by omega⟩) (fun c10 => ?_) (fun c10 => ?_)
    · refine g_vret h hq rfl dX8_layForce_95 (hfin k s (by omega) hs hj)
    · have h0 : 0 ≤ k := by omega
      have ho := hord
      have hb := ho.1 k h0 (by omega)
      have eo : s 11 k = o k := by rw [hs 11 (by omega)]; exact hoe k h0 (by omega)
      have hkd := hw.2.2.2.2.2.2.2 (o k) hb.1 (by omega)
      rw [vM_kind σ hb.1 (by omega), vM_names σ hb.1 (by omega)] at hkd
      have e4 : s 4 = σ 4 := hs 4 (by omega)
      have e7 : s 7 = σ 7 := hs 7 (by omega)
      have hIn := qIn_nd (P := fun k => decide (σ 12 k = 1)) ho hn6 (d := d) h0 (show k < vM σ 0 4 from h1)
      have J87 : ∀ (w : Int) (s2 : mS), m1 13 σ s2 → (∀ j : Int, k - 1 < j → j < σ 0 9 → 0 ≤ j → s2 13 (o j) = bl (qIn (vM σ) (fun k => decide (σ 12 k = 1)) 6 (o j) d = true)) → w = (if qIn (vM σ) (fun k => decide (σ 12 k = 1)) 6 (o k) d = true ∧ σ 4 (o k) = 2 then iShl 1 (σ 7 (o k)) else 0) → mG x 87 [(0, .ref (ad 0)), (1, mI d), (2, mI nd), (3, mI k), (4, mI (o k))] [mI w, mI nd] s2 := by
        intro w s2 hs2 hj2 hw2
        refine g_ior h dX8_layForce_87 ?_
        refine g_istore_n h dX8_layForce_88 (by decide) rfl ?_
        refine g_iinc h dX8_layForce_89 rfl (by decide) rfl ?_
        refine g_goto (tgt := 9) h dX8_layForce_92 (by decide) ?_
        refine g_lv (lv' := [(0, .ref (ad 0)), (1, mI d), (2, mI (iOr nd w)), (3, mI (k + -1))]) rfl ?_
        refine ih (k + -1) s2 (iOr nd w) (by omega) (by omega) (by omega) hs2 ?_ (fun j a b c => hj2 j (by omega) b c)
        rw [hnd, show k + -1 = k - 1 by omega]
        by_cases q : qIn (vM σ) (fun k => decide (σ 12 k = 1)) 6 (o k) d = true ∧ σ 4 (o k) = 2
        · rw [hw2, if_pos q, set_add (by omega) _ (by omega) (by omega)]
          refine setOf_cong (fun i i0 i1 => ?_)
          rw [qNd_step h0 (show k < vM σ 0 4 from h1), q.1, vM_kind σ hb.1 (by omega), vM_names σ hb.1 (by omega)]
          have : decide (i = σ 7 (o k)) = decide (σ 7 (o k) = i) := by rw [decide_eq_decide]; omega
          simp [q.2, this]
        · rw [hw2, if_neg q]
          have e0 : iOr (setOf 7 (qNd (vM σ) (fun k => decide (σ 12 k = 1)) o d k)) 0 = setOf 7 (qNd (vM σ) (fun k => decide (σ 12 k = 1)) o d k) := by
            have := iOr_set (n := 7) (by omega) (qNd (vM σ) (fun k => decide (σ 12 k = 1)) o d k) (fun _ => false)
            rw [set_zero.mpr (fun i _ _ => rfl)] at this
            simpa using this
          rw [e0]
          refine setOf_cong (fun i i0 i1 => ?_)
          rw [qNd_step h0 (show k < vM σ 0 4 from h1), vM_kind σ hb.1 (by omega), vM_names σ hb.1 (by omega)]
          have : (decide (σ 4 (o k) = 2) && (decide (σ 7 (o k) = i) && qIn (vM σ) (fun k => decide (σ 12 k = 1)) 6 (o k) d)) = false := by
            cases hz : (decide (σ 4 (o k) = 2) && (decide (σ 7 (o k) = i) && qIn (vM σ) (fun k => decide (σ 12 k = 1)) 6 (o k) d)) with
            | false => rfl
            | true =>
              simp only [Bool.and_eq_true, decide_eq_true_eq] at hz
              exact absurd ⟨hz.2.2, hz.1⟩ q
          rw [this, Bool.or_false]
      have J51 : ∀ v : Int, v = bl (qIn (vM σ) (fun k => decide (σ 12 k = 1)) 6 (o k) d = true) → mG x 51 [(0, .ref (ad 0)), (1, mI d), (2, mI nd), (3, mI k), (4, mI (o k))] [mI v, mI (o k), .ref (ad 13)] s := by
        intro v hv
        have hv01 := bl_01 (qIn (vM σ) (fun k => decide (σ 12 k = 1)) 6 (o k) d = true)
        refine sm_inForce h dX8_layForce_51 (by omega) (by omega) (by omega) ?_
        have hs2 := hs.up (o k) v
        have hj2 : ∀ j : Int, k - 1 < j → j < σ 0 9 → 0 ≤ j → mUp s 13 (o k) v 13 (o j) = bl (qIn (vM σ) (fun k => decide (σ 12 k = 1)) 6 (o j) d = true) := fun j a b c => by
          by_cases q : j = k
          · rw [q, mUp_eq, hv]
          · rw [mUp_ne s v (Or.inr (fun z => q (qSr_inj ho c b h0 h1 z)))]
            exact hj j (by omega) b c
        refine g_iload_n h dX8_layForce_52 rfl ?_
        refine g_aload_n h dX8_layForce_53 rfl ?_
        refine gm_inForce h dX8_layForce_54 lf_RX8_51 ?_
        refine g_iload h dX8_layForce_57 rfl ?_
        refine lm_inForce h dX8_layForce_59 (by omega) (by omega) ?_
        refine g_val (b := bl (qIn (vM σ) (fun k => decide (σ 12 k = 1)) 6 (o k) d = true)) ((mUp_eq s 13 (o k) v).trans hv) ?_
        refine g_ifb_eq (tgt := 86) h dX8_layForce_60 (by decide)  (fun c60 => ?_) (fun c60 => ?_)
        · refine g_iconst h dX8_layForce_86 rfl ?_
          exact J87 _ _ hs2 hj2 (by first | rw [if_pos ⟨by assumption, by assumption⟩] | rw [if_neg (fun z => by first | exact absurd z.1 (by assumption) | exact absurd z.2 (by assumption))])
        · refine g_aload_n h dX8_layForce_63 rfl ?_
          refine gm_kind h dX8_layForce_64 lf_RX8_19 ?_
          refine g_iload h dX8_layForce_67 rfl ?_
          refine lm_kind h dX8_layForce_69 (by omega) (by omega) ?_
          refine g_iconst h dX8_layForce_70 rfl ?_
          refine g_val2 (b := σ 4 (o k)) (by rw [mUp_off s (o k) v (show (4 : Int) ≠ 13 by omega), e4]) ?_
          refine g_icmp_ne (tgt := 86) h dX8_layForce_71 (by decide) ⟨by omega, by omega⟩ ⟨by omega, by omega⟩ (fun c71 => ?_) (fun c71 => ?_)
          · refine g_iconst h dX8_layForce_86 rfl ?_
            exact J87 _ _ hs2 hj2 (by first | rw [if_pos ⟨by assumption, by assumption⟩] | rw [if_neg (fun z => by first | exact absurd z.1 (by assumption) | exact absurd z.2 (by assumption))])
          · refine g_iconst h dX8_layForce_74 rfl ?_
            refine g_aload_n h dX8_layForce_75 rfl ?_
            refine gm_names h dX8_layForce_76 lf_RX8_28 ?_
            refine g_iload h dX8_layForce_79 rfl ?_
            refine lm_names h dX8_layForce_81 (by omega) (by omega) ?_
            refine g_val (b := σ 7 (o k)) (by rw [mUp_off s (o k) v (show (7 : Int) ≠ 13 by omega), e7]) ?_
            refine g_ishl h dX8_layForce_82 ?_
            refine g_goto (tgt := 87) h dX8_layForce_83 (by decide) ?_
            exact J87 _ _ hs2 hj2 (by first | rw [if_pos ⟨by assumption, by assumption⟩] | rw [if_neg (fun z => by first | exact absurd z.1 (by assumption) | exact absurd z.2 (by assumption))])
      refine g_aload_n h dX8_layForce_13 rfl ?_
      refine gm_order h dX8_layForce_14 lf_RX8_45 ?_
      refine g_iload_n h dX8_layForce_17 rfl ?_
      refine lm_order h dX8_layForce_18 (by omega) (by omega) ?_
      refine g_val eo ?_
      refine g_istore h dX8_layForce_19 (by decide) rfl ?_
      refine g_aload_n h dX8_layForce_21 rfl ?_
      refine gm_inForce h dX8_layForce_22 lf_RX8_51 ?_
      refine g_iload h dX8_layForce_25 rfl ?_
      refine g_aload_n h dX8_layForce_27 rfl ?_
      refine g_iload h dX8_layForce_28 rfl ?_
      refine g_iload_n h dX8_layForce_30 rfl ?_
      refine g_vI h (c_X8_isOn _ _ _ (by rw [(hs.sc (by omega)).view]; exact hw) (by omega) (by omega) d0 d1 (by rw [hs 12 (by omega)]; exact hP _ hb.1 (by omega))) (by decide) lm_RX8_168 (rvM rfl) dX8_layForce_31 rfl (Nat.le_of_ble_eq_true rfl) (fun z31 s31 p31 => ?_)
      obtain ⟨e31, r31⟩ := p31; rw [(hs.sc (by omega)).view, hs 12 (by omega)] at e31; subst e31; replace r31 := Eq.symm r31; subst r31
      refine g_ifb_eq (tgt := 50) h dX8_layForce_34 (by decide)  (fun c34 => ?_) (fun c34 => ?_)
      · refine g_iconst h dX8_layForce_50 rfl ?_
        exact J51 _ (by first | exact bl1 (by rw [hIn]; simp [*]) | exact bl0 (by rw [hIn]; simp [*]))
      · refine g_iload_n h dX8_layForce_37 rfl ?_
        refine g_iload h dX8_layForce_38 rfl ?_
        refine g_ishr h dX8_layForce_40 ?_
        refine g_iconst h dX8_layForce_41 rfl ?_
        refine g_iand h dX8_layForce_42 ?_
        refine g_val (b := bl (qNd (vM σ) (fun k => decide (σ 12 k = 1)) o d k (o k) = true)) (by rw [hnd, set_rd (by omega) _ hb.1 (by omega)]) ?_
        refine g_ifb_ne (tgt := 50) h dX8_layForce_43 (by decide)  (fun c43 => ?_) (fun c43 => ?_)
        · refine g_iconst h dX8_layForce_50 rfl ?_
          exact J51 _ (by first | exact bl1 (by rw [hIn]; simp [*]) | exact bl0 (by rw [hIn]; simp [*]))
        · refine g_iconst h dX8_layForce_46 rfl ?_
          refine g_goto (tgt := 51) h dX8_layForce_47 (by decide) ?_
          exact J51 _ (by first | exact bl1 (by rw [hIn]; simp [*]) | exact bl0 (by rw [hIn]; simp [*]))
set_option maxRecDepth 100000 in
set_option maxHeartbeats 2000000 in
theorem c_X8_layForce {l : Launch} {D : va_G} {cs : mC} {ad : Int → Nat} (σ : mS) (d : Int) (hw : qWf (vM σ)) (hord : qSr (vM σ) (σ 0 9) (σ 11)) (hP : ∀ b : Int, 0 ≤ b → b < σ 0 9 → σ 12 b = 0 ∨ σ 12 b = 1) (d0 : 0 ≤ d) (d1 : d < 200) : CV l (gM D cs ad) M_X8_layForce 1 [.ref (ad 0), mI d] σ (fun s => m1 13 σ s ∧ ∀ b : Int, 0 ≤ b → b < σ 0 9 → s 13 b = bl (qIn (vM σ) (fun k => decide (σ 12 k = 1)) 6 b d = true)) := by
  refine CV.of (by decide) (Nat.le_of_ble_eq_true rfl) (fun x h hq => ?_)
  show mG x 0 [(0, .ref (ad 0)), (1, mI d)] [] σ
  refine g_iconst h dX8_layForce_0 rfl ?_
  refine g_istore_n h dX8_layForce_1 (by decide) rfl ?_
  refine g_aload_n h dX8_layForce_2 rfl ?_
  refine gm_bills h dX8_layForce_3 lf_RX8_72 ?_
  refine g_iconst h dX8_layForce_6 rfl ?_
  refine g_isub h dX8_layForce_7 ?_
  refine g_istore_n h dX8_layForce_8 (by decide) rfl ?_
  have hn0 : 0 ≤ σ 0 9 := hw.1
  have hn6 : σ 0 9 ≤ 6 := hw.2.1
  exact lp_X8_layForce h hq hw hord (fun i _ _ => rfl) hP d0 d1 (fun s a b => ⟨a, b⟩) 7 (σ 0 9 - 1) σ 0 (by omega) (by omega) (by omega) (m1.rf 13 σ) (set_zero.mpr (fun i _ _ => qNd_top (show σ 0 9 ≤ σ 0 9 - 1 + 1 by omega))).symm (fun j a b c => by omega)
