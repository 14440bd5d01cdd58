/-- the earliest of the first j that are not come yet -/
def xEa (τ : mS) (c : Int → Bool) (j fi le : Int) : Prop := (fi = 0 ∧ le = 110 ∧ ∀ b : Int, 0 ≤ b → b < j → c b = true) ∨ (0 ≤ fi ∧ fi < j ∧ c fi = false ∧ le = τ 2 fi ∧ ∀ b : Int, 0 ≤ b → b < j → c b = false → fi = b ∨ qBf τ fi b = true)
theorem xEa.come {τ : mS} {c : Int → Bool} {j fi le : Int} (h : xEa τ c j fi le) (hc : c j = true) : xEa τ c (j + 1) fi le := by
  rcases h with ⟨h1, h2, h3⟩ | ⟨h1, h2, h3, h4, h5⟩
  · refine Or.inl ⟨h1, h2, fun b b0 b1 => ?_⟩
    by_cases e : b = j
    · rw [e]; exact hc
    · exact h3 b b0 (by omega)
  · refine Or.inr ⟨h1, by omega, h3, h4, fun b b0 b1 hb => ?_⟩
    by_cases e : b = j
    · rw [e, hc] at hb; cases hb
    · exact h5 b b0 (by omega) hb
theorem xEa.late {τ : mS} {c : Int → Bool} {j fi le : Int} (h : xEa τ c j fi le) (hd : ¬ τ 2 j < le) (h9 : τ 2 j ≤ 99) : xEa τ c (j + 1) fi le := by
  rcases h with ⟨h1, h2, h3⟩ | ⟨h1, h2, h3, h4, h5⟩
  · omega
  · refine Or.inr ⟨h1, by omega, h3, h4, fun b b0 b1 hb => ?_⟩
    by_cases e : b = j
    · refine Or.inr ?_
      unfold qBf
      rw [e, decide_eq_true_iff]
      omega
    · exact h5 b b0 (by omega) hb
theorem xEa.new {τ : mS} {c : Int → Bool} {j fi le : Int} (h : xEa τ c j fi le) (j0 : 0 ≤ j) (hc : c j = false) (hd : τ 2 j < le) : xEa τ c (j + 1) j (τ 2 j) := by
  refine Or.inr ⟨j0, by omega, hc, rfl, fun b b0 b1 hb => ?_⟩
  by_cases e : b = j
  · exact Or.inl e.symm
  · refine Or.inr ?_
    rcases h with ⟨h1, h2, h3⟩ | ⟨h1, h2, h3, h4, h5⟩
    · rw [h3 b b0 (by omega)] at hb; cases hb
    · have q := h5 b b0 (by omega) hb
      unfold qBf at q ⊢
      rw [decide_eq_true_iff] at q ⊢
      rcases q with q | q
      · rw [← q]; omega
      · omega
set_option maxRecDepth 100000 in
set_option maxHeartbeats 2000000 in
theorem lp_X1_earliestBut {x : mX} {l : Launch} {D : va_G} {cs : mC} {ad : Int → Nat} {post : Int → mS → Prop} (h : mOk x l M_X1_earliestBut 0 (gX D cs ad)) (hq : rI x (gX D cs ad) post) {σ : mS} {c : Int → Bool} (hw : qWf (vX σ)) (hex : ∃ b : Int, 0 ≤ b ∧ b < σ 1 2 ∧ c b = false) (hp : ∀ z : Int, (0 ≤ z ∧ z < σ 1 2 ∧ c z = false ∧ ∀ b : Int, 0 ≤ b → b < σ 1 2 → c b = false → z = b ∨ qBf (vX σ) z b = true) → post z σ) : ∀ (g : Nat) (j fi le : Int), 0 ≤ j → j ≤ σ 1 2 → σ 1 2 - j < g → xEa (vX σ) c j fi le → mG x 8 [(0, .ref (ad 1)), (1, mI (setOf 6 c)), (2, mI fi), (3, mI le), (4, mI j)] [] σ := by
  have h6 : σ 1 2 ≤ 6 := hw.2.1
  intro g
  induction g with
  | zero => intro j fi le a b d; omega
  | succ g ih =>
    intro j fi le j0 j1 hg hE
    refine g_iload h dX1_earliestBut_8 rfl ?_
    refine g_aload_n h dX1_earliestBut_10 rfl ?_
    refine gxC_count h dX1_earliestBut_11 lf_RX1_45 ?_
    refine g_icmp_ge (tgt := 60) h dX1_earliestBut_14 (by decide) ⟨by omega, by omega⟩ ⟨by omega, by omega⟩ (fun c14 => ?_) (fun c14 => ?_)
    · refine g_iload_n h dX1_earliestBut_60 rfl ?_
      refine g_iret h hq rfl dX1_earliestBut_61 (by
        rcases hE with e | e
        · obtain ⟨b, b0, b1, b2⟩ := hex
          rw [e.2.2 b b0 (by omega)] at b2
          cases b2
        · exact hp fi ⟨e.1, by omega, e.2.2.1, fun b b0 b1 hb => e.2.2.2.2 b b0 (by omega) hb⟩)
    · have hb := hw.2.2.2.2.2.2.2 j j0 (by omega)
      have hle : 0 ≤ le ∧ le ≤ 110 := by
        rcases hE with e | e
        · omega
        · have := hw.2.2.2.2.2.2.2 fi (by omega) (by omega)
          omega
      have ed := vX_day σ j0 (show j < 6 by omega)
      refine g_iload_n h dX1_earliestBut_17 rfl ?_
      refine g_iload h dX1_earliestBut_18 rfl ?_
      refine g_ishr h dX1_earliestBut_20 ?_
      refine g_iconst h dX1_earliestBut_21 rfl ?_
      refine g_iand h dX1_earliestBut_22 ?_
      refine g_val (b := bl (c j = true)) (set_rd (by omega) c j0 (by omega)) ?_
      refine g_ifb_ne (tgt := 54) h dX1_earliestBut_23 (by decide)  (fun c23 => ?_) (fun c23 => ?_)
      · refine g_iinc h dX1_earliestBut_54 rfl (by decide) rfl ?_
        refine g_goto (tgt := 8) h dX1_earliestBut_57 (by decide) ?_
        exact ih (j + 1) fi le (by omega) (by omega) (by omega) (hE.come c23)
      · refine g_aload_n h dX1_earliestBut_26 rfl ?_
        refine gxC_bills h dX1_earliestBut_27 lf_RX1_20 ?_
        refine g_iload h dX1_earliestBut_30 rfl ?_
        refine lx_bills h dX1_earliestBut_32 (by omega) (by omega) ?_
        refine gxB_day h (by omega) (by omega) dX1_earliestBut_33 lf_RX1_60 ?_
        refine g_iload_n h dX1_earliestBut_36 rfl ?_
        refine g_icmp_ge (tgt := 54) h dX1_earliestBut_37 (by decide) ⟨by omega, by omega⟩ ⟨by omega, by omega⟩ (fun c37 => ?_) (fun c37 => ?_)
        · refine g_iinc h dX1_earliestBut_54 rfl (by decide) rfl ?_
          refine g_goto (tgt := 8) h dX1_earliestBut_57 (by decide) ?_
          exact ih (j + 1) fi le (by omega) (by omega) (by omega) (hE.late (by omega) (by omega))
        · refine g_iload h dX1_earliestBut_40 rfl ?_
          refine g_istore_n h dX1_earliestBut_42 (by decide) rfl ?_
          refine g_aload_n h dX1_earliestBut_43 rfl ?_
          refine gxC_bills h dX1_earliestBut_44 lf_RX1_20 ?_
          refine g_iload h dX1_earliestBut_47 rfl ?_
          refine lx_bills h dX1_earliestBut_49 (by omega) (by omega) ?_
          refine gxB_day h (by omega) (by omega) dX1_earliestBut_50 lf_RX1_60 ?_
          refine g_istore_n h dX1_earliestBut_53 (by decide) rfl ?_
          refine g_iinc h dX1_earliestBut_54 rfl (by decide) rfl ?_
          refine g_goto (tgt := 8) h dX1_earliestBut_57 (by decide) ?_
          have := ih (j + 1) j (σ (5 + j) 1) (by omega) (by omega) (by omega) (by rw [← ed]; exact hE.new j0 (by simpa using c23) (by omega))
          exact this
set_option maxRecDepth 100000 in
set_option maxHeartbeats 2000000 in
theorem c_X1_earliestBut {l : Launch} {D : va_G} {cs : mC} {ad : Int → Nat} (σ : mS) (c : Int → Bool) (hw : qWf (vX σ)) (hex : ∃ b : Int, 0 ≤ b ∧ b < σ 1 2 ∧ c b = false) : CI l (gX D cs ad) M_X1_earliestBut 0 [.ref (ad 1), mI (setOf 6 c)] σ (fun z s => (0 ≤ z ∧ z < σ 1 2 ∧ c z = false ∧ ∀ b : Int, 0 ≤ b → b < σ 1 2 → c b = false → z = b ∨ qBf (vX σ) z b = true) ∧ s = σ) := by
  refine CI.of (by decide) (Nat.le_of_ble_eq_true rfl) (fun x h hq => ?_)
  show mG x 0 [(0, .ref (ad 1)), (1, mI (setOf 6 c))] [] σ
  refine g_iconst h dX1_earliestBut_0 rfl ?_
  refine g_istore_n h dX1_earliestBut_1 (by decide) rfl ?_
  refine g_bipush h dX1_earliestBut_2 (by decide) ?_
  refine g_istore_n h dX1_earliestBut_4 (by decide) rfl ?_
  refine g_iconst h dX1_earliestBut_5 rfl ?_
  refine g_istore h dX1_earliestBut_6 (by decide) rfl ?_
  exact lp_X1_earliestBut h hq hw hex (fun z hz => ⟨hz, rfl⟩) 7 0 0 110 (by omega) hw.1 (by have : σ 1 2 ≤ 6 := hw.2.1; omega) (Or.inl ⟨rfl, rfl, fun b b0 b1 => by omega⟩)
def xCm (o : Int → Int) (k b : Int) : Bool := anyN (fun i => decide (o i = b)) k.toNat
theorem xCm_no {τ : mS} {n k i : Int} {o : Int → Int} (h : qSr τ n o) (k0 : 0 ≤ k) (i0 : 0 ≤ i) (i1 : i < n) (kn : k ≤ n) : xCm o k (o i) = false ↔ k ≤ i := by
  unfold xCm
  rw [anyN_no]
  constructor
  · intro g
    by_cases e : k ≤ i
    · exact e
    · have := g i i0 (by omega)
      simp at this
  · intro g j j0 j1
    have : ¬ o j = o i := fun z => by have := qSr_inj h j0 (by omega) i0 i1 z; omega
    simpa using this
theorem xCm_next (o : Int → Int) {k : Int} (k0 : 0 ≤ k) (b : Int) : xCm o (k + 1) b = (xCm o k b || decide (b = o k)) := by
  unfold xCm
  rw [any_next _ k0]
  congr 1
  by_cases e : o k = b
  · rw [decide_eq_true e, decide_eq_true e.symm]
  · rw [decide_eq_false e, decide_eq_false (fun z => e z.symm)]
/-- the earliest that is not come is the next -/
theorem xEa_is {τ : mS} {n k z : Int} {o : Int → Int} (h : qSr τ n o) (k0 : 0 ≤ k) (k1 : k < n) (z0 : 0 ≤ z) (z1 : z < n) (hz : xCm o k z = false) (hb : ∀ b : Int, 0 ≤ b → b < n → xCm o k b = false → z = b ∨ qBf τ z b = true) : z = o k := by
  obtain ⟨i, i0, i1, e⟩ := h.2.2 z z0 z1
  have hr := h.1 k k0 k1
  rcases hb (o k) hr.1 hr.2 ((xCm_no h k0 k0 k1 (by omega)).mpr (by omega)) with q | q
  · exact q
  · rw [← e] at hz q
    have ki := (xCm_no h k0 i0 i1 (by omega)).mp hz
    have := qSr_lt h i0 i1 k0 k1 q
    omega
theorem qPk_next {τ : mS} {o : Int → Int} {st : Int → Bool} {k : Int} (k0 : 0 ≤ k) (b : Int) : qPk τ o st (k + 1).toNat b = (qPk τ o st k.toNat b || (decide (b = o k) && qMay τ st (qPk τ o st k.toNat) b)) := by
  rw [show (k + 1).toNat = k.toNat + 1 by omega, qPk, Int.toNat_of_nonneg k0]
set_option maxRecDepth 100000 in
set_option maxHeartbeats 2000000 in
theorem lp_X1_pass {x : mX} {l : Launch} {D : va_G} {cs : mC} {ad : Int → Nat} {post : mS → Prop} (h : mOk x l M_X1_pass 10 (gX D cs ad)) (hq : rV x (gX D cs ad) post) {σ : mS} {dm : Int} {w : Int → Int → Bool} {dk st : Int → Bool} (hw : qWf (vX σ)) (hm : ∀ b : Int, 0 ≤ b → b < σ 1 2 → σ (5 + b) 5 = setOf 11 (w b)) (hdm : i32 dm) (hst : ∀ b : Int, 0 ≤ b → b < σ 1 2 → st b = (decide (b = dm) || anyN (fun m => w b m && !dk m) 11)) (hp : post (mUp σ 1 4 (setOf 6 (qPf (vX σ) st)))) : ∀ (g : Nat) (k : Int), 0 ≤ k → k ≤ σ 1 2 → σ 1 2 - k < g → mG x 10 [(0, .ref (ad 1)), (1, mI (setOf 11 dk)), (2, mI dm), (3, mI (setOf 6 (xCm (qO (vX σ)) k))), (4, mI k)] [] (mUp σ 1 4 (setOf 6 (qPk (vX σ) (qO (vX σ)) st k.toNat))) := by
  have h6 : σ 1 2 ≤ 6 := hw.2.1
  have e4 : vX σ 0 4 = σ 1 2 := rfl
  have hO := qO_ok hw.1
  rw [e4] at hO
  intro g
  induction g with
  | zero => intro j a b c; omega
  | succ g ih =>
    intro k k0 k1 hg
    have e12 : (mUp σ 1 4 (setOf 6 (qPk (vX σ) (qO (vX σ)) st k.toNat))) 1 2 = σ 1 2 := mUp_ne _ _ (by omega)
    have eV : vX (mUp σ 1 4 (setOf 6 (qPk (vX σ) (qO (vX σ)) st k.toNat))) = vX σ := (xSc.up σ _).view
    refine g_iload h dX1_pass_10 rfl ?_
    refine g_aload_n h dX1_pass_12 rfl ?_
    refine gxC_count h dX1_pass_13 lf_RX1_45 ?_
    refine g_val (b := σ 1 2) e12 ?_
    refine g_icmp_ge (tgt := 142) h dX1_pass_16 (by decide) ⟨by omega, by omega⟩ ⟨by omega, by omega⟩ (fun c16 => ?_) (fun c16 => ?_)
    · refine g_vret h hq rfl dX1_pass_142 (by rw [show k = σ 1 2 by omega]; exact hp)
    · have ho := hO.1 k k0 (by omega)
      refine g_aload_n h dX1_pass_19 rfl ?_
      refine g_iload_n h dX1_pass_20 rfl ?_
      refine g_vI h (c_X1_earliestBut _ (xCm (qO (vX σ)) k) ((xSc.up σ _).wf hw) ⟨qO (vX σ) k, ho.1, by rw [e12]; exact ho.2, (xCm_no hO k0 k0 (by omega) (by omega)).mpr (by omega)⟩) (by decide) lm_RX1_72 (rvC rfl) dX1_pass_21 rfl (Nat.le_of_ble_eq_true rfl) (fun z21 s21 p21 => ?_)
      obtain ⟨⟨q0, q1, q2, q3⟩, r21⟩ := p21; replace r21 := Eq.symm r21; subst r21
      rw [e12] at q1 q3
      rw [eV] at q3
      have ez := xEa_is hO k0 (by omega) q0 q1 q2 q3
      subst ez
      refine g_istore h dX1_pass_24 (by decide) rfl ?_
      refine g_iload_n h dX1_pass_26 rfl ?_
      refine g_iconst h dX1_pass_27 rfl ?_
      refine g_iload h dX1_pass_28 rfl ?_
      refine g_ishl h dX1_pass_30 ?_
      refine g_ior h dX1_pass_31 ?_
      refine g_val (b := setOf 6 (xCm (qO (vX σ)) (k + 1))) (by rw [set_add (by omega) _ ho.1 (by omega)]; exact setOf_cong (fun b _ _ => (xCm_next _ k0 b).symm)) ?_
      refine g_istore_n h dX1_pass_32 (by decide) rfl ?_
      refine g_aload_n h dX1_pass_33 rfl ?_
      refine gxC_bills h dX1_pass_34 lf_RX1_20 ?_
      refine g_iload h dX1_pass_37 rfl ?_
      refine lx_bills h dX1_pass_39 (by omega) (by omega) ?_
      refine g_astore h dX1_pass_40 (by decide) rfl ?_
      have hb := hw.2.2.2.2.2.2.2 (qO (vX σ) k) ho.1 (by omega)
      have hr10 : ∀ j : Int, (mUp σ 1 4 (setOf 6 (qPk (vX σ) (qO (vX σ)) st k.toNat))) (5 + qO (vX σ) k) j = σ (5 + qO (vX σ) k) j := fun j => mUp_ne _ _ (by omega)
      have en : (mUp σ 1 4 (setOf 6 (qPk (vX σ) (qO (vX σ)) st k.toNat))) (5 + qO (vX σ) k) 2 = vX σ 3 (qO (vX σ) k) := (hr10 2).trans (vX_needs σ ho.1 (by omega)).symm
      have ed : (mUp σ 1 4 (setOf 6 (qPk (vX σ) (qO (vX σ)) st k.toNat))) (5 + qO (vX σ) k) 1 = vX σ 2 (qO (vX σ) k) := (hr10 1).trans (vX_day σ ho.1 (by omega)).symm
      have J111 : ∀ v7 v8 : Int, v7 = bl (st (qO (vX σ) k) = true) → v8 = bl ((decide (vX σ 3 (qO (vX σ) k) = 6) || (decide (vX σ 3 (qO (vX σ) k) < vX σ 0 4) && qIn (vX σ) (qPk (vX σ) (qO (vX σ)) st k.toNat) 6 (vX σ 3 (qO (vX σ) k)) (vX σ 2 (qO (vX σ) k)))) = true) → mG x 111 [(0, .ref (ad 1)), (1, mI (setOf 11 dk)), (2, mI dm), (3, mI (setOf 6 (xCm (qO (vX σ)) (k + 1)))), (4, mI k), (5, mI (qO (vX σ) k)), (6, .ref (ad (5 + qO (vX σ) k))), (7, mI v7)] [mI v8] (mUp σ 1 4 (setOf 6 (qPk (vX σ) (qO (vX σ)) st k.toNat))) := by
        intro v7 v8 h7 h8
        subst h7; subst h8
        refine g_istore h dX1_pass_111 (by decide) rfl ?_
        refine g_iload h dX1_pass_113 rfl ?_
        refine g_ifb_ne (tgt := 136) h dX1_pass_115 (by decide)  (fun c115 => ?_) (fun c115 => ?_)
        · refine g_iinc h dX1_pass_136 rfl (by decide) rfl ?_
          refine g_goto (tgt := 10) h dX1_pass_139 (by decide) ?_
          have e : qPk (vX σ) (qO (vX σ)) st k.toNat = qPk (vX σ) (qO (vX σ)) st (k + 1).toNat := by
            funext b9
            rw [qPk_next k0 b9]
            by_cases eb : b9 = qO (vX σ) k
            · rw [eb, show qMay (vX σ) st (qPk (vX σ) (qO (vX σ)) st k.toNat) (qO (vX σ) k) = false by unfold qMay; rw [c115]; rfl, Bool.and_false, Bool.or_false]
            · rw [decide_eq_false eb, Bool.false_and, Bool.or_false]
          rw [e]
          refine g_lv (lv' := [(0, .ref (ad 1)), (1, mI (setOf 11 dk)), (2, mI dm), (3, mI (setOf 6 (xCm (qO (vX σ)) (k + 1)))), (4, mI (k + 1))]) rfl ?_
          exact ih (k + 1) (by omega) (by omega) (by omega)
        · refine g_iload h dX1_pass_118 rfl ?_
          refine g_ifb_eq (tgt := 136) h dX1_pass_120 (by decide)  (fun c120 => ?_) (fun c120 => ?_)
          · refine g_iinc h dX1_pass_136 rfl (by decide) rfl ?_
            refine g_goto (tgt := 10) h dX1_pass_139 (by decide) ?_
            have e : qPk (vX σ) (qO (vX σ)) st k.toNat = qPk (vX σ) (qO (vX σ)) st (k + 1).toNat := by
              funext b9
              rw [qPk_next k0 b9]
              by_cases eb : b9 = qO (vX σ) k
              · rw [eb, show qMay (vX σ) st (qPk (vX σ) (qO (vX σ)) st k.toNat) (qO (vX σ) k) = false by unfold qMay; rw [show ((decide (vX σ 3 (qO (vX σ) k) = 6) || (decide (vX σ 3 (qO (vX σ) k) < vX σ 0 4) && qIn (vX σ) (qPk (vX σ) (qO (vX σ)) st k.toNat) 6 (vX σ 3 (qO (vX σ) k)) (vX σ 2 (qO (vX σ) k))))) = false by simpa using c120, Bool.and_false], Bool.and_false, Bool.or_false]
              · rw [decide_eq_false eb, Bool.false_and, Bool.or_false]
            rw [e]
            refine g_lv (lv' := [(0, .ref (ad 1)), (1, mI (setOf 11 dk)), (2, mI dm), (3, mI (setOf 6 (xCm (qO (vX σ)) (k + 1)))), (4, mI (k + 1))]) rfl ?_
            exact ih (k + 1) (by omega) (by omega) (by omega)
          · have hmay : qMay (vX σ) st (qPk (vX σ) (qO (vX σ)) st k.toNat) (qO (vX σ) k) = true := by unfold qMay; rw [c120, show st (qO (vX σ) k) = false by simpa using c115]; rfl
            refine g_aload_n h dX1_pass_123 rfl ?_
            refine g_dup h dX1_pass_124 rfl ?_
            refine gxC_passes h dX1_pass_125 lf_RX1_69 ?_
            refine g_iconst h dX1_pass_128 rfl ?_
            refine g_iload h dX1_pass_129 rfl ?_
            refine g_ishl h dX1_pass_131 ?_
            refine g_ior h dX1_pass_132 ?_
            refine pxC_passes h dX1_pass_133 lf_RX1_69 ?_
            refine g_iinc h dX1_pass_136 rfl (by decide) rfl ?_
            refine g_goto (tgt := 10) h dX1_pass_139 (by decide) ?_
            refine g_sta (t := (mUp σ 1 4 (setOf 6 (qPk (vX σ) (qO (vX σ)) st (k + 1).toNat)))) ?_ ?_
            · rw [mUp_up, mUp_eq, set_add (by omega) _ ho.1 (by omega)]
              congr 1
              refine setOf_cong (fun b9 _ _ => ?_)
              rw [qPk_next k0 b9]
              congr 1
              by_cases eb : b9 = qO (vX σ) k
              · rw [eb, hmay]; simp
              · rw [decide_eq_false eb, Bool.false_and]
            refine g_lv (lv' := [(0, .ref (ad 1)), (1, mI (setOf 11 dk)), (2, mI dm), (3, mI (setOf 6 (xCm (qO (vX σ)) (k + 1)))), (4, mI (k + 1))]) rfl ?_
            exact ih (k + 1) (by omega) (by omega) (by omega)
      have J65 : ∀ v7 : Int, v7 = bl (st (qO (vX σ) k) = true) → mG x 65 [(0, .ref (ad 1)), (1, mI (setOf 11 dk)), (2, mI dm), (3, mI (setOf 6 (xCm (qO (vX σ)) (k + 1)))), (4, mI k), (5, mI (qO (vX σ) k)), (6, .ref (ad (5 + qO (vX σ) k)))] [mI v7] (mUp σ 1 4 (setOf 6 (qPk (vX σ) (qO (vX σ)) st k.toNat))) := by
        intro v7 h7
        refine g_istore h dX1_pass_65 (by decide) rfl ?_
        refine g_aload h dX1_pass_67 rfl ?_
        refine gxB_needs h (by omega) (by omega) dX1_pass_69 lf_RX1_76 ?_
        refine g_val (b := vX σ 3 (qO (vX σ) k)) en ?_
        refine g_bipush h dX1_pass_72 (by decide) ?_
        refine g_icmp_eq (tgt := 106) h dX1_pass_74 (by decide) ⟨by omega, by omega⟩ ⟨by omega, by omega⟩ (fun c74 => ?_) (fun c74 => ?_)
        · refine g_iconst h dX1_pass_106 rfl ?_
          refine g_goto (tgt := 111) h dX1_pass_107 (by decide) ?_
          exact J111 v7 1 h7 (bl1 (by rw [decide_eq_true c74]; rfl))
        · refine g_aload h dX1_pass_77 rfl ?_
          refine gxB_needs h (by omega) (by omega) dX1_pass_79 lf_RX1_76 ?_
          refine g_val (b := vX σ 3 (qO (vX σ) k)) en ?_
          refine g_aload_n h dX1_pass_82 rfl ?_
          refine gxC_count h dX1_pass_83 lf_RX1_45 ?_
          refine g_val (b := vX σ 0 4) (mUp_ne _ _ (by omega)) ?_
          refine g_icmp_ge (tgt := 110) h dX1_pass_86 (by decide) ⟨by omega, by omega⟩ ⟨by omega, by omega⟩ (fun c86 => ?_) (fun c86 => ?_)
          · refine g_iconst h dX1_pass_110 rfl ?_
            exact J111 v7 0 h7 (bl0 (by rw [decide_eq_false c74, decide_eq_false (by omega)]; simp))
          · refine g_aload_n h dX1_pass_89 rfl ?_
            refine g_aload h dX1_pass_90 rfl ?_
            refine gxB_needs h (by omega) (by omega) dX1_pass_92 lf_RX1_76 ?_
            refine g_val (b := vX σ 3 (qO (vX σ) k)) en ?_
            refine g_aload h dX1_pass_95 rfl ?_
            refine gxB_day h (by omega) (by omega) dX1_pass_97 lf_RX1_60 ?_
            refine g_val (b := vX σ 2 (qO (vX σ) k)) ed ?_
            refine g_vI h (c_X1_isInForce _ (qPk (vX σ) (qO (vX σ)) st k.toNat) _ _ ((xSc.up σ _).wf hw) (mUp_eq _ _ _ _) (by omega) (by rw [mUp_ne _ _ (by omega)]; exact (by omega)) (by omega) (by omega)) (by decide) lm_RX1_79 (rvC rfl) dX1_pass_100 rfl (Nat.le_of_ble_eq_true rfl) (fun z100 s100 p100 => ?_)
            obtain ⟨e100, r100⟩ := p100; subst e100; replace r100 := Eq.symm r100; subst r100
            rw [(xSc.up σ (setOf 6 (qPk (vX σ) (qO (vX σ)) st k.toNat))).view]
            refine g_ifb_eq (tgt := 110) h dX1_pass_103 (by decide)  (fun c103 => ?_) (fun c103 => ?_)
            · refine g_iconst h dX1_pass_110 rfl ?_
              exact J111 v7 0 h7 (bl0 (by rw [decide_eq_false c74, show qIn (vX σ) (qPk (vX σ) (qO (vX σ)) st k.toNat) 6 (vX σ 3 (qO (vX σ) k)) (vX σ 2 (qO (vX σ) k)) = false by simpa using c103]; simp))
            · refine g_iconst h dX1_pass_106 rfl ?_
              refine g_goto (tgt := 111) h dX1_pass_107 (by decide) ?_
              exact J111 v7 1 h7 (bl1 (by rw [decide_eq_true (show vX σ 3 (qO (vX σ) k) < vX σ 0 4 by omega), c103]; simp))
      refine g_iload h dX1_pass_42 rfl ?_
      refine g_iload_n h dX1_pass_44 rfl ?_
      refine g_icmp_eq (tgt := 60) h dX1_pass_45 (by decide) ⟨by omega, by omega⟩ hdm (fun c45 => ?_) (fun c45 => ?_)
      · refine g_iconst h dX1_pass_60 rfl ?_
        refine g_goto (tgt := 65) h dX1_pass_61 (by decide) ?_
        exact J65 1 (bl1 (by rw [hst _ ho.1 ho.2, decide_eq_true c45]; rfl))
      · refine g_aload h dX1_pass_48 rfl ?_
        refine gxB_moons h (by omega) (by omega) dX1_pass_50 lf_RX1_66 ?_
        refine g_val (b := setOf 11 (w (qO (vX σ) k))) ((hr10 5).trans (hm _ ho.1 ho.2)) ?_
        refine g_iload_n h dX1_pass_53 rfl ?_
        refine g_iconst h dX1_pass_54 rfl ?_
        refine g_ixor h dX1_pass_55 ?_
        refine g_iand h dX1_pass_56 ?_
        refine g_val (b := setOf 11 (fun i => w (qO (vX σ) k) i && !dk i)) (iDif_set (by omega) _ _) ?_
        refine g_if_eq (tgt := 64) h dX1_pass_57 (by decide) (setOf_32 (by omega) _) (fun c57 => ?_) (fun c57 => ?_)
        · refine g_iconst h dX1_pass_64 rfl ?_
          exact J65 0 (bl0 (by rw [hst _ ho.1 ho.2, decide_eq_false c45, anyN_no.mpr (fun i i0 i1 => set_zero.mp c57 i i0 i1)]; simp))
        · refine g_iconst h dX1_pass_60 rfl ?_
          refine g_goto (tgt := 65) h dX1_pass_61 (by decide) ?_
          exact J65 1 (bl1 (by
            rw [hst _ ho.1 ho.2, decide_eq_false c45, Bool.false_or]
            cases ea : anyN (fun m => w (qO (vX σ) k) m && !dk m) 11 with
            | true => rfl
            | false => exact absurd (set_zero.mpr (fun i i0 i1 => anyN_no.mp ea i i0 i1)) c57))
set_option maxRecDepth 100000 in
set_option maxHeartbeats 2000000 in
theorem c_X1_pass {l : Launch} {D : va_G} {cs : mC} {ad : Int → Nat} (σ : mS) (dk : Int → Bool) (dm : Int) (w : Int → Int → Bool) (st : Int → Bool) (hw : qWf (vX σ)) (hm : ∀ b : Int, 0 ≤ b → b < σ 1 2 → σ (5 + b) 5 = setOf 11 (w b)) (hdm : i32 dm) (hst : ∀ b : Int, 0 ≤ b → b < σ 1 2 → st b = (decide (b = dm) || anyN (fun m => w b m && !dk m) 11)) : CV l (gX D cs ad) M_X1_pass 10 [.ref (ad 1), mI (setOf 11 dk), mI dm] σ (fun s => s = mUp σ 1 4 (setOf 6 (qPf (vX σ) st))) := by
  refine CV.of (by decide) (Nat.le_of_ble_eq_true rfl) (fun x h hq => ?_)
  show mG x 0 [(0, .ref (ad 1)), (1, mI (setOf 11 dk)), (2, mI dm)] [] σ
  refine g_aload_n h dX1_pass_0 rfl ?_
  refine g_iconst h dX1_pass_1 rfl ?_
  refine pxC_passes h dX1_pass_2 lf_RX1_69 ?_
  refine g_iconst h dX1_pass_5 rfl ?_
  refine g_istore_n h dX1_pass_6 (by decide) rfl ?_
  refine g_iconst h dX1_pass_7 rfl ?_
  refine g_istore h dX1_pass_8 (by decide) rfl ?_
  have Z := lp_X1_pass h hq hw hm hdm hst rfl 7 0 (by omega) hw.1 (by have : σ 1 2 ≤ 6 := hw.2.1; omega)
  rw [show setOf 6 (xCm (qO (vX σ)) 0) = 0 from set_zero.mpr (fun i _ _ => rfl), show setOf 6 (qPk (vX σ) (qO (vX σ)) st (0 : Int).toNat) = 0 from set_zero.mpr (fun i _ _ => rfl)] at Z
  exact Z
/-- settled: what passes is laid, by who is struck; who watches, too -/
def xSt (σ s : mS) (st : Int → Bool) : Prop := xSc σ s ∧ s 1 4 = setOf 6 (qPf (vX σ) st) ∧ ∀ b : Int, 0 ≤ b → b < σ 1 2 → s (5 + b) 5 = setOf 11 (qWt (vX σ) b)
theorem xSt_st {τ : mS} (hw : qWf τ) {b : Int} (b0 : 0 ≤ b) (b1 : b < 6) (dk : Int → Bool) : anyN (fun m => qWt τ b m && !(decide (qMd τ m ≤ 109) && dk m)) 11 = qSt τ dk b := by
  unfold qSt
  refine anyN_cong (fun m m0 m1 => ?_)
  cases e : qWt τ b m with
  | false => rfl
  | true => rw [decide_eq_true (show qMd τ m ≤ 109 by have := qWt_in hw b0 b1 e; omega)]; rfl
set_option maxRecDepth 100000 in
set_option maxHeartbeats 2000000 in
theorem c_X1_settle {l : Launch} {D : va_G} {cs : mC} {ad : Int → Nat} (σ : mS)  (hw : qWf (vX σ)) (hc : ∀ d : Int, 0 ≤ d → d < 110 → vX σ 6 d = 0 ∨ vX σ 6 d = 1) (hn : 0 < σ 1 2) : CV l (gX D cs ad) M_X1_settle 11 [.ref (ad 1)] σ (fun s => xSt σ s (qSI (vX σ))) := by
  refine CV.of (by decide) (Nat.le_of_ble_eq_true rfl) (fun x h hq => ?_)
  show mG x 0 [(0, .ref (ad 1))] [] σ
  refine g_aload_n h dX1_settle_0 rfl ?_
  refine g_vV h (c_X1_watchAll _ hw) (by decide) lm_RX1_49 (rvC rfl) dX1_settle_1 rfl (Nat.le_of_ble_eq_true rfl) (fun s1 p1 => ?_)
  obtain ⟨w1, w2, w3⟩ := p1
  have e12 : s1 1 2 = σ 1 2 := w1 1 2 (by omega) (by omega)
  have h6 : σ 1 2 ≤ 6 := hw.2.1
  refine g_aload_n h dX1_settle_4 rfl ?_
  refine g_aload_n h dX1_settle_5 rfl ?_
  refine gxC_sky h dX1_settle_6 lf_RX1_12 ?_
  refine g_vI h (c_X4_cloudedMoons _ (w1.wf hw) (by rw [w1.view]; exact hc) (by omega)) (by decide) lm_RX1_52 (rvK rfl) dX1_settle_9 rfl (Nat.le_of_ble_eq_true rfl) (fun z9 s9 p9 => ?_)
  obtain ⟨e9, r9⟩ := p9; subst e9; replace r9 := Eq.symm r9; subst r9
  refine g_bipush h dX1_settle_12 (by decide) ?_
  refine g_vV h (c_X1_pass _ _ _ (qWt (vX σ)) (qSI (vX σ)) (w1.wf hw) (by rw [e12]; exact w3) ⟨by omega, by omega⟩ (fun b b0 b1 => by rw [decide_eq_false (by omega), Bool.false_or, w1.view, xSt_st hw b0 (by omega)]; rfl)) (by decide) lm_RX1_56 (rvC rfl) dX1_settle_14 rfl (Nat.le_of_ble_eq_true rfl) (fun s14 p14 => ?_)
  rw [w1.view] at p14
  refine g_vret h hq rfl dX1_settle_17 ⟨by rw [p14]; exact w1.tr (xSc.up _ _), by rw [p14, mUp_eq], fun b b0 b1 => by rw [p14, mUp_ne _ _ (by omega)]; exact w3 b b0 b1⟩
