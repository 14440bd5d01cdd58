/-! sheets, as they are shown -/
theorem vM_out (σ s : mS) {a b : Int} (h0 : s 0 = σ 0) (h4 : ∀ k : Int, 4 ≤ k → s k = σ k) (ha : ¬ a = 10) (ha2 : ¬ a = 11) (ha3 : ¬ (12 ≤ a ∧ a < 16)) : vM s a b = vM σ a b := by
  unfold vM
  rw [h0, if_neg ha, if_neg ha, if_neg ha2, if_neg ha2, h4 9 (by omega)]
  by_cases a0 : a = 0
  · rw [if_pos a0, if_pos a0]
  · rw [if_neg a0, if_neg a0]
    by_cases a1 : a < 0
    · rw [if_pos a1, if_pos a1]
    · rw [if_neg a1, if_neg a1]
      by_cases a2 : a < 6
      · rw [if_pos a2, if_pos a2, h4 (a + 3) (by omega)]
      · rw [if_neg a2, if_neg a2]
        by_cases a3 : a = 6
        · rw [if_pos a3, if_pos a3]
        · rw [if_neg a3, if_neg a3]
          by_cases a4 : a < 10
          · rw [if_pos a4, if_pos a4, h4 (a + 7) (by omega)]
          · rw [if_neg a4, if_neg a4, if_neg (by omega), if_neg (by omega)]
theorem vM_so' (σ : mS) {b : Int} (h : ¬ (0 ≤ b ∧ b < 4)) : vM σ 10 b = 0 ∧ vM σ 11 b = 0 := by
  constructor
  · simp [vM, h]
  · simp [vM, h]
theorem vM_ce' (σ : mS) {a b : Int} (a0 : 12 ≤ a) (a1 : a < 16) (h : ¬ (0 ≤ b ∧ b < 60)) : vM σ a b = 0 := by
  unfold vM
  rw [if_neg (by omega), if_neg (by omega), if_neg (by omega), if_neg (by omega), if_neg (by omega), if_neg (by omega), if_neg (by omega), if_pos a1, if_neg h]
theorem vM_sheet (σ : mS) {k v n : Int} (h0 : 0 ≤ k) (h1 : k < 4) (hv : ¬ v = -9) : vM (mUp (mUp σ 1 k v) 2 k n) = mUp (mUp (vM σ) 10 k v) 11 k n := by
  have r1 : mUp (mUp σ 1 k v) 2 k n 1 = mUp σ 1 k v 1 := mUp_off _ _ _ (by omega)
  have r2 : mUp σ 1 k v 2 = σ 2 := mUp_off _ _ _ (by omega)
  have r3 : mUp (mUp σ 1 k v) 2 k n 3 = σ 3 := by rw [mUp_off _ _ _ (by omega), mUp_off _ _ _ (by omega)]
  funext a b
  by_cases a10 : a = 10
  · subst a10
    rw [mUp_ne _ _ (Or.inl (by omega))]
    by_cases hb : 0 ≤ b ∧ b < 4
    · rw [vM_so _ hb.1 hb.2, r1]
      by_cases q : b = k
      · rw [q, mUp_eq, mUp_eq, if_neg hv]
      · rw [mUp_ne σ v (Or.inr q), mUp_ne _ v (Or.inr q), vM_so _ hb.1 hb.2]
    · rw [(vM_so' _ hb).1, mUp_ne _ v (Or.inr (by omega)), (vM_so' _ hb).1]
  · by_cases a11 : a = 11
    · subst a11
      by_cases hb : 0 ≤ b ∧ b < 4
      · rw [vM_le _ hb.1 hb.2, r1]
        by_cases q : b = k
        · rw [q, mUp_eq, mUp_eq, mUp_eq, if_neg hv]
        · rw [mUp_ne σ v (Or.inr q), mUp_ne _ n (Or.inr q), mUp_ne _ n (Or.inr q), mUp_ne _ v (Or.inl (by omega)), mUp_ne _ v (Or.inl (by omega)), vM_le _ hb.1 hb.2]
      · rw [(vM_so' _ hb).2, mUp_ne _ n (Or.inr (by omega)), mUp_ne _ v (Or.inl (by omega)), (vM_so' _ hb).2]
    · rw [mUp_ne _ n (Or.inl a11), mUp_ne _ v (Or.inl a10)]
      by_cases a12 : 12 ≤ a ∧ a < 16
      · by_cases hb : 0 ≤ b ∧ b < 60
        · rw [vM_ce _ a12.1 a12.2 hb.1 hb.2, vM_ce _ a12.1 a12.2 hb.1 hb.2, r3]
        · rw [vM_ce' _ a12.1 a12.2 hb, vM_ce' _ a12.1 a12.2 hb]
      · exact vM_out σ _ (by rw [mUp_off _ _ _ (by omega), mUp_off _ _ _ (by omega)]) (fun q hq => by rw [mUp_off _ _ _ (by omega), mUp_off _ _ _ (by omega)]) a10 a11 a12
theorem vM_lose (σ : mS) {k : Int} (h0 : 0 ≤ k) (h1 : k < 4) : vM (mUp σ 1 k (-9)) = mUp (mUp (vM σ) 10 k (-1)) 11 k 0 := by
  have r2 : mUp σ 1 k (-9) 2 = σ 2 := mUp_off _ _ _ (by omega)
  have r3 : mUp σ 1 k (-9) 3 = σ 3 := mUp_off _ _ _ (by omega)
  funext a b
  by_cases a10 : a = 10
  · subst a10
    rw [mUp_ne _ _ (Or.inl (by omega))]
    by_cases hb : 0 ≤ b ∧ b < 4
    · rw [vM_so _ hb.1 hb.2]
      by_cases q : b = k
      · rw [q, mUp_eq, mUp_eq, if_pos rfl]
      · rw [mUp_ne σ _ (Or.inr q), mUp_ne _ _ (Or.inr q), vM_so _ hb.1 hb.2]
    · rw [(vM_so' _ hb).1, mUp_ne _ _ (Or.inr (by omega)), (vM_so' _ hb).1]
  · by_cases a11 : a = 11
    · subst a11
      by_cases hb : 0 ≤ b ∧ b < 4
      · rw [vM_le _ hb.1 hb.2]
        by_cases q : b = k
        · rw [q, mUp_eq, mUp_eq, if_pos rfl]
        · rw [mUp_ne σ _ (Or.inr q), r2, mUp_ne _ _ (Or.inr q), mUp_ne _ _ (Or.inl (by omega)), vM_le _ hb.1 hb.2]
      · rw [(vM_so' _ hb).2, mUp_ne _ _ (Or.inr (by omega)), mUp_ne _ _ (Or.inl (by omega)), (vM_so' _ hb).2]
    · rw [mUp_ne _ _ (Or.inl a11), mUp_ne _ _ (Or.inl a10)]
      by_cases a12 : 12 ≤ a ∧ a < 16
      · by_cases hb : 0 ≤ b ∧ b < 60
        · rw [vM_ce _ a12.1 a12.2 hb.1 hb.2, vM_ce _ a12.1 a12.2 hb.1 hb.2, r3]
        · rw [vM_ce' _ a12.1 a12.2 hb, vM_ce' _ a12.1 a12.2 hb]
      · exact vM_out σ _ (mUp_off _ _ _ (by omega)) (fun q hq => mUp_off _ _ _ (by omega)) a10 a11 a12
theorem vM_up_ce (σ : mS) {k i : Int} (v : Int) (k0 : 0 ≤ k) (k1 : k < 4) (i0 : 0 ≤ i) (i1 : i < 60) : vM (mUp σ 3 (60 * k + i) v) = mUp (vM σ) (12 + k) i v := by
  have r1 : mUp σ 3 (60 * k + i) v 1 = σ 1 := mUp_off _ _ _ (by omega)
  have r2 : mUp σ 3 (60 * k + i) v 2 = σ 2 := mUp_off _ _ _ (by omega)
  funext a b
  by_cases a12 : 12 ≤ a ∧ a < 16
  · by_cases hb : 0 ≤ b ∧ b < 60
    · rw [vM_ce _ a12.1 a12.2 hb.1 hb.2]
      by_cases q : a = 12 + k ∧ b = i
      · rw [show 60 * (a - 12) + b = 60 * k + i by omega, mUp_eq, q.1, q.2, mUp_eq]
      · rw [mUp_ne σ v (Or.inr (by omega)), mUp_ne _ v (by omega), vM_ce _ a12.1 a12.2 hb.1 hb.2]
    · rw [vM_ce' _ a12.1 a12.2 hb, mUp_ne _ v (Or.inr (by omega)), vM_ce' _ a12.1 a12.2 hb]
  · rw [mUp_ne _ v (Or.inl (by omega))]
    by_cases a10 : a = 10
    · subst a10
      by_cases hb : 0 ≤ b ∧ b < 4
      · rw [vM_so _ hb.1 hb.2, vM_so _ hb.1 hb.2, r1]
      · rw [(vM_so' _ hb).1, (vM_so' _ hb).1]
    · by_cases a11 : a = 11
      · subst a11
        by_cases hb : 0 ≤ b ∧ b < 4
        · rw [vM_le _ hb.1 hb.2, vM_le _ hb.1 hb.2, r1, r2]
        · rw [(vM_so' _ hb).2, (vM_so' _ hb).2]
      · exact vM_out σ _ (mUp_off _ _ _ (by omega)) (fun q hq => mUp_off _ _ _ (by omega)) a10 a11 a12
/-! what the calls on sheets answer -/
def qAg (τ : mS) (k l i n : Int) : Int := if τ 10 k = -1 then 1 else if ¬ τ 10 k = l then 2 else if n < 0 then 4 else if i < 0 ∨ τ 11 k < i ∨ τ 11 k - i < n then 3 else 0
def sp_sheet (k l n : Int) : Int := if ¬ (0 ≤ k ∧ k ≤ 3) then -1 else if ¬ (0 ≤ l ∧ l ≤ 2) ∨ 60 < n then -2 else if n < 0 then -14 else 1
/-- a row's first cells are 0 -/
def qZr (τ : mS) (k j : Int) : mS := fun a b => if a = 12 + k ∧ 0 ≤ b ∧ b < j then 0 else τ a b
def ns_sheet (τ : mS) (k l n : Int) : mS := if ¬ (0 ≤ k ∧ k ≤ 3) then mUp τ 0 8 0 else if ¬ (0 ≤ l ∧ l ≤ 2) ∨ 60 < n then mUp τ 0 8 0 else if n < 0 then mUp τ 0 8 4 else qZr (mUp (mUp (mUp τ 0 8 0) 10 k l) 11 k n) k 60
def sp_lose (τ : mS) (k : Int) : Int := if ¬ (0 ≤ k ∧ k ≤ 3) then -1 else if τ 10 k = -1 then 0 else 1
def ns_lose (τ : mS) (k : Int) : mS := if ¬ (0 ≤ k ∧ k ≤ 3) then τ else mUp (mUp τ 10 k (-1)) 11 k 0
def qCut (l v : Int) : Int := if l = 0 then iB v else if l = 1 then iH v else v
def qPt (τ : mS) (k i : Int) : Int := if τ 10 k = -1 then 1 else if ¬ (0 ≤ i ∧ i < τ 11 k) then 3 else 0
def sp_put (τ : mS) (k i : Int) : Int := if ¬ (0 ≤ k ∧ k ≤ 3) then -1 else if ¬ qPt τ k i = 0 then -10 - qPt τ k i else 1
def ns_put (τ : mS) (k i v : Int) : mS := if ¬ (0 ≤ k ∧ k ≤ 3) then mUp τ 0 8 0 else if ¬ qPt τ k i = 0 then mUp τ 0 8 (qPt τ k i) else mUp (mUp τ 0 8 0) (12 + k) i (qCut (τ 10 k) v)
def qCe (τ : mS) (k i l : Int) : Int := if τ 10 k = -1 then 1 else if ¬ τ 10 k = l then 2 else if ¬ (0 ≤ i ∧ i < τ 11 k) then 3 else 0
def sp_cell (τ : mS) (k i l : Int) : Int := if ¬ (0 ≤ k ∧ k ≤ 3) ∨ ¬ (0 ≤ l ∧ l ≤ 2) then -9223372036854775808 else if ¬ qCe τ k i l = 0 then -9223372036854775808 else τ (12 + k) i
def ns_cell (τ : mS) (k i l : Int) : mS := if ¬ (0 ≤ k ∧ k ≤ 3) ∨ ¬ (0 ≤ l ∧ l ≤ 2) then mUp τ 0 8 0 else mUp τ 0 8 (qCe τ k i l)
theorem qZr_0 (τ : mS) (k : Int) : qZr τ k 0 = τ := by
  funext a b
  unfold qZr
  rw [if_neg (by omega)]
theorem qZr_next (τ : mS) {k j : Int} (h : 0 ≤ j) : mUp (qZr τ k j) (12 + k) j 0 = qZr τ k (j + 1) := by
  funext a b
  unfold qZr mUp
  dsimp only
  by_cases q : a = 12 + k ∧ b = j
  · rw [if_pos q, if_pos (by omega)]
  · rw [if_neg q]
    by_cases q2 : a = 12 + k ∧ 0 ≤ b ∧ b < j
    · rw [if_pos q2, if_pos (by omega)]
    · rw [if_neg q2, if_neg (by omega)]
set_option maxRecDepth 100000 in
set_option maxHeartbeats 2000000 in
theorem c_X8_against {l : Launch} {D : va_G} {cs : mC} {ad : Int → Nat} (σ : mS) (k l9 i n : Int) (hR : mRaw σ) (k0 : 0 ≤ k) (k1 : k < 4) (hl : i32 l9) (hi : i32 i) (hn : i32 n) : CI l (gM D cs ad) M_X8_against 0 [.ref (ad 0), mI k, mI l9, mI i, mI n] σ (fun z s => z = qAg (vM σ) k l9 i n ∧ s = σ) := by
  refine CI.of (by decide) (Nat.le_of_ble_eq_true rfl) (fun x h hq => ?_)
  show mG x 0 [(0, .ref (ad 0)), (1, mI k), (2, mI l9), (3, mI i), (4, mI n)] [] σ
  have hk := hR k k0 k1
  have e10 := vM_so σ k0 k1
  have e11 := vM_le σ k0 k1
  obtain ⟨hl1, hl2⟩ := hl; obtain ⟨hi1, hi2⟩ := hi; obtain ⟨hn1, hn2⟩ := hn
  refine g_aload_n h dX8_against_0 rfl ?_
  refine gm_sorts h dX8_against_1 lf_RX8_9 ?_
  refine g_iload_n h dX8_against_4 rfl ?_
  refine lm_sorts h dX8_against_5 (by omega) (by omega) ?_
  refine g_bipush h dX8_against_6 (by decide) ?_
  refine g_icmp_eq (tgt := 23) h dX8_against_8 (by decide) ⟨by omega, by omega⟩ ⟨by omega, by omega⟩ (fun c8 => ?_) (fun c8 => ?_)
  · refine g_aload_n h dX8_against_23 rfl ?_
    refine gm_sorts h dX8_against_24 lf_RX8_9 ?_
    refine g_iload_n h dX8_against_27 rfl ?_
    refine lm_sorts h dX8_against_28 (by omega) (by omega) ?_
    refine g_bipush h dX8_against_29 (by decide) ?_
    refine g_icmp_ne (tgt := 36) h dX8_against_31 (by decide) ⟨by omega, by omega⟩ ⟨by omega, by omega⟩ (fun c31 => ?_) (fun c31 => ?_)
    · refine g_iload h dX8_against_36 rfl ?_
      refine g_if_ge (tgt := 43) h dX8_against_38 (by decide) ⟨by omega, by omega⟩ (fun c38 => ?_) (fun c38 => ?_)
      · refine g_iload_n h dX8_against_43 rfl ?_
        refine g_if_lt (tgt := 70) h dX8_against_44 (by decide) ⟨by omega, by omega⟩ (fun c44 => ?_) (fun c44 => ?_)
        · refine g_iconst h dX8_against_70 rfl ?_
          refine g_goto (tgt := 75) h dX8_against_71 (by decide) ?_
          refine g_iret h hq rfl dX8_against_75 ?_
          refine ⟨?_, rfl⟩
          unfold qAg
          rw [e10, e11]
          by_cases q : σ 1 k = -9
          · rw [if_pos q, if_pos q]
            first | rfl | omega
          · rw [if_neg q, if_neg q]
            repeat' split
            all_goals omega
        · refine g_iload_n h dX8_against_47 rfl ?_
          refine g_aload_n h dX8_against_48 rfl ?_
          refine gm_sheetLong h dX8_against_49 lf_RX8_13 ?_
          refine g_iload_n h dX8_against_52 rfl ?_
          refine lm_sheetLong h dX8_against_53 (by omega) (by omega) ?_
          refine g_icmp_gt (tgt := 70) h dX8_against_54 (by decide) ⟨by omega, by omega⟩ ⟨by omega, by omega⟩ (fun c54 => ?_) (fun c54 => ?_)
          · refine g_iconst h dX8_against_70 rfl ?_
            refine g_goto (tgt := 75) h dX8_against_71 (by decide) ?_
            refine g_iret h hq rfl dX8_against_75 ?_
            refine ⟨?_, rfl⟩
            unfold qAg
            rw [e10, e11]
            by_cases q : σ 1 k = -9
            · rw [if_pos q, if_pos q]
              first | rfl | omega
            · rw [if_neg q, if_neg q]
              repeat' split
              all_goals omega
          · refine g_iload h dX8_against_57 rfl ?_
            refine g_aload_n h dX8_against_59 rfl ?_
            refine gm_sheetLong h dX8_against_60 lf_RX8_13 ?_
            refine g_iload_n h dX8_against_63 rfl ?_
            refine lm_sheetLong h dX8_against_64 (by omega) (by omega) ?_
            refine g_iload_n h dX8_against_65 rfl ?_
            refine g_isub h dX8_against_66 ?_
            refine g_icmp_le (tgt := 74) h dX8_against_67 (by decide) ⟨by omega, by omega⟩ ⟨by omega, by omega⟩ (fun c67 => ?_) (fun c67 => ?_)
            · refine g_iconst h dX8_against_74 rfl ?_
              refine g_iret h hq rfl dX8_against_75 ?_
              refine ⟨?_, rfl⟩
              unfold qAg
              rw [e10, e11]
              by_cases q : σ 1 k = -9
              · rw [if_pos q, if_pos q]
                first | rfl | omega
              · rw [if_neg q, if_neg q]
                repeat' split
                all_goals omega
            · refine g_iconst h dX8_against_70 rfl ?_
              refine g_goto (tgt := 75) h dX8_against_71 (by decide) ?_
              refine g_iret h hq rfl dX8_against_75 ?_
              refine ⟨?_, rfl⟩
              unfold qAg
              rw [e10, e11]
              by_cases q : σ 1 k = -9
              · rw [if_pos q, if_pos q]
                first | rfl | omega
              · rw [if_neg q, if_neg q]
                repeat' split
                all_goals omega
      · refine g_iconst h dX8_against_41 rfl ?_
        refine g_iret h hq rfl dX8_against_42 ?_
        refine ⟨?_, rfl⟩
        unfold qAg
        rw [e10, e11]
        by_cases q : σ 1 k = -9
        · rw [if_pos q, if_pos q]
          first | rfl | omega
        · rw [if_neg q, if_neg q]
          repeat' split
          all_goals omega
    · refine g_iconst h dX8_against_34 rfl ?_
      refine g_iret h hq rfl dX8_against_35 ?_
      refine ⟨?_, rfl⟩
      unfold qAg
      rw [e10, e11]
      by_cases q : σ 1 k = -9
      · rw [if_pos q, if_pos q]
        first | rfl | omega
      · rw [if_neg q, if_neg q]
        repeat' split
        all_goals omega
  · refine g_aload_n h dX8_against_11 rfl ?_
    refine gm_sorts h dX8_against_12 lf_RX8_9 ?_
    refine g_iload_n h dX8_against_15 rfl ?_
    refine lm_sorts h dX8_against_16 (by omega) (by omega) ?_
    refine g_iload_n h dX8_against_17 rfl ?_
    refine g_icmp_eq (tgt := 23) h dX8_against_18 (by decide) ⟨by omega, by omega⟩ ⟨by omega, by omega⟩ (fun c18 => ?_) (fun c18 => ?_)
    · refine g_aload_n h dX8_against_23 rfl ?_
      refine gm_sorts h dX8_against_24 lf_RX8_9 ?_
      refine g_iload_n h dX8_against_27 rfl ?_
      refine lm_sorts h dX8_against_28 (by omega) (by omega) ?_
      refine g_bipush h dX8_against_29 (by decide) ?_
      refine g_icmp_ne (tgt := 36) h dX8_against_31 (by decide) ⟨by omega, by omega⟩ ⟨by omega, by omega⟩ (fun c31 => ?_) (fun c31 => ?_)
      · refine g_iload h dX8_against_36 rfl ?_
        refine g_if_ge (tgt := 43) h dX8_against_38 (by decide) ⟨by omega, by omega⟩ (fun c38 => ?_) (fun c38 => ?_)
        · refine g_iload_n h dX8_against_43 rfl ?_
          refine g_if_lt (tgt := 70) h dX8_against_44 (by decide) ⟨by omega, by omega⟩ (fun c44 => ?_) (fun c44 => ?_)
          · refine g_iconst h dX8_against_70 rfl ?_
            refine g_goto (tgt := 75) h dX8_against_71 (by decide) ?_
            refine g_iret h hq rfl dX8_against_75 ?_
            refine ⟨?_, rfl⟩
            unfold qAg
            rw [e10, e11]
            by_cases q : σ 1 k = -9
            · rw [if_pos q, if_pos q]
              first | rfl | omega
            · rw [if_neg q, if_neg q]
              repeat' split
              all_goals omega
          · refine g_iload_n h dX8_against_47 rfl ?_
            refine g_aload_n h dX8_against_48 rfl ?_
            refine gm_sheetLong h dX8_against_49 lf_RX8_13 ?_
            refine g_iload_n h dX8_against_52 rfl ?_
            refine lm_sheetLong h dX8_against_53 (by omega) (by omega) ?_
            refine g_icmp_gt (tgt := 70) h dX8_against_54 (by decide) ⟨by omega, by omega⟩ ⟨by omega, by omega⟩ (fun c54 => ?_) (fun c54 => ?_)
            · refine g_iconst h dX8_against_70 rfl ?_
              refine g_goto (tgt := 75) h dX8_against_71 (by decide) ?_
              refine g_iret h hq rfl dX8_against_75 ?_
              refine ⟨?_, rfl⟩
              unfold qAg
              rw [e10, e11]
              by_cases q : σ 1 k = -9
              · rw [if_pos q, if_pos q]
                first | rfl | omega
              · rw [if_neg q, if_neg q]
                repeat' split
                all_goals omega
            · refine g_iload h dX8_against_57 rfl ?_
              refine g_aload_n h dX8_against_59 rfl ?_
              refine gm_sheetLong h dX8_against_60 lf_RX8_13 ?_
              refine g_iload_n h dX8_against_63 rfl ?_
              refine lm_sheetLong h dX8_against_64 (by omega) (by omega) ?_
              refine g_iload_n h dX8_against_65 rfl ?_
              refine g_isub h dX8_against_66 ?_
              refine g_icmp_le (tgt := 74) h dX8_against_67 (by decide) ⟨by omega, by omega⟩ ⟨by omega, by omega⟩ (fun c67 => ?_) (fun c67 => ?_)
              · refine g_iconst h dX8_against_74 rfl ?_
                refine g_iret h hq rfl dX8_against_75 ?_
                refine ⟨?_, rfl⟩
                unfold qAg
                rw [e10, e11]
                by_cases q : σ 1 k = -9
                · rw [if_pos q, if_pos q]
                  first | rfl | omega
                · rw [if_neg q, if_neg q]
                  repeat' split
                  all_goals omega
              · refine g_iconst h dX8_against_70 rfl ?_
                refine g_goto (tgt := 75) h dX8_against_71 (by decide) ?_
                refine g_iret h hq rfl dX8_against_75 ?_
                refine ⟨?_, rfl⟩
                unfold qAg
                rw [e10, e11]
                by_cases q : σ 1 k = -9
                · rw [if_pos q, if_pos q]
                  first | rfl | omega
                · rw [if_neg q, if_neg q]
                  repeat' split
                  all_goals omega
        · refine g_iconst h dX8_against_41 rfl ?_
          refine g_iret h hq rfl dX8_against_42 ?_
          refine ⟨?_, rfl⟩
          unfold qAg
          rw [e10, e11]
          by_cases q : σ 1 k = -9
          · rw [if_pos q, if_pos q]
            first | rfl | omega
          · rw [if_neg q, if_neg q]
            repeat' split
            all_goals omega
      · refine g_iconst h dX8_against_34 rfl ?_
        refine g_iret h hq rfl dX8_against_35 ?_
        refine ⟨?_, rfl⟩
        unfold qAg
        rw [e10, e11]
        by_cases q : σ 1 k = -9
        · rw [if_pos q, if_pos q]
          first | rfl | omega
        · rw [if_neg q, if_neg q]
          repeat' split
          all_goals omega
    · refine g_iconst h dX8_against_21 rfl ?_
      refine g_iret h hq rfl dX8_against_22 ?_
      refine ⟨?_, rfl⟩
      unfold qAg
      rw [e10, e11]
      by_cases q : σ 1 k = -9
      · rw [if_pos q, if_pos q]
        first | rfl | omega
      · rw [if_neg q, if_neg q]
        repeat' split
        all_goals omega
set_option maxRecDepth 100000 in
set_option maxHeartbeats 2000000 in
theorem lp_X8_sheet {x : mX} {l : Launch} {D : va_G} {cs : mC} {ad : Int → Nat} {post : Int → mS → Prop} (h : mOk x l M_X8_sheet 2 (gM D cs ad)) (hq : rI x (gM D cs ad) post) {σ0 τ : mS} {k l9 n : Int} (k0 : 0 ≤ k) (k1 : k < 4) (hp : ∀ s : mS, mEnd (qZr τ k 60) s → post 1 s) : ∀ (f : Nat) (j : Int) (s : mS), 0 ≤ j → j ≤ 60 → 60 - j < f → mEnd (qZr τ k j) s → mG x 57 [(0, .ref (ad 0)), (1, mI k), (2, mI l9), (3, mI n), (4, mI j)] [] s := by
  intro f
  induction f with
  | zero => intro j s h0 h1 h2; omega
  | succ f ih =>
    intro j s h0 h1 h2 hs
    refine g_iload h dX8_sheet_57 rfl ?_
    refine g_bipush h dX8_sheet_59 (by decide) ?_
    refine g_icmp_ge (tgt := 83) h dX8_sheet_61 (by decide) (by first | exact hR _ _ | exact ⟨by omega, by omega⟩) (by first | exact hR _ _ | exact ⟨by omega, by omega⟩) (fun c61 => ?_) (fun c61 => ?_)
    · refine g_iconst h dX8_sheet_83 rfl ?_
      refine g_iret h hq rfl dX8_sheet_84 (hp s (by rw [show (60 : Int) = j by omega]; exact hs))
    · refine g_aload_n h dX8_sheet_64 rfl ?_
      refine gm_cells h dX8_sheet_65 lf_RX8_16 ?_
      refine g_bipush h dX8_sheet_68 (by decide) ?_
      refine g_iload_n h dX8_sheet_70 rfl ?_
      refine g_imul h dX8_sheet_71 ?_
      refine g_iload h dX8_sheet_72 rfl ?_
      refine g_iadd h dX8_sheet_74 ?_
      refine g_iconst h dX8_sheet_75 rfl ?_
      refine sm_cells h dX8_sheet_76 (by omega) (by omega) ?_
      refine g_iinc h dX8_sheet_77 rfl (by decide) rfl ?_
      refine g_goto (tgt := 57) h dX8_sheet_80 (by decide) ?_
      exact ih (j + 1) _ (by omega) (by omega) (by omega) (by rw [← qZr_next τ h0]; exact hs.up (vM_up_ce s 0 k0 k1 h0 (by omega)) (by omega))
set_option maxRecDepth 100000 in
set_option maxHeartbeats 2000000 in
theorem c_X8_sheet {l : Launch} {D : va_G} {cs : mC} {ad : Int → Nat} (σ : mS) (k l9 n : Int) (hk : i32 k) (hl : i32 l9) (hn : i32 n) (hO : mOK σ) : CI l (gM D cs ad) M_X8_sheet 2 [.ref (ad 0), mI k, mI l9, mI n] σ (fun z s => z = sp_sheet k l9 n ∧ mEnd (ns_sheet (vM σ) k l9 n) s) := by
  refine CI.of (by decide) (Nat.le_of_ble_eq_true rfl) (fun x h hq => ?_)
  show mG x 0 [(0, .ref (ad 0)), (1, mI k), (2, mI l9), (3, mI n)] [] σ
  have hW := hO.2.2
  have hRw := hO.2.1
  have hE := hO.endd
  have hE0 := hE.up (vM_up_fault σ 0) (by omega)
  obtain ⟨hn1, hn2⟩ := id hn
  refine g_aload_n h dX8_sheet_0 rfl ?_
  refine g_iconst h dX8_sheet_1 rfl ?_
  refine pm_fault h dX8_sheet_2 lf_RX8_63 ?_
  refine g_iload_n h dX8_sheet_5 rfl ?_
  refine g_sI h (c_X8_isSheet _ _ hk) (by decide) lm_RX8_82 dX8_sheet_6 rfl (Nat.le_of_ble_eq_true rfl) (fun z6 s6 p6 => ?_)
  obtain ⟨e6, r6⟩ := p6; subst e6; replace r6 := Eq.symm r6; subst r6
  refine g_ifb_ne (tgt := 14) h dX8_sheet_9 (by decide)  (fun c9 => ?_) (fun c9 => ?_)
  · refine g_iload_n h dX8_sheet_14 rfl ?_
    refine g_sI h (c_X8_isSort _ _ hl) (by decide) lm_RX8_86 dX8_sheet_15 rfl (Nat.le_of_ble_eq_true rfl) (fun z15 s15 p15 => ?_)
    obtain ⟨e15, r15⟩ := p15; subst e15; replace r15 := Eq.symm r15; subst r15
    refine g_ifb_eq (tgt := 27) h dX8_sheet_18 (by decide)  (fun c18 => ?_) (fun c18 => ?_)
    · refine g_bipush h dX8_sheet_27 (by decide) ?_
      refine g_iret h hq rfl dX8_sheet_29 ⟨by unfold sp_sheet; rw [if_neg (fun z => z c9), if_pos (Or.inl c18)], by unfold ns_sheet; rw [if_neg (fun z => z c9), if_pos (Or.inl c18)]; exact hE0⟩
    · refine g_iload_n h dX8_sheet_21 rfl ?_
      refine g_bipush h dX8_sheet_22 (by decide) ?_
      refine g_icmp_le (tgt := 30) h dX8_sheet_24 (by decide) hn ⟨by omega, by omega⟩ (fun c24 => ?_) (fun c24 => ?_)
      · have c24b : ¬ (¬ (0 ≤ l9 ∧ l9 ≤ 2) ∨ 60 < n) := by omega
        refine g_iload_n h dX8_sheet_30 rfl ?_
        refine g_if_ge (tgt := 40) h dX8_sheet_31 (by decide) hn (fun c31 => ?_) (fun c31 => ?_)
        · refine g_aload_n h dX8_sheet_40 rfl ?_
          refine gm_sorts h dX8_sheet_41 lf_RX8_9 ?_
          refine g_iload_n h dX8_sheet_44 rfl ?_
          refine g_iload_n h dX8_sheet_45 rfl ?_
          refine sm_sorts h dX8_sheet_46 (by omega) (by omega) ?_
          refine g_aload_n h dX8_sheet_47 rfl ?_
          refine gm_sheetLong h dX8_sheet_48 lf_RX8_13 ?_
          refine g_iload_n h dX8_sheet_51 rfl ?_
          refine g_iload_n h dX8_sheet_52 rfl ?_
          refine sm_sheetLong h dX8_sheet_53 (by omega) (by omega) ?_
          refine g_iconst h dX8_sheet_54 rfl ?_
          refine g_istore h dX8_sheet_55 (by decide) rfl ?_
          have hEs : mEnd (mUp (mUp (mUp (vM σ) 0 8 0) 10 k l9) 11 k n) (mUp (mUp (mUp σ 0 0 0) 1 k l9) 2 k n) := by
            obtain ⟨e1, e2, e3⟩ := hE0
            refine ⟨by rw [vM_sheet _ c9.1 (by omega) (by omega), e1], (e2.up (by omega)).up (by omega), fun q q0 q1 => ?_⟩
            have := e3 q q0 q1
            rw [mUp_off _ _ _ (show (1 : Int) ≠ 2 by omega)]
            by_cases w : q = k
            · rw [w, mUp_eq, mUp_eq]; omega
            · rw [mUp_ne _ _ (Or.inr w), mUp_ne _ _ (Or.inr w), mUp_ne _ _ (Or.inl (by omega))]; exact this
          exact lp_X8_sheet h hq (σ0 := σ) (τ := mUp (mUp (mUp (vM σ) 0 8 0) 10 k l9) 11 k n) c9.1 (by omega) (fun s hs => ⟨by unfold sp_sheet; rw [if_neg (fun z => z c9), if_neg c24b, if_neg (by omega)], by unfold ns_sheet; rw [if_neg (fun z => z c9), if_neg c24b, if_neg (by omega)]; exact hs⟩) 61 0 _ (by omega) (by omega) (by omega) (by rw [qZr_0]; exact hEs)
        · refine g_aload_n h dX8_sheet_34 rfl ?_
          refine g_iconst h dX8_sheet_35 rfl ?_
          refine g_vI h (c_X8_fails _ _) (by decide) lm_RX8_93 (rvM rfl) dX8_sheet_36 rfl (Nat.le_of_ble_eq_true rfl) (fun z36 s36 p36 => ?_)
          obtain ⟨e36, r36⟩ := p36; subst e36; replace r36 := Eq.symm r36; subst r36
          refine g_iret h hq rfl dX8_sheet_39 ⟨by unfold sp_sheet; rw [if_neg (fun z => z c9), if_neg c24b, if_pos (by omega)]; rfl, by unfold ns_sheet; rw [if_neg (fun z => z c9), if_neg c24b, if_pos (by omega), mUp_up]; exact hE.up (vM_up_fault σ 4) (by omega)⟩
      · refine g_bipush h dX8_sheet_27 (by decide) ?_
        refine g_iret h hq rfl dX8_sheet_29 ⟨by unfold sp_sheet; rw [if_neg (fun z => z c9), if_pos (Or.inr (by omega))], by unfold ns_sheet; rw [if_neg (fun z => z c9), if_pos (Or.inr (by omega))]; exact hE0⟩
  · refine g_iconst h dX8_sheet_12 rfl ?_
    refine g_iret h hq rfl dX8_sheet_13 ⟨by unfold sp_sheet; rw [if_pos c9], by unfold ns_sheet; rw [if_pos c9]; exact hE0⟩
set_option maxRecDepth 100000 in
set_option maxHeartbeats 2000000 in
theorem c_X8_lose {l : Launch} {D : va_G} {cs : mC} {ad : Int → Nat} (σ : mS) (k : Int) (hk : i32 k) (hO : mOK σ) : CI l (gM D cs ad) M_X8_lose 2 [.ref (ad 0), mI k] σ (fun z s => z = sp_lose (vM σ) k ∧ mEnd (ns_lose (vM σ) k) s) := by
  refine CI.of (by decide) (Nat.le_of_ble_eq_true rfl) (fun x h hq => ?_)
  show mG x 0 [(0, .ref (ad 0)), (1, mI k)] [] σ
  have hW := hO.2.2
  have hRw := hO.2.1
  have hE := hO.endd
  have hE0 := hE.up (vM_up_fault σ 0) (by omega)
  refine g_iload_n h dX8_lose_0 rfl ?_
  refine g_sI h (c_X8_isSheet _ _ hk) (by decide) lm_RX8_82 dX8_lose_1 rfl (Nat.le_of_ble_eq_true rfl) (fun z1 s1 p1 => ?_)
  obtain ⟨e1, r1⟩ := p1; subst e1; replace r1 := Eq.symm r1; subst r1
  refine g_ifb_ne (tgt := 9) h dX8_lose_4 (by decide)  (fun c4 => ?_) (fun c4 => ?_)
  · have hkr := hRw k c4.1 (by omega)
    have e10 := vM_so σ c4.1 (show k < 4 by omega)
    have hEl : mEnd (ns_lose (vM σ) k) (mUp σ 1 k (-9)) := by
      unfold ns_lose
      rw [if_neg (fun z => z c4)]
      refine ⟨vM_lose σ c4.1 (by omega), hO.1.up (by omega), fun q q0 q1 => ?_⟩
      have := hRw q q0 q1
      rw [mUp_off σ _ _ (show (2 : Int) ≠ 1 by omega)]
      by_cases w : q = k
      · rw [w, mUp_eq, ← w]; omega
      · rw [mUp_ne _ _ (Or.inr w)]; exact this
    refine g_aload_n h dX8_lose_9 rfl ?_
    refine gm_sorts h dX8_lose_10 lf_RX8_9 ?_
    refine g_iload_n h dX8_lose_13 rfl ?_
    refine lm_sorts h dX8_lose_14 (by omega) (by omega) ?_
    refine g_bipush h dX8_lose_15 (by decide) ?_
    refine g_icmp_ne (tgt := 24) h dX8_lose_17 (by decide) ⟨by omega, by omega⟩ ⟨by omega, by omega⟩ (fun c17 => ?_) (fun c17 => ?_)
    · refine g_iconst h dX8_lose_24 rfl ?_
      refine g_istore_n h dX8_lose_25 (by decide) rfl ?_
      refine g_aload_n h dX8_lose_26 rfl ?_
      refine gm_sorts h dX8_lose_27 lf_RX8_9 ?_
      refine g_iload_n h dX8_lose_30 rfl ?_
      refine g_bipush h dX8_lose_31 (by decide) ?_
      refine sm_sorts h dX8_lose_33 (by omega) (by omega) ?_
      refine g_iload_n h dX8_lose_34 rfl ?_
      refine g_iret h hq rfl dX8_lose_35 ⟨by unfold sp_lose; rw [if_neg (fun z => z c4), e10, if_neg c17, if_neg (by omega)], hEl⟩
    · refine g_iconst h dX8_lose_20 rfl ?_
      refine g_goto (tgt := 25) h dX8_lose_21 (by decide) ?_
      refine g_istore_n h dX8_lose_25 (by decide) rfl ?_
      refine g_aload_n h dX8_lose_26 rfl ?_
      refine gm_sorts h dX8_lose_27 lf_RX8_9 ?_
      refine g_iload_n h dX8_lose_30 rfl ?_
      refine g_bipush h dX8_lose_31 (by decide) ?_
      refine sm_sorts h dX8_lose_33 (by omega) (by omega) ?_
      refine g_iload_n h dX8_lose_34 rfl ?_
      refine g_iret h hq rfl dX8_lose_35 ⟨by unfold sp_lose; rw [if_neg (fun z => z c4), e10, if_pos c17, if_pos rfl], hEl⟩
  · refine g_iconst h dX8_lose_7 rfl ?_
    refine g_iret h hq rfl dX8_lose_8 ⟨by unfold sp_lose; rw [if_pos c4], by unfold ns_lose; rw [if_pos c4]; exact hE⟩
