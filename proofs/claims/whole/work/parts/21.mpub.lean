section MSW
variable {x : mX} {l : Launch} {μ : mM} {n : Nat} {Γ : mE} {pc : Nat} {lv : List (Nat × Value)} {st : List Value} {σ : mS}
theorem g_tsOut (h : mOk x l μ n Γ) {a : Int} {dflt lo hi : Int} {offs : Array Int} {len tgt : Nat} (hd : decode μ.2.1 pc = .ok (.tableswitch dflt lo hi offs, len)) (ha : i32 a) (ho : a < lo ∨ hi < a) (ht : (pc : Int) + dflt = (tgt : Int)) (kk : mG x tgt lv st σ) : mG x pc lv (mI a :: st) σ :=
  fun H locs ls hP hS hl => lv_tableOut (x := Int32.ofInt a) h.1 h.2.1 hd (by rw [i32_to ha]; exact ho) ht (kk H locs ls hP hS hl)
theorem g_tsIn (h : mOk x l μ n Γ) {a v : Int} {dflt lo hi : Int} {offs : Array Int} {len tgt : Nat} {off : Int} (hd : decode μ.2.1 pc = .ok (.tableswitch dflt lo hi offs, len)) (e : a = v) (ha : -2147483648 ≤ v ∧ v ≤ 2147483647) (h1 : ¬ v < lo) (h2 : ¬ hi < v) (ho : offs[(v - lo).toNat]? = some off) (ht : (pc : Int) + off = (tgt : Int)) (kk : mG x tgt lv st σ) : mG x pc lv (mI a :: st) σ := by
  subst e
  intro H locs ls hP hS hl
  have q := i32_to (a := a) ha
  exact lv_tableIn (x := Int32.ofInt a) h.1 h.2.1 hd (by rw [q]; exact h1) (by rw [q]; exact h2) (by rw [q]; exact ho) ht (kk H locs ls hP hS hl)
theorem g_lsw (h : mOk x l μ n Γ) {a : Int} {dflt : Int} {ps : Array (Int × Int)} {len tgt : Nat} {off : Int} (hd : decode μ.2.1 pc = .ok (.lookupswitch dflt ps, len)) (hp : (ps.toList.zip (ps.toList.drop 1)).all (fun (a, next) => a.1 < next.1) = true) (ha : i32 a) (ho : Op.lookupswitch.offset ps.toList dflt a = off) (ht : (pc : Int) + off = (tgt : Int)) (kk : mG x tgt lv st σ) : mG x pc lv (mI a :: st) σ :=
  fun H locs ls hP hS hl => lv_lookup (x := Int32.ofInt a) h.1 h.2.1 hd hp (by rw [i32_to ha]; exact ho) ht (kk H locs ls hP hS hl)
end MSW
theorem lsw_df {ps : List (Int × Int)} {d a : Int} (h : ∀ q ∈ ps, ¬ q.1 = a) : Op.lookupswitch.offset ps d a = d := by
  induction ps with
  | nil => rfl
  | cons q r ih =>
    obtain ⟨u, v⟩ := q
    rw [Op.lookupswitch.offset_cons, if_neg (fun z => h (u, v) List.mem_cons_self (by first | exact z | exact z.symm))]
    exact ih (fun q hq => h q (List.mem_cons_of_mem _ hq))
/-- the reference's rows of sheets, well formed -/
def mRaw (σ : mS) : Prop := ∀ k : Int, 0 ≤ k → k < 4 → (σ 1 k = -9 ∨ (0 ≤ σ 1 k ∧ σ 1 k ≤ 2)) ∧ 0 ≤ σ 2 k ∧ σ 2 k ≤ 60
def mOK (σ : mS) : Prop := mIdl σ ∧ mRaw σ ∧ qW (vM σ)
def mEnd (τ : mS) (s : mS) : Prop := vM s = τ ∧ mIdl s ∧ mRaw s
theorem mSc.endd {σ s : mS} (h : mSc σ s) (hO : mOK σ) : mEnd (vM σ) s := by
  obtain ⟨⟨a, b, c⟩, r, -⟩ := hO
  have e0 := h 0 (by omega) (by omega) (by omega)
  refine ⟨h.view, ⟨by rw [e0]; exact a, by rw [e0]; exact b, by rw [e0]; exact c⟩, ?_⟩
  unfold mRaw
  rw [h 1 (by omega) (by omega) (by omega), h 2 (by omega) (by omega) (by omega)]
  exact r
theorem mEnd.up {σ τ : mS} {k j v : Int} (hO : mEnd τ σ) {a b : Int} (hv : vM (mUp σ k j v) = mUp (vM σ) a b v) (hk : (k = 0 ∧ ¬ j = 17 ∧ ¬ j = 18 ∧ ¬ j = 19) ∨ 2 < k) : mEnd (mUp τ a b v) (mUp σ k j v) := by
  obtain ⟨e, i, r⟩ := hO
  refine ⟨by rw [hv, e], i.up (by omega), ?_⟩
  unfold mRaw
  rw [mUp_off σ j v (show (1 : Int) ≠ k by omega), mUp_off σ j v (show (2 : Int) ≠ k by omega)]
  exact r
theorem mOK.endd {σ : mS} (hO : mOK σ) : mEnd (vM σ) σ := ⟨rfl, hO.1, hO.2.1⟩
theorem vM_up_cl (σ : mS) {d : Int} (v : Int) (h0 : 0 ≤ d) (h1 : d < 110) : vM (mUp σ 9 d v) = mUp (vM σ) 6 d v := by
  funext a b
  have hr : ∀ q : Int, ¬ q = 9 → mUp σ 9 d v q = σ q := fun q hq => mUp_off σ d v hq
  by_cases a6 : a = 6
  · subst a6
    by_cases hb : 0 ≤ b ∧ b < 110
    · rw [vM_cl _ hb.1 hb.2]
      by_cases q : b = d
      · rw [q, mUp_eq, mUp_eq]
      · rw [mUp_ne σ v (Or.inr q), mUp_ne _ v (Or.inr q), vM_cl _ hb.1 hb.2]
    · rw [mUp_ne _ v (Or.inr (by omega))]
      simp [vM, hb]
  · rw [mUp_ne _ v (Or.inl a6)]
    unfold vM
    rw [hr 0 (by omega), hr 1 (by omega), hr 2 (by omega), hr 3 (by omega), if_neg a6, if_neg a6]
    by_cases a0 : a = 0
    · rw [if_pos a0, if_pos a0]
    · rw [if_neg a0, if_neg a0]
      by_cases a1 : a < 0
      · rw [if_pos a1, if_pos a1]
      · rw [if_neg a1, if_neg a1]
        by_cases a2 : a < 6
        · rw [if_pos a2, if_pos a2, hr (a + 3) (by omega)]
        · rw [if_neg a2, if_neg a2]
          by_cases a4 : a < 10
          · rw [if_pos a4, if_pos a4, hr (a + 7) (by omega)]
          · rw [if_neg a4, if_neg a4]
theorem vM_up_rd (σ : mS) {r q : Int} (v : Int) (r0 : 14 ≤ r) (r1 : r ≤ 16) (h0 : 0 ≤ q) (h1 : q < 8) : vM (mUp σ r q v) = mUp (vM σ) (r - 7) q v := by
  funext a b
  have hr : ∀ k : Int, ¬ k = r → mUp σ r q v k = σ k := fun k hk => mUp_off σ q v hk
  by_cases a6 : 7 ≤ a ∧ a < 10
  · by_cases hb : 0 ≤ b ∧ b < 8
    · rw [vM_rd _ a6.1 a6.2 hb.1 hb.2]
      by_cases e : a = r - 7 ∧ b = q
      · rw [show a + 7 = r by omega, e.2, mUp_eq, e.1, mUp_eq]
      · rw [mUp_ne σ v (by omega), mUp_ne _ v (by omega), vM_rd _ a6.1 a6.2 hb.1 hb.2]
    · rw [mUp_ne _ v (Or.inr (by omega))]
      unfold vM
      rw [if_neg (by omega), if_neg (by omega), if_neg (by omega), if_neg (by omega), if_pos a6.2, if_neg hb, if_neg (by omega), if_neg (by omega), if_neg (by omega), if_neg (by omega), if_pos a6.2, if_neg hb]
  · rw [mUp_ne _ v (Or.inl (by omega))]
    unfold vM
    rw [hr 0 (by omega), hr 1 (by omega), hr 2 (by omega), hr 3 (by omega), hr 9 (by omega)]
    by_cases a0 : a = 0
    · rw [if_pos a0, if_pos a0]
    · rw [if_neg a0, if_neg a0]
      by_cases a1 : a < 0
      · rw [if_pos a1, if_pos a1]
      · rw [if_neg a1, if_neg a1]
        by_cases a2 : a < 6
        · rw [if_pos a2, if_pos a2, hr (a + 3) (by omega)]
        · rw [if_neg a2, if_neg a2]
          by_cases a3 : a = 6
          · rw [if_pos a3, if_pos a3]
          · rw [if_neg a3, if_neg a3, if_neg (show ¬ a < 10 by omega), if_neg (show ¬ a < 10 by omega)]
/-! what they answer, and what becomes of τ -/
def sp_many (τ : mS) (w : Int) : Int := if w = 0 then τ 0 4 else if w = 1 then τ 0 0 else if w = 2 then τ 0 3 else if w = 3 then τ 0 6 else if w = 4 then τ 0 5 else -2
def sp_ofBill (τ : mS) (b w : Int) : Int := if ¬ (0 ≤ b ∧ b < τ 0 4) then -1 else if 0 ≤ w ∧ w ≤ 4 then τ (w + 1) b else -2
def sp_moon (τ : mS) (m : Int) : Int := if ¬ (0 ≤ m ∧ m ≤ 99) then -2 else if τ 0 4 = 0 then -3 else qMd τ m
def sp_span (τ : mS) (v : Int) : Int := if ¬ (0 ≤ v ∧ v ≤ 9) then -2 else if τ 0 4 = 0 then -3 else τ 0 3
def ns_span (τ : mS) (v : Int) : mS := if ¬ (0 ≤ v ∧ v ≤ 9) then τ else if τ 0 4 = 0 then τ else mUp τ 0 3 v
def sp_move (τ : mS) (b d : Int) : Int := if ¬ (0 ≤ b ∧ b < τ 0 4) then -1 else if ¬ (0 ≤ d ∧ d ≤ 99) then -2 else τ 2 b
def ns_move (τ : mS) (b d : Int) : mS := if ¬ (0 ≤ b ∧ b < τ 0 4) then τ else if ¬ (0 ≤ d ∧ d ≤ 99) then τ else mUp τ 2 b d
def sp_cloud (τ : mS) (d i : Int) : Int := if ¬ (0 ≤ d ∧ d ≤ 109) then -2 else if τ 0 4 = 0 then -3 else if τ 6 d = i then 0 else 1
def ns_cloud (τ : mS) (d i : Int) : mS := if ¬ (0 ≤ d ∧ d ≤ 109) then τ else if τ 0 4 = 0 then τ else mUp (mUp τ 6 d i) 0 5 (τ 0 5 + (if τ 6 d = i then 0 else if i = 0 then -1 else 1))
def sp_tell (τ : mS) (b : Int) : Int := if ¬ (0 ≤ b ∧ b < τ 0 4) then -1 else if τ 1 b = 1 then τ 5 b + 100 else if τ 1 b = 2 then 2 * τ 5 b + 100 else τ 5 b
def ns_tell (τ : mS) (b : Int) : mS := if ¬ (0 ≤ b ∧ b < τ 0 4) then τ else mUp τ 0 7 (if τ 1 b = 1 then 31 * (31 * τ 0 7 + 2) + 1 else if τ 1 b = 2 then 31 * (31 * (31 * (31 * τ 0 7 + 3) + 2) + 1) + 1 else 31 * τ 0 7 + 1)
def sp_seal (τ : mS) (b : Int) : Int := if ¬ (0 ≤ b ∧ b < τ 0 4) then -1 else if τ 1 b = 2 then 40 else b
def ns_seal (τ : mS) (b : Int) : mS := if ¬ (0 ≤ b ∧ b < τ 0 4) then τ else mUp τ 0 7 (31 * τ 0 7 + (if τ 1 b = 2 then 5 else 4))
def sp_as (τ : mS) (b k : Int) : Int := if ¬ (0 ≤ b ∧ b < τ 0 4) then -1 else if ¬ (0 ≤ k ∧ k ≤ 2) then -2 else if τ 1 b < k then -12 else 1
def ns_as (τ : mS) (b k : Int) : mS := mUp τ 0 8 (if (0 ≤ b ∧ b < τ 0 4) ∧ (0 ≤ k ∧ k ≤ 2) ∧ τ 1 b < k then 2 else 0)
def sp_reading (τ : mS) (b d : Int) : Int := if ¬ (0 ≤ b ∧ b < τ 0 4) then -1 else if ¬ (0 ≤ d ∧ d ≤ 109) then -2 else if τ 0 6 = 8 then -4 else τ 0 6
def ns_reading (τ : mS) (b d i : Int) : mS := if ¬ (0 ≤ b ∧ b < τ 0 4) then τ else if ¬ (0 ≤ d ∧ d ≤ 109) then τ else if τ 0 6 = 8 then τ else mUp (mUp (mUp (mUp τ 7 (τ 0 6) b) 8 (τ 0 6) d) 9 (τ 0 6) i) 0 6 (τ 0 6 + 1)
def sp_back (τ : mS) (k : Int) : Int := if ¬ (0 ≤ k ∧ k ≤ τ 0 6) then -2 else τ 0 6 - k
def ns_back (τ : mS) (k : Int) : mS := if ¬ (0 ≤ k ∧ k ≤ τ 0 6) then τ else mUp τ 0 6 (τ 0 6 - k)
set_option maxRecDepth 100000 in
set_option maxHeartbeats 2000000 in
theorem c_X8_many {l : Launch} {D : va_G} {cs : mC} {ad : Int → Nat} (σ : mS) (w : Int) (hw : i32 w) (hO : mOK σ) : CI l (gM D cs ad) M_X8_many 0 [.ref (ad 0), mI w] σ (fun z s => z = sp_many (vM σ) w ∧ mEnd (vM σ) s) := by
  refine CI.of (by decide) (Nat.le_of_ble_eq_true rfl) (fun x h hq => ?_)
  show mG x 0 [(0, .ref (ad 0)), (1, mI w)] [] σ
  have hW := hO.2.2
  have hn0 : 0 ≤ σ 0 9 := hW.1.1
  have hn6 : σ 0 9 ≤ 6 := hW.1.2.1
  have e4 : vM σ 0 4 = σ 0 9 := rfl
  have hE := hO.endd
  refine g_iload_n h dX8_many_0 rfl ?_
  rcases (show w < 0 ∨ 4 < w ∨ w = 0 ∨ w = 1 ∨ w = 2 ∨ w = 3 ∨ w = 4 by omega) with c1 | c1 | c1 | c1 | c1 | c1 | c1
  · refine g_tsOut (tgt := 61) h dX8_many_1 hw (Or.inl c1) (by decide) ?_
    refine g_bipush h dX8_many_61 (by decide) ?_
    refine g_iret h hq rfl dX8_many_63 ⟨by unfold sp_many; rw [if_neg (by omega), if_neg (by omega), if_neg (by omega), if_neg (by omega), if_neg (by omega)], hE⟩
  · refine g_tsOut (tgt := 61) h dX8_many_1 hw (Or.inr c1) (by decide) ?_
    refine g_bipush h dX8_many_61 (by decide) ?_
    refine g_iret h hq rfl dX8_many_63 ⟨by unfold sp_many; rw [if_neg (by omega), if_neg (by omega), if_neg (by omega), if_neg (by omega), if_neg (by omega)], hE⟩
  · refine g_tsIn (tgt := 36) (off := 35) h dX8_many_1 c1 (by decide) (by decide) (by decide) rfl (by decide) ?_
    refine g_aload_n h dX8_many_36 rfl ?_
    refine gm_bills h dX8_many_37 lf_RX8_72 ?_
    refine g_iret h hq rfl dX8_many_40 ⟨by rw [c1]; rfl, hE⟩
  · refine g_tsIn (tgt := 41) (off := 40) h dX8_many_1 c1 (by decide) (by decide) (by decide) rfl (by decide) ?_
    refine g_aload_n h dX8_many_41 rfl ?_
    refine gm_origin h dX8_many_42 lf_RX8_103 ?_
    refine g_iret h hq rfl dX8_many_45 ⟨by rw [c1]; rfl, hE⟩
  · refine g_tsIn (tgt := 46) (off := 45) h dX8_many_1 c1 (by decide) (by decide) (by decide) rfl (by decide) ?_
    refine g_aload_n h dX8_many_46 rfl ?_
    refine gm_span h dX8_many_47 lf_RX8_121 ?_
    refine g_iret h hq rfl dX8_many_50 ⟨by rw [c1]; rfl, hE⟩
  · refine g_tsIn (tgt := 51) (off := 50) h dX8_many_1 c1 (by decide) (by decide) (by decide) rfl (by decide) ?_
    refine g_aload_n h dX8_many_51 rfl ?_
    refine gm_readings h dX8_many_52 lf_RX8_130 ?_
    refine g_iret h hq rfl dX8_many_55 ⟨by rw [c1]; rfl, hE⟩
  · refine g_tsIn (tgt := 56) (off := 55) h dX8_many_1 c1 (by decide) (by decide) (by decide) rfl (by decide) ?_
    refine g_aload_n h dX8_many_56 rfl ?_
    refine gm_nights h dX8_many_57 lf_RX8_127 ?_
    refine g_iret h hq rfl dX8_many_60 ⟨by rw [c1]; rfl, hE⟩
set_option maxRecDepth 100000 in
set_option maxHeartbeats 2000000 in
theorem c_X8_ofBill {l : Launch} {D : va_G} {cs : mC} {ad : Int → Nat} (σ : mS) (b w : Int) (hb : i32 b) (hw : i32 w) (hO : mOK σ) : CI l (gM D cs ad) M_X8_ofBill 1 [.ref (ad 0), mI b, mI w] σ (fun z s => z = sp_ofBill (vM σ) b w ∧ mEnd (vM σ) s) := by
  refine CI.of (by decide) (Nat.le_of_ble_eq_true rfl) (fun x h hq => ?_)
  show mG x 0 [(0, .ref (ad 0)), (1, mI b), (2, mI w)] [] σ
  have hW := hO.2.2
  have hn0 : 0 ≤ σ 0 9 := hW.1.1
  have hn6 : σ 0 9 ≤ 6 := hW.1.2.1
  have e4 : vM σ 0 4 = σ 0 9 := rfl
  have hE := hO.endd
  refine g_aload_n h dX8_ofBill_0 rfl ?_
  refine g_iload_n h dX8_ofBill_1 rfl ?_
  refine g_vI h (c_X8_isBill _ _ hb ⟨by omega, by omega⟩) (by decide) lm_RX8_146 (rvM rfl) dX8_ofBill_2 rfl (Nat.le_of_ble_eq_true rfl) (fun z2 s2 p2 => ?_)
  obtain ⟨e2, r2⟩ := p2; subst e2; replace r2 := Eq.symm r2; subst r2
  refine g_ifb_ne (tgt := 10) h dX8_ofBill_5 (by decide)  (fun c5 => ?_) (fun c5 => ?_)
  · refine g_iload_n h dX8_ofBill_10 rfl ?_
    rcases (show w < 0 ∨ 4 < w ∨ w = 0 ∨ w = 1 ∨ w = 2 ∨ w = 3 ∨ w = 4 by omega) with c11 | c11 | c11 | c11 | c11 | c11 | c11
    · refine g_tsOut (tgt := 79) h dX8_ofBill_11 hw (Or.inl c11) (by decide) ?_
      refine g_bipush h dX8_ofBill_79 (by decide) ?_
      refine g_iret h hq rfl dX8_ofBill_81 ⟨by unfold sp_ofBill; rw [e4, if_neg (fun z => z c5), if_neg (by omega)], hE⟩
    · refine g_tsOut (tgt := 79) h dX8_ofBill_11 hw (Or.inr c11) (by decide) ?_
      refine g_bipush h dX8_ofBill_79 (by decide) ?_
      refine g_iret h hq rfl dX8_ofBill_81 ⟨by unfold sp_ofBill; rw [e4, if_neg (fun z => z c5), if_neg (by omega)], hE⟩
    · refine g_tsIn (tgt := 44) (off := 33) h dX8_ofBill_11 c11 (by decide) (by decide) (by decide) rfl (by decide) ?_
      refine g_aload_n h dX8_ofBill_44 rfl ?_
      refine gm_kind h dX8_ofBill_45 lf_RX8_19 ?_
      refine g_iload_n h dX8_ofBill_48 rfl ?_
      refine lm_kind h dX8_ofBill_49 c5.1 (by omega) ?_
      refine g_iret h hq rfl dX8_ofBill_50 ⟨by unfold sp_ofBill; rw [e4, if_neg (fun z => z c5), if_pos (by omega), c11]; exact (vM_b σ (show (1 : Int) ≤ 0 + 1 by omega) (by omega) c5.1 (by omega)).symm, hE⟩
    · refine g_tsIn (tgt := 51) (off := 40) h dX8_ofBill_11 c11 (by decide) (by decide) (by decide) rfl (by decide) ?_
      refine g_aload_n h dX8_ofBill_51 rfl ?_
      refine gm_dayOf h dX8_ofBill_52 lf_RX8_22 ?_
      refine g_iload_n h dX8_ofBill_55 rfl ?_
      refine lm_dayOf h dX8_ofBill_56 c5.1 (by omega) ?_
      refine g_iret h hq rfl dX8_ofBill_57 ⟨by unfold sp_ofBill; rw [e4, if_neg (fun z => z c5), if_pos (by omega), c11]; exact (vM_b σ (show (1 : Int) ≤ 1 + 1 by omega) (by omega) c5.1 (by omega)).symm, hE⟩
    · refine g_tsIn (tgt := 58) (off := 47) h dX8_ofBill_11 c11 (by decide) (by decide) (by decide) rfl (by decide) ?_
      refine g_aload_n h dX8_ofBill_58 rfl ?_
      refine gm_needs h dX8_ofBill_59 lf_RX8_25 ?_
      refine g_iload_n h dX8_ofBill_62 rfl ?_
      refine lm_needs h dX8_ofBill_63 c5.1 (by omega) ?_
      refine g_iret h hq rfl dX8_ofBill_64 ⟨by unfold sp_ofBill; rw [e4, if_neg (fun z => z c5), if_pos (by omega), c11]; exact (vM_b σ (show (1 : Int) ≤ 2 + 1 by omega) (by omega) c5.1 (by omega)).symm, hE⟩
    · refine g_tsIn (tgt := 65) (off := 54) h dX8_ofBill_11 c11 (by decide) (by decide) (by decide) rfl (by decide) ?_
      refine g_aload_n h dX8_ofBill_65 rfl ?_
      refine gm_names h dX8_ofBill_66 lf_RX8_28 ?_
      refine g_iload_n h dX8_ofBill_69 rfl ?_
      refine lm_names h dX8_ofBill_70 c5.1 (by omega) ?_
      refine g_iret h hq rfl dX8_ofBill_71 ⟨by unfold sp_ofBill; rw [e4, if_neg (fun z => z c5), if_pos (by omega), c11]; exact (vM_b σ (show (1 : Int) ≤ 3 + 1 by omega) (by omega) c5.1 (by omega)).symm, hE⟩
    · refine g_tsIn (tgt := 72) (off := 61) h dX8_ofBill_11 c11 (by decide) (by decide) (by decide) rfl (by decide) ?_
      refine g_aload_n h dX8_ofBill_72 rfl ?_
      refine gm_lasts h dX8_ofBill_73 lf_RX8_31 ?_
      refine g_iload_n h dX8_ofBill_76 rfl ?_
      refine lm_lasts h dX8_ofBill_77 c5.1 (by omega) ?_
      refine g_iret h hq rfl dX8_ofBill_78 ⟨by unfold sp_ofBill; rw [e4, if_neg (fun z => z c5), if_pos (by omega), c11]; exact (vM_b σ (show (1 : Int) ≤ 4 + 1 by omega) (by omega) c5.1 (by omega)).symm, hE⟩
  · refine g_iconst h dX8_ofBill_8 rfl ?_
    refine g_iret h hq rfl dX8_ofBill_9 ⟨by unfold sp_ofBill; rw [e4, if_pos c5], hE⟩
set_option maxRecDepth 100000 in
set_option maxHeartbeats 2000000 in
theorem c_X8_moon {l : Launch} {D : va_G} {cs : mC} {ad : Int → Nat} (σ : mS) (n : Int) (hn : i32 n) (hO : mOK σ) : CI l (gM D cs ad) M_X8_moon 1 [.ref (ad 0), mI n] σ (fun z s => z = sp_moon (vM σ) n ∧ mEnd (vM σ) s) := by
  refine CI.of (by decide) (Nat.le_of_ble_eq_true rfl) (fun x h hq => ?_)
  show mG x 0 [(0, .ref (ad 0)), (1, mI n)] [] σ
  have hW := hO.2.2
  have hn0 : 0 ≤ σ 0 9 := hW.1.1
  have hn6 : σ 0 9 ≤ 6 := hW.1.2.1
  have e4 : vM σ 0 4 = σ 0 9 := rfl
  have hE := hO.endd
  refine g_iload_n h dX8_moon_0 rfl ?_
  refine g_iconst h dX8_moon_1 rfl ?_
  refine g_bipush h dX8_moon_2 (by decide) ?_
  refine g_sI h (c_X8_within _ _ _ _ hn ⟨by omega, by omega⟩ ⟨by omega, by omega⟩) (by decide) lm_RX8_68 dX8_moon_4 rfl (Nat.le_of_ble_eq_true rfl) (fun z4 s4 p4 => ?_)
  obtain ⟨e4, r4⟩ := p4; subst e4; replace r4 := Eq.symm r4; subst r4
  refine g_ifb_ne (tgt := 13) h dX8_moon_7 (by decide)  (fun c7 => ?_) (fun c7 => ?_)
  · refine g_aload_n h dX8_moon_13 rfl ?_
    refine gm_bills h dX8_moon_14 lf_RX8_72 ?_
    refine g_if_ne (tgt := 25) h dX8_moon_17 (by decide) (by first | exact hR _ _ | exact ⟨by omega, by omega⟩) (fun c17 => ?_) (fun c17 => ?_)
    · refine g_aload_n h dX8_moon_25 rfl ?_
      refine g_iload_n h dX8_moon_26 rfl ?_
      refine g_vI h (c_moonDay _ _ hW.1 (by omega) (by omega) (by omega)) (by decide) lm_RX8_149 (rvM rfl) dX8_moon_27 rfl (Nat.le_of_ble_eq_true rfl) (fun z27 s27 p27 => ?_)
      obtain ⟨e27, r27⟩ := p27; subst e27; replace r27 := Eq.symm r27; subst r27
      refine g_iret h hq rfl dX8_moon_30 ⟨by unfold sp_moon; rw [if_neg (fun z => z c7), e4, if_neg (by omega)], hE⟩
    · refine g_bipush h dX8_moon_20 (by decide) ?_
      refine g_goto (tgt := 30) h dX8_moon_22 (by decide) ?_
      refine g_iret h hq rfl dX8_moon_30 ⟨by unfold sp_moon; rw [if_neg (fun z => z c7), e4, if_pos (by omega)], hE⟩
  · refine g_bipush h dX8_moon_10 (by decide) ?_
    refine g_iret h hq rfl dX8_moon_12 ⟨by unfold sp_moon; rw [if_pos c7], hE⟩
set_option maxRecDepth 100000 in
set_option maxHeartbeats 2000000 in
theorem c_X8_span {l : Launch} {D : va_G} {cs : mC} {ad : Int → Nat} (σ : mS) (v : Int) (hv : i32 v) (hO : mOK σ) : CI l (gM D cs ad) M_X8_span 1 [.ref (ad 0), mI v] σ (fun z s => z = sp_span (vM σ) v ∧ mEnd (ns_span (vM σ) v) s) := by
  refine CI.of (by decide) (Nat.le_of_ble_eq_true rfl) (fun x h hq => ?_)
  show mG x 0 [(0, .ref (ad 0)), (1, mI v)] [] σ
  have hW := hO.2.2
  have hn0 : 0 ≤ σ 0 9 := hW.1.1
  have hn6 : σ 0 9 ≤ 6 := hW.1.2.1
  have e4 : vM σ 0 4 = σ 0 9 := rfl
  have hE := hO.endd
  refine g_iload_n h dX8_span_0 rfl ?_
  refine g_iconst h dX8_span_1 rfl ?_
  refine g_bipush h dX8_span_2 (by decide) ?_
  refine g_sI h (c_X8_within _ _ _ _ hv ⟨by omega, by omega⟩ ⟨by omega, by omega⟩) (by decide) lm_RX8_68 dX8_span_4 rfl (Nat.le_of_ble_eq_true rfl) (fun z4 s4 p4 => ?_)
  obtain ⟨e4, r4⟩ := p4; subst e4; replace r4 := Eq.symm r4; subst r4
  refine g_ifb_ne (tgt := 13) h dX8_span_7 (by decide)  (fun c7 => ?_) (fun c7 => ?_)
  · refine g_aload_n h dX8_span_13 rfl ?_
    refine gm_bills h dX8_span_14 lf_RX8_72 ?_
    refine g_if_ne (tgt := 23) h dX8_span_17 (by decide) (by first | exact hR _ _ | exact ⟨by omega, by omega⟩) (fun c17 => ?_) (fun c17 => ?_)
    · refine g_aload_n h dX8_span_23 rfl ?_
      refine gm_span h dX8_span_24 lf_RX8_121 ?_
      refine g_istore_n h dX8_span_27 (by decide) rfl ?_
      refine g_aload_n h dX8_span_28 rfl ?_
      refine g_iload_n h dX8_span_29 rfl ?_
      refine pm_span h dX8_span_30 lf_RX8_121 ?_
      refine g_iload_n h dX8_span_33 rfl ?_
      refine g_iret h hq rfl dX8_span_34 ⟨by unfold sp_span; rw [if_neg (fun z => z c7), e4, if_neg (by omega)]; rfl, by unfold ns_span; rw [if_neg (fun z => z c7), e4, if_neg (by omega)]; exact hE.up (vM_up_span σ v) (by omega)⟩
    · refine g_bipush h dX8_span_20 (by decide) ?_
      refine g_iret h hq rfl dX8_span_22 ⟨by unfold sp_span; rw [if_neg (fun z => z c7), e4, if_pos (by omega)], by unfold ns_span; rw [if_neg (fun z => z c7), e4, if_pos (by omega)]; exact hE⟩
  · refine g_bipush h dX8_span_10 (by decide) ?_
    refine g_iret h hq rfl dX8_span_12 ⟨by unfold sp_span; rw [if_pos c7], by unfold ns_span; rw [if_pos c7]; exact hE⟩
set_option maxRecDepth 100000 in
set_option maxHeartbeats 2000000 in
theorem c_X8_move {l : Launch} {D : va_G} {cs : mC} {ad : Int → Nat} (σ : mS) (b d : Int) (hb : i32 b) (hd : i32 d) (hO : mOK σ) : CI l (gM D cs ad) M_X8_move 1 [.ref (ad 0), mI b, mI d] σ (fun z s => z = sp_move (vM σ) b d ∧ mEnd (ns_move (vM σ) b d) s) := by
  refine CI.of (by decide) (Nat.le_of_ble_eq_true rfl) (fun x h hq => ?_)
  show mG x 0 [(0, .ref (ad 0)), (1, mI b), (2, mI d)] [] σ
  have hW := hO.2.2
  have hn0 : 0 ≤ σ 0 9 := hW.1.1
  have hn6 : σ 0 9 ≤ 6 := hW.1.2.1
  have e4 : vM σ 0 4 = σ 0 9 := rfl
  have hE := hO.endd
  refine g_aload_n h dX8_move_0 rfl ?_
  refine g_iload_n h dX8_move_1 rfl ?_
  refine g_vI h (c_X8_isBill _ _ hb ⟨by omega, by omega⟩) (by decide) lm_RX8_146 (rvM rfl) dX8_move_2 rfl (Nat.le_of_ble_eq_true rfl) (fun z2 s2 p2 => ?_)
  obtain ⟨e2, r2⟩ := p2; subst e2; replace r2 := Eq.symm r2; subst r2
  refine g_ifb_ne (tgt := 10) h dX8_move_5 (by decide)  (fun c5 => ?_) (fun c5 => ?_)
  · refine g_iload_n h dX8_move_10 rfl ?_
    refine g_iconst h dX8_move_11 rfl ?_
    refine g_bipush h dX8_move_12 (by decide) ?_
    refine g_sI h (c_X8_within _ _ _ _ hd ⟨by omega, by omega⟩ ⟨by omega, by omega⟩) (by decide) lm_RX8_68 dX8_move_14 rfl (Nat.le_of_ble_eq_true rfl) (fun z14 s14 p14 => ?_)
    obtain ⟨e14, r14⟩ := p14; subst e14; replace r14 := Eq.symm r14; subst r14
    refine g_ifb_ne (tgt := 23) h dX8_move_17 (by decide)  (fun c17 => ?_) (fun c17 => ?_)
    · refine g_aload_n h dX8_move_23 rfl ?_
      refine gm_dayOf h dX8_move_24 lf_RX8_22 ?_
      refine g_iload_n h dX8_move_27 rfl ?_
      refine lm_dayOf h dX8_move_28 c5.1 (by omega) ?_
      refine g_istore_n h dX8_move_29 (by decide) rfl ?_
      refine g_aload_n h dX8_move_30 rfl ?_
      refine gm_dayOf h dX8_move_31 lf_RX8_22 ?_
      refine g_iload_n h dX8_move_34 rfl ?_
      refine g_iload_n h dX8_move_35 rfl ?_
      refine sm_dayOf h dX8_move_36 c5.1 (by omega) ?_
      refine g_iload_n h dX8_move_37 rfl ?_
      refine g_iret h hq rfl dX8_move_38 ⟨by unfold sp_move; rw [e4, if_neg (fun z => z c5), if_neg (fun z => z c17)]; exact (vM_day σ c5.1 (by omega)).symm, by unfold ns_move; rw [e4, if_neg (fun z => z c5), if_neg (fun z => z c17)]; exact hE.up (vM_up_b σ d (show (4 : Int) ≤ 5 by omega) (by omega) c5.1 (by omega)) (by omega)⟩
    · refine g_bipush h dX8_move_20 (by decide) ?_
      refine g_iret h hq rfl dX8_move_22 ⟨by unfold sp_move; rw [e4, if_neg (fun z => z c5), if_pos c17], by unfold ns_move; rw [e4, if_neg (fun z => z c5), if_pos c17]; exact hE⟩
  · refine g_iconst h dX8_move_8 rfl ?_
    refine g_iret h hq rfl dX8_move_9 ⟨by unfold sp_move; rw [e4, if_pos c5], by unfold ns_move; rw [e4, if_pos c5]; exact hE⟩
