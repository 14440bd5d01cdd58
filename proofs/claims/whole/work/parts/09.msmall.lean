set_option maxRecDepth 100000 in
set_option maxHeartbeats 2000000 in
theorem c_X8_within {l : Launch} {D : va_G} {cs : mC} {ad : Int → Nat} (σ : mS) (v a b : Int) (hv : i32 v) (ha : i32 a) (hb : i32 b) : CI l (gM D cs ad) M_X8_within 0 [mI v, mI a, mI b] σ (fun z σ' => z = bl (a ≤ v ∧ v ≤ b) ∧ σ' = σ) := by
  refine CI.of (by decide) (Nat.le_of_ble_eq_true rfl) (fun x h hq => ?_)
  show mG x 0 [(0, mI v), (1, mI a), (2, mI b)] [] σ
  refine g_iload_n h dX8_within_0 rfl ?_
  refine g_iload_n h dX8_within_1 rfl ?_
  refine g_icmp_lt (tgt := 14) h dX8_within_2 (by decide) hv ha (fun c2 => ?_) (fun c2 => ?_)
  · refine g_iconst h dX8_within_14 rfl ?_
    refine g_zret h hq rfl dX8_within_15 (by omega) ?_
    first | exact ⟨bl1 (by omega), rfl⟩ | exact ⟨bl0 (by omega), rfl⟩
  · refine g_iload_n h dX8_within_5 rfl ?_
    refine g_iload_n h dX8_within_6 rfl ?_
    refine g_icmp_gt (tgt := 14) h dX8_within_7 (by decide) hv hb (fun c7 => ?_) (fun c7 => ?_)
    · refine g_iconst h dX8_within_14 rfl ?_
      refine g_zret h hq rfl dX8_within_15 (by omega) ?_
      first | exact ⟨bl1 (by omega), rfl⟩ | exact ⟨bl0 (by omega), rfl⟩
    · refine g_iconst h dX8_within_10 rfl ?_
      refine g_goto (tgt := 15) h dX8_within_11 (by decide) ?_
      refine g_zret h hq rfl dX8_within_15 (by omega) ?_
      first | exact ⟨bl1 (by omega), rfl⟩ | exact ⟨bl0 (by omega), rfl⟩
set_option maxRecDepth 100000 in
set_option maxHeartbeats 2000000 in
theorem c_X8_isSheet {l : Launch} {D : va_G} {cs : mC} {ad : Int → Nat} (σ : mS) (v : Int) (hv : i32 v) : CI l (gM D cs ad) M_X8_isSheet 1 [mI v] σ (fun z σ' => z = bl (0 ≤ v ∧ v ≤ 3) ∧ σ' = σ) := by
  refine CI.of (by decide) (Nat.le_of_ble_eq_true rfl) (fun x h hq => ?_)
  show mG x 0 [(0, mI v)] [] σ
  refine g_iload_n h dX8_isSheet_0 rfl ?_
  refine g_iconst h dX8_isSheet_1 rfl ?_
  refine g_iconst h dX8_isSheet_2 rfl ?_
  refine g_sI h (c_X8_within _ _ _ _ hv ⟨by omega, by omega⟩ ⟨by omega, by omega⟩) (by decide) lm_RX8_68 dX8_isSheet_3 rfl (Nat.le_of_ble_eq_true rfl) (fun z3 s3 p3 => ?_)
  obtain ⟨rfl, rfl⟩ := p3
  refine g_zret h hq rfl dX8_isSheet_6 (bl_01 _) ⟨rfl, rfl⟩
set_option maxRecDepth 100000 in
set_option maxHeartbeats 2000000 in
theorem c_X8_isSort {l : Launch} {D : va_G} {cs : mC} {ad : Int → Nat} (σ : mS) (v : Int) (hv : i32 v) : CI l (gM D cs ad) M_X8_isSort 1 [mI v] σ (fun z σ' => z = bl (0 ≤ v ∧ v ≤ 2) ∧ σ' = σ) := by
  refine CI.of (by decide) (Nat.le_of_ble_eq_true rfl) (fun x h hq => ?_)
  show mG x 0 [(0, mI v)] [] σ
  refine g_iload_n h dX8_isSort_0 rfl ?_
  refine g_iconst h dX8_isSort_1 rfl ?_
  refine g_iconst h dX8_isSort_2 rfl ?_
  refine g_sI h (c_X8_within _ _ _ _ hv ⟨by omega, by omega⟩ ⟨by omega, by omega⟩) (by decide) lm_RX8_68 dX8_isSort_3 rfl (Nat.le_of_ble_eq_true rfl) (fun z3 s3 p3 => ?_)
  obtain ⟨rfl, rfl⟩ := p3
  refine g_zret h hq rfl dX8_isSort_6 (bl_01 _) ⟨rfl, rfl⟩
set_option maxRecDepth 100000 in
set_option maxHeartbeats 2000000 in
theorem c_X8_isDay {l : Launch} {D : va_G} {cs : mC} {ad : Int → Nat} (σ : mS) (v : Int) (hv : i32 v) : CI l (gM D cs ad) M_X8_isDay 1 [mI v] σ (fun z σ' => z = bl (0 ≤ v ∧ v ≤ 109) ∧ σ' = σ) := by
  refine CI.of (by decide) (Nat.le_of_ble_eq_true rfl) (fun x h hq => ?_)
  show mG x 0 [(0, mI v)] [] σ
  refine g_iload_n h dX8_isDay_0 rfl ?_
  refine g_iconst h dX8_isDay_1 rfl ?_
  refine g_bipush h dX8_isDay_2 (by decide) ?_
  refine g_sI h (c_X8_within _ _ _ _ hv ⟨by omega, by omega⟩ ⟨by omega, by omega⟩) (by decide) lm_RX8_68 dX8_isDay_4 rfl (Nat.le_of_ble_eq_true rfl) (fun z4 s4 p4 => ?_)
  obtain ⟨rfl, rfl⟩ := p4
  refine g_zret h hq rfl dX8_isDay_7 (bl_01 _) ⟨rfl, rfl⟩
set_option maxRecDepth 100000 in
set_option maxHeartbeats 2000000 in
theorem c_X8_isBill {l : Launch} {D : va_G} {cs : mC} {ad : Int → Nat} (σ : mS) (v : Int) (hv : i32 v) (hR : i32 (σ 0 9)) : CI l (gM D cs ad) M_X8_isBill 0 [.ref (ad 0), mI v] σ (fun z σ' => z = bl (0 ≤ v ∧ v < σ 0 9) ∧ σ' = σ) := by
  refine CI.of (by decide) (Nat.le_of_ble_eq_true rfl) (fun x h hq => ?_)
  show mG x 0 [(0, .ref (ad 0)), (1, mI v)] [] σ
  refine g_iload_n h dX8_isBill_0 rfl ?_
  refine g_if_lt (tgt := 16) h dX8_isBill_1 (by decide) hv (fun c1 => ?_) (fun c1 => ?_)
  · refine g_iconst h dX8_isBill_16 rfl ?_
    refine g_zret h hq rfl dX8_isBill_17 (by omega) ?_
    first | exact ⟨bl1 (by omega), rfl⟩ | exact ⟨bl0 (by omega), rfl⟩
  · refine g_iload_n h dX8_isBill_4 rfl ?_
    refine g_aload_n h dX8_isBill_5 rfl ?_
    refine gm_bills h dX8_isBill_6 lf_RX8_72 ?_
    refine g_icmp_ge (tgt := 16) h dX8_isBill_9 (by decide) hv hR (fun c9 => ?_) (fun c9 => ?_)
    · refine g_iconst h dX8_isBill_16 rfl ?_
      refine g_zret h hq rfl dX8_isBill_17 (by omega) ?_
      first | exact ⟨bl1 (by omega), rfl⟩ | exact ⟨bl0 (by omega), rfl⟩
    · refine g_iconst h dX8_isBill_12 rfl ?_
      refine g_goto (tgt := 17) h dX8_isBill_13 (by decide) ?_
      refine g_zret h hq rfl dX8_isBill_17 (by omega) ?_
      first | exact ⟨bl1 (by omega), rfl⟩ | exact ⟨bl0 (by omega), rfl⟩
set_option maxRecDepth 100000 in
set_option maxHeartbeats 2000000 in
theorem c_X8_fails {l : Launch} {D : va_G} {cs : mC} {ad : Int → Nat} (σ : mS) (v : Int)  : CI l (gM D cs ad) M_X8_fails 0 [.ref (ad 0), mI v] σ (fun z σ' => z = -10 - v ∧ σ' = mUp σ 0 0 v) := by
  refine CI.of (by decide) (Nat.le_of_ble_eq_true rfl) (fun x h hq => ?_)
  show mG x 0 [(0, .ref (ad 0)), (1, mI v)] [] σ
  refine g_aload_n h dX8_fails_0 rfl ?_
  refine g_iload_n h dX8_fails_1 rfl ?_
  refine pm_fault h dX8_fails_2 lf_RX8_63 ?_
  refine g_bipush h dX8_fails_5 (by decide) ?_
  refine g_iload_n h dX8_fails_7 rfl ?_
  refine g_isub h dX8_fails_8 ?_
  refine g_iret h hq rfl dX8_fails_9 ⟨rfl, rfl⟩
set_option maxRecDepth 100000 in
set_option maxHeartbeats 2000000 in
theorem c_X8_lost {l : Launch} {D : va_G} {cs : mC} {ad : Int → Nat} (σ : mS) (v : Int)  : CL l (gM D cs ad) M_X8_lost 0 [.ref (ad 0), mI v] σ (fun z σ' => z = -9223372036854775808 ∧ σ' = mUp σ 0 0 v) := by
  refine CL.of (by decide) (Nat.le_of_ble_eq_true rfl) (fun x h hq => ?_)
  show mG x 0 [(0, .ref (ad 0)), (1, mI v)] [] σ
  refine g_aload_n h dX8_lost_0 rfl ?_
  refine g_iload_n h dX8_lost_1 rfl ?_
  refine pm_fault h dX8_lost_2 lf_RX8_63 ?_
  refine g_ldc2 (v := -9223372036854775808) h dX8_lost_5 lc_RX8_66 (by decide) ?_
  refine g_lret h hq rfl dX8_lost_8 ⟨rfl, rfl⟩
set_option maxRecDepth 100000 in
set_option maxHeartbeats 2000000 in
theorem c_X8_begins {l : Launch} {D : va_G} {cs : mC} {ad : Int → Nat} (σ : mS) (v : Int)  : CV l (gM D cs ad) M_X8_begins 0 [.ref (ad 0), mI v] σ (fun σ' => σ' = mUp σ 0 1 (31 * σ 0 1 + v)) := by
  refine CV.of (by decide) (Nat.le_of_ble_eq_true rfl) (fun x h hq => ?_)
  show mG x 0 [(0, .ref (ad 0)), (1, mI v)] [] σ
  refine g_aload_n h dX8_begins_0 rfl ?_
  refine g_bipush h dX8_begins_1 (by decide) ?_
  refine g_aload_n h dX8_begins_3 rfl ?_
  refine gm_trace h dX8_begins_4 lf_RX8_215 ?_
  refine g_imul h dX8_begins_7 ?_
  refine g_iload_n h dX8_begins_8 rfl ?_
  refine g_iadd h dX8_begins_9 ?_
  refine pm_trace h dX8_begins_10 lf_RX8_215 ?_
  refine g_vret h hq rfl dX8_begins_13 rfl
set_option maxRecDepth 100000 in
set_option maxHeartbeats 2000000 in
theorem c_X8_trace {l : Launch} {D : va_G} {cs : mC} {ad : Int → Nat} (σ : mS)   : CI l (gM D cs ad) M_X8_trace 0 [.ref (ad 0)] σ (fun z σ' => z = σ 0 1 ∧ σ' = σ) := by
  refine CI.of (by decide) (Nat.le_of_ble_eq_true rfl) (fun x h hq => ?_)
  show mG x 0 [(0, .ref (ad 0))] [] σ
  refine g_aload_n h dX8_trace_0 rfl ?_
  refine gm_trace h dX8_trace_1 lf_RX8_215 ?_
  refine g_iret h hq rfl dX8_trace_4 ⟨rfl, rfl⟩
set_option maxRecDepth 100000 in
set_option maxHeartbeats 2000000 in
theorem c_X8_fault {l : Launch} {D : va_G} {cs : mC} {ad : Int → Nat} (σ : mS)   : CI l (gM D cs ad) M_X8_fault 0 [.ref (ad 0)] σ (fun z σ' => z = σ 0 0 ∧ σ' = σ) := by
  refine CI.of (by decide) (Nat.le_of_ble_eq_true rfl) (fun x h hq => ?_)
  show mG x 0 [(0, .ref (ad 0))] [] σ
  refine g_aload_n h dX8_fault_0 rfl ?_
  refine gm_fault h dX8_fault_1 lf_RX8_63 ?_
  refine g_iret h hq rfl dX8_fault_4 ⟨rfl, rfl⟩
set_option maxRecDepth 100000 in
set_option maxHeartbeats 2000000 in
theorem c_X8_moonDay {l : Launch} {D : va_G} {cs : mC} {ad : Int → Nat} (σ : mS) (n : Int) (h0 : 0 ≤ n * σ 0 6) (h1 : n * σ 0 6 ≤ 2147483647) (h2 : 0 < σ 0 7) (h3 : σ 0 7 ≤ 2147483647) : CI l (gM D cs ad) M_X8_moonDay 0 [.ref (ad 0), mI n] σ (fun z σ' => z = σ 0 5 + n * σ 0 6 / σ 0 7 ∧ σ' = σ) := by
  refine CI.of (by decide) (Nat.le_of_ble_eq_true rfl) (fun x h hq => ?_)
  show mG x 0 [(0, .ref (ad 0)), (1, mI n)] [] σ
  refine g_aload_n h dX8_moonDay_0 rfl ?_
  refine gm_origin h dX8_moonDay_1 lf_RX8_103 ?_
  refine g_iload_n h dX8_moonDay_4 rfl ?_
  refine g_aload_n h dX8_moonDay_5 rfl ?_
  refine gm_upper h dX8_moonDay_6 lf_RX8_109 ?_
  refine g_imul h dX8_moonDay_9 ?_
  refine g_aload_n h dX8_moonDay_10 rfl ?_
  refine gm_lower h dX8_moonDay_11 lf_RX8_115 ?_
  refine g_idiv h dX8_moonDay_14 (by omega) (by omega) (by omega) (by omega) ?_
  refine g_iadd h dX8_moonDay_15 ?_
  refine g_iret h hq rfl dX8_moonDay_16 ⟨rfl, rfl⟩
