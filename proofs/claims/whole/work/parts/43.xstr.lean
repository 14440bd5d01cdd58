/-! ===== String.charAt of the two constants: i = 0 the least, i = 1 the most ===== -/
def byI (i : Nat) (j : Int) : Int := ((bytS.getD i []).getD j.toNat 0).toInt
section STR
variable {x : mX} {l : Launch} {μ : mM} {n : Nat} {Γ : mE} {pc : Nat} {lv : List (Nat × Value)} {st : List Value} {σ : mS}
theorem g_ldcS0 (h : mOk x l μ n Γ) (ho9 : μ.1.cls = "MoonVeto$Text") (hd : decode μ.2.1 pc = .ok (.ldc 25, 2)) (kk : mG x (pc + 2) lv (.ref (Γ.2.2.2.1 (-1)) :: st) σ) : mG x pc lv st σ := by
  obtain ⟨hx, hb, hm, hnl, ho, ht, hR, hΓ, hD, hK, hN, hS9, hlk, hrt, hll⟩ := h
  intro H locs ls hP hS hl
  rw [ho9] at ho
  exact va_ldcS hx hb ho hS9.1.2.1 hd (kk H locs ls hP hS hl)
theorem g_ldcS1 (h : mOk x l μ n Γ) (ho9 : μ.1.cls = "MoonVeto$Text") (hd : decode μ.2.1 pc = .ok (.ldc 33, 2)) (kk : mG x (pc + 2) lv (.ref (Γ.2.2.2.1 (-2)) :: st) σ) : mG x pc lv st σ := by
  obtain ⟨hx, hb, hm, hnl, ho, ht, hR, hΓ, hD, hK, hN, hS9, hlk, hrt, hll⟩ := h
  intro H locs ls hP hS hl
  rw [ho9] at ho
  exact va_ldcS hx hb ho hS9.1.2.2 hd (kk H locs ls hP hS hl)
theorem g_strV (h : mOk x l μ n Γ) {i idx : Nat} (hi : i < 2) (hd : decode μ.2.1 pc = .ok (.getfield idx, 3)) (hL : Cond.fieldLink μ.1.cls idx "java/lang/String" "value" "[B" ∈ gT) (kk : mG x (pc + 3) lv (.ref (Γ.2.2.2.1 (-3 - (i : Int))) :: st) σ) : mG x pc lv (.ref (Γ.2.2.2.1 (-1 - (i : Int))) :: st) σ := by
  obtain ⟨hx, hb, hm, hnl, ho, ht, hR, hΓ, hD, hK, hN, hS9, hlk, hrt, hll⟩ := h
  subst hΓ
  intro H locs ls hP hS hl
  exact vk_getf hx hb (hS9.1.1.1 i hi).2.2.1 hS ho (ht _ hL) (fun _ q => q) hd (kk H locs ls hP hS hl)
theorem g_strC (h : mOk x l μ n Γ) {i idx : Nat} (hi : i < 2) (hd : decode μ.2.1 pc = .ok (.getfield idx, 3)) (hL : Cond.fieldLink μ.1.cls idx "java/lang/String" "coder" "B" ∈ gT) (kk : mG x (pc + 3) lv (mI 0 :: st) σ) : mG x pc lv (.ref (Γ.2.2.2.1 (-1 - (i : Int))) :: st) σ := by
  obtain ⟨hx, hb, hm, hnl, ho, ht, hR, hΓ, hD, hK, hN, hS9, hlk, hrt, hll⟩ := h
  subst hΓ
  intro H locs ls hP hS hl
  exact vk_getf hx hb (hS9.1.1.1 i hi).2.1 hS ho (ht _ hL) (fun _ q => q) hd (kk H locs ls hP hS hl)
theorem g_getsC (h : mOk x l μ n Γ) {idx : Nat} (hd : decode μ.2.1 pc = .ok (.getstatic idx, 3)) (hL : Cond.fieldLink μ.1.cls idx "java/lang/String" "COMPACT_STRINGS" "Z" ∈ gT) (kk : mG x (pc + 3) lv (mI 1 :: st) σ) : mG x pc lv st σ := by
  obtain ⟨hx, hb, hm, hnl, ho, ht, hR, hΓ, hD, hK, hN, hS9, hlk, hrt, hll⟩ := h
  subst hΓ
  intro H locs ls hP hS hl
  exact va_gets hx hb hS9.2.1 hS ho (ht _ hL) (fun _ q => q) hd (kk H locs ls hP hS hl)
theorem g_getsF (h : mOk x l μ n Γ) {idx : Nat} (hd : decode μ.2.1 pc = .ok (.getstatic idx, 3)) (hL : Cond.fieldLink μ.1.cls idx "jdk/internal/util/Preconditions" "SIOOBE_FORMATTER" "Ljava/util/function/BiFunction;" ∈ gT) (kk : ∀ v : Value, (v = .null ∨ ∃ t : Nat, v = .ref t) → mG x (pc + 3) lv (v :: st) σ) : mG x pc lv st σ := by
  obtain ⟨hx, hb, hm, hnl, ho, ht, hR, hΓ, hD, hK, hN, hS9, hlk, hrt, hll⟩ := h
  subst hΓ
  intro H locs ls hP hS hl
  rcases hS9.2.2 with h5 | ⟨t, h5⟩
  · exact va_gets hx hb h5 hS ho (ht _ hL) (fun _ q => q) hd (kk _ (Or.inl rfl) H locs ls hP hS hl)
  · exact va_gets hx hb h5 hS ho (ht _ hL) (fun _ q => q) hd (kk _ (Or.inr ⟨t, rfl⟩) H locs ls hP hS hl)
theorem g_lenS (h : mOk x l μ n Γ) {i : Nat} (hi : i < 2) (hd : decode μ.2.1 pc = .ok (.arraylength, 1)) (kk : mG x (pc + 1) lv (mI 14 :: st) σ) : mG x pc lv (.ref (Γ.2.2.2.1 (-3 - (i : Int))) :: st) σ := by
  obtain ⟨hx, hb, hm, hnl, ho, ht, hR, hΓ, hD, hK, hN, hS9, hlk, hrt, hll⟩ := h
  subst hΓ
  intro H locs ls hP hS hl
  have hT := (hS9.1.1.1 i hi).2.2.2
  have e14 : [14, 14].getD i 0 = 14 := by rcases (show i = 0 ∨ i = 1 by omega) with rfl | rfl <;> rfl
  rw [e14] at hT
  exact va_tlen (v := Int32.ofInt 14) hx hb hT hS rfl hd (kk H locs ls hP hS hl)
theorem g_baldS (h : mOk x l μ n Γ) {i : Nat} {j : Int} (hi : i < 2) (j0 : 0 ≤ j) (j1 : j < 14) (hd : decode μ.2.1 pc = .ok (.baload, 1)) (kk : mG x (pc + 1) lv (mI (byI i j) :: st) σ) : mG x pc lv (mI j :: .ref (Γ.2.2.2.1 (-3 - (i : Int))) :: st) σ := by
  obtain ⟨hx, hb, hm, hnl, ho, ht, hR, hΓ, hD, hK, hN, hS9, hlk, hrt, hll⟩ := h
  subst hΓ
  intro H locs ls hP hS hl
  have hT := (hS9.1.1.1 i hi).2.2.2
  have e14 : [14, 14].getD i 0 = 14 := by rcases (show i = 0 ∨ i = 1 by omega) with rfl | rfl <;> rfl
  rw [e14] at hT
  have e : Value.int ((bytS.getD i []).getD (Int32.ofInt j).toNatClampNeg 0) = mI (byI i j) := by
    unfold mI byI
    rw [i32_cl j0 (by omega), Int32.ofInt_toInt]
  exact va_tb (i := Int32.ofInt j) hx hb hT hS (i32_in j0 (by omega) (by decide)) e hd (kk H locs ls hP hS hl)
theorem g_vIS (h : mOk x l μ n Γ) {ν : mM} {k idx i : Nat} {av stk : List Value} {post : Int → mS → Prop} (hC : CI l Γ ν k (.ref (Γ.2.2.2.1 (-1 - (i : Int))) :: av) σ post) (hk : k < n) (hL : mLv μ.1.cls idx ν av.length) (hi : i < 2) (hν : ν.1.cls = "java/lang/String") (hd : decode μ.2.1 pc = .ok (.invokevirtual idx, 3)) (hs : stk = av.reverse ++ .ref (Γ.2.2.2.1 (-1 - (i : Int))) :: st) (hw9 : (st.map fun v => v.category).sum ≤ 8) (kk : ∀ (z : Int) (σ' : mS), post z σ' → mG x (pc + 3) lv (mI z :: st) σ') : mG x pc lv stk σ := by
  have h9 := h
  obtain ⟨hx, hb, hm, hnl, ho, ht, hR, hΓ, hD, hK, hN, hS9, hlk, hrt, hll⟩ := h
  subst hΓ; subst hs; subst hll
  intro H locs ls hP hS hl
  obtain ⟨hl1, hl2, hl7, hl3, hl4, hl5, hl6⟩ := hL
  have hA : ∀ q : Nat, mA x.2.2.1 H.size q → mA x.2.2.1 x.1.2.2.2.2.heap.size q := mA_in hS.1 rfl
  have hpr := mPreS h9 hP hS (.ref (x.2.2.1.2.2.2.1 (-1 - (i : Int))) :: av)
  have hpv : PreV x.1.2.2.2.2 H ν.1.cls (x.2.2.1.2.2.2.1 (-1 - (i : Int))) (va_Pc (.ref (x.2.2.1.2.2.2.1 (-1 - (i : Int))) :: av) (mPre x.2.2.1 σ H.size)) av := ⟨hpr.1, by rw [hν]; exact vk_recv hS9.1.1 hi hS, hpr.2⟩
  rcases hl1 with hl1 | ⟨host, hl1⟩
  · exact va_calli (va_runV (As := av) (rest := st) ⟨hx, hb, hm, ho, ht⟩ (hC H.size) ⟨callB_of av.length ht (mWs_good hl4) rfl rfl rfl (ht _ hl3) (ht _ hl1) hl5 (by rw [hR]; exact mLv_room hk hl6), ht _ hl2, ht _ hl7⟩ hpv rfl rfl hl.1 rfl (lv_room hw9) hd (by rw [hR]; exact ⟨Nat.le_refl 0, Nat.le_refl 0⟩)) hS (fun q _ h => hA q h) hA
     (fun r u t H1 locs1 ht hvm hw hB hz1 hk1 hS1 => by
      obtain ⟨z, rfl, hw⟩ := hw
      exact kk z u hw H1 locs1 ls (by rw [← ht]; exact hB.1) hS1 hl)
  · exact va_calli (va_runVN (As := av) (rest := st) ⟨hx, hb, hm, ho, ht⟩ (hC H.size) ⟨va_cnB av.length ht (mWs_good hl4) rfl rfl rfl (hN _ hl1) (ht _ hl3) hl5 (by rw [hR]; exact mLv_room hk hl6), ht _ hl2, ht _ hl7⟩ hpv rfl rfl hl.1 rfl (lv_room hw9) hd (by rw [hR]; exact ⟨Nat.le_refl 0, Nat.le_refl 0⟩)) hS (fun q _ h => hA q h) hA
     (fun r u t H1 locs1 ht hvm hw hB hz1 hk1 hS1 => by
      obtain ⟨z, rfl, hw⟩ := hw
      exact kk z u hw H1 locs1 ls (by rw [← ht]; exact hB.1) hS1 hl)
end STR
theorem fl_RJ0_38 : Cond.fieldLink RJ0 38 "java/lang/String" "COMPACT_STRINGS" "Z" ∈ gT := tb_of 227 (by decide +kernel) (by decide +kernel)
theorem fl_RJ0_1053 : Cond.fieldLink RJ0 1053 "jdk/internal/util/Preconditions" "SIOOBE_FORMATTER" "Ljava/util/function/BiFunction;" ∈ gT := tb_of 235 (by decide +kernel) (by decide +kernel)
theorem fl_RJ0_15 : Cond.fieldLink RJ0 15 "java/lang/String" "coder" "B" ∈ gT := tb_of 962 (by decide +kernel) (by decide +kernel)
theorem fl_RJ0_9 : Cond.fieldLink RJ0 9 "java/lang/String" "value" "[B" ∈ gT := tb_of 963 (by decide +kernel) (by decide +kernel)
theorem byI_ok : ∀ i : Fin 2, ∀ j : Fin 14, iC (iAnd (byI i.val (j.val : Int)) 255) = byI i.val (j.val : Int) ∧ 0 ≤ byI i.val (j.val : Int) ∧ byI i.val (j.val : Int) ≤ 127 := by decide +kernel
theorem byI_at {i : Nat} {j : Int} (hi : i < 2) (j0 : 0 ≤ j) (j1 : j < 14) : iC (iAnd (byI i j) 255) = byI i j ∧ 0 ≤ byI i j ∧ byI i j ≤ 127 := by
  have h := byI_ok ⟨i, hi⟩ ⟨j.toNat, by omega⟩
  rwa [show (((⟨j.toNat, by omega⟩ : Fin 14).val : Nat) : Int) = j from Int.toNat_of_nonneg j0] at h
theorem byI_nar : ∀ i : Fin 2, ∀ j : Fin 14, (Int32.ofInt (byI i.val (j.val : Int))).toUInt32 % 65536 = (Int32.ofInt (byI i.val (j.val : Int))).toUInt32 := by decide +kernel
theorem byI_cr {i : Nat} {j : Int} (hi : i < 2) (j0 : 0 ≤ j) (j1 : j < 14) : narrow .char (mI (byI i j)) = mI (byI i j) := by
  rcases (show i = 0 ∨ i = 1 by omega) with rfl | rfl <;>
  rcases (show j = 0 ∨ j = 1 ∨ j = 2 ∨ j = 3 ∨ j = 4 ∨ j = 5 ∨ j = 6 ∨ j = 7 ∨ j = 8 ∨ j = 9 ∨ j = 10 ∨ j = 11 ∨ j = 12 ∨ j = 13 by omega) with rfl | rfl | rfl | rfl | rfl | rfl | rfl | rfl | rfl | rfl | rfl | rfl | rfl | rfl <;> rfl
set_option maxRecDepth 100000 in
set_option maxHeartbeats 2000000 in
theorem c_J3_checkIndex_8e157 {l : Launch} {D : va_G} {cs : mC} {ad : Int → Nat} (σ : mS) (a b : Int) (v : Value) (hv : v = .null ∨ ∃ t : Nat, v = .ref t) (a0 : 0 ≤ a) (ab : a < b) (b1 : b ≤ 2147483647) : CI l (gX D cs ad) M_J3_checkIndex_8e157 1 [mI a, mI b, v] σ (fun z s => z = a ∧ s = σ) := by
  have key : ∀ (x : mX) (v9 : Value), mOk x l M_J3_checkIndex_8e157 1 (gX D cs ad) → rI x (gX D cs ad) (fun z s => z = a ∧ s = σ) → mG x 0 [(0, mI a), (1, mI b), (2, v9)] [] σ := by
    intro x v9 h hq
    refine g_iload_n h dJ3_checkIndex_8e157_0 rfl ?_
    refine g_if_lt (tgt := 9) h dJ3_checkIndex_8e157_1 (by decide) ⟨by omega, by omega⟩ (fun c1 => ?_) (fun c1 => ?_)
    · omega
    · refine g_iload_n h dJ3_checkIndex_8e157_4 rfl ?_
      refine g_iload_n h dJ3_checkIndex_8e157_5 rfl ?_
      refine g_icmp_lt (tgt := 16) h dJ3_checkIndex_8e157_6 (by decide) ⟨by omega, by omega⟩ ⟨by omega, by omega⟩ (fun c6 => ?_) (fun c6 => ?_)
      · refine g_iload_n h dJ3_checkIndex_8e157_16 rfl ?_
        exact g_iret h hq rfl dJ3_checkIndex_8e157_17 ⟨rfl, rfl⟩
      · omega
  rcases hv with rfl | ⟨t, rfl⟩
  · refine CI.of (by decide) (Nat.le_of_ble_eq_true rfl) (fun x h hq => ?_)
    show mG x 0 [(0, mI a), (1, mI b), (2, .null)] [] σ
    exact key x _ h hq
  · refine CI.of (by decide) (Nat.le_of_ble_eq_true rfl) (fun x h hq => ?_)
    show mG x 0 [(0, mI a), (1, mI b), (2, .ref t)] [] σ
    exact key x _ h hq
set_option maxRecDepth 100000 in
set_option maxHeartbeats 2000000 in
theorem c_J0_checkIndex_df160 {l : Launch} {D : va_G} {cs : mC} {ad : Int → Nat} (σ : mS) (a b : Int) (a0 : 0 ≤ a) (ab : a < b) (b1 : b ≤ 2147483647) : CV l (gX D cs ad) M_J0_checkIndex_df160 2 [mI a, mI b] σ (fun s => s = σ) := by
  refine CV.of (by decide) (Nat.le_of_ble_eq_true rfl) (fun x h hq => ?_)
  show mG x 0 [(0, mI a), (1, mI b)] [] σ
  refine g_iload_n h dJ0_checkIndex_df160_0 rfl ?_
  refine g_iload_n h dJ0_checkIndex_df160_1 rfl ?_
  refine g_getsF h dJ0_checkIndex_df160_2 fl_RJ0_1053 (fun v hv => ?_)
  refine g_sI h (c_J3_checkIndex_8e157 σ a b v hv a0 ab b1) (by decide) lm_RJ0_1059 dJ0_checkIndex_df160_5 rfl (Nat.le_of_ble_eq_true rfl) (fun z5 s5 p5 => ?_)
  obtain ⟨e5, r5⟩ := p5; subst e5; subst r5
  refine g_pop h dJ0_checkIndex_df160_8 rfl ?_
  exact g_vret h hq rfl dJ0_checkIndex_df160_9 rfl
set_option maxRecDepth 100000 in
set_option maxHeartbeats 2000000 in
theorem c_J1_charAt_3b067 {l : Launch} {D : va_G} {cs : mC} {ad : Int → Nat} (σ : mS) (i : Nat) (j : Int) (hi : i < 2) (j0 : 0 ≤ j) (j1 : j < 14) : CI l (gX D cs ad) M_J1_charAt_3b067 3 [.ref (ad (-3 - (i : Int))), mI j] σ (fun z s => z = byI i j ∧ s = σ) := by
  refine CI.of (by decide) (Nat.le_of_ble_eq_true rfl) (fun x h hq => ?_)
  show mG x 0 [(0, .ref (ad (-3 - (i : Int)))), (1, mI j)] [] σ
  refine g_iload_n h dJ1_charAt_3b067_0 rfl ?_
  refine g_aload_n h dJ1_charAt_3b067_1 rfl ?_
  refine g_lenS h hi dJ1_charAt_3b067_2 ?_
  refine g_sV h (c_J0_checkIndex_df160 σ j 14 j0 j1 (by omega)) (by decide) lm_RJ1_9 dJ1_charAt_3b067_3 rfl (Nat.le_of_ble_eq_true rfl) (fun s3 p3 => ?_)
  subst p3
  refine g_aload_n h dJ1_charAt_3b067_6 rfl ?_
  refine g_iload_n h dJ1_charAt_3b067_7 rfl ?_
  refine g_baldS h hi j0 j1 dJ1_charAt_3b067_8 ?_
  refine g_sipush h dJ1_charAt_3b067_9 (by decide) ?_
  refine g_iand h dJ1_charAt_3b067_12 ?_
  refine g_i2c h dJ1_charAt_3b067_13 ?_
  refine g_val (b := byI i j) (byI_at hi j0 j1).1 ?_
  exact g_cret h hq rfl dJ1_charAt_3b067_14 (byI_cr hi j0 j1) ⟨rfl, rfl⟩
set_option maxRecDepth 100000 in
set_option maxHeartbeats 2000000 in
theorem c_J0_isLatin1_aae02 {l : Launch} {D : va_G} {cs : mC} {ad : Int → Nat} (σ : mS) (i : Nat) (hi : i < 2) : CI l (gX D cs ad) M_J0_isLatin1_aae02 0 [.ref (ad (-1 - (i : Int)))] σ (fun z s => z = 1 ∧ s = σ) := by
  refine CI.of (by decide) (Nat.le_of_ble_eq_true rfl) (fun x h hq => ?_)
  show mG x 0 [(0, .ref (ad (-1 - (i : Int))))] [] σ
  refine g_getsC h dJ0_isLatin1_aae02_0 fl_RJ0_38 ?_
  refine g_if_eq (tgt := 17) h dJ0_isLatin1_aae02_3 (by decide) ⟨by omega, by omega⟩ (fun c3 => ?_) (fun c3 => ?_)
  · omega
  · refine g_aload_n h dJ0_isLatin1_aae02_6 rfl ?_
    refine g_strC h hi dJ0_isLatin1_aae02_7 fl_RJ0_15 ?_
    refine g_if_ne (tgt := 17) h dJ0_isLatin1_aae02_10 (by decide) ⟨by omega, by omega⟩ (fun c10 => ?_) (fun c10 => ?_)
    · omega
    · refine g_iconst h dJ0_isLatin1_aae02_13 rfl ?_
      refine g_goto (tgt := 18) h dJ0_isLatin1_aae02_14 (by decide) ?_
      exact g_zret h hq rfl dJ0_isLatin1_aae02_18 (Or.inr rfl) ⟨rfl, rfl⟩
set_option maxRecDepth 100000 in
set_option maxHeartbeats 2000000 in
theorem c_J0_charAt_5068e {l : Launch} {D : va_G} {cs : mC} {ad : Int → Nat} (σ : mS) (i : Nat) (j : Int) (hi : i < 2) (j0 : 0 ≤ j) (j1 : j < 14) : CI l (gX D cs ad) M_J0_charAt_5068e 5 [.ref (ad (-1 - (i : Int))), mI j] σ (fun z s => z = byI i j ∧ s = σ) := by
  refine CI.of (by decide) (Nat.le_of_ble_eq_true rfl) (fun x h hq => ?_)
  show mG x 0 [(0, .ref (ad (-1 - (i : Int)))), (1, mI j)] [] σ
  refine g_aload_n h dJ0_charAt_5068e_0 rfl ?_
  refine g_vIS h (c_J0_isLatin1_aae02 σ i hi) (by decide) lm_RJ0_492 hi rfl dJ0_charAt_5068e_1 rfl (Nat.le_of_ble_eq_true rfl) (fun z1 s1 p1 => ?_)
  obtain ⟨e1, r1⟩ := p1; subst e1; subst r1
  refine g_if_eq (tgt := 16) h dJ0_charAt_5068e_4 (by decide) ⟨by omega, by omega⟩ (fun c4 => ?_) (fun c4 => ?_)
  · omega
  · refine g_aload_n h dJ0_charAt_5068e_7 rfl ?_
    refine g_strV h hi dJ0_charAt_5068e_8 fl_RJ0_9 ?_
    refine g_iload_n h dJ0_charAt_5068e_11 rfl ?_
    refine g_sI h (c_J1_charAt_3b067 s1 i j hi j0 j1) (by decide) lm_RJ0_495 dJ0_charAt_5068e_12 rfl (Nat.le_of_ble_eq_true rfl) (fun z12 s12 p12 => ?_)
    obtain ⟨e12, r12⟩ := p12; subst e12; subst r12
    exact g_cret h hq rfl dJ0_charAt_5068e_15 (byI_cr hi j0 j1) ⟨rfl, rfl⟩
