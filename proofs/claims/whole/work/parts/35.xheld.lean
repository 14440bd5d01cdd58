theorem iAnd127 (v : Nat) : iAnd (v : Int) 127 = ((v % 128 : Nat) : Int) := by
  refine iAnd_nat (x := v) (y := 127) (by omega) (fun i _ => ?_)
  rw [show (127 : Nat) = 2 ^ 7 - 1 by decide, Nat.testBit_two_pow_sub_one, show (128 : Nat) = 2 ^ 7 by decide, Nat.testBit_mod_two_pow, Bool.and_comm]
theorem and_le9 {a b c : Nat} (h : a < c) : a &&& b < c := Nat.lt_of_le_of_lt Nat.and_le_left h
set_option maxRecDepth 100000 in
set_option maxHeartbeats 2000000 in
theorem c_J13_bitCount_95d88 {l : Launch} {D : va_G} {cs : mC} {ad : Int → Nat} (σ : mS) (X : Nat) (hX : X < 2 ^ 55) : CI l (gX D cs ad) M_J13_bitCount_95d88 0 [mL (X : Int)] σ (fun z s => z = cntN (fun i => X.testBit i.toNat) 55 ∧ s = σ) := by
  refine CI.of (by decide) (Nat.le_of_ble_eq_true rfl) (fun x h hq => ?_)
  show mG x 0 [(0, mL (X : Int))] [] σ
  obtain ⟨Y, hY, hY2, hY3⟩ := bc_all hX
  unfold bcF at hY
  refine g_lload_n h dJ13_bitCount_95d88_0 rfl ?_
  refine g_lload_n h dJ13_bitCount_95d88_1 rfl ?_
  refine g_iconst h dJ13_bitCount_95d88_2 rfl ?_
  refine g_lushr h dJ13_bitCount_95d88_3 ?_
  refine g_vall (b := ((X / 2 : Nat) : Int)) (lUsh_nat (by omega) 1 (by omega)) ?_
  refine g_ldc2 (v := 6148914691236517205) h dJ13_bitCount_95d88_4 lc_RJ13_314 (by decide) ?_
  refine g_land h dJ13_bitCount_95d88_7 ?_
  refine g_vall (b := ((X / 2 &&& 6148914691236517205 : Nat) : Int)) (lAnd_and (y := 6148914691236517205) (by omega)) ?_
  refine g_lsub h dJ13_bitCount_95d88_8 ?_
  have hu := Nat.and_le_left (n := X / 2) (m := 6148914691236517205)
  have hle : X / 2 &&& 6148914691236517205 ≤ X := Nat.le_trans hu (Nat.div_le_self _ _)
  generalize X / 2 &&& 6148914691236517205 = U0 at hY hle ⊢
  refine g_vall (b := ((X - U0 : Nat) : Int)) (by omega) ?_
  have hU : X - U0 < 2 ^ 55 := by omega
  generalize X - U0 = U at hY hU ⊢
  refine g_lstore_n h dJ13_bitCount_95d88_9 (by decide) rfl ?_
  refine g_lload_n h dJ13_bitCount_95d88_10 rfl ?_
  refine g_ldc2 (v := 3689348814741910323) h dJ13_bitCount_95d88_11 lc_RJ13_316 (by decide) ?_
  refine g_land h dJ13_bitCount_95d88_14 ?_
  refine g_vall (b := ((U &&& 3689348814741910323 : Nat) : Int)) (lAnd_and (y := 3689348814741910323) (by omega)) ?_
  refine g_lload_n h dJ13_bitCount_95d88_15 rfl ?_
  refine g_iconst h dJ13_bitCount_95d88_16 rfl ?_
  refine g_lushr h dJ13_bitCount_95d88_17 ?_
  refine g_vall (b := ((U / 4 : Nat) : Int)) (lUsh_nat (by omega) 2 (by omega)) ?_
  refine g_ldc2 (v := 3689348814741910323) h dJ13_bitCount_95d88_18 lc_RJ13_316 (by decide) ?_
  refine g_land h dJ13_bitCount_95d88_21 ?_
  refine g_vall (b := ((U / 4 &&& 3689348814741910323 : Nat) : Int)) (lAnd_and (y := 3689348814741910323) (by omega)) ?_
  refine g_ladd h dJ13_bitCount_95d88_22 ?_
  have t1 : U &&& 3689348814741910323 < 2 ^ 55 := and_le9 hU
  have t2 : U / 4 &&& 3689348814741910323 < 2 ^ 55 := and_le9 (by omega)
  generalize U &&& 3689348814741910323 = T1 at hY t1 ⊢
  generalize U / 4 &&& 3689348814741910323 = T2 at hY t2 ⊢
  refine g_vall (b := ((T1 + T2 : Nat) : Int)) (by omega) ?_
  have t3 : T1 + T2 < 2 ^ 56 := by omega
  generalize T1 + T2 = T at hY t3 ⊢
  refine g_lstore_n h dJ13_bitCount_95d88_23 (by decide) rfl ?_
  refine g_lload_n h dJ13_bitCount_95d88_24 rfl ?_
  refine g_lload_n h dJ13_bitCount_95d88_25 rfl ?_
  refine g_iconst h dJ13_bitCount_95d88_26 rfl ?_
  refine g_lushr h dJ13_bitCount_95d88_27 ?_
  refine g_vall (b := ((T / 16 : Nat) : Int)) (lUsh_nat (by omega) 4 (by omega)) ?_
  refine g_ladd h dJ13_bitCount_95d88_28 ?_
  refine g_vall (b := ((T + T / 16 : Nat) : Int)) (by omega) ?_
  refine g_ldc2 (v := 1085102592571150095) h dJ13_bitCount_95d88_29 lc_RJ13_318 (by decide) ?_
  refine g_land h dJ13_bitCount_95d88_32 ?_
  refine g_vall (b := (((T + T / 16) &&& 1085102592571150095 : Nat) : Int)) (lAnd_and (y := 1085102592571150095) (by omega)) ?_
  rw [hY]
  refine g_lstore_n h dJ13_bitCount_95d88_33 (by decide) rfl ?_
  refine g_lload_n h dJ13_bitCount_95d88_34 rfl ?_
  refine g_lload_n h dJ13_bitCount_95d88_35 rfl ?_
  refine g_bipush h dJ13_bitCount_95d88_36 (by decide) ?_
  refine g_lushr h dJ13_bitCount_95d88_38 ?_
  refine g_vall (b := ((Y / 256 : Nat) : Int)) (lUsh_nat (by omega) 8 (by omega)) ?_
  refine g_ladd h dJ13_bitCount_95d88_39 ?_
  refine g_vall (b := ((Y + Y / 256 : Nat) : Int)) (by omega) ?_
  have y1 : Y + Y / 256 < 2 ^ 53 := by omega
  generalize Y + Y / 256 = Y1 at hY3 y1 ⊢
  refine g_lstore_n h dJ13_bitCount_95d88_40 (by decide) rfl ?_
  refine g_lload_n h dJ13_bitCount_95d88_41 rfl ?_
  refine g_lload_n h dJ13_bitCount_95d88_42 rfl ?_
  refine g_bipush h dJ13_bitCount_95d88_43 (by decide) ?_
  refine g_lushr h dJ13_bitCount_95d88_45 ?_
  refine g_vall (b := ((Y1 / 65536 : Nat) : Int)) (lUsh_nat (by omega) 16 (by omega)) ?_
  refine g_ladd h dJ13_bitCount_95d88_46 ?_
  refine g_vall (b := ((Y1 + Y1 / 65536 : Nat) : Int)) (by omega) ?_
  have y2 : Y1 + Y1 / 65536 < 2 ^ 54 := by omega
  generalize Y1 + Y1 / 65536 = Y2 at hY3 y2 ⊢
  refine g_lstore_n h dJ13_bitCount_95d88_47 (by decide) rfl ?_
  refine g_lload_n h dJ13_bitCount_95d88_48 rfl ?_
  refine g_lload_n h dJ13_bitCount_95d88_49 rfl ?_
  refine g_bipush h dJ13_bitCount_95d88_50 (by decide) ?_
  refine g_lushr h dJ13_bitCount_95d88_52 ?_
  refine g_vall (b := ((Y2 / 4294967296 : Nat) : Int)) (lUsh_nat (by omega) 32 (by omega)) ?_
  refine g_ladd h dJ13_bitCount_95d88_53 ?_
  refine g_vall (b := ((Y2 + Y2 / 4294967296 : Nat) : Int)) (by omega) ?_
  refine g_lstore_n h dJ13_bitCount_95d88_54 (by decide) rfl ?_
  refine g_lload_n h dJ13_bitCount_95d88_55 rfl ?_
  refine g_l2i h dJ13_bitCount_95d88_56 ?_
  refine g_bipush h dJ13_bitCount_95d88_57 (by decide) ?_
  refine g_iand h dJ13_bitCount_95d88_59 ?_
  refine g_iret h hq rfl dJ13_bitCount_95d88_60 ⟨by rw [iAnd127]; exact hY3, rfl⟩
theorem cnt_tb (p : Int → Bool) (n : Nat) : cntN (fun i => (setN p n).testBit i.toNat) n = cntN p n := cntN_cong (fun i i0 i1 => by
  rw [setN_tb, Int.toNat_of_nonneg i0, decide_eq_true (show i.toNat < n by omega), Bool.true_and])
theorem held_gen (q : Int → Bool) (n : Nat) (c : Int) (hc : c = n) : cntN (fun i => (setN (fun i => q (c * 0 + i)) n).testBit i.toNat) n + cntN (fun i => (setN (fun i => q (c * 1 + i)) n).testBit i.toNat) n = cntN q (n + n) := by
  rw [cnt_tb, cnt_tb, cntN_add q n n]
  rw [cntN_cong (p := fun i => q (c * 0 + i)) (q := q) (fun i _ _ => by rw [Int.mul_zero, Int.zero_add])]
  rw [cntN_cong (p := fun i => q (c * 1 + i)) (q := fun i => q ((n : Int) + i)) (fun i _ _ => by rw [Int.mul_one, hc])]
set_option maxRecDepth 100000 in
set_option maxHeartbeats 2000000 in
theorem c_X1_daysHeld {l : Launch} {D : va_G} {cs : mC} {ad : Int → Nat} (σ : mS) (P : Int → Bool) (b : Int) (hw : qWf (vX σ)) (hP : σ 1 4 = setOf 6 P) (b0 : 0 ≤ b) (b1 : b < σ 1 2) : CI l (gX D cs ad) M_X1_daysHeld 9 [.ref (ad 1), mI b] σ (fun z s => z = cntN (fun d => qIn (vX σ) P 6 b d) 110 ∧ s = σ) := by
  refine CI.of (by decide) (Nat.le_of_ble_eq_true rfl) (fun x h hq => ?_)
  show mG x 0 [(0, .ref (ad 1)), (1, mI b)] [] σ
  refine g_aload_n h dX1_daysHeld_0 rfl ?_
  refine g_iload_n h dX1_daysHeld_1 rfl ?_
  refine g_iconst h dX1_daysHeld_2 rfl ?_
  refine g_iconst h dX1_daysHeld_3 rfl ?_
  refine g_vL h (c_dif σ P 0 hw hP (by omega) (by omega) 6 b 1 b0 b1 (by omega) (by omega)) (by decide) lm_RX1_96 (rvC rfl) dX1_daysHeld_4 rfl (Nat.le_of_ble_eq_true rfl) (fun z4 s4 p4 => ?_)
  obtain ⟨e4, r4⟩ := p4; subst e4; replace r4 := Eq.symm r4; subst r4
  refine g_sI h (c_J13_bitCount_95d88 _ (setN (fun i => qIn (vX σ) P 6 b (55 * 0 + i)) 55) (setN_lt _ 55)) (by decide) lm_RX1_102 dX1_daysHeld_7 rfl (Nat.le_of_ble_eq_true rfl) (fun z7 s7 p7 => ?_)
  obtain ⟨e7, r7⟩ := p7; subst e7; replace r7 := Eq.symm r7; subst r7
  refine g_aload_n h dX1_daysHeld_10 rfl ?_
  refine g_iload_n h dX1_daysHeld_11 rfl ?_
  refine g_iconst h dX1_daysHeld_12 rfl ?_
  refine g_iconst h dX1_daysHeld_13 rfl ?_
  refine g_vL h (c_dif σ P 1 hw hP (by omega) (by omega) 6 b 1 b0 b1 (by omega) (by omega)) (by decide) lm_RX1_96 (rvC rfl) dX1_daysHeld_14 rfl (Nat.le_of_ble_eq_true rfl) (fun z14 s14 p14 => ?_)
  obtain ⟨e14, r14⟩ := p14; subst e14; replace r14 := Eq.symm r14; subst r14
  refine g_sI h (c_J13_bitCount_95d88 _ (setN (fun i => qIn (vX σ) P 6 b (55 * 1 + i)) 55) (setN_lt _ 55)) (by decide) lm_RX1_102 dX1_daysHeld_17 rfl (Nat.le_of_ble_eq_true rfl) (fun z17 s17 p17 => ?_)
  obtain ⟨e17, r17⟩ := p17; subst e17; replace r17 := Eq.symm r17; subst r17
  refine g_iadd h dX1_daysHeld_20 ?_
  refine g_iret h hq rfl dX1_daysHeld_21 ⟨by have e := held_gen (fun d => qIn (vX σ) P 6 b d) 55 55 rfl; rw [show (55 + 55 : Nat) = 110 from rfl] at e; exact e, rfl⟩
set_option maxRecDepth 100000 in
set_option maxHeartbeats 2000000 in
theorem lp_X1_daysHeldByOthers {x : mX} {l : Launch} {D : va_G} {cs : mC} {ad : Int → Nat} {post : Int → mS → Prop} (h : mOk x l M_X1_daysHeldByOthers 10 (gX D cs ad)) (hq : rI x (gX D cs ad) post) {σ : mS} {P : Int → Bool} {b : Int} (hw : qWf (vX σ)) (hP : σ 1 4 = setOf 6 P) (hb : i32 b) (hp : post (sumN (fun a => if a = b then 0 else cntN (fun d => qIn (vX σ) P 6 a d) 110) (σ 1 2).toNat) σ) : ∀ (g : Nat) (j : Int), 0 ≤ j → j ≤ σ 1 2 → σ 1 2 - j < g → mG x 4 [(0, .ref (ad 1)), (1, mI b), (2, mI (sumN (fun a => if a = b then 0 else cntN (fun d => qIn (vX σ) P 6 a d) 110) j.toNat)), (3, mI j)] [] σ := by
  have h6 : σ 1 2 ≤ 6 := hw.2.1
  intro g
  induction g with
  | zero => intro j a b c; omega
  | succ g ih =>
    intro j j0 j1 hg
    have J27 : ∀ v : Int, v = (fun a => if a = b then 0 else cntN (fun d => qIn (vX σ) P 6 a d) 110) j → j < σ 1 2 → mG x 27 [(0, .ref (ad 1)), (1, mI b), (2, mI (sumN (fun a => if a = b then 0 else cntN (fun d => qIn (vX σ) P 6 a d) 110) j.toNat)), (3, mI j)] [mI v, mI (sumN (fun a => if a = b then 0 else cntN (fun d => qIn (vX σ) P 6 a d) 110) j.toNat)] σ := by
      intro v hv hj
      refine g_iadd h dX1_daysHeldByOthers_27 ?_
      refine g_istore_n h dX1_daysHeldByOthers_28 (by decide) rfl ?_
      refine g_iinc h dX1_daysHeldByOthers_29 rfl (by decide) rfl ?_
      refine g_goto (tgt := 4) h dX1_daysHeldByOthers_32 (by decide) ?_
      refine g_lv (lv' := [(0, .ref (ad 1)), (1, mI b), (2, mI (sumN (fun a => if a = b then 0 else cntN (fun d => qIn (vX σ) P 6 a d) 110) j.toNat + v)), (3, mI (j + 1))]) rfl ?_
      rw [hv, sum_next (fun a => if a = b then 0 else cntN (fun d => qIn (vX σ) P 6 a d) 110) j0]
      exact ih (j + 1) (by omega) (by omega) (by omega)
    refine g_iload_n h dX1_daysHeldByOthers_4 rfl ?_
    refine g_aload_n h dX1_daysHeldByOthers_5 rfl ?_
    refine gxC_count h dX1_daysHeldByOthers_6 lf_RX1_45 ?_
    refine g_icmp_ge (tgt := 35) h dX1_daysHeldByOthers_9 (by decide) ⟨by omega, by omega⟩ ⟨by omega, by omega⟩ (fun c9 => ?_) (fun c9 => ?_)
    · refine g_iload_n h dX1_daysHeldByOthers_35 rfl ?_
      refine g_iret h hq rfl dX1_daysHeldByOthers_36 (by rw [show (σ 1 2).toNat = j.toNat by omega] at hp; exact hp)
    · refine g_iload_n h dX1_daysHeldByOthers_12 rfl ?_
      refine g_iload_n h dX1_daysHeldByOthers_13 rfl ?_
      refine g_iload_n h dX1_daysHeldByOthers_14 rfl ?_
      refine g_icmp_ne (tgt := 22) h dX1_daysHeldByOthers_15 (by decide) ⟨by omega, by omega⟩ hb (fun c15 => ?_) (fun c15 => ?_)
      · refine g_aload_n h dX1_daysHeldByOthers_22 rfl ?_
        refine g_iload_n h dX1_daysHeldByOthers_23 rfl ?_
        refine g_vI h (c_X1_daysHeld _ P _ hw hP j0 (by omega)) (by decide) lm_RX1_108 (rvC rfl) dX1_daysHeldByOthers_24 rfl (Nat.le_of_ble_eq_true rfl) (fun z24 s24 p24 => ?_)
        obtain ⟨e24, r24⟩ := p24; subst e24; replace r24 := Eq.symm r24; subst r24
        exact J27 _ (by show _ = (if j = b then 0 else _); rw [if_neg c15]) (by omega)
      · refine g_iconst h dX1_daysHeldByOthers_18 rfl ?_
        refine g_goto (tgt := 27) h dX1_daysHeldByOthers_19 (by decide) ?_
        exact J27 _ (by show _ = (if j = b then 0 else _); rw [if_pos c15]) (by omega)
set_option maxRecDepth 100000 in
set_option maxHeartbeats 2000000 in
theorem c_X1_daysHeldByOthers {l : Launch} {D : va_G} {cs : mC} {ad : Int → Nat} (σ : mS) (P : Int → Bool) (b : Int) (hw : qWf (vX σ)) (hP : σ 1 4 = setOf 6 P) (hb : i32 b) : CI l (gX D cs ad) M_X1_daysHeldByOthers 10 [.ref (ad 1), mI b] σ (fun z s => z = sumN (fun a => if a = b then 0 else cntN (fun d => qIn (vX σ) P 6 a d) 110) (σ 1 2).toNat ∧ s = σ) := by
  refine CI.of (by decide) (Nat.le_of_ble_eq_true rfl) (fun x h hq => ?_)
  show mG x 0 [(0, .ref (ad 1)), (1, mI b)] [] σ
  refine g_iconst h dX1_daysHeldByOthers_0 rfl ?_
  refine g_istore_n h dX1_daysHeldByOthers_1 (by decide) rfl ?_
  refine g_iconst h dX1_daysHeldByOthers_2 rfl ?_
  refine g_istore_n h dX1_daysHeldByOthers_3 (by decide) rfl ?_
  exact lp_X1_daysHeldByOthers h hq hw hP hb ⟨rfl, rfl⟩ 7 0 (by omega) hw.1 (by have : σ 1 2 ≤ 6 := hw.2.1; omega)
