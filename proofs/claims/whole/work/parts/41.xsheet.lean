theorem xC_is {a b k : Int} (h : xV a b) (k0 : 0 ≤ k) (k1 : k < 4) : xC a b = 16 + k + 4 ↔ a = 12 + k := by
  constructor
  · intro e
    have i := (xinv h).1
    rw [e] at i
    unfold xA at i
    rw [if_neg (by omega), if_neg (by omega), if_neg (by omega), if_neg (by omega), if_neg (by omega), if_neg (by omega)] at i
    omega
  · intro e
    rw [(xC_c (by omega)).1]; omega
theorem vX_zr (s : mS) {k : Int} (k0 : 0 ≤ k) (k1 : k < 4) : vX (xZr s (16 + k + 4) 60) = qZr (vX s) k 60 := by
  funext a b
  unfold qZr
  by_cases g : xV a b
  · rw [vX_at _ g]
    by_cases e : a = 12 + k
    · have e1 := (xC_is g k0 k1).mpr e
      have e2 := (xC_c (b := b) (show 12 ≤ a by omega)).2
      rw [e1, e2]
      unfold xZr
      rw [if_pos (by omega), if_pos (by omega)]
    · rw [if_neg (by omega), vX_at _ g]
      unfold xZr
      rw [if_neg (fun z => e ((xC_is g k0 k1).mp z.1))]
  · have e0 : vX (xZr s (16 + k + 4) 60) a b = 0 := if_neg g
    rw [e0]
    by_cases e : a = 12 + k ∧ 0 ≤ b ∧ b < 60
    · rw [if_pos e]
    · rw [if_neg e]; exact (if_neg g).symm
/-- cells of a row come from another -/
def xCp (σ : mS) (k i o j m : Int) : mS := fun a b => if a = o ∧ j ≤ b ∧ b < j + m then σ k (i + (b - j)) else σ a b
theorem vX_cp (s : mS) {k o i j m : Int} (k0 : 0 ≤ k) (k1 : k < 4) (o0 : 0 ≤ o) (o1 : o < 4) (i0 : 0 ≤ i) (j0 : 0 ≤ j) (hi : i + m ≤ 60) (hj : j + m ≤ 60) : vX (xCp s (16 + k + 4) i (16 + o + 4) j m) = qCr (vX s) k i o j j (j + m) := by
  funext a b
  unfold qCr
  by_cases g : xV a b
  · rw [vX_at _ g]
    by_cases e : a = 12 + o
    · have e1 := (xC_is g o0 o1).mpr e
      have e2 := (xC_c (b := b) (show 12 ≤ a by omega)).2
      rw [e1, e2]
      unfold xCp
      by_cases q : j ≤ b ∧ b < j + m
      · rw [if_pos ⟨rfl, q⟩, if_pos ⟨e, q⟩, vX_ce _ k0 k1 (by omega) (by omega)]
      · rw [if_neg (fun z => q z.2), if_neg (fun z => q z.2), vX_at _ g, e1, e2]
    · rw [if_neg (by omega), vX_at _ g]
      unfold xCp
      rw [if_neg (fun z => e ((xC_is g o0 o1).mp z.1))]
  · have e0 : vX (xCp s (16 + k + 4) i (16 + o + 4) j m) a b = 0 := if_neg g
    rw [e0]
    by_cases e : a = 12 + o ∧ j ≤ b ∧ b < j + m
    · exact absurd (show xV a b by omega) g
    · rw [if_neg e]; exact (if_neg g).symm
theorem lw_ac1 : Cond.methodLink RX7 205 arraycopyName ∈ gT := tb_of 551 (by decide +kernel) (by decide +kernel)
theorem lw_ac2 : Cond.static arraycopyName ∈ gT := tb_of 552 (by decide +kernel) (by decide +kernel)
theorem lw_ac3 : Cond.native arraycopyName ∈ gT := tb_of 553 (by decide +kernel) (by decide +kernel)
theorem lw_ac4 : Cond.initialized "java/lang/System" ∈ gT := tb_of 17 (by decide +kernel) (by decide +kernel)
theorem i32_nn {a : Int} (h0 : 0 ≤ a) (h1 : a ≤ 2147483647) : ¬ Int32.ofInt a < 0 := by
  rw [i32_0, i32_lt ⟨by omega, by omega⟩ ⟨by omega, by omega⟩]; omega
section MCP
variable {x : mX} {l : Launch} {μ : mM} {n : Nat} {pc : Nat} {lv : List (Nat × Value)} {st : List Value} {σ : mS} {D : va_G} {cs : mC} {ad : Int → Nat}
theorem g_copy (h : mOk x l μ n (gX D cs ad)) {k o i j m : Int} (hcls : μ.1.cls = RX7) (k0 : 20 ≤ k) (k1 : k < 24) (o0 : 20 ≤ o) (o1 : o < 24) (i0 : 0 ≤ i) (j0 : 0 ≤ j) (m0 : 0 ≤ m) (hi : i + m ≤ 60) (hj : j + m ≤ 60) (hn : 1 < n) (hd : decode μ.2.1 pc = .ok (.invokestatic 205, 3)) (hw9 : (st.map fun v => v.category).sum ≤ 8) (kk : mG x (pc + 3) lv st (xCp σ k i o j m)) : mG x pc lv (mI m :: mI j :: .ref (ad o) :: mI i :: .ref (ad k) :: st) σ := by
  obtain ⟨hx, hb, hm, hnl, ho, ht, hR, hΓ, hD, hK, hN, hS9, hlk, hrt, hll⟩ := h
  intro H locs ls hP hS hl
  rw [hΓ] at hP hS
  have ek := EX_c cs ad σ k0
  have eo := EX_c cs ad σ o0
  have he0 : (mW (gX D cs ad) σ)[k.toNat]? = some (ad k, .inl (cs.1, 60, .inl (mRow (σ k)))) := by rw [← ek]; exact mWd_get (by omega) (by show k < ((24 : Nat) : Int); omega)
  have he1 : (mW (gX D cs ad) σ)[o.toNat]? = some (ad o, .inl (cs.1, 60, .inl (mRow (σ o)))) := by rw [← eo]; exact mWd_get (by omega) (by show o < ((24 : Nat) : Int); omega)
  have hrow : mRow (xCp σ k i o j m o) = va_cpy (mRow (σ k)) (mRow (σ o)) i.toNat j.toNat m.toNat := by
    funext q
    unfold va_cpy mRow xCp
    by_cases e : j.toNat ≤ q ∧ q < j.toNat + m.toNat
    · rw [if_pos e, if_pos (by omega), show i + ((q : Int) - j) = ((i.toNat + (q - j.toNat) : Nat) : Int) by omega]
    · rw [if_neg e, if_neg (by omega)]
  have hE' : EX cs ad (xCp σ k i o j m) o = .inl (cs.1, 60, .inl (va_cpy (mRow (σ k)) (mRow (σ o)) i.toNat j.toNat m.toNat)) := by rw [EX_c cs ad _ o0, hrow]
  have hoth : ∀ a : Int, a ≠ o → EX cs ad (xCp σ k i o j m) a = EX cs ad σ a := fun a ha => by
    unfold EX
    rw [show xCp σ k i o j m a = σ a by funext b; unfold xCp; rw [if_neg (fun z => ha z.1)]]
  have hset : (mW (gX D cs ad) σ).set o.toNat (ad o, .inl (cs.1, 60, .inl (va_cpy (mRow (σ k)) (mRow (σ o)) i.toNat j.toNat m.toNat))) = mW (gX D cs ad) (xCp σ k i o j m) := mWd_set (by omega) (by show o < ((24 : Nat) : Int); omega) hE' hoth
  refine va_copyi hx hb (hm.trans hl.1.symm) ho (by rw [hcls]; exact ht _ lw_ac1) (ht _ lw_ac3) (ht _ lw_ac2) (ht _ lw_ac4) hK hP (mW_D hD σ _) hS k.toNat o.toNat 0 0 he0 he1 rfl rfl rfl (i32_nn i0 (by omega)) (i32_nn j0 (by omega)) (i32_nn m0 (by omega)) (by rw [i32_cl i0 (by omega), i32_cl m0 (by omega)]; omega) (by rw [i32_cl j0 (by omega), i32_cl m0 (by omega)]; omega) (fun q _ => rfl) (by rw [hR]; show 1 ≤ n; omega) (by
    rw [hR]
    have e9 : nativeFrameWords "java/lang/System" "arraycopy" 5 + 11 ≤ 60 := by decide
    show _ ≤ 40 * n
    omega) hd (fun H1 locs1 hP1 hD1 hS1 => ?_)
  rw [i32_cl i0 (by omega), i32_cl j0 (by omega), i32_cl m0 (by omega), hset] at hP1
  exact kk H1 locs1 ls (by rw [hΓ]; exact hP1) (by rw [hΓ]; exact hS1) hl
end MCP
theorem xAg (σ : mS) {k : Int} (k0 : 0 ≤ k) (k1 : k < 4) (a i n : Int) : (if σ (16 + k) 1 = -1 then 1 else if ¬ σ (16 + k) 1 = a then 2 else if n < 0 then 4 else if i < 0 ∨ σ (16 + k) 2 < i ∨ σ (16 + k) 2 - i < n then 3 else 0) = qAg (vX σ) k a i n := by
  unfold qAg
  rw [vX_so σ k0 k1, vX_le σ k0 k1]
set_option maxRecDepth 100000 in
set_option maxHeartbeats 2000000 in
theorem c_X7_sheet {l : Launch} {D : va_G} {cs : mC} {ad : Int → Nat} (σ : mS) (k l9 n : Int) (hk9 : i32 k) (hl : i32 l9) (hn : i32 n) (hW : qW (vX σ)) : CI l (gX D cs ad) M_X7_sheet 2 [.ref (ad 0), mI k, mI l9, mI n] σ (fun z s => z = sp_sheet k l9 n ∧ vX s = ns_sheet (vX σ) k l9 n) := by
  refine CI.of (by decide) (Nat.le_of_ble_eq_true rfl) (fun x h hq => ?_)
  show mG x 0 [(0, .ref (ad 0)), (1, mI k), (2, mI l9), (3, mI n)] [] σ
  have hF := vX_up_fault σ 0
  have hW1 : qW (vX (mUp σ 0 4 0)) := by rw [hF]; exact qW_up0 hW 0 (by omega)
  refine g_aload_n h dX7_sheet_0 rfl ?_
  refine g_iconst h dX7_sheet_1 rfl ?_
  refine pxV_latestFault h dX7_sheet_2 lf_RX7_32 ?_
  refine g_iload_n h dX7_sheet_5 rfl ?_
  refine g_sI h (c_X7_noSheet _ _ hk9) (by decide) lm_RX7_36 dX7_sheet_6 rfl (Nat.le_of_ble_eq_true rfl) (fun z6 s6 p6 => ?_)
  obtain ⟨e6, r6⟩ := p6; subst e6; replace r6 := Eq.symm r6; subst r6
  refine g_ifb_eq (tgt := 14) h dX7_sheet_9 (by decide)  (fun c9 => ?_) (fun c9 => ?_)
  · have ck : 0 ≤ k ∧ k ≤ 3 := by omega
    refine g_iload_n h dX7_sheet_14 rfl ?_
    refine g_iconst h dX7_sheet_15 rfl ?_
    refine g_sI h (c_X7_within _ _ _ hl ⟨by omega, by omega⟩) (by decide) lm_RX7_40 dX7_sheet_16 rfl (Nat.le_of_ble_eq_true rfl) (fun z16 s16 p16 => ?_)
    obtain ⟨e16, r16⟩ := p16; subst e16; replace r16 := Eq.symm r16; subst r16
    refine g_ifb_eq (tgt := 28) h dX7_sheet_19 (by decide)  (fun c19 => ?_) (fun c19 => ?_)
    · refine g_bipush h dX7_sheet_28 (by decide) ?_
      refine g_iret h hq rfl dX7_sheet_30 ⟨by unfold sp_sheet; rw [if_neg (by omega), if_pos (Or.inl c19)], by unfold ns_sheet; rw [if_neg (by omega), if_pos (Or.inl c19)]; exact hF⟩
    · refine g_iload_n h dX7_sheet_22 rfl ?_
      refine g_bipush h dX7_sheet_23 (by decide) ?_
      refine g_icmp_le (tgt := 31) h dX7_sheet_25 (by decide) hn ⟨by omega, by omega⟩ (fun c25 => ?_) (fun c25 => ?_)
      · refine g_iload_n h dX7_sheet_31 rfl ?_
        refine g_if_ge (tgt := 41) h dX7_sheet_32 (by decide) hn (fun c32 => ?_) (fun c32 => ?_)
        · refine g_aload_n h dX7_sheet_41 rfl ?_
          refine gxV_sheets h dX7_sheet_42 lf_RX7_27 ?_
          refine g_iload_n h dX7_sheet_45 rfl ?_
          refine lx_sheets h dX7_sheet_46 (by omega) (by omega) ?_
          refine g_iload_n h dX7_sheet_47 rfl ?_
          refine g_iload_n h dX7_sheet_48 rfl ?_
          refine g_vV h (c_X3_begin _ _ _ _ (by omega) (by omega)) (by decide) lm_RX7_180 (rvS rfl (by omega) (by omega)) dX7_sheet_49 rfl (Nat.le_of_ble_eq_true rfl) (fun s49 p49 => ?_)
          replace p49 := Eq.symm p49; subst p49
          refine g_iconst h dX7_sheet_52 rfl ?_
          refine g_iret h hq rfl dX7_sheet_53 ⟨by unfold sp_sheet; rw [if_neg (by omega), if_neg (by omega), if_neg (by omega)], by unfold ns_sheet; rw [if_neg (by omega), if_neg (by omega), if_neg (by omega), vX_zr _ ck.1 (by omega), vX_up_le _ _ ck.1 (by omega), vX_up_so _ _ ck.1 (by omega), hF]⟩
        · refine g_aload_n h dX7_sheet_35 rfl ?_
          refine g_iconst h dX7_sheet_36 rfl ?_
          refine g_vI h (c_X7_failed _ _) (by decide) lm_RX7_48 (rvV rfl) dX7_sheet_37 rfl (Nat.le_of_ble_eq_true rfl) (fun z37 s37 p37 => ?_)
          obtain ⟨e37, r37⟩ := p37; subst e37; replace r37 := Eq.symm r37; subst r37
          refine g_iret h hq rfl dX7_sheet_40 ⟨by unfold sp_sheet; rw [if_neg (by omega), if_neg (by omega), if_pos (by omega)]; rfl, by unfold ns_sheet; rw [if_neg (by omega), if_neg (by omega), if_pos (by omega), mUp_up]; exact vX_up_fault σ 4⟩
      · refine g_bipush h dX7_sheet_28 (by decide) ?_
        refine g_iret h hq rfl dX7_sheet_30 ⟨by unfold sp_sheet; rw [if_neg (by omega), if_pos (Or.inr (by omega))], by unfold ns_sheet; rw [if_neg (by omega), if_pos (Or.inr (by omega))]; exact hF⟩
  · refine g_iconst h dX7_sheet_12 rfl ?_
    refine g_iret h hq rfl dX7_sheet_13 ⟨by unfold sp_sheet; rw [if_pos c9], by unfold ns_sheet; rw [if_pos c9]; exact hF⟩
set_option maxRecDepth 100000 in
set_option maxHeartbeats 2000000 in
theorem c_X7_lose {l : Launch} {D : va_G} {cs : mC} {ad : Int → Nat} (σ : mS) (k : Int) (hk9 : i32 k) (hW : qW (vX σ)) : CI l (gX D cs ad) M_X7_lose 2 [.ref (ad 0), mI k] σ (fun z s => z = sp_lose (vX σ) k ∧ vX s = ns_lose (vX σ) k) := by
  refine CI.of (by decide) (Nat.le_of_ble_eq_true rfl) (fun x h hq => ?_)
  show mG x 0 [(0, .ref (ad 0)), (1, mI k)] [] σ
  refine g_iload_n h dX7_lose_0 rfl ?_
  refine g_sI h (c_X7_noSheet _ _ hk9) (by decide) lm_RX7_36 dX7_lose_1 rfl (Nat.le_of_ble_eq_true rfl) (fun z1 s1 p1 => ?_)
  obtain ⟨e1, r1⟩ := p1; subst e1; replace r1 := Eq.symm r1; subst r1
  refine g_ifb_eq (tgt := 9) h dX7_lose_4 (by decide)  (fun c4 => ?_) (fun c4 => ?_)
  · have ck : 0 ≤ k ∧ k ≤ 3 := by omega
    have hk := hW.2.2.2.2.2 k (by omega) (by omega)
    have e10 := vX_so σ (show 0 ≤ k by omega) (show k < 4 by omega)
    have e11 := vX_le σ (show 0 ≤ k by omega) (show k < 4 by omega)
    rw [e10, e11] at hk
    refine g_aload_n h dX7_lose_9 rfl ?_
    refine gxV_sheets h dX7_lose_10 lf_RX7_27 ?_
    refine g_iload_n h dX7_lose_13 rfl ?_
    refine lx_sheets h dX7_lose_14 (by omega) (by omega) ?_
    refine g_vI h (c_X3_isNothing _ _ (by omega) (by omega) (by omega) (by omega)) (by decide) lm_RX7_184 (rvS rfl (by omega) (by omega)) dX7_lose_15 rfl (Nat.le_of_ble_eq_true rfl) (fun z15 s15 p15 => ?_)
    obtain ⟨e15, r15⟩ := p15; subst e15; replace r15 := Eq.symm r15; subst r15
    refine g_ifb_eq (tgt := 25) h dX7_lose_18 (by decide)  (fun c18 => ?_) (fun c18 => ?_)
    · refine g_iconst h dX7_lose_25 rfl ?_
      refine g_istore_n h dX7_lose_26 (by decide) rfl ?_
      refine g_aload_n h dX7_lose_27 rfl ?_
      refine gxV_sheets h dX7_lose_28 lf_RX7_27 ?_
      refine g_iload_n h dX7_lose_31 rfl ?_
      refine lx_sheets h dX7_lose_32 (by omega) (by omega) ?_
      refine g_vV h (c_X3_drop _ _ (by omega) (by omega)) (by decide) lm_RX7_187 (rvS rfl (by omega) (by omega)) dX7_lose_33 rfl (Nat.le_of_ble_eq_true rfl) (fun s33 p33 => ?_)
      replace p33 := Eq.symm p33; subst p33
      refine g_iload_n h dX7_lose_36 rfl ?_
      refine g_iret h hq rfl dX7_lose_37 ⟨by unfold sp_lose; rw [if_neg (by omega), e10, if_neg c18], by unfold ns_lose; rw [if_neg (by omega), vX_up_le _ _ ck.1 (by omega), vX_up_so _ _ ck.1 (by omega)]⟩
    · refine g_iconst h dX7_lose_21 rfl ?_
      refine g_goto (tgt := 26) h dX7_lose_22 (by decide) ?_
      refine g_istore_n h dX7_lose_26 (by decide) rfl ?_
      refine g_aload_n h dX7_lose_27 rfl ?_
      refine gxV_sheets h dX7_lose_28 lf_RX7_27 ?_
      refine g_iload_n h dX7_lose_31 rfl ?_
      refine lx_sheets h dX7_lose_32 (by omega) (by omega) ?_
      refine g_vV h (c_X3_drop _ _ (by omega) (by omega)) (by decide) lm_RX7_187 (rvS rfl (by omega) (by omega)) dX7_lose_33 rfl (Nat.le_of_ble_eq_true rfl) (fun s33 p33 => ?_)
      replace p33 := Eq.symm p33; subst p33
      refine g_iload_n h dX7_lose_36 rfl ?_
      refine g_iret h hq rfl dX7_lose_37 ⟨by unfold sp_lose; rw [if_neg (by omega), e10, if_pos c18], by unfold ns_lose; rw [if_neg (by omega), vX_up_le _ _ ck.1 (by omega), vX_up_so _ _ ck.1 (by omega)]⟩
  · refine g_iconst h dX7_lose_7 rfl ?_
    refine g_iret h hq rfl dX7_lose_8 ⟨by unfold sp_lose; rw [if_pos c4], by unfold ns_lose; rw [if_pos c4]⟩
set_option maxRecDepth 100000 in
set_option maxHeartbeats 2000000 in
theorem c_X7_put {l : Launch} {D : va_G} {cs : mC} {ad : Int → Nat} (σ : mS) (k i v : Int) (hk9 : i32 k) (hi : i32 i) (hv : i32 v) (hW : qW (vX σ)) : CI l (gX D cs ad) M_X7_put 2 [.ref (ad 0), mI k, mI i, mI v] σ (fun z s => z = sp_put (vX σ) k i ∧ vX s = ns_put (vX σ) k i v) := by
  refine CI.of (by decide) (Nat.le_of_ble_eq_true rfl) (fun x h hq => ?_)
  show mG x 0 [(0, .ref (ad 0)), (1, mI k), (2, mI i), (3, mI v)] [] σ
  have hF := vX_up_fault σ 0
  have hW1 : qW (vX (mUp σ 0 4 0)) := by rw [hF]; exact qW_up0 hW 0 (by omega)
  refine g_aload_n h dX7_put_0 rfl ?_
  refine g_iconst h dX7_put_1 rfl ?_
  refine pxV_latestFault h dX7_put_2 lf_RX7_32 ?_
  refine g_iload_n h dX7_put_5 rfl ?_
  refine g_sI h (c_X7_noSheet _ _ hk9) (by decide) lm_RX7_36 dX7_put_6 rfl (Nat.le_of_ble_eq_true rfl) (fun z6 s6 p6 => ?_)
  obtain ⟨e6, r6⟩ := p6; subst e6; replace r6 := Eq.symm r6; subst r6
  refine g_ifb_eq (tgt := 14) h dX7_put_9 (by decide)  (fun c9 => ?_) (fun c9 => ?_)
  · have ck : 0 ≤ k ∧ k ≤ 3 := by omega
    have hk := hW.2.2.2.2.2 k (by omega) (by omega)
    have e10 := vX_so σ (show 0 ≤ k by omega) (show k < 4 by omega)
    have e11 := vX_le σ (show 0 ≤ k by omega) (show k < 4 by omega)
    rw [e10, e11] at hk
    have o1 : mUp σ 0 4 0 (16 + k) 1 = σ (16 + k) 1 := mUp_ne _ _ (by omega)
    have o2 : mUp σ 0 4 0 (16 + k) 2 = σ (16 + k) 2 := mUp_ne _ _ (by omega)
    refine g_aload_n h dX7_put_14 rfl ?_
    refine gxV_sheets h dX7_put_15 lf_RX7_27 ?_
    refine g_iload_n h dX7_put_18 rfl ?_
    refine lx_sheets h dX7_put_19 (by omega) (by omega) ?_
    refine g_astore h dX7_put_20 (by decide) rfl ?_
    refine g_aload h dX7_put_22 rfl ?_
    refine g_vI h (c_X3_isNothing _ _ (by omega) (by omega) (by rw [o1]; omega) (by rw [o1]; omega)) (by decide) lm_RX7_184 (rvS rfl (by omega) (by omega)) dX7_put_24 rfl (Nat.le_of_ble_eq_true rfl) (fun z24 s24 p24 => ?_)
    obtain ⟨e24, r24⟩ := p24; subst e24; replace r24 := Eq.symm r24; subst r24
    rw [o1]
    refine g_ifb_eq (tgt := 36) h dX7_put_27 (by decide)  (fun c27 => ?_) (fun c27 => ?_)
    · refine g_aload h dX7_put_36 rfl ?_
      refine g_iload_n h dX7_put_38 rfl ?_
      refine g_vI h (c_X3_has _ _ _ (by omega) (by omega) hi (by rw [o2]; omega) (by rw [o2]; omega)) (by decide) lm_RX7_190 (rvS rfl (by omega) (by omega)) dX7_put_39 rfl (Nat.le_of_ble_eq_true rfl) (fun z39 s39 p39 => ?_)
      obtain ⟨e39, r39⟩ := p39; subst e39; replace r39 := Eq.symm r39; subst r39
      rw [o2]
      refine g_ifb_ne (tgt := 51) h dX7_put_42 (by decide)  (fun c42 => ?_) (fun c42 => ?_)
      · refine g_aload h dX7_put_51 rfl ?_
        refine gxS_cells h (by omega) (by omega) dX7_put_53 lf_RX7_134 ?_
        refine g_iload_n h dX7_put_56 rfl ?_
        refine g_aload h dX7_put_57 rfl ?_
        refine g_iload_n h dX7_put_59 rfl ?_
        refine g_vI h (c_X3_cut _ _ _ (by omega) (by omega) (by rw [o1]; omega) (by rw [o1]; omega)) (by decide) lm_RX7_193 (rvS rfl (by omega) (by omega)) dX7_put_60 rfl (Nat.le_of_ble_eq_true rfl) (fun z60 s60 p60 => ?_)
        obtain ⟨e60, r60⟩ := p60; subst e60; replace r60 := Eq.symm r60; subst r60
        rw [o1]
        refine sx_cells h (by omega) (by omega) dX7_put_63 (by omega) (by omega) ?_
        refine g_iconst h dX7_put_64 rfl ?_
        have hq0 : qPt (vX σ) k i = 0 := by unfold qPt; rw [e10, e11, if_neg c27, if_neg (fun z => z c42)]
        refine g_iret h hq rfl dX7_put_65 ⟨by unfold sp_put; rw [if_neg (by omega), if_neg (fun z => z hq0)], by unfold ns_put; rw [if_neg (by omega), if_neg (fun z => z hq0), vX_up_ce _ _ ck.1 (by omega) c42.1 (by omega), hF, e10]⟩
      · refine g_aload_n h dX7_put_45 rfl ?_
        refine g_iconst h dX7_put_46 rfl ?_
        refine g_vI h (c_X7_failed _ _) (by decide) lm_RX7_48 (rvV rfl) dX7_put_47 rfl (Nat.le_of_ble_eq_true rfl) (fun z47 s47 p47 => ?_)
        obtain ⟨e47, r47⟩ := p47; subst e47; replace r47 := Eq.symm r47; subst r47
        have hq0 : qPt (vX σ) k i = 3 := by unfold qPt; rw [e10, e11, if_neg c27, if_pos c42]
        refine g_iret h hq rfl dX7_put_50 ⟨by unfold sp_put; rw [if_neg (by omega), hq0, if_pos (by omega)], by unfold ns_put; rw [if_neg (by omega), hq0, if_pos (by omega), mUp_up]; exact vX_up_fault σ 3⟩
    · refine g_aload_n h dX7_put_30 rfl ?_
      refine g_iconst h dX7_put_31 rfl ?_
      refine g_vI h (c_X7_failed _ _) (by decide) lm_RX7_48 (rvV rfl) dX7_put_32 rfl (Nat.le_of_ble_eq_true rfl) (fun z32 s32 p32 => ?_)
      obtain ⟨e32, r32⟩ := p32; subst e32; replace r32 := Eq.symm r32; subst r32
      have hq0 : qPt (vX σ) k i = 1 := by unfold qPt; rw [e10, e11, if_pos c27]
      refine g_iret h hq rfl dX7_put_35 ⟨by unfold sp_put; rw [if_neg (by omega), hq0, if_pos (by omega)], by unfold ns_put; rw [if_neg (by omega), hq0, if_pos (by omega), mUp_up]; exact vX_up_fault σ 1⟩
  · refine g_iconst h dX7_put_12 rfl ?_
    refine g_iret h hq rfl dX7_put_13 ⟨by unfold sp_put; rw [if_pos c9], by unfold ns_put; rw [if_pos c9]; exact hF⟩
set_option maxRecDepth 100000 in
set_option maxHeartbeats 2000000 in
theorem c_X7_cell {l : Launch} {D : va_G} {cs : mC} {ad : Int → Nat} (σ : mS) (k i l9 : Int) (hk9 : i32 k) (hi : i32 i) (hl : i32 l9) (hW : qW (vX σ)) : CL l (gX D cs ad) M_X7_cell 2 [.ref (ad 0), mI k, mI i, mI l9] σ (fun z s => z = sp_cell (vX σ) k i l9 ∧ vX s = ns_cell (vX σ) k i l9) := by
  refine CL.of (by decide) (Nat.le_of_ble_eq_true rfl) (fun x h hq => ?_)
  show mG x 0 [(0, .ref (ad 0)), (1, mI k), (2, mI i), (3, mI l9)] [] σ
  have hF := vX_up_fault σ 0
  have hW1 : qW (vX (mUp σ 0 4 0)) := by rw [hF]; exact qW_up0 hW 0 (by omega)
  refine g_aload_n h dX7_cell_0 rfl ?_
  refine g_iconst h dX7_cell_1 rfl ?_
  refine pxV_latestFault h dX7_cell_2 lf_RX7_32 ?_
  refine g_iload_n h dX7_cell_5 rfl ?_
  refine g_sI h (c_X7_noSheet _ _ hk9) (by decide) lm_RX7_36 dX7_cell_6 rfl (Nat.le_of_ble_eq_true rfl) (fun z6 s6 p6 => ?_)
  obtain ⟨e6, r6⟩ := p6; subst e6; replace r6 := Eq.symm r6; subst r6
  refine g_ifb_ne (tgt := 20) h dX7_cell_9 (by decide)  (fun c9 => ?_) (fun c9 => ?_)
  · refine g_ldc2 (v := -9223372036854775808) h dX7_cell_20 lc_RX7_174 (by decide) ?_
    refine g_lret h hq rfl dX7_cell_23 ⟨by unfold sp_cell; rw [if_pos (Or.inl c9)], by unfold ns_cell; rw [if_pos (Or.inl c9)]; exact hF⟩
  · refine g_iload_n h dX7_cell_12 rfl ?_
    refine g_iconst h dX7_cell_13 rfl ?_
    refine g_sI h (c_X7_within _ _ _ hl ⟨by omega, by omega⟩) (by decide) lm_RX7_40 dX7_cell_14 rfl (Nat.le_of_ble_eq_true rfl) (fun z14 s14 p14 => ?_)
    obtain ⟨e14, r14⟩ := p14; subst e14; replace r14 := Eq.symm r14; subst r14
    refine g_ifb_ne (tgt := 24) h dX7_cell_17 (by decide)  (fun c17 => ?_) (fun c17 => ?_)
    · have ck : 0 ≤ k ∧ k ≤ 3 := by omega
      have hk := hW.2.2.2.2.2 k (by omega) (by omega)
      have e10 := vX_so σ (show 0 ≤ k by omega) (show k < 4 by omega)
      have e11 := vX_le σ (show 0 ≤ k by omega) (show k < 4 by omega)
      rw [e10, e11] at hk
      have o1 : mUp σ 0 4 0 (16 + k) 1 = σ (16 + k) 1 := mUp_ne _ _ (by omega)
      have o2 : mUp σ 0 4 0 (16 + k) 2 = σ (16 + k) 2 := mUp_ne _ _ (by omega)
      have J63 : ∀ f9 : Int, f9 = qCe (vX σ) k i l9 → mG x 63 [(0, .ref (ad 0)), (1, mI k), (2, mI i), (3, mI l9), (4, .ref (ad (16 + k)))] [] (mUp σ 0 4 f9) := by
        intro f9 hf9
        have q03 : 0 ≤ qCe (vX σ) k i l9 ∧ qCe (vX σ) k i l9 ≤ 3 := by
          unfold qCe
          repeat' split
          all_goals omega
        have ef : mUp σ 0 4 f9 0 4 = f9 := mUp_eq _ _ _ _
        have hns : vX (mUp σ 0 4 f9) = ns_cell (vX σ) k i l9 := by unfold ns_cell; rw [if_neg (by omega), ← hf9]; exact vX_up_fault σ f9
        refine g_aload_n h dX7_cell_63 rfl ?_
        refine gxV_latestFault h dX7_cell_64 lf_RX7_32 ?_
        refine g_val (b := f9) ef ?_
        refine g_if_ne (tgt := 81) h dX7_cell_67 (by decide) ⟨by omega, by omega⟩ (fun c67 => ?_) (fun c67 => ?_)
        · refine g_ldc2 (v := -9223372036854775808) h dX7_cell_81 lc_RX7_174 (by decide) ?_
          refine g_lret h hq rfl dX7_cell_84 ⟨by unfold sp_cell; rw [if_neg (by omega), if_pos (by omega)], hns⟩
        · have hin : 0 ≤ i ∧ i < σ (16 + k) 2 := by
            have hq9 := hf9
            unfold qCe at hq9
            rw [e10, e11] at hq9
            by_cases a1 : σ (16 + k) 1 = -1
            · rw [if_pos a1] at hq9; omega
            · rw [if_neg a1] at hq9
              by_cases a2 : ¬ σ (16 + k) 1 = l9
              · rw [if_pos a2] at hq9; omega
              · rw [if_neg a2] at hq9
                by_cases a3 : ¬ (0 ≤ i ∧ i < σ (16 + k) 2)
                · rw [if_pos a3] at hq9; omega
                · omega
          refine g_aload h dX7_cell_70 rfl ?_
          refine gxS_cells h (by omega) (by omega) dX7_cell_72 lf_RX7_134 ?_
          refine g_iload_n h dX7_cell_75 rfl ?_
          refine lx_cells h (by omega) (by omega) dX7_cell_76 (by omega) (by omega) ?_
          refine g_val (b := vX σ (12 + k) i) (by rw [mUp_ne _ _ (Or.inl (by omega)), vX_ce σ ck.1 (by omega) hin.1 (by omega)]) ?_
          refine g_i2l h dX7_cell_77 (hk.2.2.2.2 i hin.1 (by omega)) ?_
          refine g_goto (tgt := 84) h dX7_cell_78 (by decide) ?_
          refine g_lret h hq rfl dX7_cell_84 ⟨by unfold sp_cell; rw [if_neg (by omega), if_neg (by omega)], hns⟩
      refine g_aload_n h dX7_cell_24 rfl ?_
      refine gxV_sheets h dX7_cell_25 lf_RX7_27 ?_
      refine g_iload_n h dX7_cell_28 rfl ?_
      refine lx_sheets h dX7_cell_29 (by omega) (by omega) ?_
      refine g_astore h dX7_cell_30 (by decide) rfl ?_
      refine g_aload_n h dX7_cell_32 rfl ?_
      refine g_aload h dX7_cell_33 rfl ?_
      refine g_iload_n h dX7_cell_35 rfl ?_
      refine g_vI h (c_X3_faultOfLane _ _ _ (by omega) (by omega) hl (by rw [o1]; omega) (by rw [o1]; omega)) (by decide) lm_RX7_196 (rvS rfl (by omega) (by omega)) dX7_cell_36 rfl (Nat.le_of_ble_eq_true rfl) (fun z36 s36 p36 => ?_)
      obtain ⟨e36, r36⟩ := p36; subst e36; replace r36 := Eq.symm r36; subst r36
      rw [o1]
      refine pxV_latestFault h dX7_cell_39 lf_RX7_32 ?_
      refine g_sta (mUp_up _ _ _ _ _) ?_
      have fl : ∃ F : Int, F = (if σ (16 + k) 1 = -1 then 1 else if ¬ σ (16 + k) 1 = l9 then 2 else 0) ∧ 0 ≤ F ∧ F ≤ 2 := ⟨_, rfl, by split; omega; split <;> omega, by split; omega; split <;> omega⟩
      obtain ⟨F, hF9, F0, F2⟩ := fl
      rw [← hF9]
      refine g_aload_n h dX7_cell_42 rfl ?_
      refine gxV_latestFault h dX7_cell_43 lf_RX7_32 ?_
      refine g_val (b := F) (mUp_eq _ _ _ _) ?_
      refine g_if_ne (tgt := 63) h dX7_cell_46 (by decide) ⟨by omega, by omega⟩ (fun c46 => ?_) (fun c46 => ?_)
      · refine J63 F ?_
        unfold qCe
        rw [e10, e11, hF9]
        by_cases a1 : σ (16 + k) 1 = -1
        · rw [if_pos a1, if_pos a1]
        · rw [if_neg a1, if_neg a1]
          by_cases a2 : ¬ σ (16 + k) 1 = l9
          · rw [if_pos a2, if_pos a2]
          · rw [if_neg a1, if_neg a2] at hF9
            omega
      · have a1 : ¬ σ (16 + k) 1 = -1 := fun z => by rw [if_pos z] at hF9; omega
        have a2 : ¬ ¬ σ (16 + k) 1 = l9 := fun z => by rw [if_neg a1, if_pos z] at hF9; omega
        have o2' : mUp σ 0 4 F (16 + k) 2 = σ (16 + k) 2 := mUp_ne _ _ (by omega)
        refine g_aload h dX7_cell_49 rfl ?_
        refine g_iload_n h dX7_cell_51 rfl ?_
        refine g_vI h (c_X3_has _ _ _ (by omega) (by omega) hi (by rw [o2']; omega) (by rw [o2']; omega)) (by decide) lm_RX7_190 (rvS rfl (by omega) (by omega)) dX7_cell_52 rfl (Nat.le_of_ble_eq_true rfl) (fun z52 s52 p52 => ?_)
        obtain ⟨e52, r52⟩ := p52; subst e52; replace r52 := Eq.symm r52; subst r52
        rw [o2']
        refine g_ifb_ne (tgt := 63) h dX7_cell_55 (by decide)  (fun c55 => ?_) (fun c55 => ?_)
        · refine J63 F ?_
          unfold qCe
          rw [e10, e11, if_neg a1, if_neg a2, if_neg (fun z => z c55)]
          exact c46
        · refine g_aload_n h dX7_cell_58 rfl ?_
          refine g_iconst h dX7_cell_59 rfl ?_
          refine pxV_latestFault h dX7_cell_60 lf_RX7_32 ?_
          refine g_sta (mUp_up _ _ _ _ _) ?_
          refine J63 3 ?_
          unfold qCe
          rw [e10, e11, if_neg a1, if_neg a2, if_pos c55]
    · refine g_ldc2 (v := -9223372036854775808) h dX7_cell_20 lc_RX7_174 (by decide) ?_
      refine g_lret h hq rfl dX7_cell_23 ⟨by unfold sp_cell; rw [if_pos (Or.inr c17)], by unfold ns_cell; rw [if_pos (Or.inr c17)]; exact hF⟩
