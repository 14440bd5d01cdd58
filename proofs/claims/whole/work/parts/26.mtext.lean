/-! ===== a text: tx p its codes, n how many ===== -/
def qLo (p : Int) : Int := if p = 0 then 109 else if p = 3 then 50 else if p = 5 then 49 else if p < 7 then 48 else if p % 7 = 0 then 59 else if p % 7 = 6 then 49 else 48
def qHi (p : Int) : Int := if p = 0 then 109 else if p = 1 then 50 else if p = 3 then 54 else if p = 5 then 50 else if p < 7 then 57 else if p % 7 = 0 then 59 else if p % 7 = 4 ∨ p % 7 = 5 then 54 else 57
def qFt (tx : Int → Int) (p : Int) : Bool := if 49 ≤ p then false else if 7 ≤ p ∧ p % 7 = 1 then decide (tx p = 98 ∨ tx p = 115 ∨ tx p = 114) else if p = 4 ∧ tx 3 = 54 then decide (tx 4 = 48) else decide (qLo p ≤ tx p ∧ tx p ≤ qHi p)
/-- the first fault -/
def qFf (tx : Int → Int) (n : Int) : Int := fstN (fun p => !qFt tx p) n.toNat
theorem qFf_is {tx : Int → Int} {n p : Int} (h0 : 0 ≤ p) (h1 : p ≤ n) (hf : ∀ q : Int, 0 ≤ q → q < p → qFt tx q = true) (hp : p = n ∨ qFt tx p = false) : qFf tx n = p := by
  unfold qFf
  rcases hp with hp | hp
  · rw [fstN_no (fun i i0 i1 => by rw [hf i i0 (by omega)]; rfl)]; omega
  · by_cases e : p = n
    · rw [fstN_no (fun i i0 i1 => by rw [hf i i0 (by omega)]; rfl)]; omega
    · exact fstN_is h0 (by omega) (by rw [hp]; rfl) (fun j j0 j1 => by rw [hf j j0 j1]; rfl)
/-- but for the reader's own numbers the same -/
def mPr (σ s : mS) : Prop := (∀ k : Int, ¬ k = 0 → ¬ k = 10 → s k = σ k) ∧ ∀ j : Int, (j < 20 ∨ 25 < j) → s 0 j = σ 0 j
theorem mPr.rf (σ : mS) : mPr σ σ := ⟨fun _ _ _ => rfl, fun _ _ => rfl⟩
theorem mPr.tr {σ s t : mS} (h : mPr σ s) (h' : mPr s t) : mPr σ t := ⟨fun k a b => (h'.1 k a b).trans (h.1 k a b), fun j a => (h'.2 j a).trans (h.2 j a)⟩
theorem mPr.up0 (σ : mS) {j : Int} (v : Int) (h0 : 20 ≤ j) (h1 : j ≤ 25) : mPr σ (mUp σ 0 j v) := ⟨fun k a _ => mUp_off σ j v a, fun i hi => mUp_ne σ v (Or.inr (by omega))⟩
theorem mPr.up10 (σ : mS) (j v : Int) : mPr σ (mUp σ 10 j v) := ⟨fun k _ b => mUp_off σ j v b, fun i hi => mUp_ne σ v (Or.inl (by omega))⟩
theorem mPr.sh {σ s : mS} (h : mPr σ s) : mSh σ s := ⟨fun j hj => h.2 j (by omega), fun k k0 k1 => h.1 k (by omega) (by omega), fun k k0 => h.1 k (by omega) (by omega)⟩
set_option maxRecDepth 100000 in
set_option maxHeartbeats 2000000 in
theorem c_X8_digit {l : Launch} {D : va_G} {cs : mC} {ad : Int → Nat} (σ : mS) (e9 a b : Int) (p0 : 0 ≤ σ 0 20) (p1 : σ 0 20 ≤ e9) (e240 : e9 ≤ 240) (hc : ∀ q : Int, 0 ≤ q → q < 240 → i32 (σ 3 q)) (a0 : 0 ≤ a) (a1 : a ≤ 9) (b0 : 0 ≤ b) (b1 : b ≤ 9) : CI l (gM D cs ad) M_X8_digit 1 [.ref (ad 0), mI e9, mI a, mI b] σ (fun z s => z = (if (σ 0 20 < e9 ∧ (48 + a ≤ σ 3 (σ 0 20) ∧ σ 3 (σ 0 20) ≤ 48 + b)) then σ 3 (σ 0 20) - 48 else -9) ∧ s = (if (σ 0 20 < e9 ∧ (48 + a ≤ σ 3 (σ 0 20) ∧ σ 3 (σ 0 20) ≤ 48 + b)) then mUp σ 0 20 (σ 0 20 + 1) else σ)) := by
  refine CI.of (by decide) (Nat.le_of_ble_eq_true rfl) (fun x h hq => ?_)
  show mG x 0 [(0, .ref (ad 0)), (1, mI e9), (2, mI a), (3, mI b)] [] σ
  refine g_aload_n h dX8_digit_0 rfl ?_
  refine gm_at h dX8_digit_1 lf_RX8_75 ?_
  refine g_iload_n h dX8_digit_4 rfl ?_
  refine g_icmp_ge (tgt := 31) h dX8_digit_5 (by decide) ⟨by omega, by omega⟩ ⟨by omega, by omega⟩ (fun c5 => ?_) (fun c5 => ?_)
  · refine g_bipush h dX8_digit_31 (by decide) ?_
    refine g_iret h hq rfl dX8_digit_33 ⟨by rw [if_neg (by omega)], by rw [if_neg (by omega)]⟩
  · refine g_aload_n h dX8_digit_8 rfl ?_
    refine gm_cells h dX8_digit_9 lf_RX8_16 ?_
    refine g_aload_n h dX8_digit_12 rfl ?_
    refine gm_at h dX8_digit_13 lf_RX8_75 ?_
    refine lm_cells h dX8_digit_16 (by omega) (by omega) ?_
    refine g_bipush h dX8_digit_17 (by decide) ?_
    refine g_iload_n h dX8_digit_19 rfl ?_
    refine g_iadd h dX8_digit_20 ?_
    refine g_bipush h dX8_digit_21 (by decide) ?_
    refine g_iload_n h dX8_digit_23 rfl ?_
    refine g_iadd h dX8_digit_24 ?_
    refine g_sI h (c_X8_within _ _ _ _ (hc _ (by omega) (by omega)) ⟨by omega, by omega⟩ ⟨by omega, by omega⟩) (by decide) lm_RX8_68 dX8_digit_25 rfl (Nat.le_of_ble_eq_true rfl) (fun z25 s25 p25 => ?_)
    obtain ⟨e25, r25⟩ := p25; subst e25; replace r25 := Eq.symm r25; subst r25
    refine g_ifb_ne (tgt := 34) h dX8_digit_28 (by decide)  (fun c28 => ?_) (fun c28 => ?_)
    · refine g_aload_n h dX8_digit_34 rfl ?_
      refine g_dup h dX8_digit_35 rfl ?_
      refine gm_at h dX8_digit_36 lf_RX8_75 ?_
      refine g_iconst h dX8_digit_39 rfl ?_
      refine g_iadd h dX8_digit_40 ?_
      refine pm_at h dX8_digit_41 lf_RX8_75 ?_
      refine g_aload_n h dX8_digit_44 rfl ?_
      refine gm_cells h dX8_digit_45 lf_RX8_16 ?_
      refine g_aload_n h dX8_digit_48 rfl ?_
      refine gm_at h dX8_digit_49 lf_RX8_75 ?_
      refine g_iconst h dX8_digit_52 rfl ?_
      refine g_val2 (b := σ 0 20 + 1) (mUp_eq σ 0 20 _) ?_
      refine g_isub h dX8_digit_53 ?_
      refine g_val (b := σ 0 20) (by omega) ?_
      refine lm_cells h dX8_digit_54 (by omega) (by omega) ?_
      refine g_val (b := σ 3 (σ 0 20)) (mUp_ne σ _ (Or.inl (by omega))) ?_
      refine g_bipush h dX8_digit_55 (by decide) ?_
      refine g_isub h dX8_digit_57 ?_
      refine g_iret h hq rfl dX8_digit_58 ⟨by rw [if_pos ⟨by omega, c28⟩], by rw [if_pos ⟨by omega, c28⟩]⟩
    · refine g_bipush h dX8_digit_31 (by decide) ?_
      refine g_iret h hq rfl dX8_digit_33 ⟨by rw [if_neg (fun z => c28 z.2)], by rw [if_neg (fun z => c28 z.2)]⟩
set_option maxRecDepth 100000 in
set_option maxHeartbeats 2000000 in
theorem c_X8_isSign {l : Launch} {D : va_G} {cs : mC} {ad : Int → Nat} (σ : mS) (e9 c : Int) (p0 : 0 ≤ σ 0 20) (p1 : σ 0 20 ≤ e9) (e240 : e9 ≤ 240) (hc : ∀ q : Int, 0 ≤ q → q < 240 → i32 (σ 3 q)) (c0 : 0 ≤ c) (c1 : c ≤ 200) : CI l (gM D cs ad) M_X8_isSign 0 [.ref (ad 0), mI e9, mI c] σ (fun z s => z = bl (σ 0 20 < e9 ∧ σ 3 (σ 0 20) = c) ∧ s = (if (σ 0 20 < e9 ∧ σ 3 (σ 0 20) = c) then mUp σ 0 20 (σ 0 20 + 1) else σ)) := by
  refine CI.of (by decide) (Nat.le_of_ble_eq_true rfl) (fun x h hq => ?_)
  show mG x 0 [(0, .ref (ad 0)), (1, mI e9), (2, mI c)] [] σ
  refine g_aload_n h dX8_isSign_0 rfl ?_
  refine gm_at h dX8_isSign_1 lf_RX8_75 ?_
  refine g_iload_n h dX8_isSign_4 rfl ?_
  refine g_icmp_ge (tgt := 21) h dX8_isSign_5 (by decide) ⟨by omega, by omega⟩ ⟨by omega, by omega⟩ (fun c5 => ?_) (fun c5 => ?_)
  · refine g_iconst h dX8_isSign_21 rfl ?_
    refine g_zret h hq rfl dX8_isSign_22 (Or.inl rfl) ⟨bl0 (by omega), by rw [if_neg (by omega)]⟩
  · refine g_aload_n h dX8_isSign_8 rfl ?_
    refine gm_cells h dX8_isSign_9 lf_RX8_16 ?_
    refine g_aload_n h dX8_isSign_12 rfl ?_
    refine gm_at h dX8_isSign_13 lf_RX8_75 ?_
    refine lm_cells h dX8_isSign_16 (by omega) (by omega) ?_
    refine g_iload_n h dX8_isSign_17 rfl ?_
    refine g_icmp_eq (tgt := 23) h dX8_isSign_18 (by decide) (hc _ (by omega) (by omega)) ⟨by omega, by omega⟩ (fun c18 => ?_) (fun c18 => ?_)
    · refine g_aload_n h dX8_isSign_23 rfl ?_
      refine g_dup h dX8_isSign_24 rfl ?_
      refine gm_at h dX8_isSign_25 lf_RX8_75 ?_
      refine g_iconst h dX8_isSign_28 rfl ?_
      refine g_iadd h dX8_isSign_29 ?_
      refine pm_at h dX8_isSign_30 lf_RX8_75 ?_
      refine g_iconst h dX8_isSign_33 rfl ?_
      refine g_zret h hq rfl dX8_isSign_34 (Or.inr rfl) ⟨bl1 ⟨by omega, c18⟩, by rw [if_pos ⟨by omega, c18⟩]⟩
    · refine g_iconst h dX8_isSign_21 rfl ?_
      refine g_zret h hq rfl dX8_isSign_22 (Or.inl rfl) ⟨bl0 (fun z => c18 z.2), by rw [if_neg (fun z => c18 z.2)]⟩
/-- two digits: the first, the second -/
def n1 (σ : mS) (e9 a b : Int) : Prop := σ 0 20 < e9 ∧ (48 + a / 10 ≤ σ 3 (σ 0 20) ∧ σ 3 (σ 0 20) ≤ 48 + b / 10)
def n2 (σ : mS) (e9 b : Int) : Prop := σ 0 20 + 1 < e9 ∧ (48 + 0 ≤ σ 3 (σ 0 20 + 1) ∧ σ 3 (σ 0 20 + 1) ≤ 48 + (if σ 3 (σ 0 20) - 48 = b / 10 then b % 10 else 9))
set_option maxRecDepth 100000 in
set_option maxHeartbeats 2000000 in
theorem c_X8_number {l : Launch} {D : va_G} {cs : mC} {ad : Int → Nat} (σ : mS) (e9 a b : Int) (p0 : 0 ≤ σ 0 20) (p1 : σ 0 20 ≤ e9) (e240 : e9 ≤ 240) (hc : ∀ q : Int, 0 ≤ q → q < 240 → i32 (σ 3 q)) (a0 : 0 ≤ a) (a1 : a ≤ 99) (b0 : 0 ≤ b) (b1 : b ≤ 99) : CI l (gM D cs ad) M_X8_number 2 [.ref (ad 0), mI e9, mI a, mI b] σ (fun z s => (n1 σ e9 a b ∧ n2 σ e9 b ∧ z = 10 * (σ 3 (σ 0 20) - 48) + (σ 3 (σ 0 20 + 1) - 48) ∧ s = mUp σ 0 20 (σ 0 20 + 2)) ∨ (n1 σ e9 a b ∧ ¬ n2 σ e9 b ∧ z = -9 ∧ s = mUp σ 0 20 (σ 0 20 + 1)) ∨ (¬ n1 σ e9 a b ∧ z = -9 ∧ s = σ)) := by
  refine CI.of (by decide) (Nat.le_of_ble_eq_true rfl) (fun x h hq => ?_)
  show mG x 0 [(0, .ref (ad 0)), (1, mI e9), (2, mI a), (3, mI b)] [] σ
  refine g_aload_n h dX8_number_0 rfl ?_
  refine g_iload_n h dX8_number_1 rfl ?_
  refine g_iload_n h dX8_number_2 rfl ?_
  refine g_bipush h dX8_number_3 (by decide) ?_
  refine g_idiv h dX8_number_5 (by omega) (by omega) (by omega) (by omega) ?_
  refine g_iload_n h dX8_number_6 rfl ?_
  refine g_bipush h dX8_number_7 (by decide) ?_
  refine g_idiv h dX8_number_9 (by omega) (by omega) (by omega) (by omega) ?_
  refine g_vI h (c_X8_digit _ _ _ _ p0 p1 e240 hc (by omega) (by omega) (by omega) (by omega)) (by decide) lm_RX8_78 (rvM rfl) dX8_number_10 rfl (Nat.le_of_ble_eq_true rfl) (fun z10 s10 p10 => ?_)
  obtain ⟨e10q, r10q⟩ := p10
  by_cases hn1 : n1 σ e9 a b
  · have hn1b := hn1
    unfold n1 at hn1b
    rw [if_pos hn1b] at e10q r10q
    subst e10q; subst r10q
    have J46 : ∀ c : Int, c = (if σ 3 (σ 0 20) - 48 = b / 10 then b % 10 else 9) → mG x 46 [(0, .ref (ad 0)), (1, mI e9), (2, mI a), (3, mI b), (4, mI (σ 3 (σ 0 20) - 48))] [mI c, mI 0, mI e9, .ref (ad 0)] (mUp σ 0 20 (σ 0 20 + 1)) := by
      intro c hc9
      have hcb : 0 ≤ c ∧ c ≤ 9 := by rw [hc9]; split <;> omega
      have e20 : mUp σ 0 20 (σ 0 20 + 1) 0 20 = σ 0 20 + 1 := mUp_eq σ 0 20 _
      have e3 : mUp σ 0 20 (σ 0 20 + 1) 3 = σ 3 := mUp_off σ _ _ (by omega)
      refine g_vI h (c_X8_digit _ _ _ _ (by rw [e20]; omega) (by rw [e20]; omega) e240 (by rw [e3]; exact hc) (by omega) (by omega) hcb.1 hcb.2) (by decide) lm_RX8_78 (rvM rfl) dX8_number_46 rfl (Nat.le_of_ble_eq_true rfl) (fun z46 s46 p46 => ?_)
      obtain ⟨e46q, r46q⟩ := p46
      rw [e20, e3] at e46q r46q
      by_cases g : σ 0 20 + 1 < e9 ∧ (48 + 0 ≤ σ 3 (σ 0 20 + 1) ∧ σ 3 (σ 0 20 + 1) ≤ 48 + c)
      · rw [if_pos g] at e46q r46q
        rw [mUp_up] at r46q
        have g2 : n2 σ e9 b := by unfold n2; rw [← hc9]; exact g
        subst e46q; subst r46q
        refine g_istore h dX8_number_49 (by decide) rfl ?_
        refine g_iload h dX8_number_51 rfl ?_
        refine g_bipush h dX8_number_53 (by decide) ?_
        refine g_icmp_ne (tgt := 63) h dX8_number_55 (by decide) ⟨by omega, by omega⟩ ⟨by omega, by omega⟩ (fun c55 => ?_) (fun c55 => ?_)
        · refine g_bipush h dX8_number_63 (by decide) ?_
          refine g_iload h dX8_number_65 rfl ?_
          refine g_imul h dX8_number_67 ?_
          refine g_iload h dX8_number_68 rfl ?_
          refine g_iadd h dX8_number_70 ?_
          refine g_iret h hq rfl dX8_number_71 (Or.inl ⟨hn1, g2, by omega, by rw [show σ 0 20 + 1 + 1 = σ 0 20 + 2 by omega]⟩)
        · refine g_bipush h dX8_number_58 (by decide) ?_
          refine g_goto (tgt := 71) h dX8_number_60 (by decide) ?_
          refine g_iret h hq rfl dX8_number_71 (absurd c55 (by omega))
      · rw [if_neg g] at e46q r46q
        have g2 : ¬ n2 σ e9 b := by unfold n2; rw [← hc9]; exact g
        subst e46q; subst r46q
        refine g_istore h dX8_number_49 (by decide) rfl ?_
        refine g_iload h dX8_number_51 rfl ?_
        refine g_bipush h dX8_number_53 (by decide) ?_
        refine g_icmp_ne (tgt := 63) h dX8_number_55 (by decide) ⟨by omega, by omega⟩ ⟨by omega, by omega⟩ (fun c55 => ?_) (fun c55 => ?_)
        · refine g_bipush h dX8_number_63 (by decide) ?_
          refine g_iload h dX8_number_65 rfl ?_
          refine g_imul h dX8_number_67 ?_
          refine g_iload h dX8_number_68 rfl ?_
          refine g_iadd h dX8_number_70 ?_
          refine g_iret h hq rfl dX8_number_71 (absurd rfl c55)
        · refine g_bipush h dX8_number_58 (by decide) ?_
          refine g_goto (tgt := 71) h dX8_number_60 (by decide) ?_
          refine g_iret h hq rfl dX8_number_71 (Or.inr (Or.inl ⟨hn1, g2, rfl, rfl⟩))
    refine g_istore h dX8_number_13 (by decide) rfl ?_
    refine g_iload h dX8_number_15 rfl ?_
    refine g_bipush h dX8_number_17 (by decide) ?_
    refine g_icmp_ne (tgt := 25) h dX8_number_19 (by decide) ⟨by omega, by omega⟩ ⟨by omega, by omega⟩ (fun c19 => ?_) (fun c19 => ?_)
    · refine g_aload_n h dX8_number_25 rfl ?_
      refine g_iload_n h dX8_number_26 rfl ?_
      refine g_iconst h dX8_number_27 rfl ?_
      refine g_iload h dX8_number_28 rfl ?_
      refine g_iload_n h dX8_number_30 rfl ?_
      refine g_bipush h dX8_number_31 (by decide) ?_
      refine g_idiv h dX8_number_33 (by omega) (by omega) (by omega) (by omega) ?_
      refine g_icmp_ne (tgt := 44) h dX8_number_34 (by decide) ⟨by omega, by omega⟩ ⟨by omega, by omega⟩ (fun c34 => ?_) (fun c34 => ?_)
      · refine g_bipush h dX8_number_44 (by decide) ?_
        exact J46 _ (by rw [if_neg c34])
      · refine g_iload_n h dX8_number_37 rfl ?_
        refine g_bipush h dX8_number_38 (by decide) ?_
        refine g_irem h dX8_number_40 (by omega) (by omega) (by omega) (by omega) ?_
        refine g_goto (tgt := 46) h dX8_number_41 (by decide) ?_
        exact J46 _ (by rw [if_pos c34])
    · omega
  · have hn1b := hn1
    unfold n1 at hn1b
    rw [if_neg hn1b] at e10q r10q
    subst e10q; subst r10q
    refine g_istore h dX8_number_13 (by decide) rfl ?_
    refine g_iload h dX8_number_15 rfl ?_
    refine g_bipush h dX8_number_17 (by decide) ?_
    refine g_icmp_ne (tgt := 25) h dX8_number_19 (by decide) ⟨by omega, by omega⟩ ⟨by omega, by omega⟩ (fun c19 => ?_) (fun c19 => ?_)
    · exact absurd rfl c19
    · refine g_bipush h dX8_number_22 (by decide) ?_
      refine g_iret h hq rfl dX8_number_24 (Or.inr (Or.inr ⟨hn1, rfl, rfl⟩))
