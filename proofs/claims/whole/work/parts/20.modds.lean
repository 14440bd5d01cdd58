section ML
variable {x : mX} {l : Launch} {μ : mM} {n : Nat} {Γ : mE} {pc : Nat} {lv : List (Nat × Value)} {st : List Value} {σ : mS}
theorem i64_0 : (0 : Int64) = Int64.ofInt 0 := by decide
theorem i64_eq {a b : Int} (ha : i64 a) (hb : i64 b) : Int64.ofInt a = Int64.ofInt b ↔ a = b := by rw [← Int64.toInt_inj, i64_to ha, i64_to hb]
theorem g_ldiv (h : mOk x l μ n Γ) {a b : Int} (hd : decode μ.2.1 pc = .ok (.ldiv, 1)) (ha : 0 ≤ a) (ha2 : a ≤ 9223372036854775807) (hb : 0 < b) (hb2 : b ≤ 9223372036854775807) (kk : mG x (pc + 1) lv (mL (a / b) :: st) σ) : mG x pc lv (mL b :: mL a :: st) σ := by
  intro H locs ls hP hS hl
  have q := kk H locs ls hP hS hl
  have e : Int64.ofInt (a / b) = Int64.ofInt a / Int64.ofInt b := by
    rw [← Int.tdiv_eq_ediv_of_nonneg ha]
    exact Int64.ofInt_tdiv (by show (-9223372036854775808 : Int) ≤ a; omega) (by show a ≤ 9223372036854775807; omega) (by show (-9223372036854775808 : Int) ≤ b; omega) (by show b ≤ 9223372036854775807; omega)
  refine lv_ldiv (x := Int64.ofInt a) (y := Int64.ofInt b) h.1 h.2.1 hd (fun z => ?_) ?_
  · have := (i64_eq (a := b) (b := 0) ⟨by omega, by omega⟩ ⟨by omega, by omega⟩).mp (z.trans i64_0)
    omega
  · rw [← e]
    exact q
theorem g_lrem (h : mOk x l μ n Γ) {a b : Int} (hd : decode μ.2.1 pc = .ok (.lrem, 1)) (ha : 0 ≤ a) (ha2 : a ≤ 9223372036854775807) (hb : 0 < b) (hb2 : b ≤ 9223372036854775807) (kk : mG x (pc + 1) lv (mL (a % b) :: st) σ) : mG x pc lv (mL b :: mL a :: st) σ := by
  intro H locs ls hP hS hl
  have q := kk H locs ls hP hS hl
  have e : Int64.ofInt (a / b) = Int64.ofInt a / Int64.ofInt b := by
    rw [← Int.tdiv_eq_ediv_of_nonneg ha]
    exact Int64.ofInt_tdiv (by show (-9223372036854775808 : Int) ≤ a; omega) (by show a ≤ 9223372036854775807; omega) (by show (-9223372036854775808 : Int) ≤ b; omega) (by show b ≤ 9223372036854775807; omega)
  have e2 : Int64.ofInt (a % b) = Int64.ofInt a - Int64.ofInt a / Int64.ofInt b * Int64.ofInt b := by
    rw [← e, ← Int64.ofInt_mul, ← Int64.ofInt_sub, Int.emod_def, Int.mul_comm]
  refine lv_lrem (x := Int64.ofInt a) (y := Int64.ofInt b) h.1 h.2.1 hd (fun z => ?_) ?_
  · have := (i64_eq (a := b) (b := 0) ⟨by omega, by omega⟩ ⟨by omega, by omega⟩).mp (z.trans i64_0)
    omega
  · rw [← e2]
    exact q
end ML
theorem cmp3_eq {a b : Int} : cmp3 a b = 0 ↔ a = b := by
  unfold cmp3
  by_cases h1 : b < a
  · rw [if_pos h1]; omega
  · rw [if_neg h1]
    by_cases h2 : a = b
    · rw [if_pos h2]; omega
    · rw [if_neg h2]; omega
theorem cmp3_rng (a b : Int) : i32 (cmp3 a b) := by
  unfold cmp3
  by_cases h1 : b < a
  · rw [if_pos h1]; exact ⟨by omega, by omega⟩
  · rw [if_neg h1]
    by_cases h2 : a = b
    · rw [if_pos h2]; exact ⟨by omega, by omega⟩
    · rw [if_neg h2]; exact ⟨by omega, by omega⟩
set_option maxRecDepth 100000 in
set_option maxHeartbeats 2000000 in
theorem lp_X8_gcd {x : mX} {l : Launch} {D : va_G} {cs : mC} {ad : Int → Nat} {post : Int → mS → Prop} (h : mOk x l M_X8_inLeastTerms 0 (gM D cs ad)) (hq : rL x (gM D cs ad) post) {σ : mS} {u v g : Nat} {w : Int} (hu : u ≤ 4096) (hv : v ≤ 4096) (hg : 0 < g) (hw0 : 0 ≤ w) (hw1 : w ≤ 1) (hp : post (if w = 0 then (u : Int) / (g : Int) else (v : Int) / (g : Int)) σ) : ∀ (f : Nat) (X Y : Nat), X ≤ 4096 → Y ≤ 4096 → Nat.gcd X Y = g → Y < f → mG x 6 [(0, mL (u : Int)), (2, mL (v : Int)), (4, mI w), (5, mL (X : Int)), (7, mL (Y : Int))] [] σ := by
  intro f
  induction f with
  | zero => intro X Y _ _ _ h; omega
  | succ f ih =>
    intro X Y hX hY hXY hf
    refine g_lload h dX8_inLeastTerms_6 rfl ?_
    refine g_lconst (v := 0) h dX8_inLeastTerms_8 (by decide) ?_
    refine g_lcmp h dX8_inLeastTerms_9 (by exact ⟨by omega, by omega⟩) (by exact ⟨by omega, by omega⟩) ?_
    refine g_if_eq (tgt := 31) h dX8_inLeastTerms_10 (by decide) (cmp3_rng _ _) (fun c10 => ?_) (fun c10 => ?_)
    · have hY0 : Y = 0 := by have := cmp3_eq.mp c10; omega
      have hXg : X = g := by rw [hY0, Nat.gcd_zero_right] at hXY; exact hXY
      refine g_iload h dX8_inLeastTerms_31 rfl ?_
      refine g_if_ne (tgt := 43) h dX8_inLeastTerms_33 (by decide) ⟨by omega, by omega⟩ (fun c33 => ?_) (fun c33 => ?_)
      · refine g_lload_n h dX8_inLeastTerms_43 rfl ?_
        refine g_lload h dX8_inLeastTerms_44 rfl ?_
        refine g_ldiv h dX8_inLeastTerms_46 (by omega) (by omega) (by omega) (by omega) ?_
        refine g_lret h hq rfl dX8_inLeastTerms_47 (by rw [if_neg c33] at hp; rw [hXg]; exact hp)
      · refine g_lload_n h dX8_inLeastTerms_36 rfl ?_
        refine g_lload h dX8_inLeastTerms_37 rfl ?_
        refine g_ldiv h dX8_inLeastTerms_39 (by omega) (by omega) (by omega) (by omega) ?_
        refine g_goto (tgt := 47) h dX8_inLeastTerms_40 (by decide) ?_
        refine g_lret h hq rfl dX8_inLeastTerms_47 (by rw [if_pos c33] at hp; rw [hXg]; exact hp)
    · have hY0 : 0 < Y := by
        rcases Nat.eq_zero_or_pos Y with q | q
        · exact absurd (cmp3_eq.mpr (by omega)) c10
        · exact q
      refine g_lload h dX8_inLeastTerms_13 rfl ?_
      refine g_lload h dX8_inLeastTerms_15 rfl ?_
      refine g_lrem h dX8_inLeastTerms_17 (by omega) (by omega) (by omega) (by omega) ?_
      refine g_lstore h dX8_inLeastTerms_18 (by decide) rfl ?_
      refine g_lload h dX8_inLeastTerms_20 rfl ?_
      refine g_lstore h dX8_inLeastTerms_22 (by decide) rfl ?_
      refine g_lload h dX8_inLeastTerms_24 rfl ?_
      refine g_lstore h dX8_inLeastTerms_26 (by decide) rfl ?_
      refine g_goto (tgt := 6) h dX8_inLeastTerms_28 (by decide) ?_
      refine g_lv (lv' := [(0, mL (u : Int)), (2, mL (v : Int)), (4, mI w), (5, mL (Y : Int)), (7, mL ((X % Y : Nat) : Int))]) rfl ?_
      exact ih Y (X % Y) hY (by have := Nat.mod_lt X hY0; omega) (by rw [Nat.gcd_comm, ← Nat.gcd_rec, Nat.gcd_comm]; exact hXY) (by have := Nat.mod_lt X hY0; omega)
set_option maxRecDepth 100000 in
set_option maxHeartbeats 2000000 in
theorem c_X8_inLeastTerms {l : Launch} {D : va_G} {cs : mC} {ad : Int → Nat} (σ : mS) (u v : Nat) (w : Int) (hu : u ≤ 4096) (hv : v ≤ 4096) (hv0 : 0 < v) (hw0 : 0 ≤ w) (hw1 : w ≤ 1) : CL l (gM D cs ad) M_X8_inLeastTerms 0 [mL (u : Int), mL (v : Int), mI w] σ (fun z s => z = (if w = 0 then (u : Int) / ((Nat.gcd u v : Nat) : Int) else (v : Int) / ((Nat.gcd u v : Nat) : Int)) ∧ s = σ) := by
  refine CL.of (by decide) (Nat.le_of_ble_eq_true rfl) (fun x h hq => ?_)
  show mG x 0 [(0, mL (u : Int)), (2, mL (v : Int)), (4, mI w)] [] σ
  refine g_lload_n h dX8_inLeastTerms_0 rfl ?_
  refine g_lstore h dX8_inLeastTerms_1 (by decide) rfl ?_
  refine g_lload_n h dX8_inLeastTerms_3 rfl ?_
  refine g_lstore h dX8_inLeastTerms_4 (by decide) rfl ?_
  refine g_lv (lv' := [(0, mL (u : Int)), (2, mL (v : Int)), (4, mI w), (5, mL (u : Int)), (7, mL (v : Int))]) rfl ?_
  exact lp_X8_gcd h hq hu hv (Nat.gcd_pos_of_pos_right u hv0) hw0 hw1 ⟨rfl, rfl⟩ 4097 u v hu hv rfl (by omega)
/-- odds in least terms -/
noncomputable def qOd (τ : mS) (b d w : Int) : Int := if w = 0 then qOn2 τ b d / ((Nat.gcd (qOn2 τ b d).toNat (2 ^ (qNm τ).toNat) : Nat) : Int) else ((2 ^ (qNm τ).toNat : Nat) : Int) / ((Nat.gcd (qOn2 τ b d).toNat (2 ^ (qNm τ).toNat) : Nat) : Int)
noncomputable def sp_odds (τ : mS) (b d w : Int) : Int := if ¬ (0 ≤ b ∧ b < τ 0 4) ∨ ¬ (0 ≤ d ∧ d ≤ 109) ∨ ¬ (0 ≤ w ∧ w ≤ 1) then -9223372036854775808 else qOd τ b d w
theorem sp_odds_in {τ : mS} {b d w : Int} (h1 : 0 ≤ b ∧ b < τ 0 4) (h2 : 0 ≤ d ∧ d ≤ 109) (h3 : 0 ≤ w ∧ w ≤ 1) : sp_odds τ b d w = qOd τ b d w := by
  unfold sp_odds
  rw [if_neg]
  rintro (z | z | z)
  · exact z h1
  · exact z h2
  · exact z h3
theorem cntS_next (g : Nat → Bool) (S : Nat) : cntS g S + bl (g S = true) = cntS g (S + 1) := rfl
set_option maxRecDepth 100000 in
set_option maxHeartbeats 2000000 in
theorem lp_X8_odds {x : mX} {l : Launch} {D : va_G} {cs : mC} {ad : Int → Nat} {post : Int → mS → Prop} (h : mOk x l M_X8_odds 5 (gM D cs ad)) (hq : rL x (gM D cs ad) post) {σ : mS} {b d w : Int} (b0 : 0 ≤ b) (b1 : b < σ 0 9) (d0 : 0 ≤ d) (d1 : d ≤ 109) (w0 : 0 ≤ w) (w1 : w ≤ 1) (hw : mWf σ) (hI : mIdl σ) (hp : ∀ t : mS, mSc σ t → post (qOd (vM σ) b d w) t) : ∀ (f : Nat) (S : Nat) (s : mS), S ≤ 2 ^ (qNm (vM σ)).toNat → 2 ^ (qNm (vM σ)).toNat - S < f → mSq 0 17 (mUp σ 0 18 1) s → mG x 47 [(0, .ref (ad 0)), (1, mI b), (2, mI d), (3, mI w), (4, mI ((2 ^ (qNm (vM σ)).toNat : Nat) : Int)), (5, mI (cntS (qOg (vM σ) b d) S)), (6, mI (S : Int))] [] s := by
  intro f
  have hn6 : σ 0 9 ≤ 6 := hw.1.2.1
  obtain ⟨m0, m1, m2, m3⟩ := qNm_sp hw.1 hw.2.1
  have hpw := pow_nm m0 m1
  induction f with
  | zero => intro S s h1 h2; omega
  | succ f ih =>
    intro S s h1 h2 hs
    refine g_iload h dX8_odds_47 rfl ?_
    refine g_iload h dX8_odds_49 rfl ?_
    refine g_icmp_ge (tgt := 80) h dX8_odds_51 (by decide) ⟨by omega, by omega⟩ ⟨by omega, by omega⟩ (fun c51 => ?_) (fun c51 => ?_)
    · obtain ⟨c0, c1⟩ := cntS_bd (qOg (vM σ) b d) (2 ^ (qNm (vM σ)).toNat)
      have hpos : 0 < 2 ^ (qNm (vM σ)).toNat := Nat.pow_pos (by omega)
      have eS : S = 2 ^ (qNm (vM σ)).toNat := by omega
      subst eS
      refine g_aload_n h dX8_odds_80 rfl ?_
      refine g_iconst h dX8_odds_81 rfl ?_
      refine pm_onlyThese h dX8_odds_82 lf_RX8_158 (by omega) ?_
      refine g_aload_n h dX8_odds_85 rfl ?_
      refine g_iconst h dX8_odds_86 rfl ?_
      refine pm_cloudedToo h dX8_odds_87 lf_RX8_155 ?_
      refine g_iload h dX8_odds_90 rfl ?_
      refine g_i2l h dX8_odds_92 ⟨by omega, by omega⟩ ?_
      refine g_vall (b := (((cntS (qOg (vM σ) b d) (2 ^ (qNm (vM σ)).toNat)).toNat : Nat) : Int)) (by omega) ?_
      refine g_iload h dX8_odds_93 rfl ?_
      refine g_i2l h dX8_odds_95 ⟨by omega, by omega⟩ ?_
      refine g_iload_n h dX8_odds_96 rfl ?_
      refine g_sL h (c_X8_inLeastTerms _ _ _ _ (by omega) (by omega) hpos w0 w1) (by decide) lm_RX8_207 dX8_odds_97 rfl (Nat.le_of_ble_eq_true rfl) (fun z97 s97 p97 => ?_)
      obtain ⟨e97q, r97q⟩ := p97
      subst e97q; replace r97q := Eq.symm r97q; subst r97q
      refine g_lret h hq rfl dX8_odds_100 (by
      have hsc9 : mSc σ (mUp (mUp s 0 18 0) 0 17 0) := by
        intro k k1 k2 k3
        by_cases hk : k = 0
        · subst hk
          funext j
          by_cases j1 : j = 17
          · rw [j1, mUp_eq]; exact hI.1.symm
          · rw [mUp_ne _ _ (Or.inr j1)]
            by_cases j2 : j = 18
            · rw [j2, mUp_eq]; exact hI.2.1.symm
            · rw [mUp_ne _ _ (Or.inr j2), hs.2 j j1, mUp_ne σ _ (Or.inr j2)]
        · rw [mUp_off _ _ _ hk, mUp_off _ _ _ hk, hs.1 k k1 k2 k3 hk, mUp_off σ _ _ hk]
      have := hp _ hsc9
      unfold qOd qOn2 at this
      rw [Int.toNat_of_nonneg c0]
      exact this)
    · have hS : S < 2 ^ (qNm (vM σ)).toNat := by omega
      refine g_aload_n h dX8_odds_54 rfl ?_
      refine g_iload h dX8_odds_55 rfl ?_
      refine pm_cloudedToo h dX8_odds_57 lf_RX8_155 ?_
      have hsc := hs.sc (by omega) (S : Int)
      have wf9 := hsc.wf (mWf_17 (mWf_18 hw (show (1 : Int) = 0 ∨ (1 : Int) = 1 by omega)) (show (0 : Int) ≤ (S : Int) by omega) (by omega))
      have e9 : mUp s 0 17 (S : Int) 0 9 = σ 0 9 := by rw [hsc 0 (by omega) (by omega) (by omega), mUp_ne _ _ (show (0 : Int) ≠ 0 ∨ (9 : Int) ≠ 17 by omega), mUp_ne σ _ (show (0 : Int) ≠ 0 ∨ (9 : Int) ≠ 18 by omega)]
      refine g_iload h dX8_odds_60 rfl ?_
      refine g_aload_n h dX8_odds_62 rfl ?_
      refine g_iload_n h dX8_odds_63 rfl ?_
      refine g_vI h (c_X8_forceOn _ _ wf9 d0 (by omega)) (by decide) lm_RX8_184 (rvM rfl) dX8_odds_64 rfl (Nat.le_of_ble_eq_true rfl) (fun z64 s64 p64 => ?_)
      obtain ⟨e64q, r64q⟩ := p64
      rw [e9, setOf_cong (q := fun a => qF (vM σ) (qSt (vM σ) (fun m => S.testBit m.toNat)) a d) (fun a _ _ => by rw [hsc.view, hsc.st, vM_17, vM_18]; exact qF_cong hw.1.1 (st_1718 hI hw.1 S) a d)] at e64q
      subst e64q
      have hq64 : mSq 0 17 (mUp σ 0 18 1) s64 := mSq.next (by omega) (hsc.tr r64q)
      refine g_iload_n h dX8_odds_67 rfl ?_
      refine g_ishr h dX8_odds_68 ?_
      refine g_iconst h dX8_odds_69 rfl ?_
      refine g_iand h dX8_odds_70 ?_
      refine g_val (b := bl (qOg (vM σ) b d S = true)) (set_rd (by omega) _ b0 (by omega)) ?_
      refine g_iadd h dX8_odds_71 ?_
      refine g_val (cntS_next (qOg (vM σ) b d) S) ?_
      refine g_istore h dX8_odds_72 (by decide) rfl ?_
      refine g_iinc h dX8_odds_74 rfl (by decide) rfl ?_
      refine g_goto (tgt := 47) h dX8_odds_77 (by decide) ?_
      exact ih (S + 1) s64 (by omega) (by omega) hq64
set_option maxRecDepth 100000 in
set_option maxHeartbeats 2000000 in
theorem c_X8_odds {l : Launch} {D : va_G} {cs : mC} {ad : Int → Nat} (σ : mS) (b d w : Int) (hb : i32 b) (hd : i32 d) (hw9 : i32 w) (hI : mIdl σ) (hW : qW (vM σ)) : CL l (gM D cs ad) M_X8_odds 5 [.ref (ad 0), mI b, mI d, mI w] σ (fun z s => z = sp_odds (vM σ) b d w ∧ mSc σ s) := by
  refine CL.of (by decide) (Nat.le_of_ble_eq_true rfl) (fun x h hq => ?_)
  show mG x 0 [(0, .ref (ad 0)), (1, mI b), (2, mI d), (3, mI w)] [] σ
  have hn0 : 0 ≤ σ 0 9 := hW.1.1
  have hn6 : σ 0 9 ≤ 6 := hW.1.2.1
  have e4 : vM σ 0 4 = σ 0 9 := rfl
  refine g_aload_n h dX8_odds_0 rfl ?_
  refine g_iload_n h dX8_odds_1 rfl ?_
  refine g_vI h (c_X8_isBill _ _ hb ⟨by omega, by omega⟩) (by decide) lm_RX8_146 (rvM rfl) dX8_odds_2 rfl (Nat.le_of_ble_eq_true rfl) (fun z2 s2 p2 => ?_)
  obtain ⟨e2, r2⟩ := p2; subst e2; replace r2 := Eq.symm r2; subst r2
  refine g_ifb_eq (tgt := 24) h dX8_odds_5 (by decide)  (fun c5 => ?_) (fun c5 => ?_)
  · refine g_ldc2 (v := -9223372036854775808) h dX8_odds_24 lc_RX8_66 (by decide) ?_
    refine g_lret h hq rfl dX8_odds_27 ⟨by unfold sp_odds; rw [e4, if_pos (Or.inl c5)], mSc.rf σ⟩
  · refine g_iload_n h dX8_odds_8 rfl ?_
    refine g_sI h (c_X8_isDay _ _ hd) (by decide) lm_RX8_152 dX8_odds_9 rfl (Nat.le_of_ble_eq_true rfl) (fun z9 s9 p9 => ?_)
    obtain ⟨e9, r9⟩ := p9; subst e9; replace r9 := Eq.symm r9; subst r9
    refine g_ifb_eq (tgt := 24) h dX8_odds_12 (by decide)  (fun c12 => ?_) (fun c12 => ?_)
    · refine g_ldc2 (v := -9223372036854775808) h dX8_odds_24 lc_RX8_66 (by decide) ?_
      refine g_lret h hq rfl dX8_odds_27 ⟨by unfold sp_odds; rw [e4, if_pos (Or.inr (Or.inl c12))], mSc.rf σ⟩
    · refine g_iload_n h dX8_odds_15 rfl ?_
      refine g_iconst h dX8_odds_16 rfl ?_
      refine g_iconst h dX8_odds_17 rfl ?_
      refine g_sI h (c_X8_within _ _ _ _ hw9 ⟨by omega, by omega⟩ ⟨by omega, by omega⟩) (by decide) lm_RX8_68 dX8_odds_18 rfl (Nat.le_of_ble_eq_true rfl) (fun z18 s18 p18 => ?_)
      obtain ⟨e18, r18⟩ := p18; subst e18; replace r18 := Eq.symm r18; subst r18
      refine g_ifb_ne (tgt := 28) h dX8_odds_21 (by decide)  (fun c21 => ?_) (fun c21 => ?_)
      · have hnm := qNm_sp hW.1 (show 0 < σ 0 9 by omega)
        refine g_iconst h dX8_odds_28 rfl ?_
        refine g_aload_n h dX8_odds_29 rfl ?_
        refine g_vI h (c_X8_moons _ hW.1 (by omega)) (by decide) lm_RX8_194 (rvM rfl) dX8_odds_30 rfl (Nat.le_of_ble_eq_true rfl) (fun z30 s30 p30 => ?_)
        obtain ⟨e30, r30⟩ := p30; subst e30; replace r30 := Eq.symm r30; subst r30
        refine g_ishl h dX8_odds_33 ?_
        refine g_val (iShl1 hnm.1 (by omega)) ?_
        refine g_istore h dX8_odds_34 (by decide) rfl ?_
        refine g_iconst h dX8_odds_36 rfl ?_
        refine g_istore h dX8_odds_37 (by decide) rfl ?_
        refine g_aload_n h dX8_odds_39 rfl ?_
        refine g_iconst h dX8_odds_40 rfl ?_
        refine pm_onlyThese h dX8_odds_41 lf_RX8_158 (Or.inr rfl) ?_
        refine g_iconst h dX8_odds_44 rfl ?_
        refine g_istore h dX8_odds_45 (by decide) rfl ?_
        exact lp_X8_odds h hq c5.1 c5.2 c12.1 c12.2 c21.1 c21.2 (hI.wf hW (by omega)) hI (fun t ht => ⟨(sp_odds_in (show 0 ≤ b ∧ b < vM σ 0 4 from c5) c12 c21).symm, ht⟩) 2049 0 (mUp σ 0 18 1) (Nat.zero_le _) (by have := pow_nm hnm.1 hnm.2.1; omega) (mSq.of (by omega) (mSc.rf _))
      · refine g_ldc2 (v := -9223372036854775808) h dX8_odds_24 lc_RX8_66 (by decide) ?_
        refine g_lret h hq rfl dX8_odds_27 ⟨by unfold sp_odds; rw [e4, if_pos (Or.inr (Or.inr c21))], mSc.rf σ⟩
