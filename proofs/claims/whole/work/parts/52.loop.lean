/-! ===== the law's loop ===== -/
set_option maxRecDepth 100000 in
set_option maxHeartbeats 2000000 in
theorem la_loop {x : kX} {l : Launch} {D : va_G} {cs : mC} {aX aM : Int → Nat} {b L : Nat} {xs : Nat → Int32} {C S : Nat} (h : lOk x l D cs aX aM b L xs C S) (hL : L ≤ 3072) (fin : ∀ (i : Int) (sX sM : mS), kG x 1209 [(0, .ref b), (1, .ref (aX 0)), (2, .ref (aM 0)), (3, mI i)] [] (lJ D x.1.2.2.2.2 (mW (gX D cs aX) sX) (mW (gM D cs aM) sM)) C S) : ∀ (g : Nat) (i : Int) (τ σX σM : mS), 0 ≤ i → i ≤ 3078 → (L : Int) - i < (g : Int) → lInv τ σX σM → kG x 18 [(0, .ref b), (1, .ref (aX 0)), (2, .ref (aM 0)), (3, mI i)] [] (lJ D x.1.2.2.2.2 (mW (gX D cs aX) σX) (mW (gM D cs aM) σM)) C S := by
  intro g
  induction g with
  | zero =>
    intro i τ σX σM i0 i9 hg hI
    refine k_iload_n h.1 dL_law_18 rfl ?_
    refine k_aload_n h.1 dL_law_19 rfl ?_
    refine l_slen h hL dL_law_20 ?_
    refine k_bipush h.1 dL_law_21 (by decide) ?_
    refine k_isub h.1 dL_law_23 ?_
    refine k_icmp_gt (tgt := 1209) h.1 dL_law_24 (by decide) ⟨by omega, by omega⟩ ⟨by omega, by omega⟩ (fun c24 => ?_) (fun c24 => ?_)
    · exact fin i σX σM
    · omega
  | succ g ih =>
    intro i τ σX σM i0 i9 hg hI
    refine k_iload_n h.1 dL_law_18 rfl ?_
    refine k_aload_n h.1 dL_law_19 rfl ?_
    refine l_slen h hL dL_law_20 ?_
    refine k_bipush h.1 dL_law_21 (by decide) ?_
    refine k_isub h.1 dL_law_23 ?_
    refine k_icmp_gt (tgt := 1209) h.1 dL_law_24 (by decide) ⟨by omega, by omega⟩ ⟨by omega, by omega⟩ (fun c24 => ?_) (fun c24 => ?_)
    · exact fin i σX σM
    · have kk : ∀ τ1 sX sM : mS, lInv τ1 sX sM → kG x 1203 [(0, .ref b), (1, .ref (aX 0)), (2, .ref (aM 0)), (3, mI i)] [] (lJ D x.1.2.2.2.2 (mW (gX D cs aX) sX) (mW (gM D cs aM) sM)) C S := by
        intro τ1 sX sM hJ
        refine k_iinc h.1 dL_law_1203 rfl (by decide) rfl ?_
        refine k_goto (tgt := 18) h.1 dL_law_1206 (by decide) ?_
        exact ih (i + 6) τ1 sX sM (by omega) (by omega) (by omega) hJ
      have i6 : i + 6 ≤ (L : Int) := by omega
      refine k_aload_n h.1 dL_law_27 rfl ?_
      refine k_iload_n h.1 dL_law_28 rfl ?_
      refine l_sld h (by omega) (by omega) hL dL_law_29 ?_
      refine k_bipush h.1 dL_law_30 (by decide) ?_
      refine k_iand h.1 dL_law_32 ?_
      generalize hc : iAnd (sx xs i) 63 = c
      have hc32 : i32 c := by rw [← hc]; exact i32_of _
      rcases (show c < 0 ∨ 32 < c ∨ c = 0 ∨ c = 1 ∨ c = 2 ∨ c = 3 ∨ c = 4 ∨ c = 5 ∨ c = 6 ∨ c = 7 ∨ c = 8 ∨ c = 9 ∨ c = 10 ∨ c = 11 ∨ c = 12 ∨ c = 13 ∨ c = 14 ∨ c = 15 ∨ c = 16 ∨ c = 17 ∨ c = 18 ∨ c = 19 ∨ c = 20 ∨ c = 21 ∨ c = 22 ∨ c = 23 ∨ c = 24 ∨ c = 25 ∨ c = 26 ∨ c = 27 ∨ c = 28 ∨ c = 29 ∨ c = 30 ∨ c = 31 ∨ c = 32 by omega) with c33 | c33 | c33 | c33 | c33 | c33 | c33 | c33 | c33 | c33 | c33 | c33 | c33 | c33 | c33 | c33 | c33 | c33 | c33 | c33 | c33 | c33 | c33 | c33 | c33 | c33 | c33 | c33 | c33 | c33 | c33 | c33 | c33 | c33 | c33
      · refine k_tsOut (tgt := 1203) h.1 dL_law_33 hc32 (Or.inl c33) (by decide) ?_
        exact kk τ σX σM hI
      · refine k_tsOut (tgt := 1203) h.1 dL_law_33 hc32 (Or.inr c33) (by decide) ?_
        exact kk τ σX σM hI
      · refine k_tsIn (tgt := 180) (off := 147) h.1 dL_law_33 c33 (by decide) (by decide) (by decide) rfl (by decide) ?_
        exact la_0 h hL i0 i6 hI kk
      · refine k_tsIn (tgt := 233) (off := 200) h.1 dL_law_33 c33 (by decide) (by decide) (by decide) rfl (by decide) ?_
        exact la_1 h hL i0 i6 hI kk
      · refine k_tsIn (tgt := 266) (off := 233) h.1 dL_law_33 c33 (by decide) (by decide) (by decide) rfl (by decide) ?_
        exact la_2 h hL i0 i6 hI kk
      · refine k_tsIn (tgt := 289) (off := 256) h.1 dL_law_33 c33 (by decide) (by decide) (by decide) rfl (by decide) ?_
        exact la_3 h hL i0 i6 hI kk
      · refine k_tsIn (tgt := 312) (off := 279) h.1 dL_law_33 c33 (by decide) (by decide) (by decide) rfl (by decide) ?_
        exact la_4 h hL i0 i6 hI kk
      · refine k_tsIn (tgt := 345) (off := 312) h.1 dL_law_33 c33 (by decide) (by decide) (by decide) rfl (by decide) ?_
        exact la_5 h hL i0 i6 hI kk
      · refine k_tsIn (tgt := 394) (off := 361) h.1 dL_law_33 c33 (by decide) (by decide) (by decide) rfl (by decide) ?_
        exact la_6 h hL i0 i6 hI kk
      · refine k_tsIn (tgt := 417) (off := 384) h.1 dL_law_33 c33 (by decide) (by decide) (by decide) rfl (by decide) ?_
        exact la_7 h hL i0 i6 hI kk
      · refine k_tsIn (tgt := 430) (off := 397) h.1 dL_law_33 c33 (by decide) (by decide) (by decide) rfl (by decide) ?_
        exact la_8 h hL i0 i6 hI kk
      · refine k_tsIn (tgt := 453) (off := 420) h.1 dL_law_33 c33 (by decide) (by decide) (by decide) rfl (by decide) ?_
        exact la_9 h hL i0 i6 hI kk
      · refine k_tsIn (tgt := 476) (off := 443) h.1 dL_law_33 c33 (by decide) (by decide) (by decide) rfl (by decide) ?_
        exact la_10 h hL i0 i6 hI kk
      · refine k_tsIn (tgt := 529) (off := 496) h.1 dL_law_33 c33 (by decide) (by decide) (by decide) rfl (by decide) ?_
        exact la_11 h hL i0 i6 hI kk
      · refine k_tsIn (tgt := 562) (off := 529) h.1 dL_law_33 c33 (by decide) (by decide) (by decide) rfl (by decide) ?_
        exact la_12 h hL i0 i6 hI kk
      · refine k_tsIn (tgt := 595) (off := 562) h.1 dL_law_33 c33 (by decide) (by decide) (by decide) rfl (by decide) ?_
        exact la_13 h hL i0 i6 hI kk
      · refine k_tsIn (tgt := 628) (off := 595) h.1 dL_law_33 c33 (by decide) (by decide) (by decide) rfl (by decide) ?_
        exact la_14 h hL i0 i6 hI kk
      · refine k_tsIn (tgt := 651) (off := 618) h.1 dL_law_33 c33 (by decide) (by decide) (by decide) rfl (by decide) ?_
        exact la_15 h hL i0 i6 hI kk
      · refine k_tsIn (tgt := 710) (off := 677) h.1 dL_law_33 c33 (by decide) (by decide) (by decide) rfl (by decide) ?_
        exact la_16 h hL i0 i6 hI kk
      · refine k_tsIn (tgt := 733) (off := 700) h.1 dL_law_33 c33 (by decide) (by decide) (by decide) rfl (by decide) ?_
        exact la_17 h hL i0 i6 hI kk
      · refine k_tsIn (tgt := 746) (off := 713) h.1 dL_law_33 c33 (by decide) (by decide) (by decide) rfl (by decide) ?_
        exact la_18 h hL i0 i6 hI kk
      · refine k_tsIn (tgt := 759) (off := 726) h.1 dL_law_33 c33 (by decide) (by decide) (by decide) rfl (by decide) ?_
        exact la_19 h hL i0 i6 hI kk
      · refine k_tsIn (tgt := 782) (off := 749) h.1 dL_law_33 c33 (by decide) (by decide) (by decide) rfl (by decide) ?_
        exact la_20 h hL i0 i6 hI kk
      · refine k_tsIn (tgt := 815) (off := 782) h.1 dL_law_33 c33 (by decide) (by decide) (by decide) rfl (by decide) ?_
        exact la_21 h hL i0 i6 hI kk
      · refine k_tsIn (tgt := 859) (off := 826) h.1 dL_law_33 c33 (by decide) (by decide) (by decide) rfl (by decide) ?_
        exact la_22 h hL i0 i6 hI kk
      · refine k_tsIn (tgt := 902) (off := 869) h.1 dL_law_33 c33 (by decide) (by decide) (by decide) rfl (by decide) ?_
        exact la_23 h hL i0 i6 hI kk
      · refine k_tsIn (tgt := 925) (off := 892) h.1 dL_law_33 c33 (by decide) (by decide) (by decide) rfl (by decide) ?_
        exact la_24 h hL i0 i6 hI kk
      · refine k_tsIn (tgt := 968) (off := 935) h.1 dL_law_33 c33 (by decide) (by decide) (by decide) rfl (by decide) ?_
        exact la_25 h hL i0 i6 hI kk
      · refine k_tsIn (tgt := 1012) (off := 979) h.1 dL_law_33 c33 (by decide) (by decide) (by decide) rfl (by decide) ?_
        exact la_26 h hL i0 i6 hI kk
      · refine k_tsIn (tgt := 1075) (off := 1042) h.1 dL_law_33 c33 (by decide) (by decide) (by decide) rfl (by decide) ?_
        exact la_27 h hL i0 i6 hI kk
      · refine k_tsIn (tgt := 1098) (off := 1065) h.1 dL_law_33 c33 (by decide) (by decide) (by decide) rfl (by decide) ?_
        exact la_28 h hL i0 i6 hI kk
      · refine k_tsIn (tgt := 1121) (off := 1088) h.1 dL_law_33 c33 (by decide) (by decide) (by decide) rfl (by decide) ?_
        exact la_29 h hL i0 i6 hI kk
      · refine k_tsIn (tgt := 1154) (off := 1121) h.1 dL_law_33 c33 (by decide) (by decide) (by decide) rfl (by decide) ?_
        exact la_30 h hL i0 i6 hI kk
      · refine k_tsIn (tgt := 1167) (off := 1134) h.1 dL_law_33 c33 (by decide) (by decide) (by decide) rfl (by decide) ?_
        exact la_31 h hL i0 i6 hI kk
      · refine k_tsIn (tgt := 1180) (off := 1147) h.1 dL_law_33 c33 (by decide) (by decide) (by decide) rfl (by decide) ?_
        exact la_32 h hL i0 i6 hI kk
