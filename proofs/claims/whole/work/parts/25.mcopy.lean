def qCy (τ : mS) (k i o j n : Int) : Int := if τ 10 k = -1 ∨ τ 10 o = -1 then 1 else if ¬ τ 10 k = τ 10 o then 2 else if i < 0 ∨ j < 0 ∨ n < 0 ∨ τ 11 k < i ∨ τ 11 o < j ∨ τ 11 k - i < n ∨ τ 11 o - j < n then 3 else 0
/-- the cells lo .. hi of a row come from another -/
def qCr (τ : mS) (k i o j lo hi : Int) : mS := fun a b => if a = 12 + o ∧ lo ≤ b ∧ b < hi then τ (12 + k) (i + (b - j)) else τ a b
def sp_copy (τ : mS) (k i o j n : Int) : Int := if ¬ (0 ≤ k ∧ k ≤ 3) ∨ ¬ (0 ≤ o ∧ o ≤ 3) then -1 else if ¬ qCy τ k i o j n = 0 then -10 - qCy τ k i o j n else n
def ns_copy (τ : mS) (k i o j n : Int) : mS := if ¬ (0 ≤ k ∧ k ≤ 3) ∨ ¬ (0 ≤ o ∧ o ≤ 3) then mUp τ 0 8 0 else if ¬ qCy τ k i o j n = 0 then mUp τ 0 8 (qCy τ k i o j n) else qCr (mUp τ 0 8 0) k i o j j (j + n)
theorem qCr_0 (τ : mS) (k i o j lo : Int) : qCr τ k i o j lo lo = τ := by
  funext a b
  unfold qCr
  rw [if_neg (by omega)]
theorem qCr_up (τ : mS) {k i o j lo hi c v : Int} (hc : j + c = hi) (hlo : lo ≤ hi) (hv : v = τ (12 + k) (i + c)) : mUp (qCr τ k i o j lo hi) (12 + o) (j + c) v = qCr τ k i o j lo (hi + 1) := by
  funext a b
  unfold qCr mUp
  dsimp only
  by_cases q : a = 12 + o ∧ b = j + c
  · rw [if_pos q, if_pos (by omega), hv, show b - j = c by omega]
  · rw [if_neg q]
    by_cases q2 : a = 12 + o ∧ lo ≤ b ∧ b < hi
    · rw [if_pos q2, if_pos (by omega)]
    · rw [if_neg q2, if_neg (by omega)]
theorem qCr_dn (τ : mS) {k i o j lo hi c v : Int} (hc : j + c + 1 = lo) (hlo : lo ≤ hi) (hv : v = τ (12 + k) (i + c)) : mUp (qCr τ k i o j lo hi) (12 + o) (j + c) v = qCr τ k i o j (lo - 1) hi := by
  funext a b
  unfold qCr mUp
  dsimp only
  by_cases q : a = 12 + o ∧ b = j + c
  · rw [if_pos q, if_pos (by omega), hv, show b - j = c by omega]
  · rw [if_neg q]
    by_cases q2 : a = 12 + o ∧ lo ≤ b ∧ b < hi
    · rw [if_pos q2, if_pos (by omega)]
    · rw [if_neg q2, if_neg (by omega)]
theorem qCr_rd (τ : mS) {k i o j lo hi c : Int} (h : i + c < lo ∨ hi ≤ i + c) : qCr τ k i o j lo hi (12 + k) (i + c) = τ (12 + k) (i + c) := by
  unfold qCr
  rw [if_neg (by omega)]
set_option maxRecDepth 100000 in
set_option maxHeartbeats 2000000 in
theorem lp_X8_copy {x : mX} {l : Launch} {D : va_G} {cs : mC} {ad : Int → Nat} {post : Int → mS → Prop} (h : mOk x l M_X8_copy 2 (gM D cs ad)) (hq : rI x (gM D cs ad) post) {τ : mS} {k i o j n th ah : Int} (k0 : 0 ≤ k) (k1 : k < 4) (o0 : 0 ≤ o) (o1 : o < 4) (i0 : 0 ≤ i) (j0 : 0 ≤ j) (n0 : 0 ≤ n) (hi : i + n ≤ 60) (hj : j + n ≤ 60) (hah : (ah = 1 ∧ i < j) ∨ (ah = 0 ∧ j ≤ i)) (hp : ∀ s : mS, mEnd (qCr τ k i o j j (j + n)) s → post n s) : ∀ (f : Nat) (q : Int) (s : mS), 0 ≤ q → q ≤ n → n - q < f → mEnd (qCr τ k i o j (if ah = 1 then j + n - q else j) (if ah = 1 then j + n else j + q)) s → mG x 166 [(0, .ref (ad 0)), (1, mI k), (2, mI i), (3, mI o), (4, mI j), (5, mI n), (6, mI th), (7, mI ah), (8, mI q)] [] s := by
  intro f
  induction f with
  | zero => intro q s h0 h1 h2; omega
  | succ f ih =>
    intro q s h0 h1 h2 hs
    refine g_iload h dX8_copy_166 rfl ?_
    refine g_iload h dX8_copy_168 rfl ?_
    refine g_icmp_ge (tgt := 227) h dX8_copy_170 (by decide) ⟨by omega, by omega⟩ ⟨by omega, by omega⟩ (fun c170 => ?_) (fun c170 => ?_)
    · refine g_iload h dX8_copy_227 rfl ?_
      refine g_iret h hq rfl dX8_copy_229 (hp s (by
      rcases hah with ⟨a1, a2⟩ | ⟨a1, a2⟩
      · rw [if_pos a1, if_pos a1, show j + n - q = j by omega] at hs; exact hs
      · rw [if_neg (by omega), if_neg (by omega), show j + q = j + n by omega] at hs; exact hs))
    · have J190 : ∀ c : Int, c = (if ah = 1 then n - 1 - q else q) → mG x 190 [(0, .ref (ad 0)), (1, mI k), (2, mI i), (3, mI o), (4, mI j), (5, mI n), (6, mI th), (7, mI ah), (8, mI q)] [mI c] s := by
        intro c hc
        have hcr : 0 ≤ c ∧ c < n := by rw [hc]; split <;> omega
        have e1 : 60 * o + j + c = 60 * o + (j + c) := by omega
        have e2 : 60 * k + i + c = 60 * k + (i + c) := by omega
        have ev : s 3 (60 * k + i + c) = τ (12 + k) (i + c) := by
          have := vM_ce s (show 12 ≤ 12 + k by omega) (by omega) (show 0 ≤ i + c by omega) (by omega)
          rw [hs.1, show 12 + k - 12 = k by omega] at this
          rw [e2, ← this]
          refine qCr_rd τ ?_
          rw [hc]
          rcases hah with ⟨a1, a2⟩ | ⟨a1, a2⟩
          · rw [if_pos a1, if_pos a1, if_pos a1]; omega
          · rw [if_neg (by omega), if_neg (by omega), if_neg (by omega)]; omega
        refine g_istore h dX8_copy_190 (by decide) rfl ?_
        refine g_aload_n h dX8_copy_192 rfl ?_
        refine gm_cells h dX8_copy_193 lf_RX8_16 ?_
        refine g_bipush h dX8_copy_196 (by decide) ?_
        refine g_iload_n h dX8_copy_198 rfl ?_
        refine g_imul h dX8_copy_199 ?_
        refine g_iload h dX8_copy_200 rfl ?_
        refine g_iadd h dX8_copy_202 ?_
        refine g_iload h dX8_copy_203 rfl ?_
        refine g_iadd h dX8_copy_205 ?_
        refine g_aload_n h dX8_copy_206 rfl ?_
        refine gm_cells h dX8_copy_207 lf_RX8_16 ?_
        refine g_bipush h dX8_copy_210 (by decide) ?_
        refine g_iload_n h dX8_copy_212 rfl ?_
        refine g_imul h dX8_copy_213 ?_
        refine g_iload_n h dX8_copy_214 rfl ?_
        refine g_iadd h dX8_copy_215 ?_
        refine g_iload h dX8_copy_216 rfl ?_
        refine g_iadd h dX8_copy_218 ?_
        refine lm_cells h dX8_copy_219 (by omega) (by omega) ?_
        refine g_val ev ?_
        refine sm_cells h dX8_copy_220 (by omega) (by omega) ?_
        refine g_iinc h dX8_copy_221 rfl (by decide) rfl ?_
        refine g_goto (tgt := 166) h dX8_copy_224 (by decide) ?_
        refine g_lv (lv' := [(0, .ref (ad 0)), (1, mI k), (2, mI i), (3, mI o), (4, mI j), (5, mI n), (6, mI th), (7, mI ah), (8, mI (q + 1))]) rfl ?_
        refine ih (q + 1) _ (by omega) (by omega) (by omega) ?_
        have hu := hs.up (a := 12 + o) (b := j + c) (k := 3) (j := 60 * o + j + c) (v := τ (12 + k) (i + c)) (by rw [e1]; exact vM_up_ce s _ o0 o1 (by omega) (by omega)) (by omega)
        rcases hah with ⟨a1, a2⟩ | ⟨a1, a2⟩
        · rw [if_pos a1] at hc
          rw [if_pos a1, if_pos a1] at hu ⊢
          rw [qCr_dn τ (by omega) (by omega) rfl, show j + n - q - 1 = j + n - (q + 1) by omega] at hu
          exact hu
        · rw [if_neg (by omega)] at hc
          rw [if_neg (by omega), if_neg (by omega)] at hu ⊢
          rw [qCr_up τ (by omega) (by omega) rfl, show j + q + 1 = j + (q + 1) by omega] at hu
          exact hu
      refine g_iload h dX8_copy_173 rfl ?_
      refine g_if_eq (tgt := 188) h dX8_copy_175 (by decide) ⟨by omega, by omega⟩ (fun c175 => ?_) (fun c175 => ?_)
      · refine g_iload h dX8_copy_188 rfl ?_
        exact J190 _ (by rw [if_neg (by omega)])
      · refine g_iload h dX8_copy_178 rfl ?_
        refine g_iconst h dX8_copy_180 rfl ?_
        refine g_isub h dX8_copy_181 ?_
        refine g_iload h dX8_copy_182 rfl ?_
        refine g_isub h dX8_copy_184 ?_
        refine g_goto (tgt := 190) h dX8_copy_185 (by decide) ?_
        exact J190 _ (by rw [if_pos (by omega)])
set_option maxRecDepth 100000 in
set_option maxHeartbeats 2000000 in
theorem lq_X8_copy {x : mX} {l : Launch} {D : va_G} {cs : mC} {ad : Int → Nat} {post : Int → mS → Prop} (h : mOk x l M_X8_copy 2 (gM D cs ad)) (hq : rI x (gM D cs ad) post) {τ s : mS} {k i o j n : Int} (hs : mEnd (mUp τ 0 8 0) s) (k0 : 0 ≤ k) (k1 : k < 4) (o0 : 0 ≤ o) (o1 : o < 4) (hi : i32 i) (hj : i32 j) (hn : i32 n) (hf : ∀ t : mS, mEnd (mUp τ 0 8 (qCy τ k i o j n)) t → ¬ qCy τ k i o j n = 0 → post (-10 - qCy τ k i o j n) t) (hp : ∀ t : mS, mEnd (qCr (mUp τ 0 8 0) k i o j j (j + n)) t → qCy τ k i o j n = 0 → post n t) : mG x 21 [(0, .ref (ad 0)), (1, mI k), (2, mI i), (3, mI o), (4, mI j), (5, mI n)] [] s := by
  have hk := hs.2.2 k k0 k1
  have ho := hs.2.2 o o0 o1
  have e10 := so_rd hs k0 k1
  have e11 := le_rd hs k0 k1
  have d10 := so_rd hs o0 o1
  have d11 := le_rd hs o0 o1
  obtain ⟨hi1, hi2⟩ := id hi
  obtain ⟨hj1, hj2⟩ := id hj
  obtain ⟨hn1, hn2⟩ := id hn
  have hff : ∀ c : Int, qCy τ k i o j n = c → ¬ c = 0 → post (-10 - c) (mUp s 0 0 c) := fun c e q => by
    have := hf _ (by rw [e]; exact hs.fault c) (by rw [e]; exact q)
    rw [e] at this
    exact this
  refine g_aload_n h dX8_copy_21 rfl ?_
  refine gm_sorts h dX8_copy_22 lf_RX8_9 ?_
  refine g_iload_n h dX8_copy_25 rfl ?_
  refine lm_sorts h dX8_copy_26 (by omega) (by omega) ?_
  refine g_bipush h dX8_copy_27 (by decide) ?_
  refine g_icmp_eq (tgt := 43) h dX8_copy_29 (by decide) ⟨by omega, by omega⟩ ⟨by omega, by omega⟩ (fun c29 => ?_) (fun c29 => ?_)
  · refine g_aload_n h dX8_copy_43 rfl ?_
    refine g_iconst h dX8_copy_44 rfl ?_
    refine g_vI h (c_X8_fails _ _) (by decide) lm_RX8_93 (rvM rfl) dX8_copy_45 rfl (Nat.le_of_ble_eq_true rfl) (fun z45 s45 p45 => ?_)
    obtain ⟨e45, r45⟩ := p45; subst e45; replace r45 := Eq.symm r45; subst r45
    refine g_iret h hq rfl dX8_copy_48 (hff 1 (by unfold qCy; rw [e10, if_pos c29, if_pos (Or.inl rfl)]) (by omega))
  · refine g_aload_n h dX8_copy_32 rfl ?_
    refine gm_sorts h dX8_copy_33 lf_RX8_9 ?_
    refine g_iload_n h dX8_copy_36 rfl ?_
    refine lm_sorts h dX8_copy_37 (by omega) (by omega) ?_
    refine g_bipush h dX8_copy_38 (by decide) ?_
    refine g_icmp_ne (tgt := 49) h dX8_copy_40 (by decide) ⟨by omega, by omega⟩ ⟨by omega, by omega⟩ (fun c40 => ?_) (fun c40 => ?_)
    · rw [if_neg c29] at e10 e11
      rw [if_neg c40] at d10 d11
      refine g_aload_n h dX8_copy_49 rfl ?_
      refine gm_sorts h dX8_copy_50 lf_RX8_9 ?_
      refine g_iload_n h dX8_copy_53 rfl ?_
      refine lm_sorts h dX8_copy_54 (by omega) (by omega) ?_
      refine g_aload_n h dX8_copy_55 rfl ?_
      refine gm_sorts h dX8_copy_56 lf_RX8_9 ?_
      refine g_iload_n h dX8_copy_59 rfl ?_
      refine lm_sorts h dX8_copy_60 (by omega) (by omega) ?_
      refine g_icmp_eq (tgt := 70) h dX8_copy_61 (by decide) ⟨by omega, by omega⟩ ⟨by omega, by omega⟩ (fun c61 => ?_) (fun c61 => ?_)
      · have J110 : ∀ th : Int, th = bl (0 ≤ i ∧ 0 ≤ j ∧ 0 ≤ n ∧ i ≤ s 2 k ∧ j ≤ s 2 o) → mG x 110 [(0, .ref (ad 0)), (1, mI k), (2, mI i), (3, mI o), (4, mI j), (5, mI n)] [mI th] s := by
          intro th hth
          refine g_istore h dX8_copy_110 (by decide) rfl ?_
          refine g_iload h dX8_copy_112 rfl ?_
          refine g_val hth ?_
          refine g_ifb_eq (tgt := 144) h dX8_copy_114 (by decide)  (fun c114 => ?_) (fun c114 => ?_)
          · refine g_aload_n h dX8_copy_144 rfl ?_
            refine g_iconst h dX8_copy_145 rfl ?_
            refine g_vI h (c_X8_fails _ _) (by decide) lm_RX8_93 (rvM rfl) dX8_copy_146 rfl (Nat.le_of_ble_eq_true rfl) (fun z146 s146 p146 => ?_)
            obtain ⟨e146, r146⟩ := p146; subst e146; replace r146 := Eq.symm r146; subst r146
            refine g_iret h hq rfl dX8_copy_149 (hff 3 (by unfold qCy; rw [e10, e11, d10, d11, if_neg (by omega), if_neg (by omega), if_pos (by omega)]) (by omega))
          · refine g_iload h dX8_copy_117 rfl ?_
            refine g_aload_n h dX8_copy_119 rfl ?_
            refine gm_sheetLong h dX8_copy_120 lf_RX8_13 ?_
            refine g_iload_n h dX8_copy_123 rfl ?_
            refine lm_sheetLong h dX8_copy_124 (by omega) (by omega) ?_
            refine g_iload_n h dX8_copy_125 rfl ?_
            refine g_isub h dX8_copy_126 ?_
            refine g_icmp_gt (tgt := 144) h dX8_copy_127 (by decide) ⟨by omega, by omega⟩ ⟨by omega, by omega⟩ (fun c127 => ?_) (fun c127 => ?_)
            · refine g_aload_n h dX8_copy_144 rfl ?_
              refine g_iconst h dX8_copy_145 rfl ?_
              refine g_vI h (c_X8_fails _ _) (by decide) lm_RX8_93 (rvM rfl) dX8_copy_146 rfl (Nat.le_of_ble_eq_true rfl) (fun z146 s146 p146 => ?_)
              obtain ⟨e146, r146⟩ := p146; subst e146; replace r146 := Eq.symm r146; subst r146
              refine g_iret h hq rfl dX8_copy_149 (hff 3 (by unfold qCy; rw [e10, e11, d10, d11, if_neg (by omega), if_neg (by omega), if_pos (by omega)]) (by omega))
            · refine g_iload h dX8_copy_130 rfl ?_
              refine g_aload_n h dX8_copy_132 rfl ?_
              refine gm_sheetLong h dX8_copy_133 lf_RX8_13 ?_
              refine g_iload_n h dX8_copy_136 rfl ?_
              refine lm_sheetLong h dX8_copy_137 (by omega) (by omega) ?_
              refine g_iload h dX8_copy_138 rfl ?_
              refine g_isub h dX8_copy_140 ?_
              refine g_icmp_le (tgt := 150) h dX8_copy_141 (by decide) ⟨by omega, by omega⟩ ⟨by omega, by omega⟩ (fun c141 => ?_) (fun c141 => ?_)
              · have hc0 : qCy τ k i o j n = 0 := by unfold qCy; rw [e10, e11, d10, d11, if_neg (by omega), if_neg (by omega), if_neg (by omega)]
                rw [hth, ← bl1 c114]
                have J161 : ∀ ah : Int, ((ah = 1 ∧ i < j) ∨ (ah = 0 ∧ j ≤ i)) → mG x 161 [(0, .ref (ad 0)), (1, mI k), (2, mI i), (3, mI o), (4, mI j), (5, mI n), (6, mI 1)] [mI ah] s := by
                  intro ah hah
                  refine g_istore h dX8_copy_161 (by decide) rfl ?_
                  refine g_iconst h dX8_copy_163 rfl ?_
                  refine g_istore h dX8_copy_164 (by decide) rfl ?_
                  refine g_lv (lv' := [(0, .ref (ad 0)), (1, mI k), (2, mI i), (3, mI o), (4, mI j), (5, mI n), (6, mI 1), (7, mI ah), (8, mI 0)]) rfl ?_
                  exact lp_X8_copy h hq (τ := mUp τ 0 8 0) k0 k1 o0 o1 (by omega) (by omega) (by omega) (by omega) (by omega) hah (fun s2 hs2 => hp s2 hs2 hc0) 62 0 s (by omega) (by omega) (by omega) (by rw [show (if ah = 1 then j + n else j + 0) = (if ah = 1 then j + n - 0 else j) by split <;> omega, qCr_0]; exact hs)
                refine g_iload_n h dX8_copy_150 rfl ?_
                refine g_iload h dX8_copy_151 rfl ?_
                refine g_icmp_ge (tgt := 160) h dX8_copy_153 (by decide) ⟨by omega, by omega⟩ ⟨by omega, by omega⟩ (fun c153 => ?_) (fun c153 => ?_)
                · refine g_iconst h dX8_copy_160 rfl ?_
                  exact J161 _ (by omega)
                · refine g_iconst h dX8_copy_156 rfl ?_
                  refine g_goto (tgt := 161) h dX8_copy_157 (by decide) ?_
                  exact J161 _ (by omega)
              · refine g_aload_n h dX8_copy_144 rfl ?_
                refine g_iconst h dX8_copy_145 rfl ?_
                refine g_vI h (c_X8_fails _ _) (by decide) lm_RX8_93 (rvM rfl) dX8_copy_146 rfl (Nat.le_of_ble_eq_true rfl) (fun z146 s146 p146 => ?_)
                obtain ⟨e146, r146⟩ := p146; subst e146; replace r146 := Eq.symm r146; subst r146
                refine g_iret h hq rfl dX8_copy_149 (hff 3 (by unfold qCy; rw [e10, e11, d10, d11, if_neg (by omega), if_neg (by omega), if_pos (by omega)]) (by omega))
        refine g_iload_n h dX8_copy_70 rfl ?_
        refine g_if_lt (tgt := 109) h dX8_copy_71 (by decide) ⟨by omega, by omega⟩ (fun c71 => ?_) (fun c71 => ?_)
        · refine g_iconst h dX8_copy_109 rfl ?_
          exact J110 _ (bl0 (by omega))
        · refine g_iload h dX8_copy_74 rfl ?_
          refine g_if_lt (tgt := 109) h dX8_copy_76 (by decide) ⟨by omega, by omega⟩ (fun c76 => ?_) (fun c76 => ?_)
          · refine g_iconst h dX8_copy_109 rfl ?_
            exact J110 _ (bl0 (by omega))
          · refine g_iload h dX8_copy_79 rfl ?_
            refine g_if_lt (tgt := 109) h dX8_copy_81 (by decide) ⟨by omega, by omega⟩ (fun c81 => ?_) (fun c81 => ?_)
            · refine g_iconst h dX8_copy_109 rfl ?_
              exact J110 _ (bl0 (by omega))
            · refine g_iload_n h dX8_copy_84 rfl ?_
              refine g_aload_n h dX8_copy_85 rfl ?_
              refine gm_sheetLong h dX8_copy_86 lf_RX8_13 ?_
              refine g_iload_n h dX8_copy_89 rfl ?_
              refine lm_sheetLong h dX8_copy_90 (by omega) (by omega) ?_
              refine g_icmp_gt (tgt := 109) h dX8_copy_91 (by decide) ⟨by omega, by omega⟩ ⟨by omega, by omega⟩ (fun c91 => ?_) (fun c91 => ?_)
              · refine g_iconst h dX8_copy_109 rfl ?_
                exact J110 _ (bl0 (by omega))
              · refine g_iload h dX8_copy_94 rfl ?_
                refine g_aload_n h dX8_copy_96 rfl ?_
                refine gm_sheetLong h dX8_copy_97 lf_RX8_13 ?_
                refine g_iload_n h dX8_copy_100 rfl ?_
                refine lm_sheetLong h dX8_copy_101 (by omega) (by omega) ?_
                refine g_icmp_gt (tgt := 109) h dX8_copy_102 (by decide) ⟨by omega, by omega⟩ ⟨by omega, by omega⟩ (fun c102 => ?_) (fun c102 => ?_)
                · refine g_iconst h dX8_copy_109 rfl ?_
                  exact J110 _ (bl0 (by omega))
                · refine g_iconst h dX8_copy_105 rfl ?_
                  refine g_goto (tgt := 110) h dX8_copy_106 (by decide) ?_
                  exact J110 _ (bl1 (by omega))
      · refine g_aload_n h dX8_copy_64 rfl ?_
        refine g_iconst h dX8_copy_65 rfl ?_
        refine g_vI h (c_X8_fails _ _) (by decide) lm_RX8_93 (rvM rfl) dX8_copy_66 rfl (Nat.le_of_ble_eq_true rfl) (fun z66 s66 p66 => ?_)
        obtain ⟨e66, r66⟩ := p66; subst e66; replace r66 := Eq.symm r66; subst r66
        refine g_iret h hq rfl dX8_copy_69 (hff 2 (by unfold qCy; rw [e10, d10, if_neg (by omega), if_pos c61]) (by omega))
    · refine g_aload_n h dX8_copy_43 rfl ?_
      refine g_iconst h dX8_copy_44 rfl ?_
      refine g_vI h (c_X8_fails _ _) (by decide) lm_RX8_93 (rvM rfl) dX8_copy_45 rfl (Nat.le_of_ble_eq_true rfl) (fun z45 s45 p45 => ?_)
      obtain ⟨e45, r45⟩ := p45; subst e45; replace r45 := Eq.symm r45; subst r45
      refine g_iret h hq rfl dX8_copy_48 (hff 1 (by unfold qCy; rw [d10, if_pos c40, if_pos (Or.inr rfl)]) (by omega))
set_option maxRecDepth 100000 in
set_option maxHeartbeats 2000000 in
theorem c_X8_copy {l : Launch} {D : va_G} {cs : mC} {ad : Int → Nat} (σ : mS) (k i o j n : Int) (hk : i32 k) (hi : i32 i) (ho : i32 o) (hj : i32 j) (hn : i32 n) (hO : mOK σ) : CI l (gM D cs ad) M_X8_copy 2 [.ref (ad 0), mI k, mI i, mI o, mI j, mI n] σ (fun z s => z = sp_copy (vM σ) k i o j n ∧ mEnd (ns_copy (vM σ) k i o j n) s) := by
  refine CI.of (by decide) (Nat.le_of_ble_eq_true rfl) (fun x h hq => ?_)
  show mG x 0 [(0, .ref (ad 0)), (1, mI k), (2, mI i), (3, mI o), (4, mI j), (5, mI n)] [] σ
  have hW := hO.2.2
  have hE := hO.endd
  have hE0 := hE.up (vM_up_fault σ 0) (by omega)
  refine g_aload_n h dX8_copy_0 rfl ?_
  refine g_iconst h dX8_copy_1 rfl ?_
  refine pm_fault h dX8_copy_2 lf_RX8_63 ?_
  refine g_iload_n h dX8_copy_5 rfl ?_
  refine g_sI h (c_X8_isSheet _ _ hk) (by decide) lm_RX8_82 dX8_copy_6 rfl (Nat.le_of_ble_eq_true rfl) (fun z6 s6 p6 => ?_)
  obtain ⟨e6, r6⟩ := p6; subst e6; replace r6 := Eq.symm r6; subst r6
  refine g_ifb_eq (tgt := 19) h dX8_copy_9 (by decide)  (fun c9 => ?_) (fun c9 => ?_)
  · refine g_iconst h dX8_copy_19 rfl ?_
    refine g_iret h hq rfl dX8_copy_20 ⟨by unfold sp_copy; rw [if_pos (Or.inl c9)], by unfold ns_copy; rw [if_pos (Or.inl c9)]; exact hE0⟩
  · refine g_iload_n h dX8_copy_12 rfl ?_
    refine g_sI h (c_X8_isSheet _ _ ho) (by decide) lm_RX8_82 dX8_copy_13 rfl (Nat.le_of_ble_eq_true rfl) (fun z13 s13 p13 => ?_)
    obtain ⟨e13, r13⟩ := p13; subst e13; replace r13 := Eq.symm r13; subst r13
    refine g_ifb_ne (tgt := 21) h dX8_copy_16 (by decide)  (fun c16 => ?_) (fun c16 => ?_)
    · have cc : ¬ (¬ (0 ≤ k ∧ k ≤ 3) ∨ ¬ (0 ≤ o ∧ o ≤ 3)) := by omega
      exact lq_X8_copy h hq hE0 c9.1 (by omega) c16.1 (by omega) hi hj hn (fun t ht q => ⟨by unfold sp_copy; rw [if_neg cc, if_pos q], by unfold ns_copy; rw [if_neg cc, if_pos q]; exact ht⟩) (fun t ht q => ⟨by unfold sp_copy; rw [if_neg cc, if_neg (fun z => z q)], by unfold ns_copy; rw [if_neg cc, if_neg (fun z => z q)]; exact ht⟩)
    · refine g_iconst h dX8_copy_19 rfl ?_
      refine g_iret h hq rfl dX8_copy_20 ⟨by unfold sp_copy; rw [if_pos (Or.inr c16)], by unfold ns_copy; rw [if_pos (Or.inr c16)]; exact hE0⟩
