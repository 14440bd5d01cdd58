set_option maxRecDepth 100000 in
set_option maxHeartbeats 2000000 in
theorem lp_X8_readCouncil {x : mX} {l : Launch} {D : va_G} {cs : mC} {ad : Int → Nat} {post : Int → mS → Prop} (h : mOk x l M_X8_readCouncil 4 (gM D cs ad)) (hq : rI x (gM D cs ad) post) {σ : mS} {e9 f n : Int} {tx : Int → Int} (he : e9 = f + n) (f0 : 0 ≤ f) (hn : f + n ≤ 240) (hc : ∀ q : Int, 0 ≤ q → q < 240 → i32 (σ 3 q)) (hx : ∀ q : Int, 0 ≤ q → q < n → σ 3 (f + q) = tx q) (hno : ∀ t : mS, mPr σ t → (∃ q : Int, qBd tx n q ∧ t 0 20 = f + q) → post 0 t) (hyes : ∀ s : mS, mPr σ s → (∃ j : Int, 1 ≤ j ∧ j ≤ 6 ∧ n = 7 * j + 7 ∧ qGd tx n ∧ s 0 25 = j ∧ qCa tx s ∧ (∀ b r : Int, 0 ≤ b → b < j → 0 ≤ r → r < 5 → s 10 (5 * b + r) = qBv tx b r)) → post 1 s) : ∀ (g : Nat) (j : Int) (s : mS), 0 ≤ j → j ≤ 6 → 6 - j < g → mPr σ s → s 0 25 = j → s 0 20 = f + (7 * j + 7) → qGd tx (7 * j + 7) → 7 * j + 7 ≤ n → qCa tx s → (∀ b r : Int, 0 ≤ b → b < j → 0 ≤ r → r < 5 → s 10 (5 * b + r) = qBv tx b r) → mG x 25 [(0, .ref (ad 0)), (1, mI e9)] [] s := by
  intro g
  induction g with
  | zero => intro j s a b c; omega
  | succ g ih =>
    intro j s j0 j6 hjg hp q25 q0 hg hn7 hca hb
    have q03 : s 3 = σ 3 := hp.1 3 (by omega) (by omega)
    have J49 : j = 0 ∨ (j < 6 ∧ 7 * j + 7 < n) → mG x 49 [(0, .ref (ad 0)), (1, mI e9)] [] s := by
      intro hj
      have j5 : j < 6 := by omega
      refine g_aload_n h dX8_readCouncil_49 rfl ?_
      refine g_iload_n h dX8_readCouncil_50 rfl ?_
      refine g_bipush h dX8_readCouncil_51 (by decide) ?_
      refine g_vI h (c_X8_isSign _ _ _ (by rw [q0]; omega) (by rw [q0]; omega) (by omega) (by rw [q03]; exact hc) (by omega) (by omega)) (by decide) lm_RX8_133 (rvM rfl) dX8_readCouncil_53 rfl (Nat.le_of_ble_eq_true rfl) (fun z53 s53 p53 => ?_)
      obtain ⟨m1, m2⟩ := sign_fit (tx := tx) (p := 7 * j + 7) he q0 (by omega) (by omega) (by rw [q03]; exact hx) hg (by omega) ((qFt_b (lo := 59) (hi := 59) (by omega) (by omega) (by omega) (by omega)).trans (by omega)) p53
      refine g_if_eq (tgt := 67) h dX8_readCouncil_56 (by decide) (by rcases m2 with g | g <;> exact ⟨by omega, by omega⟩) (fun c56 => ?_) (fun c56 => ?_)
      · refine g_iconst h dX8_readCouncil_67 rfl ?_
        refine g_zret h hq rfl dX8_readCouncil_68 (Or.inl rfl) (hno _ (hp.tr m1.pr) (by rcases m2 with g | g; exact absurd c56 (by omega); exact g.2))
      · have y : qGd tx (7 * j + 7 + 1) ∧ 7 * j + 7 + 1 ≤ n ∧ s53 0 20 = f + (7 * j + 7 + 1) := by
          rcases m2 with g | g
          · exact g.2
          · exact absurd g.1 c56
        refine g_aload_n h dX8_readCouncil_59 rfl ?_
        refine g_iload_n h dX8_readCouncil_60 rfl ?_
        refine g_vI h (c_X8_readBill _ e9 f n j tx he f0 hn (by rw [m1.1 3 (by omega), q03]; exact hc) (by rw [m1.1 3 (by omega), q03]; exact hx) j0 j5 (by rw [y.2.2]; omega) ((m1.2 25 (by omega)).trans q25) (by rw [show 7 * j + 8 = 7 * j + 7 + 1 by omega]; exact y.1) (by omega)) (by decide) lm_RX8_140 (rvM rfl) dX8_readCouncil_61 rfl (Nat.le_of_ble_eq_true rfl) (fun z61 s61 p61 => ?_)
        refine g_if_ne (tgt := 25) h dX8_readCouncil_64 (by decide) (by rcases p61 with g | g <;> exact ⟨by omega, by omega⟩) (fun c64 => ?_) (fun c64 => ?_)
        · rcases p61 with ⟨e, ⟨g1, g2, g3, g4⟩, g5, g6, g7, g8⟩ | g
          · refine ih (j + 1) _ (by omega) (by omega) (by omega) (hp.tr (m1.pr.tr g1)) g2 (by rw [g5]; omega) (by rw [show 7 * (j + 1) + 7 = 7 * j + 14 by omega]; exact g6) (by omega) ?_ ?_
            · obtain ⟨a1, a2, a3, a4⟩ := hca
              refine ⟨?_, ?_, ?_, ?_⟩
              · rw [g3 21 (by omega) (by omega), m1.2 21 (by omega)]; exact a1
              · rw [g3 22 (by omega) (by omega), m1.2 22 (by omega)]; exact a2
              · rw [g3 23 (by omega) (by omega), m1.2 23 (by omega)]; exact a3
              · rw [g3 24 (by omega) (by omega), m1.2 24 (by omega)]; exact a4
            · intro b r b0 b1 r0 r1
              by_cases eb : b = j
              · rw [eb]; exact g8 r r0 r1
              · rw [g4 _ (by omega), m1.1 10 (by omega)]; exact hb b r b0 (by omega) r0 r1
          · exact absurd g.1 c64
        · refine g_iconst h dX8_readCouncil_67 rfl ?_
          refine g_zret h hq rfl dX8_readCouncil_68 (Or.inl rfl) (hno _ (hp.tr (m1.pr.tr (by rcases p61 with g | g; exact absurd c64 (by omega); exact g.2.1))) (by rcases p61 with g | g; exact absurd c64 (by omega); exact g.2.2))
    have J69 : (7 * j + 7 < n → j = 6) → 1 ≤ j → mG x 69 [(0, .ref (ad 0)), (1, mI e9)] [] s := by
      intro hj j1
      refine g_aload_n h dX8_readCouncil_69 rfl ?_
      refine gm_at h dX8_readCouncil_70 lf_RX8_75 ?_
      refine g_iload_n h dX8_readCouncil_73 rfl ?_
      refine g_icmp_ne (tgt := 81) h dX8_readCouncil_74 (by decide) ⟨by omega, by omega⟩ ⟨by omega, by omega⟩ (fun c74 => ?_) (fun c74 => ?_)
      · refine g_iconst h dX8_readCouncil_81 rfl ?_
        refine g_zret h hq rfl dX8_readCouncil_82 (by first | exact Or.inl rfl | exact Or.inr rfl) (hno _ hp ⟨7 * j + 7, ⟨by omega, by omega, hg, Or.inl ⟨by omega, by rw [hj (by omega)]; unfold qFt; rw [if_pos (by omega)]⟩⟩, q0⟩)
      · refine g_iconst h dX8_readCouncil_77 rfl ?_
        refine g_goto (tgt := 82) h dX8_readCouncil_78 (by decide) ?_
        refine g_zret h hq rfl dX8_readCouncil_82 (by first | exact Or.inl rfl | exact Or.inr rfl) (hyes _ hp ⟨j, j1, j6, by omega, by rw [show n = 7 * j + 7 by omega]; exact hg, q25, hca, hb⟩)
    refine g_aload_n h dX8_readCouncil_25 rfl ?_
    refine gm_readMany h dX8_readCouncil_26 lf_RX8_124 ?_
    refine g_if_eq (tgt := 49) h dX8_readCouncil_29 (by decide) ⟨by omega, by omega⟩ (fun c29 => ?_) (fun c29 => ?_)
    · exact J49 (Or.inl (by omega))
    · refine g_aload_n h dX8_readCouncil_32 rfl ?_
      refine gm_readMany h dX8_readCouncil_33 lf_RX8_124 ?_
      refine g_bipush h dX8_readCouncil_36 (by decide) ?_
      refine g_icmp_ge (tgt := 69) h dX8_readCouncil_38 (by decide) ⟨by omega, by omega⟩ ⟨by omega, by omega⟩ (fun c38 => ?_) (fun c38 => ?_)
      · exact J69 (by omega) (by omega)
      · refine g_aload_n h dX8_readCouncil_41 rfl ?_
        refine gm_at h dX8_readCouncil_42 lf_RX8_75 ?_
        refine g_iload_n h dX8_readCouncil_45 rfl ?_
        refine g_icmp_ge (tgt := 69) h dX8_readCouncil_46 (by decide) ⟨by omega, by omega⟩ ⟨by omega, by omega⟩ (fun c46 => ?_) (fun c46 => ?_)
        · exact J69 (by omega) (by omega)
        · exact J49 (Or.inr ⟨by omega, by omega⟩)
set_option maxRecDepth 100000 in
set_option maxHeartbeats 2000000 in
theorem c_X8_readCouncil {l : Launch} {D : va_G} {cs : mC} {ad : Int → Nat} (σ : mS) (e9 f n : Int) (tx : Int → Int) (he : e9 = f + n) (f0 : 0 ≤ f) (hn : f + n ≤ 240) (hc : ∀ q : Int, 0 ≤ q → q < 240 → i32 (σ 3 q)) (hx : ∀ q : Int, 0 ≤ q → q < n → σ 3 (f + q) = tx q) (q0 : σ 0 20 = f) (n0 : 0 ≤ n) : CI l (gM D cs ad) M_X8_readCouncil 4 [.ref (ad 0), mI e9] σ (fun z s => (z = 1 ∧ mPr σ s ∧ ∃ j : Int, 1 ≤ j ∧ j ≤ 6 ∧ n = 7 * j + 7 ∧ qGd tx n ∧ s 0 25 = j ∧ qCa tx s ∧ (∀ b r : Int, 0 ≤ b → b < j → 0 ≤ r → r < 5 → s 10 (5 * b + r) = qBv tx b r)) ∨ (z = 0 ∧ mPr σ s ∧ ∃ q : Int, qBd tx n q ∧ s 0 20 = f + q)) := by
  refine CI.of (by decide) (Nat.le_of_ble_eq_true rfl) (fun x h hq => ?_)
  show mG x 0 [(0, .ref (ad 0)), (1, mI e9)] [] σ
  refine g_aload_n h dX8_readCouncil_0 rfl ?_
  refine g_iconst h dX8_readCouncil_1 rfl ?_
  refine pm_readMany h dX8_readCouncil_2 lf_RX8_124 ?_
  have g0 : qGd tx 0 := fun q a b => by omega
  have q1 : mUp σ 0 25 0 0 20 = f + 0 := by rw [mUp_ne _ _ (Or.inr (by omega)), q0]; omega
  have q13 : mUp σ 0 25 0 3 = σ 3 := mUp_off _ _ _ (by omega)
  have q125 : mUp σ 0 25 0 0 25 = 0 := mUp_eq _ _ _ _
  have hp0 : mPr σ (mUp σ 0 25 0) := mPr.up0 _ _ (by omega) (by omega)
  generalize mUp σ 0 25 0 = s0 at q1 q13 q125 hp0 ⊢
  refine g_aload_n h dX8_readCouncil_5 rfl ?_
  refine g_iload_n h dX8_readCouncil_6 rfl ?_
  refine g_bipush h dX8_readCouncil_7 (by decide) ?_
  refine g_vI h (c_X8_isSign _ _ _ (by rw [q1]; omega) (by rw [q1]; omega) (by omega) (by rw [q13]; exact hc) (by omega) (by omega)) (by decide) lm_RX8_133 (rvM rfl) dX8_readCouncil_9 rfl (Nat.le_of_ble_eq_true rfl) (fun z9 s9 p9 => ?_)
  obtain ⟨m1, m2⟩ := sign_fit (tx := tx) (p := 0) he q1 (by omega) (by omega) (by rw [q13]; exact hx) g0 (by omega) ((qFt_g (lo := 109) (hi := 109) (by omega) (by omega) (by omega) (by decide) (by decide)).trans (by omega)) p9
  refine g_if_eq (tgt := 23) h dX8_readCouncil_12 (by decide) (by rcases m2 with g | g <;> exact ⟨by omega, by omega⟩) (fun c12 => ?_) (fun c12 => ?_)
  · refine g_iconst h dX8_readCouncil_23 rfl ?_
    refine g_zret h hq rfl dX8_readCouncil_24 (Or.inl rfl) (Or.inr ⟨rfl, hp0.tr m1.pr, by rcases m2 with g | g; exact absurd c12 (by omega); exact g.2⟩)
  · have y : qGd tx (0 + 1) ∧ 0 + 1 ≤ n ∧ s9 0 20 = f + (0 + 1) := by
      rcases m2 with g | g
      · exact g.2
      · exact absurd g.1 c12
    refine g_aload_n h dX8_readCouncil_15 rfl ?_
    refine g_iload_n h dX8_readCouncil_16 rfl ?_
    refine g_vI h (c_X8_readCalendar _ e9 f n tx he f0 hn (by rw [m1.1 3 (by omega), q13]; exact hc) (by rw [m1.1 3 (by omega), q13]; exact hx) (by rw [y.2.2]; omega) y.1 (by omega)) (by decide) lm_RX8_137 (rvM rfl) dX8_readCouncil_17 rfl (Nat.le_of_ble_eq_true rfl) (fun z17 s17 p17 => ?_)
    refine g_if_ne (tgt := 25) h dX8_readCouncil_20 (by decide) (by rcases p17 with g | g <;> exact ⟨by omega, by omega⟩) (fun c20 => ?_) (fun c20 => ?_)
    · rcases p17 with ⟨e, g1, g2, g3, g4, g5, g6, g7⟩ | g
      · exact lp_X8_readCouncil h hq he f0 hn hc hx (fun t t1 t2 => Or.inr ⟨rfl, t1, t2⟩) (fun t t1 t2 => Or.inl ⟨rfl, t1, t2⟩) 7 0 _ (by omega) (by omega) (by omega) (hp0.tr (m1.pr.tr g1)) (by rw [g6, m1.2 25 (by omega)]; exact q125) (by rw [g2]; omega) (by rw [show 7 * (0 : Int) + 7 = 7 by omega]; exact g3) (by omega) g5 (fun b r b0 b1 => by omega)
      · exact absurd g.1 c20
    · refine g_iconst h dX8_readCouncil_23 rfl ?_
      refine g_zret h hq rfl dX8_readCouncil_24 (Or.inl rfl) (Or.inr ⟨rfl, hp0.tr (m1.pr.tr (by rcases p17 with g | g; exact absurd c20 (by omega); exact g.2.1)), by rcases p17 with g | g; exact absurd c20 (by omega); exact g.2.2⟩)
def qTx (τ : mS) (k i : Int) : Int → Int := fun p => τ (12 + k) (i + p)
abbrev qTo (tx : Int → Int) (n : Int) : Prop := qFf tx n = n ∧ 14 ≤ n ∧ n % 7 = 0
def sp_council (τ : mS) (k l i n : Int) : Int := if ¬ (0 ≤ k ∧ k ≤ 3) then -1 else if ¬ (0 ≤ l ∧ l ≤ 2) then -2 else if ¬ qAg τ k l i n = 0 then -10 - qAg τ k l i n else if qTo (qTx τ k i) n then n / 7 - 1 else -100 - qFf (qTx τ k i) n
/-- a council is founded -/
def qNc (τ : mS) (tx : Int → Int) (j : Int) : mS := fun a b =>
  if a = 0 then (if b = 0 then 10 * (tx 1 - 48) + (tx 2 - 48) else if b = 1 then 10 * (tx 3 - 48) + (tx 4 - 48) else if b = 2 then tx 5 - 48 else if b = 3 then tx 6 - 48 else if b = 4 then j else if b = 5 then 0 else if b = 6 then 0 else τ 0 b)
  else if 1 ≤ a ∧ a ≤ 5 ∧ 0 ≤ b ∧ b < j then qBv tx b (a - 1)
  else if a = 6 then 0
  else τ a b
def ns_council (τ : mS) (k l i n : Int) : mS := if ¬ (0 ≤ k ∧ k ≤ 3) then mUp τ 0 8 0 else if ¬ (0 ≤ l ∧ l ≤ 2) then mUp τ 0 8 0 else if ¬ qAg τ k l i n = 0 then mUp τ 0 8 (qAg τ k l i n) else if qTo (qTx τ k i) n then qNc (mUp τ 0 8 0) (qTx τ k i) (n / 7 - 1) else mUp τ 0 8 0
def mBs (σ : mS) (tx : Int → Int) (b : Int) : mS := fun a i => if 4 ≤ a ∧ a ≤ 8 ∧ 0 ≤ i ∧ i < b then qBv tx i (a - 4) else σ a i
def mCz (σ : mS) (d : Int) : mS := fun a i => if a = 9 ∧ 0 ≤ i ∧ i < d then 0 else σ a i
theorem mBs_off (σ : mS) (tx : Int → Int) (b : Int) {a : Int} (h : a < 4 ∨ 8 < a) : mBs σ tx b a = σ a := by
  funext i
  unfold mBs
  rw [if_neg (by omega)]
theorem mCz_off (σ : mS) (d : Int) {a : Int} (h : ¬ a = 9) : mCz σ d a = σ a := by
  funext i
  unfold mCz
  rw [if_neg (by omega)]
theorem mBs_next (σ : mS) (tx : Int → Int) {b : Int} (b0 : 0 ≤ b) : mUp (mUp (mUp (mUp (mUp (mBs σ tx b) 4 b (qBv tx b 0)) 5 b (qBv tx b 1)) 6 b (qBv tx b 2)) 7 b (qBv tx b 3)) 8 b (qBv tx b 4) = mBs σ tx (b + 1) := by
  funext a i
  by_cases e : 4 ≤ a ∧ a ≤ 8 ∧ i = b
  · obtain ⟨e1, e2, e3⟩ := e
    subst e3
    have r : mBs σ tx (i + 1) a i = qBv tx i (a - 4) := by unfold mBs; rw [if_pos (by omega)]
    rw [r]
    rcases (show a = 4 ∨ a = 5 ∨ a = 6 ∨ a = 7 ∨ a = 8 by omega) with q | q | q | q | q <;> subst q <;> simp [mUp]
  · rw [mUp_ne _ _ (by omega), mUp_ne _ _ (by omega), mUp_ne _ _ (by omega), mUp_ne _ _ (by omega), mUp_ne _ _ (by omega)]
    unfold mBs
    by_cases g : 4 ≤ a ∧ a ≤ 8 ∧ 0 ≤ i ∧ i < b
    · rw [if_pos g, if_pos (by omega)]
    · rw [if_neg g, if_neg (by omega)]
theorem mBs_0 (σ : mS) (tx : Int → Int) : mBs σ tx 0 = σ := by
  funext a i
  unfold mBs
  rw [if_neg (by omega)]
theorem mCz_0 (σ : mS) : mCz σ 0 = σ := by
  funext a i
  unfold mCz
  rw [if_neg (by omega)]
theorem mCz_next (σ : mS) {d : Int} (d0 : 0 ≤ d) : mUp (mCz σ d) 9 d 0 = mCz σ (d + 1) := by
  funext a i
  by_cases e : a = 9 ∧ i = d
  · rw [e.1, e.2, mUp_eq]; unfold mCz; rw [if_pos (by omega)]
  · rw [mUp_ne _ _ (by omega)]
    unfold mCz
    by_cases g : a = 9 ∧ 0 ≤ i ∧ i < d
    · rw [if_pos g, if_pos (by omega)]
    · rw [if_neg g, if_neg (by omega)]
set_option maxRecDepth 100000 in
set_option maxHeartbeats 2000000 in
theorem lp_X8_council {x : mX} {l : Launch} {D : va_G} {cs : mC} {ad : Int → Nat} {post : Int → mS → Prop} (h : mOk x l M_X8_council 5 (gM D cs ad)) (hq : rI x (gM D cs ad) post) {s : mS} {k l9 i n f9 g9 j : Int} {tx : Int → Int} (h9 : s 0 9 = j) (j6 : j ≤ 6) (hb : ∀ b r : Int, 0 ≤ b → b < j → 0 ≤ r → r < 5 → s 10 (5 * b + r) = qBv tx b r) (kk : ∀ b : Int, mG x 230 [(0, .ref (ad 0)), (1, mI k), (2, mI l9), (3, mI i), (4, mI n), (5, mI f9), (6, mI g9), (7, mI b)] [] (mBs s tx j)) : ∀ (g : Nat) (b : Int), 0 ≤ b → b ≤ j → j - b < g → mG x 127 [(0, .ref (ad 0)), (1, mI k), (2, mI l9), (3, mI i), (4, mI n), (5, mI f9), (6, mI g9), (7, mI b)] [] (mBs s tx b) := by
  intro g
  induction g with
  | zero => intro b a c d; omega
  | succ g ih =>
    intro b b0 bj hg
    refine g_iload h dX8_council_127 rfl ?_
    refine g_aload_n h dX8_council_129 rfl ?_
    refine gm_bills h dX8_council_130 lf_RX8_72 ?_
    refine g_val (b := j) (by rw [mBs_off _ _ _ (by omega)]; exact h9) ?_
    refine g_icmp_ge (tgt := 230) h dX8_council_133 (by decide) ⟨by omega, by omega⟩ ⟨by omega, by omega⟩ (fun c133 => ?_) (fun c133 => ?_)
    · have e : b = j := by omega
      subst e
      exact kk _
    · refine g_aload_n h dX8_council_136 rfl ?_
      refine gm_kind h dX8_council_137 lf_RX8_19 ?_
      refine g_iload h dX8_council_140 rfl ?_
      refine g_aload_n h dX8_council_142 rfl ?_
      refine gm_read h dX8_council_143 lf_RX8_42 ?_
      refine g_iconst h dX8_council_146 rfl ?_
      refine g_iload h dX8_council_147 rfl ?_
      refine g_imul h dX8_council_149 ?_
      refine g_val (b := 5 * b + 0) (by omega) ?_
      refine lm_read h dX8_council_150 (by omega) (by omega) ?_
      refine g_val (b := qBv tx b 0) (by rw [mBs_off _ _ _ (by omega)]; exact hb b 0 b0 (by omega) (by omega) (by omega)) ?_
      refine sm_kind h dX8_council_151 (by omega) (by omega) ?_
      refine g_aload_n h dX8_council_152 rfl ?_
      refine gm_dayOf h dX8_council_153 lf_RX8_22 ?_
      refine g_iload h dX8_council_156 rfl ?_
      refine g_aload_n h dX8_council_158 rfl ?_
      refine gm_read h dX8_council_159 lf_RX8_42 ?_
      refine g_iconst h dX8_council_162 rfl ?_
      refine g_iload h dX8_council_163 rfl ?_
      refine g_imul h dX8_council_165 ?_
      refine g_iconst h dX8_council_166 rfl ?_
      refine g_iadd h dX8_council_167 ?_
      refine lm_read h dX8_council_168 (by omega) (by omega) ?_
      refine g_val (b := qBv tx b 1) (by rw [mUp_off _ _ _ (by omega)]; rw [mBs_off _ _ _ (by omega)]; exact hb b 1 b0 (by omega) (by omega) (by omega)) ?_
      refine sm_dayOf h dX8_council_169 (by omega) (by omega) ?_
      refine g_aload_n h dX8_council_170 rfl ?_
      refine gm_needs h dX8_council_171 lf_RX8_25 ?_
      refine g_iload h dX8_council_174 rfl ?_
      refine g_aload_n h dX8_council_176 rfl ?_
      refine gm_read h dX8_council_177 lf_RX8_42 ?_
      refine g_iconst h dX8_council_180 rfl ?_
      refine g_iload h dX8_council_181 rfl ?_
      refine g_imul h dX8_council_183 ?_
      refine g_iconst h dX8_council_184 rfl ?_
      refine g_iadd h dX8_council_185 ?_
      refine lm_read h dX8_council_186 (by omega) (by omega) ?_
      refine g_val (b := qBv tx b 2) (by rw [mUp_off _ _ _ (by omega), mUp_off _ _ _ (by omega)]; rw [mBs_off _ _ _ (by omega)]; exact hb b 2 b0 (by omega) (by omega) (by omega)) ?_
      refine sm_needs h dX8_council_187 (by omega) (by omega) ?_
      refine g_aload_n h dX8_council_188 rfl ?_
      refine gm_names h dX8_council_189 lf_RX8_28 ?_
      refine g_iload h dX8_council_192 rfl ?_
      refine g_aload_n h dX8_council_194 rfl ?_
      refine gm_read h dX8_council_195 lf_RX8_42 ?_
      refine g_iconst h dX8_council_198 rfl ?_
      refine g_iload h dX8_council_199 rfl ?_
      refine g_imul h dX8_council_201 ?_
      refine g_iconst h dX8_council_202 rfl ?_
      refine g_iadd h dX8_council_203 ?_
      refine lm_read h dX8_council_204 (by omega) (by omega) ?_
      refine g_val (b := qBv tx b 3) (by rw [mUp_off _ _ _ (by omega), mUp_off _ _ _ (by omega), mUp_off _ _ _ (by omega)]; rw [mBs_off _ _ _ (by omega)]; exact hb b 3 b0 (by omega) (by omega) (by omega)) ?_
      refine sm_names h dX8_council_205 (by omega) (by omega) ?_
      refine g_aload_n h dX8_council_206 rfl ?_
      refine gm_lasts h dX8_council_207 lf_RX8_31 ?_
      refine g_iload h dX8_council_210 rfl ?_
      refine g_aload_n h dX8_council_212 rfl ?_
      refine gm_read h dX8_council_213 lf_RX8_42 ?_
      refine g_iconst h dX8_council_216 rfl ?_
      refine g_iload h dX8_council_217 rfl ?_
      refine g_imul h dX8_council_219 ?_
      refine g_iconst h dX8_council_220 rfl ?_
      refine g_iadd h dX8_council_221 ?_
      refine lm_read h dX8_council_222 (by omega) (by omega) ?_
      refine g_val (b := qBv tx b 4) (by rw [mUp_off _ _ _ (by omega), mUp_off _ _ _ (by omega), mUp_off _ _ _ (by omega), mUp_off _ _ _ (by omega)]; rw [mBs_off _ _ _ (by omega)]; exact hb b 4 b0 (by omega) (by omega) (by omega)) ?_
      refine sm_lasts h dX8_council_223 (by omega) (by omega) ?_
      refine g_iinc h dX8_council_224 rfl (by decide) rfl ?_
      refine g_sta (mBs_next s tx b0) ?_
      refine g_goto (tgt := 127) h dX8_council_227 (by decide) ?_
      exact ih (b + 1) (by omega) (by omega) (by omega)
set_option maxRecDepth 100000 in
set_option maxHeartbeats 2000000 in
theorem lr_X8_council {x : mX} {l : Launch} {D : va_G} {cs : mC} {ad : Int → Nat} {post : Int → mS → Prop} (h : mOk x l M_X8_council 5 (gM D cs ad)) (hq : rI x (gM D cs ad) post) {s : mS} {k l9 i n f9 g9 : Int} (kk : ∀ b : Int, mG x 254 [(0, .ref (ad 0)), (1, mI k), (2, mI l9), (3, mI i), (4, mI n), (5, mI f9), (6, mI g9), (7, mI b)] [] (mCz s 110)) : ∀ (g : Nat) (b : Int), 0 ≤ b → b ≤ 110 → 110 - b < g → mG x 233 [(0, .ref (ad 0)), (1, mI k), (2, mI l9), (3, mI i), (4, mI n), (5, mI f9), (6, mI g9), (7, mI b)] [] (mCz s b) := by
  intro g
  induction g with
  | zero => intro b a c d; omega
  | succ g ih =>
    intro b b0 bj hg
    refine g_iload h dX8_council_233 rfl ?_
    refine g_bipush h dX8_council_235 (by decide) ?_
    refine g_icmp_ge (tgt := 254) h dX8_council_237 (by decide) ⟨by omega, by omega⟩ ⟨by omega, by omega⟩ (fun c237 => ?_) (fun c237 => ?_)
    · have e : b = 110 := by omega
      subst e
      exact kk _
    · refine g_aload_n h dX8_council_240 rfl ?_
      refine gm_isClouded h dX8_council_241 lf_RX8_34 ?_
      refine g_iload h dX8_council_244 rfl ?_
      refine g_iconst h dX8_council_246 rfl ?_
      refine sm_isClouded h dX8_council_247 (by omega) (by omega) (Or.inl rfl) ?_
      refine g_sta (mCz_next s b0) ?_
      refine g_iinc h dX8_council_248 rfl (by decide) rfl ?_
      refine g_goto (tgt := 233) h dX8_council_251 (by decide) ?_
      exact ih (b + 1) (by omega) (by omega) (by omega)
/-- the reference's state, once founded -/
def mFo (s : mS) (tx : Int → Int) (j : Int) : mS := mUp (mUp (mCz (mBs (mUp (mUp (mUp (mUp (mUp s 0 5 (s 0 21)) 0 6 (s 0 22)) 0 7 (s 0 23)) 0 8 (s 0 24)) 0 9 (s 0 25)) tx j) 110) 0 15 0) 0 30 0
theorem mFo_0 (s : mS) (tx : Int → Int) (j b : Int) : mFo s tx j 0 b = if b = 5 then s 0 21 else if b = 6 then s 0 22 else if b = 7 then s 0 23 else if b = 8 then s 0 24 else if b = 9 then s 0 25 else if b = 15 then 0 else if b = 30 then 0 else s 0 b := by
  unfold mFo
  by_cases e30 : b = 30
  · subst e30; rw [mUp_eq]; simp
  · rw [mUp_ne _ _ (Or.inr e30)]
    by_cases e15 : b = 15
    · subst e15; rw [mUp_eq]; simp
    · rw [mUp_ne _ _ (Or.inr e15), mCz_off _ _ (by omega), mBs_off _ _ _ (by omega)]
      unfold mUp
      repeat' split
      all_goals first | rfl | omega
theorem mFo_b (s : mS) (tx : Int → Int) (j : Int) {a b : Int} (a0 : 4 ≤ a) (a1 : a ≤ 8) : mFo s tx j a b = if 0 ≤ b ∧ b < j then qBv tx b (a - 4) else s a b := by
  unfold mFo
  rw [mUp_off _ _ _ (by omega), mUp_off _ _ _ (by omega), mCz_off _ _ (by omega)]
  unfold mBs
  by_cases e : 0 ≤ b ∧ b < j
  · rw [if_pos (by omega), if_pos e]
  · rw [if_neg (by omega), if_neg e, mUp_off _ _ _ (by omega), mUp_off _ _ _ (by omega), mUp_off _ _ _ (by omega), mUp_off _ _ _ (by omega), mUp_off _ _ _ (by omega)]
theorem mFo_9 (s : mS) (tx : Int → Int) (j : Int) {b : Int} (b0 : 0 ≤ b) (b1 : b < 110) : mFo s tx j 9 b = 0 := by
  unfold mFo
  rw [mUp_off _ _ _ (by omega), mUp_off _ _ _ (by omega)]
  unfold mCz
  rw [if_pos (by omega)]
theorem mFo_k (s : mS) (tx : Int → Int) (j : Int) {a : Int} (h : ¬ a = 0) (h9 : ¬ a = 9) (h4 : a < 4 ∨ 8 < a) : mFo s tx j a = s a := by
  unfold mFo
  rw [mUp_off _ _ _ h, mUp_off _ _ _ h, mCz_off _ _ h9, mBs_off _ _ _ h4, mUp_off _ _ _ h, mUp_off _ _ _ h, mUp_off _ _ _ h, mUp_off _ _ _ h, mUp_off _ _ _ h]
theorem vM_fo {s : mS} {tx : Int → Int} {j : Int} (j6 : j ≤ 6) (h : qCa tx s) (h25 : s 0 25 = j) : vM (mFo s tx j) = qNc (vM s) tx j := by
  obtain ⟨c1, c2, c3, c4⟩ := h
  funext a b
  unfold qNc
  by_cases a0 : a = 0
  · subst a0
    rw [if_pos rfl]
    unfold vM
    rw [if_pos rfl, if_pos rfl]
    rw [mFo_0, mFo_0, mFo_0, mFo_0, mFo_0, mFo_0, mFo_0, mFo_0, mFo_0, c1, c2, c3, c4, h25]
    rcases (show b = 0 ∨ b = 1 ∨ b = 2 ∨ b = 3 ∨ b = 4 ∨ b = 5 ∨ b = 6 ∨ b = 7 ∨ b = 8 ∨ ¬ (0 ≤ b ∧ b ≤ 8) by omega) with q | q | q | q | q | q | q | q | q | q
    · subst q; simp
    · subst q; simp
    · subst q; simp
    · subst q; simp
    · subst q; simp
    · subst q; simp
    · subst q; simp
    · subst q; simp
    · subst q; simp
    · simp [show ¬ b = 0 by omega, show ¬ b = 1 by omega, show ¬ b = 2 by omega, show ¬ b = 3 by omega, show ¬ b = 4 by omega, show ¬ b = 5 by omega, show ¬ b = 6 by omega, show ¬ b = 7 by omega, show ¬ b = 8 by omega]
  · rw [if_neg a0]
    by_cases a6 : 1 ≤ a ∧ a < 6
    · by_cases hb : 0 ≤ b ∧ b < 6
      · rw [vM_b _ a6.1 a6.2 hb.1 hb.2, mFo_b _ _ _ (by omega) (by omega)]
        by_cases e : 0 ≤ b ∧ b < j
        · rw [if_pos e, if_pos (by omega), show a + 3 - 4 = a - 1 by omega]
        · rw [if_neg e, if_neg (by omega), if_neg (by omega), vM_b _ a6.1 a6.2 hb.1 hb.2]
      · rw [if_neg (by omega), if_neg (by omega)]
        unfold vM
        rw [if_neg a0, if_neg (by omega), if_pos a6.2, if_neg hb, if_neg a0, if_neg (by omega), if_pos a6.2, if_neg hb]
    · rw [if_neg (by omega)]
      by_cases e6 : a = 6
      · rw [if_pos e6, e6]
        by_cases hb : 0 ≤ b ∧ b < 110
        · rw [vM_cl _ hb.1 hb.2, mFo_9 _ _ _ hb.1 hb.2]
        · simp [vM, hb]
      · rw [if_neg e6]
        unfold vM
        rw [if_neg a0, if_neg a0, mFo_k _ _ _ (show ¬ (1 : Int) = 0 by omega) (by omega) (by omega), mFo_k _ _ _ (show ¬ (2 : Int) = 0 by omega) (by omega) (by omega), mFo_k _ _ _ (show ¬ (3 : Int) = 0 by omega) (by omega) (by omega)]
        by_cases a1 : a < 0
        · rw [if_pos a1, if_pos a1]
        · rw [if_neg a1, if_neg a1, if_neg (show ¬ a < 6 by omega), if_neg (show ¬ a < 6 by omega), if_neg e6, if_neg e6]
          by_cases a4 : a < 10
          · rw [if_pos a4, if_pos a4, mFo_k _ _ _ (by omega) (by omega) (by omega)]
          · rw [if_neg a4, if_neg a4]
theorem mPr.endd {σ s τ : mS} (h : mPr σ s) (hE : mEnd τ σ) : mEnd τ s := by
  obtain ⟨e, ⟨i1, i2, i3⟩, r⟩ := hE
  refine ⟨h.sh.view.trans e, ⟨(h.2 17 (by omega)).trans i1, (h.2 18 (by omega)).trans i2, (h.2 19 (by omega)).trans i3⟩, ?_⟩
  unfold mRaw
  rw [h.1 1 (by omega) (by omega), h.1 2 (by omega) (by omega)]
  exact r
theorem mEnd.fo {s τ : mS} {tx : Int → Int} {j : Int} (hE : mEnd τ s) (j6 : j ≤ 6) (h : qCa tx s) (h25 : s 0 25 = j) : mEnd (qNc τ tx j) (mFo s tx j) := by
  obtain ⟨e, ⟨i1, i2, i3⟩, r⟩ := hE
  refine ⟨by rw [vM_fo j6 h h25, e], ⟨?_, ?_, ?_⟩, ?_⟩
  · rw [mFo_0]; simpa using i1
  · rw [mFo_0]; simpa using i2
  · rw [mFo_0]; simpa using i3
  · unfold mRaw
    rw [mFo_k _ _ _ (show ¬ (1 : Int) = 0 by omega) (by omega) (by omega), mFo_k _ _ _ (show ¬ (2 : Int) = 0 by omega) (by omega) (by omega)]
    exact r
set_option maxRecDepth 100000 in
set_option maxHeartbeats 2000000 in
theorem lq_X8_council {x : mX} {l : Launch} {D : va_G} {cs : mC} {ad : Int → Nat} {post : Int → mS → Prop} (h : mOk x l M_X8_council 5 (gM D cs ad)) (hq : rI x (gM D cs ad) post) {τ s : mS} {k l9 i n f9 : Int} (hW : qW τ) (hs : mEnd (mUp τ 0 8 0) s) (k0 : 0 ≤ k) (k1 : k < 4) (hag : qAg τ k l9 i n = 0) (hno : ∀ t : mS, mEnd (mUp τ 0 8 0) t → ¬ qTo (qTx τ k i) n → post (-100 - qFf (qTx τ k i) n) t) (hyes : ∀ t : mS, mEnd (qNc (mUp τ 0 8 0) (qTx τ k i) (n / 7 - 1)) t → qTo (qTx τ k i) n → post (n / 7 - 1) t) : mG x 47 [(0, .ref (ad 0)), (1, mI k), (2, mI l9), (3, mI i), (4, mI n), (5, mI f9)] [] s := by
  have hin := qAg_in hW k0 k1 hag
  have hcs : ∀ q : Int, 0 ≤ q → q < 240 → i32 (s 3 q) := fun q q0 q1 => by
    have e := ce_rd hs (k := q / 60) (i := q % 60) (by omega) (by omega) (by omega) (by omega)
    rw [show 60 * (q / 60) + q % 60 = q by omega] at e
    rw [← e]
    exact (hW.2.2.2.2.2 (q / 60) (by omega) (by omega)).2.2.2.2 (q % 60) (by omega) (by omega)
  have hxs : ∀ q : Int, 0 ≤ q → q < n → s 3 (60 * k + i + q) = qTx τ k i q := fun q q0 q1 => by
    have e := ce_rd hs k0 k1 (i := i + q) (by omega) (by omega)
    unfold qTx
    rw [e, show 60 * k + (i + q) = 60 * k + i + q by omega]
  refine g_bipush h dX8_council_47 (by decide) ?_
  refine g_iload_n h dX8_council_49 rfl ?_
  refine g_imul h dX8_council_50 ?_
  refine g_iload_n h dX8_council_51 rfl ?_
  refine g_iadd h dX8_council_52 ?_
  refine g_istore h dX8_council_53 (by decide) rfl ?_
  refine g_aload_n h dX8_council_55 rfl ?_
  refine g_iload h dX8_council_56 rfl ?_
  refine pm_at h dX8_council_58 lf_RX8_75 ?_
  have q1 : mUp s 0 20 (60 * k + i) 0 20 = 60 * k + i := mUp_eq _ _ _ _
  have hp1 : mPr s (mUp s 0 20 (60 * k + i)) := mPr.up0 _ _ (by omega) (by omega)
  generalize mUp s 0 20 (60 * k + i) = s1 at q1 hp1 ⊢
  have q13 : s1 3 = s 3 := hp1.1 3 (by omega) (by omega)
  refine g_aload_n h dX8_council_61 rfl ?_
  refine g_iload h dX8_council_62 rfl ?_
  refine g_iload h dX8_council_64 rfl ?_
  refine g_iadd h dX8_council_66 ?_
  refine g_vI h (c_X8_readCouncil _ (60 * k + i + n) (60 * k + i) n (qTx τ k i) rfl (by omega) (by omega) (by rw [q13]; exact hcs) (by rw [q13]; exact hxs) q1 (by omega)) (by decide) lm_RX8_97 (rvM rfl) dX8_council_67 rfl (Nat.le_of_ble_eq_true rfl) (fun z67 s67 p67 => ?_)
  refine g_if_ne (tgt := 84) h dX8_council_70 (by decide) (by rcases p67 with g | g <;> exact ⟨by omega, by omega⟩) (fun c70 => ?_) (fun c70 => ?_)
  · have y : mPr s1 s67 ∧ ∃ j : Int, 1 ≤ j ∧ j ≤ 6 ∧ n = 7 * j + 7 ∧ qGd (qTx τ k i) n ∧ s67 0 25 = j ∧ qCa (qTx τ k i) s67 ∧ (∀ b r : Int, 0 ≤ b → b < j → 0 ≤ r → r < 5 → s67 10 (5 * b + r) = qBv (qTx τ k i) b r) := by
      rcases p67 with g | g
      · exact g.2
      · exact absurd g.1 c70
    obtain ⟨y0, j, j1, j6, hn7, hgd, h25, hca, hbl⟩ := y
    have hto : qTo (qTx τ k i) n := ⟨qFf_is (by omega) (by omega) hgd (Or.inl rfl), by omega, by omega⟩
    have ey := hyes (mFo s67 (qTx τ k i) j)
    rw [show n / 7 - 1 = j by omega] at ey
    have fin := ey ((y0.endd (hp1.endd hs)).fo (j := j) j6 hca h25)
    refine g_aload_n h dX8_council_84 rfl ?_
    refine g_aload_n h dX8_council_85 rfl ?_
    refine gm_readOrigin h dX8_council_86 lf_RX8_100 ?_
    refine pm_origin h dX8_council_89 lf_RX8_103 ?_
    refine g_aload_n h dX8_council_92 rfl ?_
    refine g_aload_n h dX8_council_93 rfl ?_
    refine gm_readUpper h dX8_council_94 lf_RX8_106 ?_
    refine g_val (b := s67 0 22) (mUp_ne _ _ (Or.inr (by omega))) ?_
    refine pm_upper h dX8_council_97 lf_RX8_109 ?_
    refine g_aload_n h dX8_council_100 rfl ?_
    refine g_aload_n h dX8_council_101 rfl ?_
    refine gm_readLower h dX8_council_102 lf_RX8_112 ?_
    refine g_val (b := s67 0 23) (by rw [mUp_ne _ _ (Or.inr (by omega)), mUp_ne _ _ (Or.inr (by omega))]) ?_
    refine pm_lower h dX8_council_105 lf_RX8_115 ?_
    refine g_aload_n h dX8_council_108 rfl ?_
    refine g_aload_n h dX8_council_109 rfl ?_
    refine gm_readSpan h dX8_council_110 lf_RX8_118 ?_
    refine g_val (b := s67 0 24) (by rw [mUp_ne _ _ (Or.inr (by omega)), mUp_ne _ _ (Or.inr (by omega)), mUp_ne _ _ (Or.inr (by omega))]) ?_
    refine pm_span h dX8_council_113 lf_RX8_121 ?_
    refine g_aload_n h dX8_council_116 rfl ?_
    refine g_aload_n h dX8_council_117 rfl ?_
    refine gm_readMany h dX8_council_118 lf_RX8_124 ?_
    refine g_val (b := s67 0 25) (by rw [mUp_ne _ _ (Or.inr (by omega)), mUp_ne _ _ (Or.inr (by omega)), mUp_ne _ _ (Or.inr (by omega)), mUp_ne _ _ (Or.inr (by omega))]) ?_
    refine pm_bills h dX8_council_121 lf_RX8_72 ?_
    refine g_iconst h dX8_council_124 rfl ?_
    refine g_istore h dX8_council_125 (by decide) rfl ?_
    refine g_sta (mBs_0 _ (qTx τ k i)).symm ?_
    refine lp_X8_council h hq (j := j) (by rw [mUp_eq]; exact h25) j6 (fun b r b0 b1 r0 r1 => by rw [mUp_off _ _ _ (by omega), mUp_off _ _ _ (by omega), mUp_off _ _ _ (by omega), mUp_off _ _ _ (by omega), mUp_off _ _ _ (by omega)]; exact hbl b r b0 b1 r0 r1) (fun b => ?_) 7 0 (by omega) (by omega) (by omega)
    refine g_iconst h dX8_council_230 rfl ?_
    refine g_istore h dX8_council_231 (by decide) rfl ?_
    refine g_sta (mCz_0 _).symm ?_
    refine lr_X8_council h hq (fun b => ?_) 111 0 (by omega) (by omega) (by omega)
    refine g_aload_n h dX8_council_254 rfl ?_
    refine g_iconst h dX8_council_255 rfl ?_
    refine pm_nights h dX8_council_256 lf_RX8_127 ?_
    refine g_aload_n h dX8_council_259 rfl ?_
    refine g_iconst h dX8_council_260 rfl ?_
    refine pm_readings h dX8_council_261 lf_RX8_130 ?_
    refine g_aload_n h dX8_council_264 rfl ?_
    refine gm_bills h dX8_council_265 lf_RX8_72 ?_
    refine g_val (b := j) ?_ ?_
    · exact (mFo_0 s67 (qTx τ k i) j 9).trans (by simpa using h25)
    refine g_iret h hq rfl dX8_council_268 (fin hto)
  · refine g_bipush h dX8_council_73 (by decide) ?_
    refine g_aload_n h dX8_council_75 rfl ?_
    refine gm_at h dX8_council_76 lf_RX8_75 ?_
    refine g_iload h dX8_council_79 rfl ?_
    refine g_isub h dX8_council_81 ?_
    refine g_isub h dX8_council_82 ?_
    refine g_iret h hq rfl dX8_council_83 (by
      rcases p67 with g | ⟨g1, g2, q, g3, g4⟩
      · exact absurd c70 (by omega)
      · have := hno _ (g2.endd (hp1.endd hs)) (fun z => g3.no z)
        rw [g3.is] at this
        rw [show -100 - (s67 0 20 - (60 * k + i)) = -100 - q by omega]
        exact this)
set_option maxRecDepth 100000 in
set_option maxHeartbeats 2000000 in
theorem c_X8_council {l : Launch} {D : va_G} {cs : mC} {ad : Int → Nat} (σ : mS) (k l9 i n : Int) (hk : i32 k) (hl : i32 l9) (hi : i32 i) (hn : i32 n) (hO : mOK σ) : CI l (gM D cs ad) M_X8_council 5 [.ref (ad 0), mI k, mI l9, mI i, mI n] σ (fun z s => z = sp_council (vM σ) k l9 i n ∧ mEnd (ns_council (vM σ) k l9 i n) s) := by
  refine CI.of (by decide) (Nat.le_of_ble_eq_true rfl) (fun x h hq => ?_)
  show mG x 0 [(0, .ref (ad 0)), (1, mI k), (2, mI l9), (3, mI i), (4, mI n)] [] σ
  have hW := hO.2.2
  have hE := hO.endd
  have hE0 := hE.up (vM_up_fault σ 0) (by omega)
  refine g_aload_n h dX8_council_0 rfl ?_
  refine g_iconst h dX8_council_1 rfl ?_
  refine pm_fault h dX8_council_2 lf_RX8_63 ?_
  refine g_iload_n h dX8_council_5 rfl ?_
  refine g_sI h (c_X8_isSheet _ _ hk) (by decide) lm_RX8_82 dX8_council_6 rfl (Nat.le_of_ble_eq_true rfl) (fun z6 s6 p6 => ?_)
  obtain ⟨e6, r6⟩ := p6; subst e6; replace r6 := Eq.symm r6; subst r6
  refine g_ifb_ne (tgt := 14) h dX8_council_9 (by decide)  (fun c9 => ?_) (fun c9 => ?_)
  · refine g_iload_n h dX8_council_14 rfl ?_
    refine g_sI h (c_X8_isSort _ _ hl) (by decide) lm_RX8_86 dX8_council_15 rfl (Nat.le_of_ble_eq_true rfl) (fun z15 s15 p15 => ?_)
    obtain ⟨e15, r15⟩ := p15; subst e15; replace r15 := Eq.symm r15; subst r15
    refine g_ifb_ne (tgt := 24) h dX8_council_18 (by decide)  (fun c18 => ?_) (fun c18 => ?_)
    · refine g_aload_n h dX8_council_24 rfl ?_
      refine g_iload_n h dX8_council_25 rfl ?_
      refine g_iload_n h dX8_council_26 rfl ?_
      refine g_iload_n h dX8_council_27 rfl ?_
      refine g_iload h dX8_council_28 rfl ?_
      refine g_vI h (c_X8_against _ _ _ _ _ hE0.2.2 c9.1 (by omega) hl hi hn) (by decide) lm_RX8_89 (rvM rfl) dX8_council_30 rfl (Nat.le_of_ble_eq_true rfl) (fun z30 s30 p30 => ?_)
      obtain ⟨e30, r30⟩ := p30; subst e30; replace r30 := Eq.symm r30; subst r30
      refine g_val (b := qAg (vM σ) k l9 i n) (by rw [hE0.1, qAg_f]) ?_
      have ag := qAg_rng (vM σ) k l9 i n
      refine g_istore h dX8_council_33 (by decide) rfl ?_
      refine g_iload h dX8_council_35 rfl ?_
      refine g_if_eq (tgt := 47) h dX8_council_37 (by decide) ⟨by omega, by omega⟩ (fun c37 => ?_) (fun c37 => ?_)
      · exact lq_X8_council h hq hW hE0 c9.1 (by omega) c37 (fun t t1 t2 => ⟨by unfold sp_council; rw [if_neg (fun z => z c9), if_neg (fun z => z c18), if_neg (fun z => z c37), if_neg t2], by unfold ns_council; rw [if_neg (fun z => z c9), if_neg (fun z => z c18), if_neg (fun z => z c37), if_neg t2]; exact t1⟩) (fun t t1 t2 => ⟨by unfold sp_council; rw [if_neg (fun z => z c9), if_neg (fun z => z c18), if_neg (fun z => z c37), if_pos t2], by unfold ns_council; rw [if_neg (fun z => z c9), if_neg (fun z => z c18), if_neg (fun z => z c37), if_pos t2]; exact t1⟩)
      · refine g_aload_n h dX8_council_40 rfl ?_
        refine g_iload h dX8_council_41 rfl ?_
        refine g_vI h (c_X8_fails _ _) (by decide) lm_RX8_93 (rvM rfl) dX8_council_43 rfl (Nat.le_of_ble_eq_true rfl) (fun z43 s43 p43 => ?_)
        obtain ⟨e43, r43⟩ := p43; subst e43; replace r43 := Eq.symm r43; subst r43
        refine g_iret h hq rfl dX8_council_46 ⟨by unfold sp_council; rw [if_neg (fun z => z c9), if_neg (fun z => z c18), if_pos c37], by unfold ns_council; rw [if_neg (fun z => z c9), if_neg (fun z => z c18), if_pos c37]; exact hE0.fault _⟩
    · refine g_bipush h dX8_council_21 (by decide) ?_
      refine g_iret h hq rfl dX8_council_23 ⟨by unfold sp_council; rw [if_neg (fun z => z c9), if_pos c18], by unfold ns_council; rw [if_neg (fun z => z c9), if_pos c18]; exact hE0⟩
  · refine g_iconst h dX8_council_12 rfl ?_
    refine g_iret h hq rfl dX8_council_13 ⟨by unfold sp_council; rw [if_pos c9], by unfold ns_council; rw [if_pos c9]; exact hE0⟩
