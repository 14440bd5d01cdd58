def qGd (tx : Int → Int) (p : Int) : Prop := ∀ q : Int, 0 ≤ q → q < p → qFt tx q = true
def qBd (tx : Int → Int) (n q : Int) : Prop := 0 ≤ q ∧ q ≤ n ∧ qGd tx q ∧ ((q < n ∧ qFt tx q = false) ∨ (q = n ∧ ¬ (14 ≤ n ∧ n % 7 = 0)))
theorem qBd.is {tx : Int → Int} {n q : Int} (h : qBd tx n q) : qFf tx n = q := qFf_is h.1 h.2.1 h.2.2.1 (by
  rcases h.2.2.2 with g | g
  · exact Or.inr g.2
  · exact Or.inl g.1)
theorem qBd.no {tx : Int → Int} {n q : Int} (h : qBd tx n q) : ¬ (qFf tx n = n ∧ 14 ≤ n ∧ n % 7 = 0) := by
  intro z
  have := h.is
  rcases h.2.2.2 with g | g
  · omega
  · exact g.2 z.2
theorem qGd.next {tx : Int → Int} {p : Int} (h : qGd tx p) (hp : qFt tx p = true) : qGd tx (p + 1) := fun q q0 q1 => by
  by_cases e : q = p
  · rw [e]; exact hp
  · exact h q q0 (by omega)
theorem qBd.at {tx : Int → Int} {n p : Int} (p0 : 0 ≤ p) (pn : p ≤ n) (h : qGd tx p) (hm : ¬ p % 7 = 0 ∨ p < 14) (hf : p < n → qFt tx p = false) : qBd tx n p := by
  refine ⟨p0, pn, h, ?_⟩
  by_cases e : p < n
  · exact Or.inl ⟨e, hf e⟩
  · exact Or.inr ⟨by omega, by omega⟩
theorem qFt_g {tx : Int → Int} {p lo hi : Int} (h : p < 49) (h2 : ¬ (7 ≤ p ∧ p % 7 = 1)) (h3 : ¬ (p = 4 ∧ tx 3 = 54)) (hlo : qLo p = lo) (hhi : qHi p = hi) : qFt tx p = true ↔ (lo ≤ tx p ∧ tx p ≤ hi) := by
  unfold qFt
  rw [if_neg (by omega), if_neg h2, if_neg h3, hlo, hhi]
  exact decide_eq_true_iff
theorem qFt_k {tx : Int → Int} {p : Int} (h : p < 49) (h2 : 7 ≤ p ∧ p % 7 = 1) : qFt tx p = true ↔ (tx p = 98 ∨ tx p = 115 ∨ tx p = 114) := by
  unfold qFt
  rw [if_neg (by omega), if_pos h2]
  exact decide_eq_true_iff
theorem qFt_b {tx : Int → Int} {p lo hi : Int} (h : p < 49) (h7 : 7 ≤ p) (h2 : ¬ p % 7 = 1) (hr : (p % 7 = 0 ∧ lo = 59 ∧ hi = 59) ∨ (p % 7 = 6 ∧ lo = 49 ∧ hi = 57) ∨ ((p % 7 = 4 ∨ p % 7 = 5) ∧ lo = 48 ∧ hi = 54) ∨ ((p % 7 = 2 ∨ p % 7 = 3) ∧ lo = 48 ∧ hi = 57)) : qFt tx p = true ↔ (lo ≤ tx p ∧ tx p ≤ hi) := by
  refine qFt_g h (by omega) (by omega) ?_ ?_
  · unfold qLo
    rw [if_neg (by omega), if_neg (by omega), if_neg (by omega), if_neg (by omega)]
    repeat' split
    all_goals omega
  · unfold qHi
    rw [if_neg (by omega), if_neg (by omega), if_neg (by omega), if_neg (by omega), if_neg (by omega)]
    repeat' split
    all_goals omega
def mP20 (σ s : mS) : Prop := (∀ k : Int, ¬ k = 0 → s k = σ k) ∧ ∀ j : Int, ¬ j = 20 → s 0 j = σ 0 j
theorem mP20.rf (σ : mS) : mP20 σ σ := ⟨fun _ _ => rfl, fun _ _ => rfl⟩
theorem mP20.up (σ : mS) (v : Int) : mP20 σ (mUp σ 0 20 v) := ⟨fun k a => mUp_off σ 20 v a, fun i hi => mUp_ne σ v (Or.inr hi)⟩
theorem mP20.pr {σ s : mS} (h : mP20 σ s) : mPr σ s := ⟨fun k a _ => h.1 k a, fun j hj => h.2 j (by omega)⟩
/-- what has been read: m codes from p on, or it ends where it must -/
def mNb (tx : Int → Int) (n f : Int) (σ s : mS) (p m v z : Int) : Prop := mP20 σ s ∧ ((qGd tx (p + m) ∧ p + m ≤ n ∧ z = v ∧ 0 ≤ v ∧ v ≤ 99 ∧ s 0 20 = f + (p + m)) ∨ (z = -9 ∧ ∃ q : Int, qBd tx n q ∧ s 0 20 = f + q))
theorem mNb.rng {tx : Int → Int} {n f p m v z : Int} {σ s : mS} (h : mNb tx n f σ s p m v z) : i32 z := by
  rcases h.2 with g | g
  · exact ⟨by omega, by omega⟩
  · exact ⟨by omega, by omega⟩
theorem mNb.no {tx : Int → Int} {n f p m v z : Int} {σ s : mS} (h : mNb tx n f σ s p m v z) (hz : z = -9) : ∃ q : Int, qBd tx n q ∧ s 0 20 = f + q := by
  rcases h.2 with g | g
  · omega
  · exact g.2
theorem mNb.yes {tx : Int → Int} {n f p m v z : Int} {σ s : mS} (h : mNb tx n f σ s p m v z) (hz : ¬ z = -9) : qGd tx (p + m) ∧ p + m ≤ n ∧ z = v ∧ 0 ≤ v ∧ v ≤ 99 ∧ s 0 20 = f + (p + m) := by
  rcases h.2 with g | g
  · exact g
  · exact absurd g.1 hz
theorem dig_fit {tx : Int → Int} {n f p a b z e9 : Int} {σ s : mS} (he : e9 = f + n) (h20 : σ 0 20 = f + p) (p0 : 0 ≤ p) (pn : p ≤ n) (hx : ∀ q : Int, 0 ≤ q → q < n → σ 3 (f + q) = tx q) (hg : qGd tx p) (hm : ¬ p % 7 = 0 ∨ p < 14) (a0 : 0 ≤ a) (b9 : b ≤ 9) (hf : qFt tx p = true ↔ (48 + a ≤ tx p ∧ tx p ≤ 48 + b))
    (h : z = (if (σ 0 20 < e9 ∧ (48 + a ≤ σ 3 (σ 0 20) ∧ σ 3 (σ 0 20) ≤ 48 + b)) then σ 3 (σ 0 20) - 48 else -9) ∧ s = (if (σ 0 20 < e9 ∧ (48 + a ≤ σ 3 (σ 0 20) ∧ σ 3 (σ 0 20) ≤ 48 + b)) then mUp σ 0 20 (σ 0 20 + 1) else σ)) : mNb tx n f σ s p 1 (tx p - 48) z := by
  obtain ⟨h1, h2⟩ := h
  by_cases g : (σ 0 20 < e9 ∧ (48 + a ≤ σ 3 (σ 0 20) ∧ σ 3 (σ 0 20) ≤ 48 + b))
  · rw [if_pos g] at h1 h2
    have pl : p < n := by omega
    have e := hx p p0 pl
    rw [h20, e] at h1 g
    refine ⟨by rw [h2]; exact mP20.up σ _, Or.inl ⟨hg.next (hf.mpr g.2), by omega, h1, by omega, by omega, by rw [h2, mUp_eq]; omega⟩⟩
  · rw [if_neg g] at h1 h2
    refine ⟨by rw [h2]; exact mP20.rf σ, Or.inr ⟨h1, p, qBd.at p0 pn hg hm (fun pl => ?_), by rw [h2]; exact h20⟩⟩
    have e := hx p p0 pl
    rw [h20, e] at g
    cases q : qFt tx p with
    | false => rfl
    | true => exact absurd ⟨by omega, hf.mp q⟩ g
theorem num_fit {tx : Int → Int} {n f p a b z e9 : Int} {σ s : mS} (he : e9 = f + n) (h20 : σ 0 20 = f + p) (p0 : 0 ≤ p) (pn : p ≤ n) (hx : ∀ q : Int, 0 ≤ q → q < n → σ 3 (f + q) = tx q) (hg : qGd tx p) (hm : ¬ p % 7 = 0 ∨ p < 14) (hm2 : ¬ (p + 1) % 7 = 0 ∨ p + 1 < 14) (a0 : 0 ≤ a) (b9 : b ≤ 99) (b0 : 0 ≤ b) (hf : qFt tx p = true ↔ (48 + a / 10 ≤ tx p ∧ tx p ≤ 48 + b / 10)) (hf2 : qFt tx (p + 1) = true ↔ (48 + 0 ≤ tx (p + 1) ∧ tx (p + 1) ≤ 48 + (if tx p - 48 = b / 10 then b % 10 else 9)))
    (h : (n1 σ e9 a b ∧ n2 σ e9 b ∧ z = 10 * (σ 3 (σ 0 20) - 48) + (σ 3 (σ 0 20 + 1) - 48) ∧ s = mUp σ 0 20 (σ 0 20 + 2)) ∨ (n1 σ e9 a b ∧ ¬ n2 σ e9 b ∧ z = -9 ∧ s = mUp σ 0 20 (σ 0 20 + 1)) ∨ (¬ n1 σ e9 a b ∧ z = -9 ∧ s = σ)) : mNb tx n f σ s p 2 (10 * (tx p - 48) + (tx (p + 1) - 48)) z := by
  rcases h with ⟨g1, g2, h1, h2⟩ | ⟨g1, g2, h1, h2⟩ | ⟨g1, h1, h2⟩
  · unfold n1 at g1
    unfold n2 at g2
    have pl : p + 1 < n := by omega
    have e := hx p p0 (by omega)
    have e2 := hx (p + 1) (by omega) pl
    rw [show f + (p + 1) = f + p + 1 by omega] at e2
    rw [h20, e] at g1 g2
    rw [h20, e, e2] at h1
    rw [e2] at g2
    have g3 := (hg.next (hf.mpr g1.2)).next (hf2.mpr g2.2)
    rw [show p + 1 + 1 = p + 2 by omega] at g3
    have g4 : (if tx p - 48 = b / 10 then b % 10 else 9) ≤ 9 := by split <;> omega
    refine ⟨by rw [h2]; exact mP20.up σ _, Or.inl ⟨g3, by omega, h1, by omega, by omega, by rw [h2, mUp_eq]; omega⟩⟩
  · unfold n1 at g1
    unfold n2 at g2
    have e := hx p p0 (by omega)
    rw [h20, e] at g1 g2
    refine ⟨by rw [h2]; exact mP20.up σ _, Or.inr ⟨h1, p + 1, qBd.at (by omega) (by omega) (hg.next (hf.mpr g1.2)) hm2 (fun pl => ?_), by rw [h2, mUp_eq]; omega⟩⟩
    have e2 := hx (p + 1) (by omega) pl
    rw [show f + (p + 1) = f + p + 1 by omega] at e2
    rw [e2] at g2
    cases q : qFt tx (p + 1) with
    | false => rfl
    | true => exact absurd ⟨by omega, hf2.mp q⟩ g2
  · unfold n1 at g1
    refine ⟨by rw [h2]; exact mP20.rf σ, Or.inr ⟨h1, p, qBd.at p0 pn hg hm (fun pl => ?_), by rw [h2]; exact h20⟩⟩
    have e := hx p p0 pl
    rw [h20, e] at g1
    cases q : qFt tx p with
    | false => rfl
    | true => exact absurd ⟨by omega, hf.mp q⟩ g1
theorem sign_fit {tx : Int → Int} {n f p c z e9 : Int} {σ s : mS} (he : e9 = f + n) (h20 : σ 0 20 = f + p) (p0 : 0 ≤ p) (pn : p ≤ n) (hx : ∀ q : Int, 0 ≤ q → q < n → σ 3 (f + q) = tx q) (hg : qGd tx p) (hm : ¬ p % 7 = 0 ∨ p < 14 ∨ p < n) (hf : qFt tx p = true ↔ tx p = c)
    (h : z = bl (σ 0 20 < e9 ∧ σ 3 (σ 0 20) = c) ∧ s = (if (σ 0 20 < e9 ∧ σ 3 (σ 0 20) = c) then mUp σ 0 20 (σ 0 20 + 1) else σ)) : mP20 σ s ∧ ((z = 1 ∧ qGd tx (p + 1) ∧ p + 1 ≤ n ∧ s 0 20 = f + (p + 1)) ∨ (z = 0 ∧ ∃ q : Int, qBd tx n q ∧ s 0 20 = f + q)) := by
  obtain ⟨h1, h2⟩ := h
  by_cases g : (σ 0 20 < e9 ∧ σ 3 (σ 0 20) = c)
  · rw [if_pos g] at h2
    rw [← bl1 g] at h1
    have e := hx p p0 (by omega)
    rw [h20, e] at g
    exact ⟨by rw [h2]; exact mP20.up σ _, Or.inl ⟨h1, hg.next (hf.mpr g.2), by omega, by rw [h2, mUp_eq]; omega⟩⟩
  · rw [if_neg g] at h2
    rw [← bl0 g] at h1
    refine ⟨by rw [h2]; exact mP20.rf σ, Or.inr ⟨h1, p, ⟨p0, pn, hg, ?_⟩, by rw [h2]; exact h20⟩⟩
    by_cases pl : p < n
    · refine Or.inl ⟨pl, ?_⟩
      have e := hx p p0 pl
      rw [h20, e] at g
      cases q : qFt tx p with
      | false => rfl
      | true => exact absurd ⟨by omega, hf.mp q⟩ g
    · exact Or.inr ⟨by omega, by omega⟩
/-- the calendar as it was read -/
def qCa (tx : Int → Int) (s : mS) : Prop := s 0 21 = 10 * (tx 1 - 48) + (tx 2 - 48) ∧ s 0 22 = 10 * (tx 3 - 48) + (tx 4 - 48) ∧ s 0 23 = tx 5 - 48 ∧ s 0 24 = tx 6 - 48
theorem qFt4 (tx : Int → Int) : qFt tx (3 + 1) = true ↔ (48 + 0 ≤ tx (3 + 1) ∧ tx (3 + 1) ≤ 48 + (if tx 3 - 48 = 60 / 10 then 60 % 10 else 9)) := by
  rw [show (3 : Int) + 1 = 4 by omega]
  by_cases e : tx 3 = 54
  · unfold qFt
    rw [if_neg (by omega), if_neg (by omega), if_pos ⟨rfl, e⟩, if_pos (by omega)]
    rw [decide_eq_true_iff]
    omega
  · rw [if_neg (by omega)]
    exact qFt_g (by omega) (by omega) (by omega) (by decide) (by decide)
theorem ite_self_9 {c : Prop} [Decidable c] : (48 : Int) + (if c then 29 % 10 else 9) = 57 := by split <;> omega
set_option maxRecDepth 100000 in
set_option maxHeartbeats 2000000 in
theorem c_X8_readCalendar {l : Launch} {D : va_G} {cs : mC} {ad : Int → Nat} (σ : mS) (e9 f n : Int) (tx : Int → Int) (he : e9 = f + n) (f0 : 0 ≤ f) (hn : f + n ≤ 240) (hc : ∀ q : Int, 0 ≤ q → q < 240 → i32 (σ 3 q)) (hx : ∀ q : Int, 0 ≤ q → q < n → σ 3 (f + q) = tx q) (q0 : σ 0 20 = f + 1) (hg : qGd tx 1) (n1 : 1 ≤ n) : CI l (gM D cs ad) M_X8_readCalendar 3 [.ref (ad 0), mI e9] σ (fun z s => (z = 1 ∧ mPr σ s ∧ s 0 20 = f + 7 ∧ qGd tx 7 ∧ 7 ≤ n ∧ qCa tx s ∧ s 0 25 = σ 0 25 ∧ s 10 = σ 10) ∨ (z = 0 ∧ mPr σ s ∧ ∃ q : Int, qBd tx n q ∧ s 0 20 = f + q)) := by
  refine CI.of (by decide) (Nat.le_of_ble_eq_true rfl) (fun x h hq => ?_)
  show mG x 0 [(0, .ref (ad 0)), (1, mI e9)] [] σ
  refine g_aload_n h dX8_readCalendar_0 rfl ?_
  refine g_aload_n h dX8_readCalendar_1 rfl ?_
  refine g_iload_n h dX8_readCalendar_2 rfl ?_
  refine g_iconst h dX8_readCalendar_3 rfl ?_
  refine g_bipush h dX8_readCalendar_4 (by decide) ?_
  refine g_vI h (c_X8_number _ _ _ _ (by rw [q0]; omega) (by rw [q0]; omega) (by omega) hc (by omega) (by omega) (by omega) (by omega)) (by decide) lm_RX8_143 (rvM rfl) dX8_readCalendar_6 rfl (Nat.le_of_ble_eq_true rfl) (fun z6 s6 p6 => ?_)
  have m6 := num_fit (tx := tx) (p := 1) he q0 (by omega) (by omega) hx hg (by omega) (by omega) (by omega) (by omega) (by omega) (qFt_g (by omega) (by omega) (by omega) (by decide) (by decide)) (by rw [ite_self_9]; exact qFt_g (by omega) (by omega) (by omega) (by decide) (by decide)) p6
  refine pm_readOrigin h dX8_readCalendar_9 lf_RX8_100 ?_
  refine g_aload_n h dX8_readCalendar_12 rfl ?_
  refine gm_readOrigin h dX8_readCalendar_13 lf_RX8_100 ?_
  refine g_val (b := z6) (mUp_eq _ _ _ _) ?_
  refine g_bipush h dX8_readCalendar_16 (by decide) ?_
  refine g_icmp_ne (tgt := 23) h dX8_readCalendar_18 (by decide) m6.rng ⟨by omega, by omega⟩ (fun c18 => ?_) (fun c18 => ?_)
  · obtain ⟨y1, y2, y3, y4, y5, y6⟩ := m6.yes c18
    have q1 : mUp s6 0 21 z6 0 20 = f + 3 := (mUp_ne _ _ (Or.inr (by omega))).trans y6
    have q13 : mUp s6 0 21 z6 3 = σ 3 := (mUp_off _ _ _ (by omega)).trans (m6.1.1 3 (by omega))
    refine g_aload_n h dX8_readCalendar_23 rfl ?_
    refine g_aload_n h dX8_readCalendar_24 rfl ?_
    refine g_iload_n h dX8_readCalendar_25 rfl ?_
    refine g_bipush h dX8_readCalendar_26 (by decide) ?_
    refine g_bipush h dX8_readCalendar_28 (by decide) ?_
    refine g_vI h (c_X8_number _ _ _ _ (by rw [q1]; omega) (by rw [q1]; omega) (by omega) (by rw [q13]; exact hc) (by omega) (by omega) (by omega) (by omega)) (by decide) lm_RX8_143 (rvM rfl) dX8_readCalendar_30 rfl (Nat.le_of_ble_eq_true rfl) (fun z30 s30 p30 => ?_)
    have m30 := num_fit (tx := tx) (p := 3) he q1 (by omega) (by omega) (by rw [q13]; exact hx) y1 (by omega) (by omega) (by omega) (by omega) (by omega) (qFt_g (by omega) (by omega) (by omega) (by decide) (by decide)) (qFt4 tx) p30
    refine pm_readUpper h dX8_readCalendar_33 lf_RX8_106 ?_
    refine g_aload_n h dX8_readCalendar_36 rfl ?_
    refine gm_readUpper h dX8_readCalendar_37 lf_RX8_106 ?_
    refine g_val (b := z30) (mUp_eq _ _ _ _) ?_
    refine g_bipush h dX8_readCalendar_40 (by decide) ?_
    refine g_icmp_ne (tgt := 47) h dX8_readCalendar_42 (by decide) m30.rng ⟨by omega, by omega⟩ (fun c42 => ?_) (fun c42 => ?_)
    · obtain ⟨u1, u2, u3, u4, u5, u6⟩ := m30.yes c42
      have q2 : mUp s30 0 22 z30 0 20 = f + 5 := (mUp_ne _ _ (Or.inr (by omega))).trans u6
      have q23 : mUp s30 0 22 z30 3 = σ 3 := ((mUp_off _ _ _ (by omega)).trans (m30.1.1 3 (by omega))).trans q13
      refine g_aload_n h dX8_readCalendar_47 rfl ?_
      refine g_aload_n h dX8_readCalendar_48 rfl ?_
      refine g_iload_n h dX8_readCalendar_49 rfl ?_
      refine g_iconst h dX8_readCalendar_50 rfl ?_
      refine g_iconst h dX8_readCalendar_51 rfl ?_
      refine g_vI h (c_X8_digit _ _ _ _ (by rw [q2]; omega) (by rw [q2]; omega) (by omega) (by rw [q23]; exact hc) (by omega) (by omega) (by omega) (by omega)) (by decide) lm_RX8_78 (rvM rfl) dX8_readCalendar_52 rfl (Nat.le_of_ble_eq_true rfl) (fun z52 s52 p52 => ?_)
      have m52 := dig_fit (tx := tx) (p := 5) he q2 (by omega) (by omega) (by rw [q23]; exact hx) u1 (by omega) (by omega) (by omega) (qFt_g (by omega) (by omega) (by omega) (by decide) (by decide)) p52
      refine pm_readLower h dX8_readCalendar_55 lf_RX8_112 ?_
      refine g_aload_n h dX8_readCalendar_58 rfl ?_
      refine gm_readLower h dX8_readCalendar_59 lf_RX8_112 ?_
      refine g_val (b := z52) (mUp_eq _ _ _ _) ?_
      refine g_bipush h dX8_readCalendar_62 (by decide) ?_
      refine g_icmp_ne (tgt := 69) h dX8_readCalendar_64 (by decide) m52.rng ⟨by omega, by omega⟩ (fun c64 => ?_) (fun c64 => ?_)
      · obtain ⟨v1, v2, v3, v4, v5, v6⟩ := m52.yes c64
        have q3 : mUp s52 0 23 z52 0 20 = f + 6 := (mUp_ne _ _ (Or.inr (by omega))).trans v6
        have q33 : mUp s52 0 23 z52 3 = σ 3 := ((mUp_off _ _ _ (by omega)).trans (m52.1.1 3 (by omega))).trans q23
        refine g_aload_n h dX8_readCalendar_69 rfl ?_
        refine g_aload_n h dX8_readCalendar_70 rfl ?_
        refine g_iload_n h dX8_readCalendar_71 rfl ?_
        refine g_iconst h dX8_readCalendar_72 rfl ?_
        refine g_bipush h dX8_readCalendar_73 (by decide) ?_
        refine g_vI h (c_X8_digit _ _ _ _ (by rw [q3]; omega) (by rw [q3]; omega) (by omega) (by rw [q33]; exact hc) (by omega) (by omega) (by omega) (by omega)) (by decide) lm_RX8_78 (rvM rfl) dX8_readCalendar_75 rfl (Nat.le_of_ble_eq_true rfl) (fun z75 s75 p75 => ?_)
        have m75 := dig_fit (tx := tx) (p := 6) he q3 (by omega) (by omega) (by rw [q33]; exact hx) v1 (by omega) (by omega) (by omega) (qFt_g (by omega) (by omega) (by omega) (by decide) (by decide)) p75
        refine pm_readSpan h dX8_readCalendar_78 lf_RX8_118 ?_
        refine g_aload_n h dX8_readCalendar_81 rfl ?_
        refine gm_readSpan h dX8_readCalendar_82 lf_RX8_118 ?_
        refine g_val (b := z75) (mUp_eq _ _ _ _) ?_
        have hpr : mPr σ (mUp s75 0 24 z75) := ((((((m6.1.pr.tr (mPr.up0 _ _ (by omega) (by omega))).tr m30.1.pr).tr (mPr.up0 _ _ (by omega) (by omega))).tr m52.1.pr).tr (mPr.up0 _ _ (by omega) (by omega))).tr m75.1.pr).tr (mPr.up0 _ _ (by omega) (by omega))
        refine g_bipush h dX8_readCalendar_85 (by decide) ?_
        refine g_icmp_eq (tgt := 94) h dX8_readCalendar_87 (by decide) m75.rng ⟨by omega, by omega⟩ (fun c87 => ?_) (fun c87 => ?_)
        · refine g_iconst h dX8_readCalendar_94 rfl ?_
          refine g_zret h hq rfl dX8_readCalendar_95 (by first | exact Or.inl rfl | exact Or.inr rfl) (Or.inr ⟨rfl, hpr, by obtain ⟨q, hq9, e⟩ := m75.no c87; exact ⟨q, hq9, (mUp_ne _ _ (Or.inr (by omega))).trans e⟩⟩)
        · refine g_iconst h dX8_readCalendar_90 rfl ?_
          refine g_goto (tgt := 95) h dX8_readCalendar_91 (by decide) ?_
          refine g_zret h hq rfl dX8_readCalendar_95 (by first | exact Or.inl rfl | exact Or.inr rfl) (by
        obtain ⟨w1, w2, w3, w4, w5, w6⟩ := m75.yes c87
        have o1 : ∀ j : Int, ¬ j = 20 → ¬ j = 24 → ¬ j = 23 → mUp s75 0 24 z75 0 j = s52 0 j := fun j a b c => by rw [mUp_ne _ _ (Or.inr b), m75.1.2 j a, mUp_ne _ _ (Or.inr c)]
        have o2 : ∀ j : Int, ¬ j = 20 → ¬ j = 24 → ¬ j = 23 → ¬ j = 22 → mUp s75 0 24 z75 0 j = s6 0 j ∨ j = 21 := fun j a b c d => by
          by_cases e : j = 21
          · exact Or.inr e
          · refine Or.inl ?_
            rw [o1 j a b c, m52.1.2 j a, mUp_ne _ _ (Or.inr d), m30.1.2 j a, mUp_ne _ _ (Or.inr e)]
        refine Or.inl ⟨rfl, hpr, (mUp_ne _ _ (Or.inr (by omega))).trans w6, w1, w2, ⟨?_, ?_, ?_, ?_⟩, ?_, ?_⟩
        · rw [o1 21 (by omega) (by omega) (by omega), m52.1.2 21 (by omega), mUp_ne _ _ (Or.inr (by omega)), m30.1.2 21 (by omega), mUp_eq, y3]; rfl
        · rw [o1 22 (by omega) (by omega) (by omega), m52.1.2 22 (by omega), mUp_eq, u3]; rfl
        · rw [mUp_ne _ _ (Or.inr (by omega)), m75.1.2 23 (by omega), mUp_eq, v3]
        · rw [mUp_eq, w3]
        · rw [o1 25 (by omega) (by omega) (by omega), m52.1.2 25 (by omega), mUp_ne _ _ (Or.inr (by omega)), m30.1.2 25 (by omega), mUp_ne _ _ (Or.inr (by omega)), m6.1.2 25 (by omega)]
        · rw [mUp_off _ _ _ (by omega), m75.1.1 10 (by omega), mUp_off _ _ _ (by omega), m52.1.1 10 (by omega), mUp_off _ _ _ (by omega), m30.1.1 10 (by omega), mUp_off _ _ _ (by omega), m6.1.1 10 (by omega)])
          
      · refine g_iconst h dX8_readCalendar_67 rfl ?_
        refine g_zret h hq rfl dX8_readCalendar_68 (Or.inl rfl) (Or.inr ⟨rfl, ((((m6.1.pr.tr (mPr.up0 _ _ (by omega) (by omega))).tr m30.1.pr).tr (mPr.up0 _ _ (by omega) (by omega))).tr m52.1.pr).tr (mPr.up0 _ _ (by omega) (by omega)), by obtain ⟨q, hq9, e⟩ := m52.no c64; exact ⟨q, hq9, (mUp_ne _ _ (Or.inr (by omega))).trans e⟩⟩)
    · refine g_iconst h dX8_readCalendar_45 rfl ?_
      refine g_zret h hq rfl dX8_readCalendar_46 (Or.inl rfl) (Or.inr ⟨rfl, ((m6.1.pr.tr (mPr.up0 _ _ (by omega) (by omega))).tr m30.1.pr).tr (mPr.up0 _ _ (by omega) (by omega)), by obtain ⟨q, hq9, e⟩ := m30.no c42; exact ⟨q, hq9, (mUp_ne _ _ (Or.inr (by omega))).trans e⟩⟩)
  · refine g_iconst h dX8_readCalendar_21 rfl ?_
    refine g_zret h hq rfl dX8_readCalendar_22 (Or.inl rfl) (Or.inr ⟨rfl, m6.1.pr.tr (mPr.up0 _ _ (by omega) (by omega)), by obtain ⟨q, hq9, e⟩ := m6.no c18; exact ⟨q, hq9, (mUp_ne _ _ (Or.inr (by omega))).trans e⟩⟩)
def qKd (c : Int) : Int := if c = 98 then 0 else if c = 115 then 1 else if c = 114 then 2 else -9
/-- what a bill's part r says -/
def qBv (tx : Int → Int) (b r : Int) : Int := if r = 0 then qKd (tx (7 * b + 8)) else if r = 1 then 10 * (tx (7 * b + 9) - 48) + (tx (7 * b + 10) - 48) else tx (7 * b + 9 + r) - 48
theorem qKd_no {c : Int} : qKd c = -9 ↔ ¬ (c = 98 ∨ c = 115 ∨ c = 114) := by
  unfold qKd
  repeat' split
  all_goals omega
theorem qKd_rng (c : Int) : -9 ≤ qKd c ∧ qKd c ≤ 2 := by
  unfold qKd
  repeat' split
  all_goals omega
/-- while a bill is read: k of its parts are there -/
def mRb (tx : Int → Int) (n f j : Int) (σ s : mS) (k : Int) : Prop := mPr σ s ∧ s 0 25 = j ∧ (∀ i : Int, 21 ≤ i → i ≤ 24 → s 0 i = σ 0 i) ∧ (∀ i : Int, i < 5 * j → s 10 i = σ 10 i) ∧ ∀ r : Int, 0 ≤ r → r < k → s 10 (5 * j + r) = qBv tx j r
theorem mRb.p20 {tx : Int → Int} {n f j k : Int} {σ s t : mS} (h : mRb tx n f j σ s k) (g : mP20 s t) : mRb tx n f j σ t k := by
  obtain ⟨h1, h2, h3, h4, h5⟩ := h
  refine ⟨h1.tr g.pr, (g.2 25 (by omega)).trans h2, fun i a b => (g.2 i (by omega)).trans (h3 i a b), fun i a => ?_, fun r a b => ?_⟩
  · rw [g.1 10 (by omega)]; exact h4 i a
  · rw [g.1 10 (by omega)]; exact h5 r a b
theorem mRb.put {tx : Int → Int} {n f j k v : Int} {σ s : mS} (h : mRb tx n f j σ s k) (k0 : 0 ≤ k) (hv : v = qBv tx j k) : mRb tx n f j σ (mUp s 10 (5 * j + k) v) (k + 1) := by
  obtain ⟨h1, h2, h3, h4, h5⟩ := h
  refine ⟨h1.tr (mPr.up10 _ _ _), (mUp_ne _ _ (Or.inl (by omega))).trans h2, fun i a b => (mUp_ne _ _ (Or.inl (by omega))).trans (h3 i a b), fun i a => ?_, fun r a b => ?_⟩
  · rw [mUp_ne _ _ (Or.inr (by omega))]; exact h4 i a
  · by_cases e : r = k
    · rw [e, mUp_eq, hv]
    · rw [mUp_ne _ _ (Or.inr (by omega))]; exact h5 r a (by omega)
set_option maxRecDepth 100000 in
set_option maxHeartbeats 2000000 in
theorem lp_X8_readBill {x : mX} {l : Launch} {D : va_G} {cs : mC} {ad : Int → Nat} {post : Int → mS → Prop} (h : mOk x l M_X8_readBill 3 (gM D cs ad)) (hq : rI x (gM D cs ad) post) {σ : mS} {e9 f n j : Int} {tx : Int → Int} (he : e9 = f + n) (f0 : 0 ≤ f) (hn : f + n ≤ 240) (hc : ∀ q : Int, 0 ≤ q → q < 240 → i32 (σ 3 q)) (hx : ∀ q : Int, 0 ≤ q → q < n → σ 3 (f + q) = tx q) (j0 : 0 ≤ j) (j6 : j < 6) {c9 : Int} (hno : ∀ t : mS, mPr σ t → (∃ q : Int, qBd tx n q ∧ t 0 20 = f + q) → post 0 t) (hyes : ∀ t : mS, mRb tx n f j σ t 5 → t 0 20 = f + (7 * j + 14) → qGd tx (7 * j + 14) → 7 * j + 14 ≤ n → post 1 (mUp t 0 25 (t 0 25 + 1))) : ∀ (g : Nat) (k : Int) (s : mS), 2 ≤ k → k ≤ 5 → 5 - k < g → mRb tx n f j σ s k → s 0 20 = f + (7 * j + 9 + k) → qGd tx (7 * j + 9 + k) → 7 * j + 9 + k ≤ n → mG x 124 [(0, .ref (ad 0)), (1, mI e9), (2, mI (5 * j)), (3, mI c9), (4, mI k)] [] s := by
  intro g
  induction g with
  | zero => intro k s a b c; omega
  | succ g ih =>
    intro k s k2 k5 hk hI q0 hg hn7
    have q03 : s 3 = σ 3 := hI.1.1 3 (by omega) (by omega)
    refine g_iload h dX8_readBill_124 rfl ?_
    refine g_iconst h dX8_readBill_126 rfl ?_
    refine g_icmp_ge (tgt := 190) h dX8_readBill_127 (by decide) ⟨by omega, by omega⟩ ⟨by omega, by omega⟩ (fun c127 => ?_) (fun c127 => ?_)
    · have k55 : k = 5 := by omega
      subst k55
      refine g_aload_n h dX8_readBill_190 rfl ?_
      refine g_dup h dX8_readBill_191 rfl ?_
      refine gm_readMany h dX8_readBill_192 lf_RX8_124 ?_
      refine g_iconst h dX8_readBill_195 rfl ?_
      refine g_iadd h dX8_readBill_196 ?_
      refine pm_readMany h dX8_readBill_197 lf_RX8_124 ?_
      refine g_iconst h dX8_readBill_200 rfl ?_
      refine g_zret h hq rfl dX8_readBill_201 (Or.inr rfl) (hyes s hI (by rw [q0]; omega) (by rw [show 7 * j + 14 = 7 * j + 9 + 5 by omega]; exact hg) (by omega))
    · have J164 : ∀ lo hi : Int, 48 + lo = (if k = 4 then 49 else 48) → 48 + hi = (if k = 4 then 57 else 54) → mG x 164 [(0, .ref (ad 0)), (1, mI e9), (2, mI (5 * j)), (3, mI c9), (4, mI k)] [mI hi, mI lo, mI e9, .ref (ad 0), mI (5 * j + k), .ref (ad 10)] s := by
        intro lo hi hlo hhi
        have b1 : 0 ≤ lo ∧ lo ≤ 9 ∧ 0 ≤ hi ∧ hi ≤ 9 := by
          by_cases e : k = 4
          · rw [if_pos e] at hlo hhi; omega
          · rw [if_neg e] at hlo hhi; omega
        refine g_vI h (c_X8_digit _ _ _ _ (by rw [q0]; omega) (by rw [q0]; omega) (by omega) (by rw [q03]; exact hc) (by omega) (by omega) (by omega) (by omega)) (by decide) lm_RX8_78 (rvM rfl) dX8_readBill_164 rfl (Nat.le_of_ble_eq_true rfl) (fun z164 s164 p164 => ?_)
        have m164 := dig_fit (tx := tx) (p := 7 * j + 9 + k) he q0 (by omega) (by omega) (by rw [q03]; exact hx) hg (by omega) (by omega) (by omega) (by rw [hlo, hhi]; exact qFt_b (by omega) (by omega) (by omega) (by split <;> omega)) p164
        refine sm_read h dX8_readBill_167 (by omega) (by omega) ?_
        refine g_aload_n h dX8_readBill_168 rfl ?_
        refine gm_read h dX8_readBill_169 lf_RX8_42 ?_
        refine g_iload_n h dX8_readBill_172 rfl ?_
        refine g_iload h dX8_readBill_173 rfl ?_
        refine g_iadd h dX8_readBill_175 ?_
        refine lm_read h dX8_readBill_176 (by omega) (by omega) ?_
        refine g_val (b := z164) (mUp_eq _ _ _ _) ?_
        refine g_bipush h dX8_readBill_177 (by decide) ?_
        refine g_icmp_ne (tgt := 184) h dX8_readBill_179 (by decide) m164.rng ⟨by omega, by omega⟩ (fun c179 => ?_) (fun c179 => ?_)
        · obtain ⟨y1, y2, y3, y4, y5, y6⟩ := m164.yes c179
          refine g_iinc h dX8_readBill_184 rfl (by decide) rfl ?_
          refine g_goto (tgt := 124) h dX8_readBill_187 (by decide) ?_
          exact ih (k + 1) _ (by omega) (by omega) (by omega) ((hI.p20 m164.1).put (by omega) (by rw [y3]; unfold qBv; rw [if_neg (by omega), if_neg (by omega)])) ((mUp_ne _ _ (Or.inl (by omega))).trans (by rw [y6]; omega)) (by rw [show 7 * j + 9 + (k + 1) = 7 * j + 9 + k + 1 by omega]; exact y1) (by omega)
        · refine g_iconst h dX8_readBill_182 rfl ?_
          refine g_zret h hq rfl dX8_readBill_183 (Or.inl rfl) (hno _ ((hI.1.tr m164.1.pr).tr (mPr.up10 _ _ _)) (by obtain ⟨q, hq9, e⟩ := m164.no c179; exact ⟨q, hq9, (mUp_ne _ _ (Or.inl (by omega))).trans e⟩))
      refine g_aload_n h dX8_readBill_130 rfl ?_
      refine gm_read h dX8_readBill_131 lf_RX8_42 ?_
      refine g_iload_n h dX8_readBill_134 rfl ?_
      refine g_iload h dX8_readBill_135 rfl ?_
      refine g_iadd h dX8_readBill_137 ?_
      refine g_aload_n h dX8_readBill_138 rfl ?_
      refine g_iload_n h dX8_readBill_139 rfl ?_
      refine g_iload h dX8_readBill_140 rfl ?_
      refine g_iconst h dX8_readBill_142 rfl ?_
      refine g_icmp_ne (tgt := 150) h dX8_readBill_143 (by decide) ⟨by omega, by omega⟩ ⟨by omega, by omega⟩ (fun c143 => ?_) (fun c143 => ?_)
      · refine g_iconst h dX8_readBill_150 rfl ?_
        refine g_iload h dX8_readBill_151 rfl ?_
        refine g_iconst h dX8_readBill_153 rfl ?_
        refine g_icmp_ne (tgt := 162) h dX8_readBill_154 (by decide) ⟨by omega, by omega⟩ ⟨by omega, by omega⟩ (fun c154 => ?_) (fun c154 => ?_)
        · refine g_bipush h dX8_readBill_162 (by decide) ?_
          exact J164 _ _ (by rw [if_neg c143]; omega) (by rw [if_neg c143]; omega)
        · refine g_bipush h dX8_readBill_157 (by decide) ?_
          refine g_goto (tgt := 164) h dX8_readBill_159 (by decide) ?_
          omega
      · refine g_iconst h dX8_readBill_146 rfl ?_
        refine g_goto (tgt := 151) h dX8_readBill_147 (by decide) ?_
        refine g_iload h dX8_readBill_151 rfl ?_
        refine g_iconst h dX8_readBill_153 rfl ?_
        refine g_icmp_ne (tgt := 162) h dX8_readBill_154 (by decide) ⟨by omega, by omega⟩ ⟨by omega, by omega⟩ (fun c154 => ?_) (fun c154 => ?_)
        · refine g_bipush h dX8_readBill_162 (by decide) ?_
          omega
        · refine g_bipush h dX8_readBill_157 (by decide) ?_
          refine g_goto (tgt := 164) h dX8_readBill_159 (by decide) ?_
          exact J164 _ _ (by rw [if_pos c143]; omega) (by rw [if_pos c143]; omega)
set_option maxRecDepth 100000 in
set_option maxHeartbeats 2000000 in
theorem c_X8_readBill {l : Launch} {D : va_G} {cs : mC} {ad : Int → Nat} (σ : mS) (e9 f n j : Int) (tx : Int → Int) (he : e9 = f + n) (f0 : 0 ≤ f) (hn : f + n ≤ 240) (hc : ∀ q : Int, 0 ≤ q → q < 240 → i32 (σ 3 q)) (hx : ∀ q : Int, 0 ≤ q → q < n → σ 3 (f + q) = tx q) (j0 : 0 ≤ j) (j6 : j < 6) (q0 : σ 0 20 = f + (7 * j + 8)) (q25 : σ 0 25 = j) (hg : qGd tx (7 * j + 8)) (n1 : 7 * j + 8 ≤ n) : CI l (gM D cs ad) M_X8_readBill 3 [.ref (ad 0), mI e9] σ (fun z s => (z = 1 ∧ (mPr σ s ∧ s 0 25 = j + 1 ∧ (∀ i : Int, 21 ≤ i → i ≤ 24 → s 0 i = σ 0 i) ∧ (∀ i : Int, i < 5 * j → s 10 i = σ 10 i)) ∧ s 0 20 = f + (7 * j + 14) ∧ qGd tx (7 * j + 14) ∧ 7 * j + 14 ≤ n ∧ ∀ r : Int, 0 ≤ r → r < 5 → s 10 (5 * j + r) = qBv tx j r) ∨ (z = 0 ∧ mPr σ s ∧ ∃ q : Int, qBd tx n q ∧ s 0 20 = f + q)) := by
  refine CI.of (by decide) (Nat.le_of_ble_eq_true rfl) (fun x h hq => ?_)
  show mG x 0 [(0, .ref (ad 0)), (1, mI e9)] [] σ
  have J28 : ∀ c9 : Int, i32 c9 → (7 * j + 8 < n → c9 = tx (7 * j + 8)) → (¬ 7 * j + 8 < n → c9 = 0) → mG x 28 [(0, .ref (ad 0)), (1, mI e9), (2, mI (5 * j))] [mI c9] σ := by
    intro c9 hc9r hc9 hc0
    obtain ⟨r1, r2⟩ := id hc9r
    have J66 : ∀ v : Int, v = qKd c9 → mG x 66 [(0, .ref (ad 0)), (1, mI e9), (2, mI (5 * j)), (3, mI c9)] [mI v, mI (5 * j), .ref (ad 10)] σ := by
      intro v hv
      have hvr := qKd_rng c9
      rw [← hv] at hvr
      have hs1 : mRb tx n f j σ (mUp σ 10 (5 * j) v) 0 := ⟨mPr.up10 _ _ _, (mUp_ne _ _ (Or.inl (by omega))).trans q25, fun i a b => mUp_ne _ _ (Or.inl (by omega)), fun i a => mUp_ne _ _ (Or.inr (by omega)), fun r a b => by omega⟩
      refine sm_read h dX8_readBill_66 (by omega) (by omega) ?_
      refine g_aload_n h dX8_readBill_67 rfl ?_
      refine gm_read h dX8_readBill_68 lf_RX8_42 ?_
      refine g_iload_n h dX8_readBill_71 rfl ?_
      refine lm_read h dX8_readBill_72 (by omega) (by omega) ?_
      refine g_val (b := v) (mUp_eq _ _ _ _) ?_
      refine g_bipush h dX8_readBill_73 (by decide) ?_
      refine g_icmp_ne (tgt := 80) h dX8_readBill_75 (by decide) ⟨by omega, by omega⟩ ⟨by omega, by omega⟩ (fun c75 => ?_) (fun c75 => ?_)
      · have hlt : 7 * j + 8 < n := by
          by_cases z : 7 * j + 8 < n
          · exact z
          · rw [hc0 z] at hv; exact absurd (by rw [hv]; decide) c75
        have hft : qFt tx (7 * j + 8) = true := (qFt_k (by omega) (by omega)).mpr (by
          rw [← hc9 hlt]
          rcases (show (c9 = 98 ∨ c9 = 115 ∨ c9 = 114) ∨ ¬ (c9 = 98 ∨ c9 = 115 ∨ c9 = 114) by omega) with z | z
          · exact z
          · exact absurd (by rw [hv]; exact qKd_no.mpr z) c75)
        have hg2 := hg.next hft
        have hs2 := (show mRb tx n f j σ (mUp σ 10 (5 * j + 0) v) (0 + 1) from (show mRb tx n f j σ σ 0 from ⟨mPr.rf σ, q25, fun i a b => rfl, fun i a => rfl, fun r a b => by omega⟩).put (by omega) (by rw [hv, hc9 hlt]; unfold qBv; rw [if_pos rfl]))
        rw [show 5 * j + 0 = 5 * j by omega] at hs2
        refine g_aload_n h dX8_readBill_80 rfl ?_
        refine g_dup h dX8_readBill_81 rfl ?_
        refine gm_at h dX8_readBill_82 lf_RX8_75 ?_
        refine g_iconst h dX8_readBill_85 rfl ?_
        refine g_iadd h dX8_readBill_86 ?_
        refine pm_at h dX8_readBill_87 lf_RX8_75 ?_
        have hs3 := hs2.p20 (mP20.up _ (mUp σ 10 (5 * j) v 0 20 + 1))
        have q1 : mUp (mUp σ 10 (5 * j) v) 0 20 (mUp σ 10 (5 * j) v 0 20 + 1) 0 20 = f + (7 * j + 9) := by rw [mUp_eq, mUp_ne _ _ (Or.inl (by omega)), q0]; omega
        have q13 : mUp (mUp σ 10 (5 * j) v) 0 20 (mUp σ 10 (5 * j) v 0 20 + 1) 3 = σ 3 := by rw [mUp_off _ _ _ (by omega), mUp_off _ _ _ (by omega)]
        generalize mUp (mUp σ 10 (5 * j) v) 0 20 (mUp σ 10 (5 * j) v 0 20 + 1) = s9 at hs3 q1 q13 ⊢
        refine g_aload_n h dX8_readBill_90 rfl ?_
        refine gm_read h dX8_readBill_91 lf_RX8_42 ?_
        refine g_iload_n h dX8_readBill_94 rfl ?_
        refine g_iconst h dX8_readBill_95 rfl ?_
        refine g_iadd h dX8_readBill_96 ?_
        refine g_aload_n h dX8_readBill_97 rfl ?_
        refine g_iload_n h dX8_readBill_98 rfl ?_
        refine g_iconst h dX8_readBill_99 rfl ?_
        refine g_bipush h dX8_readBill_100 (by decide) ?_
        refine g_vI h (c_X8_number _ _ _ _ (by rw [q1]; omega) (by rw [q1]; omega) (by omega) (by rw [q13]; exact hc) (by omega) (by omega) (by omega) (by omega)) (by decide) lm_RX8_143 (rvM rfl) dX8_readBill_102 rfl (Nat.le_of_ble_eq_true rfl) (fun z102 s102 p102 => ?_)
        have m102 := num_fit (tx := tx) (p := 7 * j + 9) he q1 (by omega) (by omega) (by rw [q13]; exact hx) (by rw [show 7 * j + 9 = 7 * j + 8 + 1 by omega]; exact hg2) (by omega) (by omega) (by omega) (by omega) (by omega) (qFt_b (by omega) (by omega) (by omega) (by omega)) (by rw [show (48 : Int) + (if tx (7 * j + 9) - 48 = 99 / 10 then 99 % 10 else 9) = 57 by split <;> omega]; exact qFt_b (by omega) (by omega) (by omega) (by omega)) p102
        refine sm_read h dX8_readBill_105 (by omega) (by omega) ?_
        refine g_aload_n h dX8_readBill_106 rfl ?_
        refine gm_read h dX8_readBill_107 lf_RX8_42 ?_
        refine g_iload_n h dX8_readBill_110 rfl ?_
        refine g_iconst h dX8_readBill_111 rfl ?_
        refine g_iadd h dX8_readBill_112 ?_
        refine lm_read h dX8_readBill_113 (by omega) (by omega) ?_
        refine g_val (b := z102) (mUp_eq _ _ _ _) ?_
        refine g_bipush h dX8_readBill_114 (by decide) ?_
        refine g_icmp_ne (tgt := 121) h dX8_readBill_116 (by decide) m102.rng ⟨by omega, by omega⟩ (fun c116 => ?_) (fun c116 => ?_)
        · obtain ⟨y1, y2, y3, y4, y5, y6⟩ := m102.yes c116
          refine g_iconst h dX8_readBill_121 rfl ?_
          refine g_istore h dX8_readBill_122 (by decide) rfl ?_
          refine lp_X8_readBill h hq he f0 hn hc hx j0 j6 (fun t t1 t2 => Or.inr ⟨rfl, t1, t2⟩) (fun t t1 t2 t3 t4 => Or.inl ⟨rfl, ⟨t1.1.tr (mPr.up0 _ _ (by omega) (by omega)), by rw [mUp_eq, t1.2.1], fun i a b => (mUp_ne _ _ (Or.inr (by omega))).trans (t1.2.2.1 i a b), fun i a => by rw [mUp_off _ _ _ (by omega)]; exact t1.2.2.2.1 i a⟩, (mUp_ne _ _ (Or.inr (by omega))).trans t2, t3, t4, fun r a b => by rw [mUp_off _ _ _ (by omega)]; exact t1.2.2.2.2 r a b⟩) 5 2 _ (by omega) (by omega) (by omega) ((hs3.p20 m102.1).put (by omega) (by rw [y3]; unfold qBv; rw [if_neg (by omega), if_pos (by omega), show 7 * j + 9 + 1 = 7 * j + 10 by omega])) ((mUp_ne _ _ (Or.inl (by omega))).trans (by rw [y6])) y1 (by omega)
        · refine g_iconst h dX8_readBill_119 rfl ?_
          refine g_zret h hq rfl dX8_readBill_120 (Or.inl rfl) (Or.inr ⟨rfl, (hs3.1.tr m102.1.pr).tr (mPr.up10 _ _ _), by obtain ⟨q, hq9, e⟩ := m102.no c116; exact ⟨q, hq9, (mUp_ne _ _ (Or.inl (by omega))).trans e⟩⟩)
      · refine g_iconst h dX8_readBill_78 rfl ?_
        refine g_zret h hq rfl dX8_readBill_79 (Or.inl rfl) (Or.inr ⟨rfl, mPr.up10 _ _ _, 7 * j + 8, qBd.at (by omega) (by omega) hg (by omega) (fun z => by
    cases q : qFt tx (7 * j + 8) with
    | false => rfl
    | true => exact absurd ((qFt_k (by omega) (by omega)).mp q) (by rw [← hc9 z]; exact qKd_no.mp (by rw [← hv]; exact c75))), (mUp_ne _ _ (Or.inl (by omega))).trans q0⟩)
    refine g_istore_n h dX8_readBill_28 (by decide) rfl ?_
    refine g_aload_n h dX8_readBill_29 rfl ?_
    refine gm_read h dX8_readBill_30 lf_RX8_42 ?_
    refine g_iload_n h dX8_readBill_33 rfl ?_
    refine g_iload_n h dX8_readBill_34 rfl ?_
    refine g_bipush h dX8_readBill_35 (by decide) ?_
    refine g_icmp_ne (tgt := 44) h dX8_readBill_37 (by decide) ⟨by omega, by omega⟩ ⟨by omega, by omega⟩ (fun c37 => ?_) (fun c37 => ?_)
    · refine g_iload_n h dX8_readBill_44 rfl ?_
      refine g_bipush h dX8_readBill_45 (by decide) ?_
      refine g_icmp_ne (tgt := 54) h dX8_readBill_47 (by decide) ⟨by omega, by omega⟩ ⟨by omega, by omega⟩ (fun c47 => ?_) (fun c47 => ?_)
      · refine g_iload_n h dX8_readBill_54 rfl ?_
        refine g_bipush h dX8_readBill_55 (by decide) ?_
        refine g_icmp_ne (tgt := 64) h dX8_readBill_57 (by decide) ⟨by omega, by omega⟩ ⟨by omega, by omega⟩ (fun c57 => ?_) (fun c57 => ?_)
        · refine g_bipush h dX8_readBill_64 (by decide) ?_
          exact J66 _ (by unfold qKd; rw [if_neg c37, if_neg c47, if_neg c57])
        · refine g_iconst h dX8_readBill_60 rfl ?_
          refine g_goto (tgt := 66) h dX8_readBill_61 (by decide) ?_
          exact J66 _ (by unfold qKd; rw [if_neg c37, if_neg c47, if_pos c57])
      · refine g_iconst h dX8_readBill_50 rfl ?_
        refine g_goto (tgt := 66) h dX8_readBill_51 (by decide) ?_
        exact J66 _ (by unfold qKd; rw [if_neg c37, if_pos c47])
    · refine g_iconst h dX8_readBill_40 rfl ?_
      refine g_goto (tgt := 66) h dX8_readBill_41 (by decide) ?_
      exact J66 _ (by unfold qKd; rw [if_pos c37])
  refine g_iconst h dX8_readBill_0 rfl ?_
  refine g_aload_n h dX8_readBill_1 rfl ?_
  refine gm_readMany h dX8_readBill_2 lf_RX8_124 ?_
  refine g_val (b := j) q25 ?_
  refine g_imul h dX8_readBill_5 ?_
  refine g_istore_n h dX8_readBill_6 (by decide) rfl ?_
  refine g_aload_n h dX8_readBill_7 rfl ?_
  refine gm_at h dX8_readBill_8 lf_RX8_75 ?_
  refine g_iload_n h dX8_readBill_11 rfl ?_
  refine g_icmp_ge (tgt := 27) h dX8_readBill_12 (by decide) ⟨by omega, by omega⟩ ⟨by omega, by omega⟩ (fun c12 => ?_) (fun c12 => ?_)
  · refine g_iconst h dX8_readBill_27 rfl ?_
    exact J28 0 ⟨by omega, by omega⟩ (fun z => by omega) (fun _ => rfl)
  · refine g_aload_n h dX8_readBill_15 rfl ?_
    refine gm_cells h dX8_readBill_16 lf_RX8_16 ?_
    refine g_aload_n h dX8_readBill_19 rfl ?_
    refine gm_at h dX8_readBill_20 lf_RX8_75 ?_
    refine lm_cells h dX8_readBill_23 (by omega) (by omega) ?_
    refine g_goto (tgt := 28) h dX8_readBill_24 (by decide) ?_
    exact J28 _ (hc _ (by omega) (by omega)) (fun z => by rw [q0]; exact hx _ (by omega) z) (fun z => by omega)
