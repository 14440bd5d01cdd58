/-! ===== sets of moons: those that watch are enough ===== -/
/-- a moon that watches a bill -/
def qWn (τ : mS) (m : Int) : Bool := anyN (fun b => qWt τ b m) (τ 0 4).toNat
def qOpn (τ : mS) (m : Int) : Bool := qWn τ m && !(decide (qMd τ m ≤ 109) && qCl τ m)
/-- a set lies within another -/
def qSub (O : Int → Bool) (S : Nat) : Bool := !anyN (fun m => S.testBit m.toNat && !O m) 11
theorem qSub_iff {O : Int → Bool} {S : Nat} : qSub O S = true ↔ ∀ i : Nat, i < 11 → S.testBit i = true → O (i : Int) = true := by
  unfold qSub
  rw [Bool.not_eq_true', anyN_no]
  constructor
  · intro h i hi hb
    have := h (i : Int) (by omega) (by omega)
    rw [Int.toNat_natCast, hb] at this
    simpa using this
  · intro h i i0 i1
    cases e : S.testBit i.toNat with
    | false => rfl
    | true =>
      have := h i.toNat (by omega) e
      rw [Int.toNat_of_nonneg i0] at this
      rw [this]; rfl
theorem qSub_le {O : Int → Bool} {S : Nat} (hS : S < 2048) (h : qSub O S = true) : S ≤ setN O 11 := by
  have e : S &&& setN O 11 = S := by
    apply Nat.eq_of_testBit_eq
    intro i
    rw [Nat.testBit_and, setN_tb]
    cases b : S.testBit i with
    | false => rfl
    | true =>
      have hi : i < 11 := by
        by_cases q : i < 11
        · exact q
        · have : S.testBit i = false := Nat.testBit_lt_two_pow (Nat.lt_of_lt_of_le hS (Nat.le_trans (show 2048 ≤ 2 ^ 11 by decide) (Nat.pow_le_pow_right (by omega) (by omega))))
          rw [this] at b; cases b
      rw [qSub_iff.mp h i hi b, decide_eq_true hi]; rfl
  have := Nat.and_le_right (n := S) (m := setN O 11)
  omega
theorem qWn_in {τ : mS} (h : qWf τ) {m : Int} (hw : qWn τ m = true) : qMd τ m ≤ 108 := by
  obtain ⟨b, b0, b1, b2⟩ := anyN_iff.mp hw
  exact qWt_in h b0 (by have := h.2.1; omega) b2
theorem qWn_nm {τ : mS} (h : qWf τ) (hn : 0 < τ 0 4) {m : Int} (m0 : 0 ≤ m) (hw : qWn τ m = true) : m < qNm τ := by
  have h1 := qWn_in h hw
  have h2 := (qNm_sp h hn).2.2.2 m
  omega
theorem qWn_of {τ : mS} {b m : Int} (b0 : 0 ≤ b) (b1 : b < τ 0 4) (hw : qWt τ b m = true) : qWn τ m = true := anyN_iff.mpr ⟨b, b0, by omega, hw⟩
/-- what is in force looks at the moons that watch alone -/
theorem qF_wn {τ : mS} (h : qWf τ) {dk dk' : Int → Bool} (hd : ∀ m : Int, 0 ≤ m → m < 11 → qWn τ m = true → dk m = dk' m) (b d : Int) : qF τ (qSt τ dk) b d = qF τ (qSt τ dk') b d := by
  refine qF_cong h.1 (fun a a0 a1 => ?_) b d
  exact qSt_cong (fun m m0 m1 hm => hd m m0 m1 (qWn_of a0 a1 hm))
noncomputable def qBo (τ : mS) (b d : Int) (s : Nat) : Bool := qSub (qOpn τ) s && qF τ (qSt τ (fun m => s.testBit m.toNat || qCl τ m)) b d
theorem pcN_mono {x y : Nat} (h : ∀ i, x.testBit i = true → y.testBit i = true) : pcN x ≤ pcN y := by
  unfold pcN
  have : ∀ n : Nat, cntN (fun i => x.testBit i.toNat) n ≤ cntN (fun i => y.testBit i.toNat) n := by
    intro n
    induction n with
    | zero => simp [cntN]
    | succ n ih =>
      show cntN (fun i => x.testBit i.toNat) n + (if x.testBit ((n : Nat) : Int).toNat then 1 else 0) ≤ cntN (fun i => y.testBit i.toNat) n + (if y.testBit ((n : Nat) : Int).toNat then 1 else 0)
      by_cases e : x.testBit ((n : Nat) : Int).toNat = true
      · rw [if_pos e, if_pos (h _ e)]; omega
      · rw [if_neg e]
        split <;> omega
  exact this 31
theorem qBo_bg {τ : mS} (h : qWf τ) (hn : 0 < τ 0 4) {b d : Int} {s : Nat} (hs : s < 2048) (hg : qBo τ b d s = true) : qBg τ b d s = true ∧ s < 2 ^ (qNm τ).toNat := by
  unfold qBo at hg
  rw [Bool.and_eq_true] at hg
  have hb := qSub_iff.mp hg.1
  have hnm := qNm_sp h hn
  have h11 : ∀ i : Nat, s.testBit i = true → i < 11 := fun i hi => by
    by_cases q : i < 11
    · exact q
    · have : s.testBit i = false := Nat.testBit_lt_two_pow (Nat.lt_of_lt_of_le hs (Nat.le_trans (show 2048 ≤ 2 ^ 11 by decide) (Nat.pow_le_pow_right (by omega) (by omega))))
      rw [this] at hi; cases hi
  have hW : ∀ i : Nat, s.testBit i = true → qWn τ (i : Int) = true ∧ qCl τ (i : Int) = false := fun i hi => by
    have := hb i (h11 i hi) hi
    unfold qOpn at this
    rw [Bool.and_eq_true] at this
    refine ⟨this.1, ?_⟩
    have q := qWn_in h this.1
    have t2 := this.2
    rw [decide_eq_true (show qMd τ (i : Int) ≤ 109 by omega), Bool.true_and] at t2
    simpa using t2
  refine ⟨?_, ?_⟩
  · unfold qBg
    rw [hg.2, Bool.and_true, Bool.not_eq_true', anyN_no]
    intro i i0 i1
    cases e : s.testBit i.toNat with
    | false => rfl
    | true =>
      have := (hW i.toNat e).2
      rw [Int.toNat_of_nonneg i0] at this
      rw [this]; rfl
  · apply Nat.lt_pow_two_of_testBit
    intro i hi
    cases e : s.testBit i with
    | false => rfl
    | true =>
      have := qWn_nm h hn (by omega) (hW i e).1
      omega
theorem qBg_bo {τ : mS} (h : qWf τ) (hn : 0 < τ 0 4) {b d : Int} {s : Nat} (hg : qBg τ b d s = true) : qBo τ b d (s &&& setN (qWn τ) 11) = true ∧ s &&& setN (qWn τ) 11 < 2048 := by
  have hlt : s &&& setN (qWn τ) 11 < 2048 := Nat.lt_of_le_of_lt Nat.and_le_right (setN_lt _ 11)
  have hnm := qNm_sp h hn
  unfold qBg at hg
  rw [Bool.and_eq_true] at hg
  have ha := anyN_no.mp (by simpa using hg.1 : anyN (fun m => s.testBit m.toNat && qCl τ m) (qNm τ).toNat = false)
  refine ⟨?_, hlt⟩
  unfold qBo
  rw [Bool.and_eq_true]
  constructor
  · refine qSub_iff.mpr (fun i hi hb => ?_)
    rw [Nat.testBit_and, setN_tb, decide_eq_true hi, Bool.true_and, Bool.and_eq_true] at hb
    have q := qWn_nm h hn (by omega) hb.2
    have t := ha (i : Int) (by omega) (by omega)
    rw [Int.toNat_natCast, hb.1, Bool.true_and] at t
    unfold qOpn
    rw [hb.2, t, Bool.and_false]; rfl
  · rw [← hg.2]
    refine qF_wn h (fun m m0 m1 hm => ?_) b d
    rw [Nat.testBit_and, setN_tb, Int.toNat_of_nonneg m0, hm, decide_eq_true (show m.toNat < 11 by omega)]
    simp
/-- clouds to be bought: the moons that watch are enough -/
theorem buy_is {τ : mS} (h : qWf τ) (hn : 0 < τ 0 4) (b d : Int) : byF (qBo τ b d) (setN (qOpn τ) 11 + 1) = qBy τ b d := by
  unfold qBy
  have hO : setN (qOpn τ) 11 < 2048 := setN_lt _ 11
  by_cases e1 : byF (qBo τ b d) (setN (qOpn τ) 11 + 1) = -9
  · by_cases e2 : byF (qBg τ b d) (2 ^ (qNm τ).toNat) = -9
    · rw [e1, e2]
    · have y := (byF_yes e2).1
      have z := qBg_bo h hn y
      have le := qSub_le z.2 (by have := z.1; unfold qBo at this; rw [Bool.and_eq_true] at this; exact this.1)
      have := byF_no e1 ((byF (qBg τ b d) (2 ^ (qNm τ).toNat)).toNat &&& setN (qWn τ) 11) (by omega)
      rw [z.1] at this
      cases this
  · have y1 := byF_yes e1
    have r1 := byF_rng (qBo τ b d) (setN (qOpn τ) 11 + 1)
    have g1 := qBo_bg h hn (s := (byF (qBo τ b d) (setN (qOpn τ) 11 + 1)).toNat) (by omega) y1.1
    have e2 : ¬ byF (qBg τ b d) (2 ^ (qNm τ).toNat) = -9 := fun z => by
      have := byF_no z _ g1.2
      rw [g1.1] at this
      cases this
    have y2 := byF_yes e2
    have r2 := byF_rng (qBg τ b d) (2 ^ (qNm τ).toNat)
    have p1 := y2.2 _ g1.2 g1.1
    have z := qBg_bo h hn y2.1
    have le := qSub_le z.2 (by have := z.1; unfold qBo at this; rw [Bool.and_eq_true] at this; exact this.1)
    have p2 := y1.2 ((byF (qBg τ b d) (2 ^ (qNm τ).toNat)).toNat &&& setN (qWn τ) 11) (by omega) z.1
    have q1 : (byF (qBg τ b d) (2 ^ (qNm τ).toNat)).toNat &&& setN (qWn τ) 11 ≤ (byF (qBg τ b d) (2 ^ (qNm τ).toNat)).toNat := Nat.and_le_left
    have q2 : pcN ((byF (qBg τ b d) (2 ^ (qNm τ).toNat)).toNat &&& setN (qWn τ) 11) ≤ pcN (byF (qBg τ b d) (2 ^ (qNm τ).toNat)).toNat := pcN_mono (fun i hi => by rw [Nat.testBit_and, Bool.and_eq_true] at hi; exact hi.1)
    generalize hB : byF (qBg τ b d) (2 ^ (qNm τ).toNat) = B at *
    generalize hC : byF (qBo τ b d) (setN (qOpn τ) 11 + 1) = C at *
    omega
/-! odds -/
theorem cntS_add (g : Nat → Bool) (m : Nat) : ∀ n : Nat, cntS g (m + n) = cntS g m + cntS (fun s => g (m + s)) n
  | 0 => by simp [cntS]
  | n + 1 => by
    show cntS g (m + n) + (if g (m + n) then 1 else 0) = cntS g m + (cntS (fun s => g (m + s)) n + (if g (m + n) then 1 else 0))
    rw [cntS_add g m n]; omega
theorem cntS_cong {g g' : Nat → Bool} : ∀ {n : Nat}, (∀ s, s < n → g s = g' s) → cntS g n = cntS g' n
  | 0, _ => rfl
  | n + 1, h => by
    unfold cntS
    rw [cntS_cong (fun s hs => h s (by omega)), h n (by omega)]
theorem cntS_none {g : Nat → Bool} : ∀ {n : Nat}, (∀ s, s < n → g s = false) → cntS g n = 0
  | 0, _ => rfl
  | n + 1, h => by
    unfold cntS
    rw [cntS_none (fun s hs => h s (by omega)), h n (by omega)]; rfl
theorem cntS_stop {g : Nat → Bool} {N M : Nat} (h : N ≤ M) (hg : ∀ s, N ≤ s → s < M → g s = false) : cntS g M = cntS g N := by
  have := cntS_add g N (M - N)
  rw [show N + (M - N) = M by omega, cntS_none (fun s hs => hg (N + s) (by omega) (by omega))] at this
  omega
theorem tb_add {m S i : Nat} (hS : S < 2 ^ m) : (2 ^ m + S).testBit i = if i = m then true else if i < m then S.testBit i else false := by
  rcases Nat.lt_trichotomy i m with q | q | q
  · rw [Nat.testBit_two_pow_add_gt q, if_neg (by omega), if_pos q]
  · rw [q, Nat.testBit_two_pow_add_eq, if_pos rfl, Nat.testBit_lt_two_pow hS]; rfl
  · rw [if_neg (by omega), if_neg (by omega)]
    refine Nat.testBit_lt_two_pow (Nat.lt_of_lt_of_le ?_ (Nat.pow_le_pow_right (by omega) q))
    show 2 ^ m + S < 2 ^ (m + 1)
    rw [Nat.pow_succ]; omega
/-- how many of the first m moons don't watch, do -/
def eN (W : Int → Bool) : Nat → Nat
  | 0 => 0
  | m + 1 => eN W m + (if W (m : Int) then 0 else 1)
def kN (W : Int → Bool) : Nat → Nat
  | 0 => 0
  | m + 1 => kN W m + (if W (m : Int) then 1 else 0)
theorem eN_kN (W : Int → Bool) : ∀ m : Nat, eN W m + kN W m = m
  | 0 => rfl
  | m + 1 => by
    have := eN_kN W m
    unfold eN kN
    split <;> omega
def invF (W : Int → Bool) (m : Nat) (f : Nat → Bool) : Prop := ∀ S T : Nat, S < 2 ^ m → T < 2 ^ m → (∀ i : Nat, i < m → W (i : Int) = true → S.testBit i = T.testBit i) → f S = f T
theorem sub_lo {W : Int → Bool} {m S : Nat} (hm : m < 11) (hS : S < 2 ^ m) : qSub W (2 ^ m + S) = (W (m : Int) && qSub W S) := by
  have key : qSub W (2 ^ m + S) = true ↔ (W (m : Int) && qSub W S) = true := by
    rw [Bool.and_eq_true, qSub_iff, qSub_iff]
    constructor
    · intro h
      refine ⟨h m hm (by rw [tb_add hS, if_pos rfl]), fun i hi hb => h i hi ?_⟩
      rw [tb_add hS]
      by_cases e : i = m
      · rw [if_pos e]
      · rw [if_neg e]
        by_cases q : i < m
        · rw [if_pos q]; exact hb
        · rw [Nat.testBit_lt_two_pow (Nat.lt_of_lt_of_le hS (Nat.pow_le_pow_right (by omega) (by omega)))] at hb
          cases hb
    · intro h i hi hb
      rw [tb_add hS] at hb
      by_cases e : i = m
      · rw [e]; exact h.1
      · rw [if_neg e] at hb
        by_cases q : i < m
        · rw [if_pos q] at hb; exact h.2 i hi hb
        · rw [if_neg q] at hb; cases hb
  cases a : qSub W (2 ^ m + S) <;> cases c : (W (m : Int) && qSub W S)
  · rfl
  · rw [key.mpr c] at a; cases a
  · rw [key.mp a] at c; cases c
  · rfl
theorem odds_cnt (W : Int → Bool) : ∀ (m : Nat) (f : Nat → Bool), m ≤ 11 → invF W m f → cntS f (2 ^ m) = cntS (fun S => qSub W S && f S) (2 ^ m) * ((2 ^ eN W m : Nat) : Int)
  | 0, f, _, _ => by
    have s0 : qSub W 0 = true := qSub_iff.mpr (fun i _ hb => by rw [Nat.zero_testBit] at hb; cases hb)
    show 0 + (if f 0 then 1 else 0) = (0 + (if qSub W 0 && f 0 then 1 else 0)) * 1
    rw [s0]; simp
  | m + 1, f, hm, hf => by
    have p2 : 2 ^ (m + 1) = 2 ^ m + 2 ^ m := by rw [Nat.pow_succ]; omega
    have i1 : invF W m f := fun S T hS hT h => hf S T (by omega) (by omega) (fun i hi hw => by
      by_cases e : i = m
      · rw [e, Nat.testBit_lt_two_pow hS, Nat.testBit_lt_two_pow hT]
      · exact h i (by omega) hw)
    have i2 : invF W m (fun s => f (2 ^ m + s)) := fun S T hS hT h => hf _ _ (by omega) (by omega) (fun i hi hw => by
      rw [tb_add hS, tb_add hT]
      by_cases e : i = m
      · rw [if_pos e, if_pos e]
      · rw [if_neg e, if_neg e, if_pos (by omega), if_pos (by omega)]
        exact h i (by omega) hw)
    have r1 := odds_cnt W m f (by omega) i1
    have r2 := odds_cnt W m (fun s => f (2 ^ m + s)) (by omega) i2
    rw [p2, cntS_add, cntS_add]
    cases w : W (m : Int) with
    | true =>
      rw [cntS_cong (g := fun s => qSub W (2 ^ m + s) && f (2 ^ m + s)) (g' := fun s => qSub W s && f (2 ^ m + s)) (fun s hs => by rw [sub_lo (by omega) hs, w, Bool.true_and])]
      rw [r1, r2, eN, w, if_pos rfl, Nat.add_zero, Int.add_mul]
    | false =>
      rw [cntS_none (g := fun s => qSub W (2 ^ m + s) && f (2 ^ m + s)) (fun s hs => by rw [sub_lo (by omega) hs, w]; rfl)]
      rw [cntS_cong (g := fun s => f (2 ^ m + s)) (g' := f) (fun s hs => hf _ _ (by omega) (by omega) (fun i hi hw => by
        rw [tb_add hs]
        by_cases e : i = m
        · rw [e, w] at hw; cases hw
        · rw [if_neg e, if_pos (by omega)]))]
      rw [r1, eN, w, if_neg (by simp), Nat.pow_succ, Int.add_zero]
      have : ((2 ^ eN W m * 2 : Nat) : Int) = ((2 ^ eN W m : Nat) : Int) + ((2 ^ eN W m : Nat) : Int) := by omega
      rw [this, Int.mul_add]
theorem odds_low (W : Int → Bool) : ∀ m : Nat, m ≤ 11 → cntS (qSub W) (2 ^ m) = ((2 ^ kN W m : Nat) : Int)
  | 0, _ => by
    have s0 : qSub W 0 = true := qSub_iff.mpr (fun i _ hb => by rw [Nat.zero_testBit] at hb; cases hb)
    show 0 + (if qSub W 0 then 1 else 0) = _
    rw [s0]; rfl
  | m + 1, hm => by
    have p2 : 2 ^ (m + 1) = 2 ^ m + 2 ^ m := by rw [Nat.pow_succ]; omega
    rw [p2, cntS_add, odds_low W m (by omega), kN]
    cases w : W (m : Int) with
    | true =>
      rw [cntS_cong (g' := qSub W) (fun s hs => by rw [sub_lo (by omega) hs, w, Bool.true_and]), odds_low W m (by omega), if_pos rfl, Nat.pow_succ]
      omega
    | false =>
      rw [cntS_none (fun s hs => by rw [sub_lo (by omega) hs, w]; rfl), if_neg (by simp), Nat.add_zero]
      omega
theorem gcd_odd {u b : Nat} (hu : u % 2 = 1) : Nat.gcd u (2 * b) = Nat.gcd u b := by
  apply Nat.dvd_antisymm
  · refine Nat.dvd_gcd (Nat.gcd_dvd_left _ _) ?_
    have h1 : Nat.gcd u (2 * b) ∣ u := Nat.gcd_dvd_left _ _
    have h2 : Nat.gcd u (2 * b) ∣ 2 * b := Nat.gcd_dvd_right _ _
    generalize Nat.gcd u (2 * b) = g at h1 h2
    obtain ⟨c, hc⟩ := h1
    have hg : g % 2 = 1 := by
      rcases (show g % 2 = 0 ∨ g % 2 = 1 by omega) with q | q
      · have : u % 2 = 0 := by rw [hc, Nat.mul_mod, q]; simp
        omega
      · exact q
    have h3 : g ∣ (g / 2) * (2 * b) := Nat.dvd_trans h2 (Nat.dvd_mul_left _ _)
    have h4 : g ∣ (g / 2) * (2 * b) + b := by
      have e : (g / 2) * (2 * b) + b = g * b := by
        have e2 : g = 2 * (g / 2) + 1 := by omega
        calc (g / 2) * (2 * b) + b = (2 * (g / 2) + 1) * b := by rw [Nat.add_mul, Nat.one_mul, ← Nat.mul_assoc, Nat.mul_comm (g / 2) 2]
          _ = g * b := by rw [← e2]
      rw [e]
      exact Nat.dvd_mul_right _ _
    exact (Nat.dvd_add_right h3).mp h4
  · refine Nat.dvd_gcd (Nat.gcd_dvd_left _ _) ?_
    exact Nat.dvd_trans (Nat.gcd_dvd_right _ _) (Nat.dvd_mul_left _ _)
theorem gcd_odd_pow {u : Nat} (hu : u % 2 = 1) : ∀ i : Nat, Nat.gcd u (2 ^ i) = 1
  | 0 => Nat.gcd_one_right u
  | i + 1 => by rw [Nat.pow_succ, Nat.mul_comm, gcd_odd hu, gcd_odd_pow hu i]
/-- the share, in least terms -/
theorem odds_is {τ : mS} (h : qWf τ) (hn : 0 < τ 0 4) (b d : Int) : ∃ (U k : Nat), cntS (fun S => qSub (qWn τ) S && qOg τ b d S) (setN (qWn τ) 11 + 1) = (U : Int) ∧ cntS (qSub (qWn τ)) (setN (qWn τ) 11 + 1) = ((2 ^ k : Nat) : Int) ∧ k ≤ 11 ∧ U ≤ 2 ^ k ∧ ∀ w : Int, qOd τ b d w = if w = 0 then ((U / Nat.gcd U (2 ^ k) : Nat) : Int) else ((2 ^ k / Nat.gcd U (2 ^ k) : Nat) : Int) := by
  have hnm := qNm_sp h hn
  have hst : ∀ S : Nat, setN (qWn τ) 11 + 1 ≤ S → S < 2 ^ (qNm τ).toNat → qSub (qWn τ) S = false := fun S h1 h2 => by
    cases e : qSub (qWn τ) S with
    | false => rfl
    | true =>
      have h3 : 2 ^ (qNm τ).toNat ≤ 2 ^ 11 := Nat.pow_le_pow_right (by omega) (by omega)
      have := qSub_le (by omega) e
      omega
  have hW : setN (qWn τ) 11 + 1 ≤ 2 ^ (qNm τ).toNat := by
    have e := set_stop (qWn τ) hnm.1 11 (by omega) (fun i i0 i1 => by
      cases q : qWn τ i with
      | false => rfl
      | true => have := qWn_nm h hn (by omega) q; omega)
    unfold setOf at e
    have := setN_lt (qWn τ) (qNm τ).toNat
    omega
  have c1 := cntS_stop hW (g := fun S => qSub (qWn τ) S && qOg τ b d S) (fun S h1 h2 => by rw [hst S h1 h2]; rfl)
  have c2 := cntS_stop hW (g := qSub (qWn τ)) hst
  have inv : invF (qWn τ) (qNm τ).toNat (qOg τ b d) := fun S T hS hT hi => by
    unfold qOg
    refine qF_wn h (fun m m0 m1 hm => ?_) b d
    have := qWn_nm h hn m0 hm
    exact hi m.toNat (by omega) (by rw [Int.toNat_of_nonneg m0]; exact hm)
  have oc := odds_cnt (qWn τ) (qNm τ).toNat (qOg τ b d) (by omega) inv
  have ol := odds_low (qWn τ) (qNm τ).toNat (by omega)
  have ek := eN_kN (qWn τ) (qNm τ).toNat
  have bd := cntS_bd (fun S => qSub (qWn τ) S && qOg τ b d S) (2 ^ (qNm τ).toNat)
  obtain ⟨U, hU⟩ := Int.eq_ofNat_of_zero_le bd.1
  rw [← c1, ← c2, hU]
  refine ⟨U, kN (qWn τ) (qNm τ).toNat, rfl, ol, by omega, ?_, fun w => ?_⟩
  · have le : cntS (fun S => qSub (qWn τ) S && qOg τ b d S) (2 ^ (qNm τ).toNat) ≤ cntS (qSub (qWn τ)) (2 ^ (qNm τ).toNat) := by
      have : ∀ n : Nat, cntS (fun S => qSub (qWn τ) S && qOg τ b d S) n ≤ cntS (qSub (qWn τ)) n := by
        intro n
        induction n with
        | zero => simp [cntS]
        | succ n ih =>
          show cntS (fun S => qSub (qWn τ) S && qOg τ b d S) n + (if qSub (qWn τ) n && qOg τ b d n then 1 else 0) ≤ cntS (qSub (qWn τ)) n + (if qSub (qWn τ) n then 1 else 0)
          cases qSub (qWn τ) n <;> cases qOg τ b d n <;> simp <;> omega
      exact this _
    rw [hU, ol] at le
    omega
  · unfold qOd qOn2
    rw [oc, hU]
    generalize kN (qWn τ) (qNm τ).toNat = k at *
    generalize eN (qWn τ) (qNm τ).toNat = e at *
    have hp : 2 ^ (qNm τ).toNat = 2 ^ k * 2 ^ e := by rw [← ek, Nat.pow_add, Nat.mul_comm]
    have hg : Nat.gcd (U * 2 ^ e) (2 ^ k * 2 ^ e) = Nat.gcd U (2 ^ k) * 2 ^ e := Nat.gcd_mul_right _ _ _
    have e1 : ((U : Int) * ((2 ^ e : Nat) : Int)) = ((U * 2 ^ e : Nat) : Int) := by rw [Int.natCast_mul]
    rw [e1, Int.toNat_natCast, hp, hg]
    have pe : 0 < 2 ^ e := Nat.two_pow_pos e
    by_cases q : w = 0
    · rw [if_pos q, if_pos q, ← Int.natCast_ediv, Nat.mul_div_mul_right _ _ pe]
    · rw [if_neg q, if_neg q, ← Int.natCast_ediv, Nat.mul_div_mul_right _ _ pe]
theorem half_step {u l : Nat} (hu : u % 2 = 0) (hl : l % 2 = 0) : u / Nat.gcd u l = (u / 2) / Nat.gcd (u / 2) (l / 2) ∧ l / Nat.gcd u l = (l / 2) / Nat.gcd (u / 2) (l / 2) := by
  have e1 : u = 2 * (u / 2) := by omega
  have e2 : l = 2 * (l / 2) := by omega
  have g : Nat.gcd u l = 2 * Nat.gcd (u / 2) (l / 2) := by
    calc Nat.gcd u l = Nat.gcd (2 * (u / 2)) (2 * (l / 2)) := by rw [← e1, ← e2]
      _ = 2 * Nat.gcd (u / 2) (l / 2) := Nat.gcd_mul_left _ _ _
  rw [g]
  constructor
  · calc u / (2 * Nat.gcd (u / 2) (l / 2)) = 2 * (u / 2) / (2 * Nat.gcd (u / 2) (l / 2)) := by rw [← e1]
      _ = u / 2 / Nat.gcd (u / 2) (l / 2) := Nat.mul_div_mul_left _ _ (by omega)
  · calc l / (2 * Nat.gcd (u / 2) (l / 2)) = 2 * (l / 2) / (2 * Nat.gcd (u / 2) (l / 2)) := by rw [← e2]
      _ = l / 2 / Nat.gcd (u / 2) (l / 2) := Nat.mul_div_mul_left _ _ (by omega)
