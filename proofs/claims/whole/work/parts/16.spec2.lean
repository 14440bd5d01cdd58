/-! ===== what the calls answer, out of τ ===== -/
def qCl (τ : mS) (m : Int) : Bool := decide (τ 6 (qMd τ m) = 1)
def qSI (τ : mS) (b : Int) : Bool := qSt τ (qCl τ) b
noncomputable def qFI (τ : mS) (b d : Int) : Bool := qF τ (qSI τ) b d
/-- the readings are so -/
noncomputable def qAs (τ : mS) (st : Int → Bool) : Bool := !anyN (fun q => decide (¬ bl (qF τ st (τ 7 q) (τ 8 q) = true) = τ 9 q)) (τ 0 6).toNat
noncomputable def qAI (τ : mS) : Bool := qAs τ (qSI τ)
def sumN (f : Int → Int) : Nat → Int
  | 0 => 0
  | n + 1 => sumN f n + f (n : Int)
theorem sumN_cong {f g : Int → Int} : ∀ {n : Nat}, (∀ i : Int, 0 ≤ i → i < n → f i = g i) → sumN f n = sumN g n
  | 0, _ => rfl
  | n + 1, h => by
    unfold sumN
    rw [sumN_cong (fun i h0 h1 => h i h0 (by omega)), h (n : Int) (by omega) (by omega)]
theorem sumN_bd {f : Int → Int} {c : Int} (hc : 0 ≤ c) : ∀ {n : Nat}, (∀ i : Int, 0 ≤ i → i < n → 0 ≤ f i ∧ f i ≤ c) → 0 ≤ sumN f n ∧ sumN f n ≤ n * c
  | 0, _ => by simp [sumN]
  | n + 1, h => by
    have h1 := sumN_bd hc (n := n) (fun i h0 h1 => h i h0 (by omega))
    have h2 := h (n : Int) (by omega) (by omega)
    unfold sumN
    have e : ((n + 1 : Nat) : Int) * c = n * c + c := by
      rw [show ((n + 1 : Nat) : Int) = (n : Int) + 1 by omega, Int.add_mul, Int.one_mul]
    rw [e]
    omega
/-- what all but one hold together -/
noncomputable def qOh (τ : mS) (st : Int → Bool) (b : Int) : Int := sumN (fun d => cntN (fun a => qF τ st a d && !decide (a = b)) (τ 0 4).toNat) 110
/-- the first of the most -/
def lgM (f : Int → Int) : Nat → Int
  | 0 => -1
  | n + 1 => if lgM f n < f (n : Int) then f (n : Int) else lgM f n
def lgD (f : Int → Int) : Nat → Int
  | 0 => 0
  | n + 1 => if lgM f n < f (n : Int) then (n : Int) else lgD f n
/-- the best of the sets: the fewest, then the least -/
def pcN : Nat → Int := fun x => cntN (fun i => x.testBit i.toNat) 31
def byF (g : Nat → Bool) : Nat → Int
  | 0 => -9
  | n + 1 => if g n = true ∧ (byF g n = -9 ∨ pcN n < pcN (byF g n).toNat) then (n : Int) else byF g n
theorem byF_rng (g : Nat → Bool) : ∀ n : Nat, byF g n = -9 ∨ (0 ≤ byF g n ∧ byF g n < n)
  | 0 => Or.inl rfl
  | n + 1 => by
    have h := byF_rng g n
    unfold byF
    by_cases q : g n = true ∧ (byF g n = -9 ∨ pcN n < pcN (byF g n).toNat)
    · rw [if_pos q]; omega
    · rw [if_neg q]; omega
theorem byF_no {g : Nat → Bool} : ∀ {n : Nat}, byF g n = -9 → ∀ s : Nat, s < n → g s = false
  | 0, _, s, hs => by omega
  | n + 1, h, s, hs => by
    unfold byF at h
    by_cases q : g n = true ∧ (byF g n = -9 ∨ pcN n < pcN (byF g n).toNat)
    · rw [if_pos q] at h; omega
    · rw [if_neg q] at h
      by_cases e : s = n
      · subst e
        cases hg : g s with
        | false => rfl
        | true => exact absurd ⟨hg, Or.inl h⟩ q
      · exact byF_no h s (by omega)
theorem byF_yes {g : Nat → Bool} : ∀ {n : Nat}, ¬ byF g n = -9 → g (byF g n).toNat = true ∧ ∀ s : Nat, s < n → g s = true → pcN (byF g n).toNat < pcN s ∨ (pcN (byF g n).toNat = pcN s ∧ byF g n ≤ s)
  | 0, h => absurd rfl h
  | n + 1, h => by
    have hr := byF_rng g n
    unfold byF at h
    rw [byF]
    by_cases q : g n = true ∧ (byF g n = -9 ∨ pcN n < pcN (byF g n).toNat)
    · rw [if_pos q]
      refine ⟨by rw [Int.toNat_natCast]; exact q.1, fun s hs hg => ?_⟩
      rw [Int.toNat_natCast]
      by_cases e : s = n
      · subst e; exact Or.inr ⟨rfl, by omega⟩
      · rcases q.2 with q2 | q2
        · rw [byF_no q2 s (by omega)] at hg; cases hg
        · by_cases hz : byF g n = -9
          · rw [byF_no hz s (by omega)] at hg; cases hg
          · have := (byF_yes hz).2 s (by omega) hg
            omega
    · rw [if_neg q] at h ⊢
      obtain ⟨y1, y2⟩ := byF_yes h
      refine ⟨y1, fun s hs hg => ?_⟩
      by_cases e : s = n
      · subst e
        have : ¬ pcN s < pcN (byF g s).toNat := fun z => q ⟨hg, Or.inr z⟩
        omega
      · exact y2 s (by omega) hg
theorem byF_cong {g g' : Nat → Bool} : ∀ {n : Nat}, (∀ s : Nat, s < n → g s = g' s) → byF g n = byF g' n
  | 0, _ => rfl
  | n + 1, h => by
    unfold byF
    rw [byF_cong (fun s hs => h s (by omega)), h n (by omega)]
/-- clouds to be bought: over all sets of the moons there are -/
noncomputable def qBg (τ : mS) (b d : Int) (s : Nat) : Bool := (!anyN (fun m => s.testBit m.toNat && qCl τ m) (qNm τ).toNat) && qF τ (qSt τ (fun m => s.testBit m.toNat || qCl τ m)) b d
noncomputable def qBy (τ : mS) (b d : Int) : Int := byF (qBg τ b d) (2 ^ (qNm τ).toNat)
/-- odds: how many of the sets -/
noncomputable def qOg (τ : mS) (b d : Int) (s : Nat) : Bool := qF τ (qSt τ (fun m => s.testBit m.toNat)) b d
def cntS (g : Nat → Bool) : Nat → Int
  | 0 => 0
  | n + 1 => cntS g n + (if g n then 1 else 0)
theorem cntS_bd (g : Nat → Bool) : ∀ n : Nat, 0 ≤ cntS g n ∧ cntS g n ≤ n
  | 0 => by simp [cntS]
  | n + 1 => by
    have h := cntS_bd g n
    unfold cntS
    by_cases q : g n = true
    · rw [if_pos q]; omega
    · rw [if_neg q]; omega
noncomputable def qOn2 (τ : mS) (b d : Int) : Int := cntS (qOg τ b d) (2 ^ (qNm τ).toNat)
/-! one number of τ is another -/
theorem qSt_cong {τ : mS} {dk dk' : Int → Bool} {b : Int} (h : ∀ m : Int, 0 ≤ m → m < 11 → qWt τ b m = true → dk m = dk' m) : qSt τ dk b = qSt τ dk' b := by
  unfold qSt
  refine anyN_cong (fun m h0 h1 => ?_)
  cases hw : qWt τ b m with
  | false => rfl
  | true => rw [h m h0 h1 hw]
theorem qF_cong {τ : mS} (h : 0 ≤ τ 0 4) {st st' : Int → Bool} (hs : ∀ b : Int, 0 ≤ b → b < τ 0 4 → st b = st' b) (b d : Int) : qF τ st b d = qF τ st' b d := by
  unfold qF
  rw [qPf_cong h hs]
/-- the whole is well formed -/
def qW (τ : mS) : Prop := qWf τ ∧ (∀ d : Int, 0 ≤ d → d < 110 → τ 6 d = 0 ∨ τ 6 d = 1) ∧ 0 ≤ τ 0 6 ∧ τ 0 6 ≤ 8 ∧ (∀ q : Int, 0 ≤ q → q < τ 0 6 → 0 ≤ τ 7 q ∧ τ 7 q < τ 0 4 ∧ 0 ≤ τ 8 q ∧ τ 8 q ≤ 109 ∧ (τ 9 q = 0 ∨ τ 9 q = 1)) ∧ ∀ k : Int, 0 ≤ k → k < 4 → -1 ≤ τ 10 k ∧ τ 10 k ≤ 2 ∧ 0 ≤ τ 11 k ∧ τ 11 k ≤ 60 ∧ ∀ i : Int, 0 ≤ i → i < 60 → i32 (τ (12 + k) i)
theorem qWf_span {τ : mS} (h : qWf τ) {v : Int} (h0 : 0 ≤ v) (h1 : v ≤ 9) : qWf (mUp τ 0 3 v) := by
  obtain ⟨a1, a2, a3, a4, a5, a6, a7, a8⟩ := h
  have e : ∀ a b : Int, ¬ (a = 0 ∧ b = 3) → mUp τ 0 3 v a b = τ a b := fun a b q => mUp_ne τ v (by omega)
  unfold qWf
  rw [mUp_eq, e 0 4 (by omega), e 0 0 (by omega), e 0 1 (by omega), e 0 2 (by omega)]
  refine ⟨a1, a2, a3, a4, h0, h1, a7, fun b b0 b1 => ?_⟩
  rw [e 1 b (by omega), e 2 b (by omega), e 3 b (by omega), e 4 b (by omega), e 5 b (by omega)]
  exact a8 b b0 b1
theorem qWf_orig {τ : mS} (h : qWf τ) {v : Int} (h0 : 0 ≤ v) (h1 : v ≤ 29) : qWf (mUp τ 0 0 v) := by
  obtain ⟨a1, a2, a3, a4, a5, a6, a7, a8⟩ := h
  have e : ∀ a b : Int, ¬ (a = 0 ∧ b = 0) → mUp τ 0 0 v a b = τ a b := fun a b q => mUp_ne τ v (by omega)
  unfold qWf
  rw [mUp_eq, e 0 4 (by omega), e 0 3 (by omega), e 0 1 (by omega), e 0 2 (by omega)]
  refine ⟨a1, a2, h0, h1, a5, a6, a7, fun b b0 b1 => ?_⟩
  rw [e 1 b (by omega), e 2 b (by omega), e 3 b (by omega), e 4 b (by omega), e 5 b (by omega)]
  exact a8 b b0 b1
theorem qWf_day {τ : mS} (h : qWf τ) {k v : Int} (h0 : 0 ≤ v) (h1 : v ≤ 99) : qWf (mUp τ 2 k v) := by
  obtain ⟨a1, a2, a3, a4, a5, a6, a7, a8⟩ := h
  have e : ∀ a b : Int, ¬ a = 2 → mUp τ 2 k v a b = τ a b := fun a b q => mUp_ne τ v (by omega)
  unfold qWf
  rw [e 0 4 (by omega), e 0 0 (by omega), e 0 3 (by omega), e 0 1 (by omega), e 0 2 (by omega)]
  refine ⟨a1, a2, a3, a4, a5, a6, a7, fun b b0 b1 => ?_⟩
  rw [e 1 b (by omega), e 3 b (by omega), e 4 b (by omega), e 5 b (by omega)]
  have := a8 b b0 b1
  by_cases q : b = k
  · rw [q, mUp_eq, ← q]; omega
  · rw [mUp_ne τ v (Or.inr q)]; exact this
theorem qWf_kind {τ : mS} (h : qWf τ) {k v : Int} (h0 : 0 ≤ v) (h1 : v ≤ 2) : qWf (mUp τ 1 k v) := by
  obtain ⟨a1, a2, a3, a4, a5, a6, a7, a8⟩ := h
  have e : ∀ a b : Int, ¬ a = 1 → mUp τ 1 k v a b = τ a b := fun a b q => mUp_ne τ v (by omega)
  unfold qWf
  rw [e 0 4 (by omega), e 0 0 (by omega), e 0 3 (by omega), e 0 1 (by omega), e 0 2 (by omega)]
  refine ⟨a1, a2, a3, a4, a5, a6, a7, fun b b0 b1 => ?_⟩
  rw [e 2 b (by omega), e 3 b (by omega), e 4 b (by omega), e 5 b (by omega)]
  have := a8 b b0 b1
  by_cases q : b = k
  · rw [q, mUp_eq, ← q]; omega
  · rw [mUp_ne τ v (Or.inr q)]; exact this
theorem mUp_up (σ : mS) (k j v w : Int) : mUp (mUp σ k j v) k j w = mUp σ k j w := by
  funext a b
  unfold mUp
  by_cases q : a = k ∧ b = j
  · rw [if_pos q, if_pos q]
  · rw [if_neg q, if_neg q, if_neg q]
theorem mUp_id (σ : mS) (k j : Int) : mUp σ k j (σ k j) = σ := by
  funext a b
  unfold mUp
  by_cases q : a = k ∧ b = j
  · rw [if_pos q, q.1, q.2]
  · rw [if_neg q]
/-! the reference's state: one number is another -/
theorem vM_up_b (σ : mS) {r b : Int} (v : Int) (r0 : 4 ≤ r) (r1 : r ≤ 8) (h0 : 0 ≤ b) (h1 : b < 6) : vM (mUp σ r b v) = mUp (vM σ) (r - 3) b v := by
  funext a c
  have hr : ∀ q : Int, ¬ q = r → mUp σ r b v q = σ q := fun q hq => mUp_off σ b v hq
  by_cases ha : 1 ≤ a ∧ a < 6
  · by_cases hc : 0 ≤ c ∧ c < 6
    · rw [vM_b _ ha.1 ha.2 hc.1 hc.2]
      by_cases q : a = r - 3 ∧ c = b
      · rw [show a + 3 = r by omega, q.2, mUp_eq, q.1, mUp_eq]
      · rw [mUp_ne σ v (by omega), mUp_ne (vM σ) v (by omega), vM_b _ ha.1 ha.2 hc.1 hc.2]
    · rw [mUp_ne (vM σ) v (by omega)]
      unfold vM
      rw [if_neg (by omega), if_neg (by omega), if_pos ha.2, if_neg hc, if_neg (by omega), if_neg (by omega), if_pos ha.2, if_neg hc]
  · rw [mUp_ne (vM σ) v (by omega)]
    unfold vM
    rw [hr 0 (by omega), hr 9 (by omega), hr 1 (by omega), hr 2 (by omega), hr 3 (by omega)]
    by_cases a0 : a = 0
    · rw [if_pos a0, if_pos a0]
    · rw [if_neg a0, if_neg a0]
      by_cases a1 : a < 0
      · rw [if_pos a1, if_pos a1]
      · rw [if_neg a1, if_neg a1, if_neg (show ¬ a < 6 by omega), if_neg (show ¬ a < 6 by omega)]
        by_cases a3 : a = 6
        · rw [if_pos a3, if_pos a3]
        · rw [if_neg a3, if_neg a3]
          by_cases a4 : a < 10
          · rw [if_pos a4, if_pos a4, hr (a + 7) (by omega)]
          · rw [if_neg a4, if_neg a4]
theorem vM_up0 (σ : mS) (j c v : Int) (h : ∀ b : Int, vM (mUp σ 0 j v) 0 b = if b = c then v else vM σ 0 b) : vM (mUp σ 0 j v) = mUp (vM σ) 0 c v := by
  funext a b
  have hr : ∀ q : Int, ¬ q = 0 → mUp σ 0 j v q = σ q := fun q hq => mUp_off σ j v hq
  by_cases a0 : a = 0
  · subst a0
    rw [h b]
    unfold mUp
    simp
  · rw [mUp_ne (vM σ) v (Or.inl a0)]
    unfold vM
    rw [if_neg a0, if_neg a0, hr 9 (by omega), hr 1 (by omega), hr 2 (by omega), hr 3 (by omega)]
    by_cases a1 : a < 0
    · rw [if_pos a1, if_pos a1]
    · rw [if_neg a1, if_neg a1]
      by_cases a2 : a < 6
      · rw [if_pos a2, if_pos a2, hr (a + 3) (by omega)]
      · rw [if_neg a2, if_neg a2]
        by_cases a3 : a = 6
        · rw [if_pos a3, if_pos a3]
        · rw [if_neg a3, if_neg a3]
          by_cases a4 : a < 10
          · rw [if_pos a4, if_pos a4, hr (a + 7) (by omega)]
          · rw [if_neg a4, if_neg a4]
theorem vM_up_span (σ : mS) (v : Int) : vM (mUp σ 0 8 v) = mUp (vM σ) 0 3 v := vM_up0 σ 8 3 v (fun b => by simp only [vM, mUp]; simp; repeat' split <;> omega)
theorem vM_up_orig (σ : mS) (v : Int) : vM (mUp σ 0 5 v) = mUp (vM σ) 0 0 v := vM_up0 σ 5 0 v (fun b => by simp only [vM, mUp]; simp; repeat' split <;> omega)
theorem vM_up_fault (σ : mS) (v : Int) : vM (mUp σ 0 0 v) = mUp (vM σ) 0 8 v := vM_up0 σ 0 8 v (fun b => by simp only [vM, mUp]; simp; repeat' split <;> omega)
theorem vM_up_trace (σ : mS) (v : Int) : vM (mUp σ 0 1 v) = mUp (vM σ) 0 7 v := vM_up0 σ 1 7 v (fun b => by simp only [vM, mUp]; simp; repeat' split <;> omega)
theorem vM_up_nights (σ : mS) (v : Int) : vM (mUp σ 0 15 v) = mUp (vM σ) 0 5 v := vM_up0 σ 15 5 v (fun b => by simp only [vM, mUp]; simp; repeat' split <;> omega)
theorem vM_up_reads (σ : mS) (v : Int) : vM (mUp σ 0 30 v) = mUp (vM σ) 0 6 v := vM_up0 σ 30 6 v (fun b => by simp only [vM, mUp]; simp; repeat' split <;> omega)
/-- same but for the three rows and one number -/
def mSq (r j : Int) (σ s : mS) : Prop := (∀ k : Int, ¬ k = 11 → ¬ k = 12 → ¬ k = 13 → ¬ k = r → s k = σ k) ∧ ∀ i : Int, ¬ i = j → s r i = σ r i
theorem mSq.of {r j : Int} {σ s : mS} (hr : r < 11) (h : mSc σ s) : mSq r j σ s := ⟨fun k a b c _ => h k a b c, fun i _ => by rw [h r (by omega) (by omega) (by omega)]⟩
theorem mSq.sc {r j : Int} {σ s : mS} (hr : r < 11) (h : mSq r j σ s) (v : Int) : mSc (mUp σ r j v) (mUp s r j v) := by
  intro k a b c
  by_cases q : k = r
  · subst q
    funext i
    by_cases e : i = j
    · rw [e, mUp_eq, mUp_eq]
    · rw [mUp_ne s v (Or.inr e), mUp_ne σ v (Or.inr e)]; exact h.2 i e
  · rw [mUp_off s j v q, mUp_off σ j v q]; exact h.1 k a b c q
theorem mSq.next {r j v : Int} {σ s : mS} (hr : r < 11) (h : mSc (mUp σ r j v) s) : mSq r j σ s := ⟨fun k a b c q => (h k a b c).trans (mUp_off σ j v q), fun i q => by rw [h r (by omega) (by omega) (by omega)]; exact mUp_ne σ v (Or.inr q)⟩
theorem mSq.back {r j : Int} {σ s : mS} (hr : r < 11) (h : mSq r j σ s) : mSc σ (mUp s r j (σ r j)) := by
  have := h.sc hr (σ r j)
  rwa [mUp_id] at this
/-- idle: between the calls -/
def mIdl (σ : mS) : Prop := σ 0 17 = 0 ∧ σ 0 18 = 0 ∧ σ 0 19 = -9
theorem mIdl.st {σ : mS} (h : mIdl σ) (hw : qWf (vM σ)) (hn : 0 < σ 0 9) : ∀ b : Int, 0 ≤ b → b < vM σ 0 4 → stM σ b = qSI (vM σ) b := by
  intro b b0 b1
  obtain ⟨h1, h2, h3⟩ := h
  have h6 := hw.2.1
  unfold stM qSI
  have e : decide (b = σ 0 19) = false := by rw [h3]; simp; omega
  rw [e, Bool.false_or]
  refine qSt_cong (fun m m0 m1 hm => ?_)
  have g := qMd_rng hw hn m0 (show m ≤ 100 by omega)
  have g2 := qWt_in hw b0 (by omega) hm
  unfold dkM qCl
  rw [h1, h2, vM_cl σ g.2.2.1 (by omega)]
  simp
theorem mIdl.F {σ : mS} (h : mIdl σ) (hw : qWf (vM σ)) (hn : 0 < σ 0 9) (b d : Int) : qF (vM σ) (stM σ) b d = qFI (vM σ) b d := qF_cong hw.1 (h.st hw hn) b d
theorem mIdl.Pf {σ : mS} (h : mIdl σ) (hw : qWf (vM σ)) (hn : 0 < σ 0 9) : qPf (vM σ) (stM σ) = qPf (vM σ) (qSI (vM σ)) := qPf_cong hw.1 (h.st hw hn)
theorem mIdl.wf {σ : mS} (h : mIdl σ) (hw : qW (vM σ)) (hn : 0 < σ 0 9) : mWf σ := by
  obtain ⟨h1, h2, h3⟩ := h
  refine ⟨hw.1, hn, by rw [h1]; omega, by rw [h1]; omega, Or.inl h2, by rw [h3]; exact ⟨by omega, by omega⟩, fun d d0 d1 => ?_⟩
  have := hw.2.1 d d0 d1
  rwa [vM_cl σ d0 d1] at this
