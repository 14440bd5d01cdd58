/-! ===== the reference's state, as it is shown ===== -/
def vM (σ : mS) : mS := fun a b =>
  if a = 0 then (if b = 0 then σ 0 5 else if b = 1 then σ 0 6 else if b = 2 then σ 0 7 else if b = 3 then σ 0 8 else if b = 4 then σ 0 9 else if b = 5 then σ 0 15 else if b = 6 then σ 0 30 else if b = 7 then σ 0 1 else if b = 8 then σ 0 0 else 0)
  else if a < 0 then 0
  else if a < 6 then (if 0 ≤ b ∧ b < 6 then σ (a + 3) b else 0)
  else if a = 6 then (if 0 ≤ b ∧ b < 110 then σ 9 b else 0)
  else if a < 10 then (if 0 ≤ b ∧ b < 8 then σ (a + 7) b else 0)
  else if a = 10 then (if 0 ≤ b ∧ b < 4 then (if σ 1 b = -9 then -1 else σ 1 b) else 0)
  else if a = 11 then (if 0 ≤ b ∧ b < 4 then (if σ 1 b = -9 then 0 else σ 2 b) else 0)
  else if a < 16 then (if 0 ≤ b ∧ b < 60 then σ 3 (60 * (a - 12) + b) else 0)
  else 0
theorem vM_b (σ : mS) {a b : Int} (a0 : 1 ≤ a) (a1 : a < 6) (h0 : 0 ≤ b) (h1 : b < 6) : vM σ a b = σ (a + 3) b := by
  unfold vM
  rw [if_neg (by omega), if_neg (by omega), if_pos a1, if_pos ⟨h0, h1⟩]
theorem vM_kind (σ : mS) {b : Int} (h0 : 0 ≤ b) (h1 : b < 6) : vM σ 1 b = σ 4 b := vM_b σ (by omega) (by omega) h0 h1
theorem vM_day (σ : mS) {b : Int} (h0 : 0 ≤ b) (h1 : b < 6) : vM σ 2 b = σ 5 b := vM_b σ (by omega) (by omega) h0 h1
theorem vM_needs (σ : mS) {b : Int} (h0 : 0 ≤ b) (h1 : b < 6) : vM σ 3 b = σ 6 b := vM_b σ (by omega) (by omega) h0 h1
theorem vM_names (σ : mS) {b : Int} (h0 : 0 ≤ b) (h1 : b < 6) : vM σ 4 b = σ 7 b := vM_b σ (by omega) (by omega) h0 h1
theorem vM_lasts (σ : mS) {b : Int} (h0 : 0 ≤ b) (h1 : b < 6) : vM σ 5 b = σ 8 b := vM_b σ (by omega) (by omega) h0 h1
theorem vM_cl (σ : mS) {b : Int} (h0 : 0 ≤ b) (h1 : b < 110) : vM σ 6 b = σ 9 b := by
  unfold vM
  rw [if_neg (by omega), if_neg (by omega), if_neg (by omega), if_pos rfl, if_pos ⟨h0, h1⟩]
theorem vM_rd (σ : mS) {a b : Int} (a0 : 7 ≤ a) (a1 : a < 10) (h0 : 0 ≤ b) (h1 : b < 8) : vM σ a b = σ (a + 7) b := by
  unfold vM
  rw [if_neg (by omega), if_neg (by omega), if_neg (by omega), if_neg (by omega), if_pos a1, if_pos ⟨h0, h1⟩]
theorem vM_so (σ : mS) {b : Int} (h0 : 0 ≤ b) (h1 : b < 4) : vM σ 10 b = if σ 1 b = -9 then -1 else σ 1 b := by
  unfold vM
  rw [if_neg (by omega), if_neg (by omega), if_neg (by omega), if_neg (by omega), if_neg (by omega), if_pos rfl, if_pos ⟨h0, h1⟩]
theorem vM_le (σ : mS) {b : Int} (h0 : 0 ≤ b) (h1 : b < 4) : vM σ 11 b = if σ 1 b = -9 then 0 else σ 2 b := by
  unfold vM
  rw [if_neg (by omega), if_neg (by omega), if_neg (by omega), if_neg (by omega), if_neg (by omega), if_neg (by omega), if_pos rfl, if_pos ⟨h0, h1⟩]
theorem vM_ce (σ : mS) {a b : Int} (a0 : 12 ≤ a) (a1 : a < 16) (h0 : 0 ≤ b) (h1 : b < 60) : vM σ a b = σ 3 (60 * (a - 12) + b) := by
  unfold vM
  rw [if_neg (by omega), if_neg (by omega), if_neg (by omega), if_neg (by omega), if_neg (by omega), if_neg (by omega), if_neg (by omega), if_pos a1, if_pos ⟨h0, h1⟩]
/-- the same but for what is not shown -/
def mSh (σ σ' : mS) : Prop := (∀ j : Int, (j < 17 ∨ 25 < j) → σ' 0 j = σ 0 j) ∧ (∀ k : Int, 1 ≤ k → k < 10 → σ' k = σ k) ∧ ∀ k : Int, 14 ≤ k → σ' k = σ k
theorem mSh.view {σ σ' : mS} (h : mSh σ σ') : vM σ' = vM σ := by
  obtain ⟨h1, h2, h3⟩ := h
  funext a b
  unfold vM
  rw [h1 5 (by omega), h1 6 (by omega), h1 7 (by omega), h1 8 (by omega), h1 9 (by omega), h1 15 (by omega), h1 30 (by omega), h1 1 (by omega), h1 0 (by omega), h2 9 (by omega) (by omega), h2 1 (by omega) (by omega), h2 2 (by omega) (by omega), h2 3 (by omega) (by omega)]
  by_cases a0 : a = 0
  · rw [if_pos a0, if_pos a0]
  · rw [if_neg a0, if_neg a0]
    by_cases a1 : a < 0
    · rw [if_pos a1, if_pos a1]
    · rw [if_neg a1, if_neg a1]
      by_cases a2 : a < 6
      · rw [if_pos a2, if_pos a2, h2 (a + 3) (by omega) (by omega)]
      · rw [if_neg a2, if_neg a2]
        by_cases a3 : a = 6
        · rw [if_pos a3, if_pos a3]
        · rw [if_neg a3, if_neg a3]
          by_cases a4 : a < 10
          · rw [if_pos a4, if_pos a4, h3 (a + 7) (by omega)]
          · rw [if_neg a4, if_neg a4]
theorem mSh.rf (σ : mS) : mSh σ σ := ⟨fun _ _ => rfl, fun _ _ _ => rfl, fun _ _ => rfl⟩
theorem mSh.tr {σ σ' σ'' : mS} (h : mSh σ σ') (h' : mSh σ' σ'') : mSh σ σ'' := ⟨fun j hj => (h'.1 j hj).trans (h.1 j hj), fun k h0 h1 => (h'.2.1 k h0 h1).trans (h.2.1 k h0 h1), fun k h0 => (h'.2.2 k h0).trans (h.2.2 k h0)⟩
theorem mSh.up0 (σ : mS) {j : Int} (v : Int) (h0 : 17 ≤ j) (h1 : j ≤ 25) : mSh σ (mUp σ 0 j v) := ⟨fun i hi => mUp_ne σ v (Or.inr (by omega)), fun k k0 k1 => mUp_off σ j v (by omega), fun k k0 => mUp_off σ j v (by omega)⟩
theorem mSh.up (σ : mS) {k : Int} (j v : Int) (h0 : 10 ≤ k) (h1 : k ≤ 13) : mSh σ (mUp σ k j v) := ⟨fun i hi => mUp_ne σ v (Or.inl (by omega)), fun a a0 a1 => mUp_off σ j v (by omega), fun a a0 => mUp_off σ j v (by omega)⟩
/-- the same but for the rows order, doesPass, inForce -/
def mSc (σ σ' : mS) : Prop := ∀ k : Int, ¬ k = 11 → ¬ k = 12 → ¬ k = 13 → σ' k = σ k
theorem mSc.rf (σ : mS) : mSc σ σ := fun _ _ _ _ => rfl
theorem mSc.tr {σ σ' σ'' : mS} (h : mSc σ σ') (h' : mSc σ' σ'') : mSc σ σ'' := fun k a b c => (h' k a b c).trans (h k a b c)
theorem mSc.up (σ : mS) {k : Int} (j v : Int) (h : k = 11 ∨ k = 12 ∨ k = 13) : mSc σ (mUp σ k j v) := fun a a1 a2 a3 => mUp_off σ j v (by omega)
theorem mSc.sh {σ σ' : mS} (h : mSc σ σ') : mSh σ σ' := ⟨fun j _ => by rw [h 0 (by omega) (by omega) (by omega)], fun k k0 k1 => h k (by omega) (by omega) (by omega), fun k k0 => h k (by omega) (by omega) (by omega)⟩
theorem mSc.view {σ σ' : mS} (h : mSc σ σ') : vM σ' = vM σ := h.sh.view
/-- which moons are dark, for the reference -/
def dkM (σ : mS) (m : Int) : Bool := (σ 0 17).toNat.testBit m.toNat || (decide (σ 0 18 = 0) && decide (σ 9 (qMd (vM σ) m) = 1))
def stM (σ : mS) (b : Int) : Bool := decide (b = σ 0 19) || qSt (vM σ) (dkM σ) b
theorem mSc.dk {σ σ' : mS} (h : mSc σ σ') : dkM σ' = dkM σ := by
  funext m
  unfold dkM
  rw [h.view, h 0 (by omega) (by omega) (by omega), h 9 (by omega) (by omega) (by omega)]
theorem mSc.st {σ σ' : mS} (h : mSc σ σ') : stM σ' = stM σ := by
  funext b
  unfold stM
  rw [h.dk, h.view, h 0 (by omega) (by omega) (by omega)]
/-- the reference's own: what its calls take for granted while they work -/
def mWf (σ : mS) : Prop := qWf (vM σ) ∧ 0 < σ 0 9 ∧ 0 ≤ σ 0 17 ∧ σ 0 17 ≤ 2147483647 ∧ (σ 0 18 = 0 ∨ σ 0 18 = 1) ∧ i32 (σ 0 19) ∧ ∀ d : Int, 0 ≤ d → d < 110 → σ 9 d = 0 ∨ σ 9 d = 1
theorem mSc.wf {σ σ' : mS} (h : mSc σ σ') (w : mWf σ) : mWf σ' := by
  unfold mWf
  rw [h.view, h 0 (by omega) (by omega) (by omega), h 9 (by omega) (by omega) (by omega)]
  exact w
