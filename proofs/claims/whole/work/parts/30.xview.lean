/-! ===== the class's state, as it is shown ===== -/
def xC (a b : Int) : Int := if a = 0 then (if b = 3 ∨ b = 4 then 1 else if b = 6 then 11 else if b = 7 ∨ b = 8 then 0 else 2) else if a < 6 then 5 + b else if a = 6 then 3 else if a < 10 then a + 5 else if a < 12 then 16 + b else a + 8
def xS (a b : Int) : Int := if a = 0 then (if b = 0 then 2 else if b = 1 then 3 else if b = 2 then 4 else if b = 3 then 3 else if b = 4 then 2 else if b = 5 then 1 else if b = 6 then 3 else if b = 7 then 3 else 4) else if a < 6 then a - 1 else if a < 10 then b else if a < 12 then a - 9 else b
abbrev xV (a b : Int) : Prop := (a = 0 ∧ 0 ≤ b ∧ b ≤ 8) ∨ (1 ≤ a ∧ a ≤ 5 ∧ 0 ≤ b ∧ b < 6) ∨ (a = 6 ∧ 0 ≤ b ∧ b < 110) ∨ (7 ≤ a ∧ a ≤ 9 ∧ 0 ≤ b ∧ b < 8) ∨ (10 ≤ a ∧ a ≤ 11 ∧ 0 ≤ b ∧ b < 4) ∨ (12 ≤ a ∧ a ≤ 15 ∧ 0 ≤ b ∧ b < 60)
def xA (k j : Int) : Int := if k < 3 then 0 else if k = 3 then 6 else if k < 11 then j + 1 else if k = 11 then 0 else if k < 15 then k - 5 else if k < 20 then j + 9 else k - 8
def xB (k j : Int) : Int := if k = 0 then j + 4 else if k = 1 then (if j = 3 then 3 else 4) else if k = 2 then (if j = 1 then 5 else j - 2) else if k = 3 then j else if k < 11 then k - 5 else if k = 11 then 6 else if k < 15 then j else if k < 20 then k - 16 else j
def vX (σ : mS) : mS := fun a b => if xV a b then σ (xC a b) (xS a b) else 0
theorem xC_b {a b : Int} (h0 : 1 ≤ a) (h1 : a ≤ 5) : xC a b = 5 + b ∧ xS a b = a - 1 := by
  unfold xC xS
  rw [if_neg (by omega), if_pos (by omega), if_neg (by omega), if_pos (by omega)]
  exact ⟨rfl, rfl⟩
theorem xC_r {a b : Int} (h0 : 7 ≤ a) (h1 : a ≤ 9) : xC a b = a + 5 ∧ xS a b = b := by
  unfold xC xS
  rw [if_neg (by omega), if_neg (by omega), if_neg (by omega), if_pos (by omega), if_neg (by omega), if_neg (by omega), if_pos (by omega)]
  exact ⟨rfl, rfl⟩
theorem xC_s {a b : Int} (h0 : 10 ≤ a) (h1 : a ≤ 11) : xC a b = 16 + b ∧ xS a b = a - 9 := by
  unfold xC xS
  rw [if_neg (by omega), if_neg (by omega), if_neg (by omega), if_neg (by omega), if_pos (by omega), if_neg (by omega), if_neg (by omega), if_neg (by omega), if_pos (by omega)]
  exact ⟨rfl, rfl⟩
theorem xC_c {a b : Int} (h0 : 12 ≤ a) : xC a b = a + 8 ∧ xS a b = b := by
  unfold xC xS
  rw [if_neg (by omega), if_neg (by omega), if_neg (by omega), if_neg (by omega), if_neg (by omega), if_neg (by omega), if_neg (by omega), if_neg (by omega), if_neg (by omega)]
  exact ⟨rfl, rfl⟩
theorem xinv {a b : Int} (h : xV a b) : xA (xC a b) (xS a b) = a ∧ xB (xC a b) (xS a b) = b := by
  rcases h with ⟨h1, h2, h3⟩ | ⟨h1, h2, h3, h4⟩ | ⟨h1, h2, h3⟩ | ⟨h1, h2, h3, h4⟩ | ⟨h1, h2, h3, h4⟩ | ⟨h1, h2, h3, h4⟩
  · subst h1
    rcases (show b = 0 ∨ b = 1 ∨ b = 2 ∨ b = 3 ∨ b = 4 ∨ b = 5 ∨ b = 6 ∨ b = 7 ∨ b = 8 by omega) with q | q | q | q | q | q | q | q | q <;> subst q <;> decide
  · rw [(xC_b h1 h2).1, (xC_b h1 h2).2]
    unfold xA xB
    rw [if_neg (by omega), if_neg (by omega), if_pos (by omega), if_neg (by omega), if_neg (by omega), if_neg (by omega), if_neg (by omega), if_pos (by omega)]
    omega
  · subst h1
    exact ⟨rfl, rfl⟩
  · rw [(xC_r h1 h2).1, (xC_r h1 h2).2]
    unfold xA xB
    rw [if_neg (by omega), if_neg (by omega), if_neg (by omega), if_neg (by omega), if_pos (by omega), if_neg (by omega), if_neg (by omega), if_neg (by omega), if_neg (by omega), if_neg (by omega), if_neg (by omega), if_pos (by omega)]
    omega
  · rw [(xC_s h1 h2).1, (xC_s h1 h2).2]
    unfold xA xB
    rw [if_neg (by omega), if_neg (by omega), if_neg (by omega), if_neg (by omega), if_neg (by omega), if_pos (by omega), if_neg (by omega), if_neg (by omega), if_neg (by omega), if_neg (by omega), if_neg (by omega), if_neg (by omega), if_neg (by omega), if_pos (by omega)]
    omega
  · rw [(xC_c h1).1, (xC_c h1).2]
    unfold xA xB
    rw [if_neg (by omega), if_neg (by omega), if_neg (by omega), if_neg (by omega), if_neg (by omega), if_neg (by omega), if_neg (by omega), if_neg (by omega), if_neg (by omega), if_neg (by omega), if_neg (by omega), if_neg (by omega), if_neg (by omega), if_neg (by omega)]
    omega
theorem vX_at (σ : mS) {a b : Int} (h : xV a b) : vX σ a b = σ (xC a b) (xS a b) := if_pos h
theorem vX_up (σ : mS) {a b : Int} (v : Int) (h : xV a b) : vX (mUp σ (xC a b) (xS a b) v) = mUp (vX σ) a b v := by
  funext c d
  by_cases e : c = a ∧ d = b
  · rw [e.1, e.2, mUp_eq, vX_at _ h, mUp_eq]
  · rw [mUp_ne _ _ (by omega)]
    by_cases g : xV c d
    · rw [vX_at _ g, vX_at _ g]
      refine mUp_ne _ _ ?_
      have i1 := xinv h
      have i2 := xinv g
      by_cases q1 : xC c d = xC a b
      · by_cases q2 : xS c d = xS a b
        · rw [q1, q2] at i2
          omega
        · exact Or.inr q2
      · exact Or.inl q1
    · unfold vX
      rw [if_neg g, if_neg g]
theorem vX_b (σ : mS) {a b : Int} (h0 : 1 ≤ a) (h1 : a ≤ 5) (b0 : 0 ≤ b) (b1 : b < 6) : vX σ a b = σ (5 + b) (a - 1) := by
  rw [vX_at _ (by omega), (xC_b h0 h1).1, (xC_b h0 h1).2]
theorem vX_kind (σ : mS) {b : Int} (b0 : 0 ≤ b) (b1 : b < 6) : vX σ 1 b = σ (5 + b) 0 := vX_b σ (by omega) (by omega) b0 b1
theorem vX_day (σ : mS) {b : Int} (b0 : 0 ≤ b) (b1 : b < 6) : vX σ 2 b = σ (5 + b) 1 := vX_b σ (by omega) (by omega) b0 b1
theorem vX_needs (σ : mS) {b : Int} (b0 : 0 ≤ b) (b1 : b < 6) : vX σ 3 b = σ (5 + b) 2 := vX_b σ (by omega) (by omega) b0 b1
theorem vX_names (σ : mS) {b : Int} (b0 : 0 ≤ b) (b1 : b < 6) : vX σ 4 b = σ (5 + b) 3 := vX_b σ (by omega) (by omega) b0 b1
theorem vX_lasts (σ : mS) {b : Int} (b0 : 0 ≤ b) (b1 : b < 6) : vX σ 5 b = σ (5 + b) 4 := vX_b σ (by omega) (by omega) b0 b1
theorem vX_cl (σ : mS) {b : Int} (b0 : 0 ≤ b) (b1 : b < 110) : vX σ 6 b = σ 3 b := by
  rw [vX_at _ (by omega)]; rfl
theorem vX_rd (σ : mS) {a b : Int} (h0 : 7 ≤ a) (h1 : a ≤ 9) (b0 : 0 ≤ b) (b1 : b < 8) : vX σ a b = σ (a + 5) b := by
  rw [vX_at _ (by omega), (xC_r h0 h1).1, (xC_r h0 h1).2]
theorem vX_so (σ : mS) {b : Int} (b0 : 0 ≤ b) (b1 : b < 4) : vX σ 10 b = σ (16 + b) 1 := by
  rw [vX_at _ (by omega), (xC_s (by omega) (by omega)).1, (xC_s (by omega) (by omega)).2]; rfl
theorem vX_le (σ : mS) {b : Int} (b0 : 0 ≤ b) (b1 : b < 4) : vX σ 11 b = σ (16 + b) 2 := by
  rw [vX_at _ (by omega), (xC_s (by omega) (by omega)).1, (xC_s (by omega) (by omega)).2]; rfl
theorem vX_ce (σ : mS) {k b : Int} (k0 : 0 ≤ k) (k1 : k < 4) (b0 : 0 ≤ b) (b1 : b < 60) : vX σ (12 + k) b = σ (16 + k + 4) b := by
  rw [vX_at _ (by omega), (xC_c (by omega)).1, (xC_c (by omega)).2, show 12 + k + 8 = 16 + k + 4 by omega]
theorem vX_0 (σ : mS) : vX σ 0 0 = σ 2 2 ∧ vX σ 0 1 = σ 2 3 ∧ vX σ 0 2 = σ 2 4 ∧ vX σ 0 3 = σ 1 3 ∧ vX σ 0 4 = σ 1 2 ∧ vX σ 0 5 = σ 2 1 ∧ vX σ 0 6 = σ 11 3 ∧ vX σ 0 7 = σ 0 3 ∧ vX σ 0 8 = σ 0 4 := ⟨rfl, rfl, rfl, rfl, rfl, rfl, rfl, rfl, rfl⟩
theorem vX_up_b (σ : mS) {r b : Int} (v : Int) (r0 : 0 ≤ r) (r1 : r ≤ 4) (b0 : 0 ≤ b) (b1 : b < 6) : vX (mUp σ (5 + b) r v) = mUp (vX σ) (r + 1) b v := by
  have := vX_up σ (a := r + 1) (b := b) v (by omega)
  rwa [(xC_b (by omega) (by omega)).1, (xC_b (by omega) (by omega)).2, show r + 1 - 1 = r by omega] at this
theorem vX_up_begins (σ : mS) (v : Int) : vX (mUp σ 2 2 v) = mUp (vX σ) 0 0 v := vX_up σ (a := 0) (b := 0) v (by omega)
theorem vX_up_span (σ : mS) (v : Int) : vX (mUp σ 1 3 v) = mUp (vX σ) 0 3 v := vX_up σ (a := 0) (b := 3) v (by omega)
theorem vX_up_count (σ : mS) (v : Int) : vX (mUp σ 1 2 v) = mUp (vX σ) 0 4 v := vX_up σ (a := 0) (b := 4) v (by omega)
theorem vX_up_nights (σ : mS) (v : Int) : vX (mUp σ 2 1 v) = mUp (vX σ) 0 5 v := vX_up σ (a := 0) (b := 5) v (by omega)
theorem vX_up_reads (σ : mS) (v : Int) : vX (mUp σ 11 3 v) = mUp (vX σ) 0 6 v := vX_up σ (a := 0) (b := 6) v (by omega)
theorem vX_up_trace (σ : mS) (v : Int) : vX (mUp σ 0 3 v) = mUp (vX σ) 0 7 v := vX_up σ (a := 0) (b := 7) v (by omega)
theorem vX_up_fault (σ : mS) (v : Int) : vX (mUp σ 0 4 v) = mUp (vX σ) 0 8 v := vX_up σ (a := 0) (b := 8) v (by omega)
theorem vX_up_cl (σ : mS) {d : Int} (v : Int) (h0 : 0 ≤ d) (h1 : d < 110) : vX (mUp σ 3 d v) = mUp (vX σ) 6 d v := vX_up σ (a := 6) (b := d) v (by omega)
theorem vX_up_rd (σ : mS) {r q : Int} (v : Int) (r0 : 12 ≤ r) (r1 : r ≤ 14) (h0 : 0 ≤ q) (h1 : q < 8) : vX (mUp σ r q v) = mUp (vX σ) (r - 5) q v := by
  have := vX_up σ (a := r - 5) (b := q) v (by omega)
  rwa [(xC_r (by omega) (by omega)).1, (xC_r (by omega) (by omega)).2, show r - 5 + 5 = r by omega] at this
theorem vX_up_so (σ : mS) {k : Int} (v : Int) (h0 : 0 ≤ k) (h1 : k < 4) : vX (mUp σ (16 + k) 1 v) = mUp (vX σ) 10 k v := by
  have := vX_up σ (a := 10) (b := k) v (by omega)
  rwa [(xC_s (by omega) (by omega)).1, (xC_s (by omega) (by omega)).2] at this
theorem vX_up_le (σ : mS) {k : Int} (v : Int) (h0 : 0 ≤ k) (h1 : k < 4) : vX (mUp σ (16 + k) 2 v) = mUp (vX σ) 11 k v := by
  have := vX_up σ (a := 11) (b := k) v (by omega)
  rwa [(xC_s (by omega) (by omega)).1, (xC_s (by omega) (by omega)).2] at this
theorem vX_up_ce (σ : mS) {k i : Int} (v : Int) (h0 : 0 ≤ k) (h1 : k < 4) (i0 : 0 ≤ i) (i1 : i < 60) : vX (mUp σ (16 + k + 4) i v) = mUp (vX σ) (12 + k) i v := by
  have := vX_up σ (a := 12 + k) (b := i) v (by omega)
  rwa [(xC_c (by omega)).1, (xC_c (by omega)).2, show 12 + k + 8 = 16 + k + 4 by omega] at this
/-- the same but for the working numbers: what passes, who watches -/
def xSc (σ s : mS) : Prop := ∀ k j : Int, ¬ (k = 1 ∧ j = 4) → ¬ (5 ≤ k ∧ k < 11 ∧ j = 5) → s k j = σ k j
theorem xSc.rf (σ : mS) : xSc σ σ := fun _ _ _ _ => rfl
theorem xSc.tr {σ s t : mS} (h : xSc σ s) (h' : xSc s t) : xSc σ t := fun k j a b => (h' k j a b).trans (h k j a b)
theorem xSc.view {σ s : mS} (h : xSc σ s) : vX s = vX σ := by
  funext a b
  by_cases g : xV a b
  · rw [vX_at _ g, vX_at _ g]
    have e : ¬ (xC a b = 1 ∧ xS a b = 4) ∧ ¬ (5 ≤ xC a b ∧ xC a b < 11 ∧ xS a b = 5) := by
      rcases g with ⟨h1, h2, h3⟩ | ⟨h1, h2, h3, h4⟩ | ⟨h1, h2, h3⟩ | ⟨h1, h2, h3, h4⟩ | ⟨h1, h2, h3, h4⟩ | ⟨h1, h2, h3, h4⟩
      · subst h1
        rcases (show b = 0 ∨ b = 1 ∨ b = 2 ∨ b = 3 ∨ b = 4 ∨ b = 5 ∨ b = 6 ∨ b = 7 ∨ b = 8 by omega) with q | q | q | q | q | q | q | q | q <;> subst q <;> decide
      · rw [(xC_b h1 h2).1, (xC_b h1 h2).2]; omega
      · subst h1
        have e1 : xC 6 b = 3 := rfl
        rw [e1]; omega
      · rw [(xC_r h1 h2).1, (xC_r h1 h2).2]; omega
      · rw [(xC_s h1 h2).1, (xC_s h1 h2).2]; omega
      · rw [(xC_c h1).1, (xC_c h1).2]; omega
    exact h _ _ e.1 e.2
  · unfold vX
    rw [if_neg g, if_neg g]
theorem xSc.up (σ : mS) (v : Int) : xSc σ (mUp σ 1 4 v) := fun k j a _ => mUp_ne _ _ (by omega)
theorem xSc.upb (σ : mS) {b : Int} (v : Int) (b0 : 5 ≤ b) (b1 : b < 11) : xSc σ (mUp σ b 5 v) := fun k j _ a => mUp_ne _ _ (by omega)
