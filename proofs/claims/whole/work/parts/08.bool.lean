/-! truth values -/
def bl (p : Prop) [Decidable p] : Int := if p then 1 else 0
theorem bl1 {p : Prop} [Decidable p] (h : p) : (1 : Int) = bl p := by unfold bl; rw [if_pos h]
theorem bl0 {p : Prop} [Decidable p] (h : ¬ p) : (0 : Int) = bl p := by unfold bl; rw [if_neg h]
theorem bl_01 (p : Prop) [Decidable p] : bl p = 0 ∨ bl p = 1 := by
  unfold bl
  by_cases h : p
  · rw [if_pos h]; exact Or.inr rfl
  · rw [if_neg h]; exact Or.inl rfl
theorem bl_rng (p : Prop) [Decidable p] : i32 (bl p) := by
  rcases bl_01 p with h | h <;> rw [h] <;> exact ⟨by omega, by omega⟩
theorem bl_eq0 {p : Prop} [Decidable p] : bl p = 0 ↔ ¬ p := by
  unfold bl
  by_cases h : p
  · rw [if_pos h]; simp [h]
  · rw [if_neg h]; simp [h]
theorem bl_cong {p q : Prop} [Decidable p] [Decidable q] (h : p ↔ q) : bl p = bl q := by
  unfold bl
  by_cases hp : p
  · rw [if_pos hp, if_pos (h.mp hp)]
  · rw [if_neg hp, if_neg (fun z => hp (h.mpr z))]
section MB
variable {x : mX} {l : Launch} {μ : mM} {n : Nat} {Γ : mE} {pc : Nat} {lv : List (Nat × Value)} {st : List Value} {σ : mS}
theorem g_ifb_eq (h : mOk x l μ n Γ) {p : Prop} [Decidable p] {off : Int} {tgt : Nat} (hd : decode μ.2.1 pc = .ok (.ifCond .eq off, 3)) (ht : (pc : Int) + off = (tgt : Int)) (kt : ¬ p → mG x tgt lv st σ) (kf : p → mG x (pc + 3) lv st σ) : mG x pc lv (mI (bl p) :: st) σ :=
  g_if_eq h hd ht (bl_rng p) (fun c => kt (bl_eq0.mp c)) (fun c => kf (Decidable.byContradiction fun q => c (bl_eq0.mpr q)))
theorem g_ifb_ne (h : mOk x l μ n Γ) {p : Prop} [Decidable p] {off : Int} {tgt : Nat} (hd : decode μ.2.1 pc = .ok (.ifCond .ne off, 3)) (ht : (pc : Int) + off = (tgt : Int)) (kt : p → mG x tgt lv st σ) (kf : ¬ p → mG x (pc + 3) lv st σ) : mG x pc lv (mI (bl p) :: st) σ :=
  g_if_ne h hd ht (bl_rng p) (fun c => kt (Decidable.byContradiction fun q => c (bl_eq0.mpr q))) (fun c => kf (bl_eq0.mp c))
end MB
section MV
variable {x : mX} {pc : Nat} {lv : List (Nat × Value)} {st : List Value} {σ : mS}
theorem g_val {a b : Int} (e : a = b) (k : mG x pc lv (mI b :: st) σ) : mG x pc lv (mI a :: st) σ := e ▸ k
theorem g_val2 {v : Value} {a b : Int} (e : a = b) (k : mG x pc lv (v :: mI b :: st) σ) : mG x pc lv (v :: mI a :: st) σ := e ▸ k
theorem g_val3 {v w : Value} {a b : Int} (e : a = b) (k : mG x pc lv (v :: w :: mI b :: st) σ) : mG x pc lv (v :: w :: mI a :: st) σ := e ▸ k
theorem g_vall {a b : Int} (e : a = b) (k : mG x pc lv (mL b :: st) σ) : mG x pc lv (mL a :: st) σ := e ▸ k
theorem g_sta {s t : mS} (e : s = t) (k : mG x pc lv st t) : mG x pc lv st s := e ▸ k
end MV
