/-! ===== well formed stays well formed ===== -/
theorem kp_span {τ : mS} (h : qW τ) {v : Int} (v0 : 0 ≤ v) (v9 : v ≤ 9) : qW (mUp τ 0 3 v) := by
  have E : ∀ a b9 : Int, ¬ (a = 0 ∧ b9 = 3) → (mUp τ 0 3 v) a b9 = τ a b9 := fun a b9 q => mUp_ne τ v (by omega)
  obtain ⟨⟨a1, a2, a3, a4, a5, a6, a7, a8⟩, b1, c1, c2, d1, e1⟩ := h
  exact ⟨⟨(by rw [E 0 4 (by omega)]; exact a1), (by rw [E 0 4 (by omega)]; exact a2), (by rw [E 0 0 (by omega)]; exact a3), (by rw [E 0 0 (by omega)]; exact a4), (by rw [mUp_eq]; exact v0), (by rw [mUp_eq]; exact v9), (by rw [E 0 4 (by omega), E 0 1 (by omega), E 0 2 (by omega)]; exact a7), (fun b9 x0 x1 => by rw [E 1 b9 (by omega), E 2 b9 (by omega), E 3 b9 (by omega), E 4 b9 (by omega), E 5 b9 (by omega)]; exact a8 b9 x0 x1)⟩, (fun d9 x0 x1 => by rw [E 6 d9 (by omega)]; exact b1 d9 x0 x1), (by rw [E 0 6 (by omega)]; exact c1), (by rw [E 0 6 (by omega)]; exact c2), (by rw [E 0 6 (by omega), E 0 4 (by omega)]; exact fun q9 x0 x1 => by rw [E 7 q9 (by omega), E 8 q9 (by omega), E 9 q9 (by omega)]; exact d1 q9 x0 x1), (fun k9 x0 x1 => by rw [E 10 k9 (by omega), E 11 k9 (by omega)]; exact ⟨(e1 k9 x0 x1).1, (e1 k9 x0 x1).2.1, (e1 k9 x0 x1).2.2.1, (e1 k9 x0 x1).2.2.2.1, fun i9 y0 y1 => by rw [E (12 + k9) i9 (by omega)]; exact (e1 k9 x0 x1).2.2.2.2 i9 y0 y1⟩)⟩
theorem kp_day {τ : mS} (h : qW τ) {b v : Int} (v0 : 0 ≤ v) (v9 : v ≤ 99) : qW (mUp τ 2 b v) := by
  have E : ∀ a b9 : Int, ¬ (a = 2 ∧ b9 = b) → (mUp τ 2 b v) a b9 = τ a b9 := fun a b9 q => mUp_ne τ v (by omega)
  obtain ⟨⟨a1, a2, a3, a4, a5, a6, a7, a8⟩, b1, c1, c2, d1, e1⟩ := h
  exact ⟨⟨(by rw [E 0 4 (by omega)]; exact a1), (by rw [E 0 4 (by omega)]; exact a2), (by rw [E 0 0 (by omega)]; exact a3), (by rw [E 0 0 (by omega)]; exact a4), (by rw [E 0 3 (by omega)]; exact a5), (by rw [E 0 3 (by omega)]; exact a6), (by rw [E 0 4 (by omega), E 0 1 (by omega), E 0 2 (by omega)]; exact a7), (fun b9 x0 x1 => by
    rw [E 1 b9 (by omega), E 3 b9 (by omega), E 4 b9 (by omega), E 5 b9 (by omega)]
    have g := a8 b9 x0 x1
    by_cases z : b9 = b
    · rw [z, mUp_eq]; rw [z] at g; exact ⟨g.1, g.2.1, v0, v9, g.2.2.2.2⟩
    · rw [E 2 b9 (by omega)]; exact g)⟩, (fun d9 x0 x1 => by rw [E 6 d9 (by omega)]; exact b1 d9 x0 x1), (by rw [E 0 6 (by omega)]; exact c1), (by rw [E 0 6 (by omega)]; exact c2), (by rw [E 0 6 (by omega), E 0 4 (by omega)]; exact fun q9 x0 x1 => by rw [E 7 q9 (by omega), E 8 q9 (by omega), E 9 q9 (by omega)]; exact d1 q9 x0 x1), (fun k9 x0 x1 => by rw [E 10 k9 (by omega), E 11 k9 (by omega)]; exact ⟨(e1 k9 x0 x1).1, (e1 k9 x0 x1).2.1, (e1 k9 x0 x1).2.2.1, (e1 k9 x0 x1).2.2.2.1, fun i9 y0 y1 => by rw [E (12 + k9) i9 (by omega)]; exact (e1 k9 x0 x1).2.2.2.2 i9 y0 y1⟩)⟩
theorem kp_night {τ : mS} (h : qW τ) {d v : Int} (hv : v = 0 ∨ v = 1) : qW (mUp τ 6 d v) := by
  have E : ∀ a b9 : Int, ¬ (a = 6 ∧ b9 = d) → (mUp τ 6 d v) a b9 = τ a b9 := fun a b9 q => mUp_ne τ v (by omega)
  obtain ⟨⟨a1, a2, a3, a4, a5, a6, a7, a8⟩, b1, c1, c2, d1, e1⟩ := h
  exact ⟨⟨(by rw [E 0 4 (by omega)]; exact a1), (by rw [E 0 4 (by omega)]; exact a2), (by rw [E 0 0 (by omega)]; exact a3), (by rw [E 0 0 (by omega)]; exact a4), (by rw [E 0 3 (by omega)]; exact a5), (by rw [E 0 3 (by omega)]; exact a6), (by rw [E 0 4 (by omega), E 0 1 (by omega), E 0 2 (by omega)]; exact a7), (fun b9 x0 x1 => by rw [E 1 b9 (by omega), E 2 b9 (by omega), E 3 b9 (by omega), E 4 b9 (by omega), E 5 b9 (by omega)]; exact a8 b9 x0 x1)⟩, (fun d9 x0 x1 => by
    by_cases z : d9 = d
    · rw [z, mUp_eq]; exact hv
    · rw [E 6 d9 (by omega)]; exact b1 d9 x0 x1), (by rw [E 0 6 (by omega)]; exact c1), (by rw [E 0 6 (by omega)]; exact c2), (by rw [E 0 6 (by omega), E 0 4 (by omega)]; exact fun q9 x0 x1 => by rw [E 7 q9 (by omega), E 8 q9 (by omega), E 9 q9 (by omega)]; exact d1 q9 x0 x1), (fun k9 x0 x1 => by rw [E 10 k9 (by omega), E 11 k9 (by omega)]; exact ⟨(e1 k9 x0 x1).1, (e1 k9 x0 x1).2.1, (e1 k9 x0 x1).2.2.1, (e1 k9 x0 x1).2.2.2.1, fun i9 y0 y1 => by rw [E (12 + k9) i9 (by omega)]; exact (e1 k9 x0 x1).2.2.2.2 i9 y0 y1⟩)⟩
theorem kp_r7 {τ : mS} (h : qW τ) {q v : Int} (hq : τ 0 6 ≤ q) : qW (mUp τ 7 q v) := by
  have E : ∀ a b9 : Int, ¬ (a = 7 ∧ b9 = q) → (mUp τ 7 q v) a b9 = τ a b9 := fun a b9 q => mUp_ne τ v (by omega)
  obtain ⟨⟨a1, a2, a3, a4, a5, a6, a7, a8⟩, b1, c1, c2, d1, e1⟩ := h
  exact ⟨⟨(by rw [E 0 4 (by omega)]; exact a1), (by rw [E 0 4 (by omega)]; exact a2), (by rw [E 0 0 (by omega)]; exact a3), (by rw [E 0 0 (by omega)]; exact a4), (by rw [E 0 3 (by omega)]; exact a5), (by rw [E 0 3 (by omega)]; exact a6), (by rw [E 0 4 (by omega), E 0 1 (by omega), E 0 2 (by omega)]; exact a7), (fun b9 x0 x1 => by rw [E 1 b9 (by omega), E 2 b9 (by omega), E 3 b9 (by omega), E 4 b9 (by omega), E 5 b9 (by omega)]; exact a8 b9 x0 x1)⟩, (fun d9 x0 x1 => by rw [E 6 d9 (by omega)]; exact b1 d9 x0 x1), (by rw [E 0 6 (by omega)]; exact c1), (by rw [E 0 6 (by omega)]; exact c2), (by rw [E 0 6 (by omega), E 0 4 (by omega)]; exact fun q9 x0 x1 => by rw [E 7 q9 (by omega), E 8 q9 (by omega), E 9 q9 (by omega)]; exact d1 q9 x0 x1), (fun k9 x0 x1 => by rw [E 10 k9 (by omega), E 11 k9 (by omega)]; exact ⟨(e1 k9 x0 x1).1, (e1 k9 x0 x1).2.1, (e1 k9 x0 x1).2.2.1, (e1 k9 x0 x1).2.2.2.1, fun i9 y0 y1 => by rw [E (12 + k9) i9 (by omega)]; exact (e1 k9 x0 x1).2.2.2.2 i9 y0 y1⟩)⟩
theorem kp_r8 {τ : mS} (h : qW τ) {q v : Int} (hq : τ 0 6 ≤ q) : qW (mUp τ 8 q v) := by
  have E : ∀ a b9 : Int, ¬ (a = 8 ∧ b9 = q) → (mUp τ 8 q v) a b9 = τ a b9 := fun a b9 q => mUp_ne τ v (by omega)
  obtain ⟨⟨a1, a2, a3, a4, a5, a6, a7, a8⟩, b1, c1, c2, d1, e1⟩ := h
  exact ⟨⟨(by rw [E 0 4 (by omega)]; exact a1), (by rw [E 0 4 (by omega)]; exact a2), (by rw [E 0 0 (by omega)]; exact a3), (by rw [E 0 0 (by omega)]; exact a4), (by rw [E 0 3 (by omega)]; exact a5), (by rw [E 0 3 (by omega)]; exact a6), (by rw [E 0 4 (by omega), E 0 1 (by omega), E 0 2 (by omega)]; exact a7), (fun b9 x0 x1 => by rw [E 1 b9 (by omega), E 2 b9 (by omega), E 3 b9 (by omega), E 4 b9 (by omega), E 5 b9 (by omega)]; exact a8 b9 x0 x1)⟩, (fun d9 x0 x1 => by rw [E 6 d9 (by omega)]; exact b1 d9 x0 x1), (by rw [E 0 6 (by omega)]; exact c1), (by rw [E 0 6 (by omega)]; exact c2), (by rw [E 0 6 (by omega), E 0 4 (by omega)]; exact fun q9 x0 x1 => by rw [E 7 q9 (by omega), E 8 q9 (by omega), E 9 q9 (by omega)]; exact d1 q9 x0 x1), (fun k9 x0 x1 => by rw [E 10 k9 (by omega), E 11 k9 (by omega)]; exact ⟨(e1 k9 x0 x1).1, (e1 k9 x0 x1).2.1, (e1 k9 x0 x1).2.2.1, (e1 k9 x0 x1).2.2.2.1, fun i9 y0 y1 => by rw [E (12 + k9) i9 (by omega)]; exact (e1 k9 x0 x1).2.2.2.2 i9 y0 y1⟩)⟩
theorem kp_r9 {τ : mS} (h : qW τ) {q v : Int} (hq : τ 0 6 ≤ q) : qW (mUp τ 9 q v) := by
  have E : ∀ a b9 : Int, ¬ (a = 9 ∧ b9 = q) → (mUp τ 9 q v) a b9 = τ a b9 := fun a b9 q => mUp_ne τ v (by omega)
  obtain ⟨⟨a1, a2, a3, a4, a5, a6, a7, a8⟩, b1, c1, c2, d1, e1⟩ := h
  exact ⟨⟨(by rw [E 0 4 (by omega)]; exact a1), (by rw [E 0 4 (by omega)]; exact a2), (by rw [E 0 0 (by omega)]; exact a3), (by rw [E 0 0 (by omega)]; exact a4), (by rw [E 0 3 (by omega)]; exact a5), (by rw [E 0 3 (by omega)]; exact a6), (by rw [E 0 4 (by omega), E 0 1 (by omega), E 0 2 (by omega)]; exact a7), (fun b9 x0 x1 => by rw [E 1 b9 (by omega), E 2 b9 (by omega), E 3 b9 (by omega), E 4 b9 (by omega), E 5 b9 (by omega)]; exact a8 b9 x0 x1)⟩, (fun d9 x0 x1 => by rw [E 6 d9 (by omega)]; exact b1 d9 x0 x1), (by rw [E 0 6 (by omega)]; exact c1), (by rw [E 0 6 (by omega)]; exact c2), (by rw [E 0 6 (by omega), E 0 4 (by omega)]; exact fun q9 x0 x1 => by rw [E 7 q9 (by omega), E 8 q9 (by omega), E 9 q9 (by omega)]; exact d1 q9 x0 x1), (fun k9 x0 x1 => by rw [E 10 k9 (by omega), E 11 k9 (by omega)]; exact ⟨(e1 k9 x0 x1).1, (e1 k9 x0 x1).2.1, (e1 k9 x0 x1).2.2.1, (e1 k9 x0 x1).2.2.2.1, fun i9 y0 y1 => by rw [E (12 + k9) i9 (by omega)]; exact (e1 k9 x0 x1).2.2.2.2 i9 y0 y1⟩)⟩
theorem kp_cnt {τ : mS} (h : qW τ) {v : Int} (v0 : 0 ≤ v) (v8 : v ≤ 8) (hv : ∀ q : Int, 0 ≤ q → q < v → 0 ≤ τ 7 q ∧ τ 7 q < τ 0 4 ∧ 0 ≤ τ 8 q ∧ τ 8 q ≤ 109 ∧ (τ 9 q = 0 ∨ τ 9 q = 1)) : qW (mUp τ 0 6 v) := by
  have E : ∀ a b9 : Int, ¬ (a = 0 ∧ b9 = 6) → (mUp τ 0 6 v) a b9 = τ a b9 := fun a b9 q => mUp_ne τ v (by omega)
  obtain ⟨⟨a1, a2, a3, a4, a5, a6, a7, a8⟩, b1, c1, c2, d1, e1⟩ := h
  exact ⟨⟨(by rw [E 0 4 (by omega)]; exact a1), (by rw [E 0 4 (by omega)]; exact a2), (by rw [E 0 0 (by omega)]; exact a3), (by rw [E 0 0 (by omega)]; exact a4), (by rw [E 0 3 (by omega)]; exact a5), (by rw [E 0 3 (by omega)]; exact a6), (by rw [E 0 4 (by omega), E 0 1 (by omega), E 0 2 (by omega)]; exact a7), (fun b9 x0 x1 => by rw [E 1 b9 (by omega), E 2 b9 (by omega), E 3 b9 (by omega), E 4 b9 (by omega), E 5 b9 (by omega)]; exact a8 b9 x0 x1)⟩, (fun d9 x0 x1 => by rw [E 6 d9 (by omega)]; exact b1 d9 x0 x1), (by rw [mUp_eq]; exact v0), (by rw [mUp_eq]; exact v8), (by rw [mUp_eq, E 0 4 (by omega)]; exact fun q9 x0 x1 => by rw [E 7 q9 (by omega), E 8 q9 (by omega), E 9 q9 (by omega)]; exact hv q9 x0 x1), (fun k9 x0 x1 => by rw [E 10 k9 (by omega), E 11 k9 (by omega)]; exact ⟨(e1 k9 x0 x1).1, (e1 k9 x0 x1).2.1, (e1 k9 x0 x1).2.2.1, (e1 k9 x0 x1).2.2.2.1, fun i9 y0 y1 => by rw [E (12 + k9) i9 (by omega)]; exact (e1 k9 x0 x1).2.2.2.2 i9 y0 y1⟩)⟩
theorem kp_lane {τ : mS} (h : qW τ) {k v : Int} (v0 : -1 ≤ v) (v2 : v ≤ 2) : qW (mUp τ 10 k v) := by
  have E : ∀ a b9 : Int, ¬ (a = 10 ∧ b9 = k) → (mUp τ 10 k v) a b9 = τ a b9 := fun a b9 q => mUp_ne τ v (by omega)
  obtain ⟨⟨a1, a2, a3, a4, a5, a6, a7, a8⟩, b1, c1, c2, d1, e1⟩ := h
  exact ⟨⟨(by rw [E 0 4 (by omega)]; exact a1), (by rw [E 0 4 (by omega)]; exact a2), (by rw [E 0 0 (by omega)]; exact a3), (by rw [E 0 0 (by omega)]; exact a4), (by rw [E 0 3 (by omega)]; exact a5), (by rw [E 0 3 (by omega)]; exact a6), (by rw [E 0 4 (by omega), E 0 1 (by omega), E 0 2 (by omega)]; exact a7), (fun b9 x0 x1 => by rw [E 1 b9 (by omega), E 2 b9 (by omega), E 3 b9 (by omega), E 4 b9 (by omega), E 5 b9 (by omega)]; exact a8 b9 x0 x1)⟩, (fun d9 x0 x1 => by rw [E 6 d9 (by omega)]; exact b1 d9 x0 x1), (by rw [E 0 6 (by omega)]; exact c1), (by rw [E 0 6 (by omega)]; exact c2), (by rw [E 0 6 (by omega), E 0 4 (by omega)]; exact fun q9 x0 x1 => by rw [E 7 q9 (by omega), E 8 q9 (by omega), E 9 q9 (by omega)]; exact d1 q9 x0 x1), (fun k9 x0 x1 => by
    rw [E 11 k9 (by omega)]
    have g := e1 k9 x0 x1
    refine ⟨?_, ?_, g.2.2.1, g.2.2.2.1, fun i9 y0 y1 => by rw [E (12 + k9) i9 (by omega)]; exact g.2.2.2.2 i9 y0 y1⟩
    · by_cases z : k9 = k
      · rw [z, mUp_eq]; exact v0
      · rw [E 10 k9 (by omega)]; exact g.1
    · by_cases z : k9 = k
      · rw [z, mUp_eq]; exact v2
      · rw [E 10 k9 (by omega)]; exact g.2.1)⟩
theorem kp_len {τ : mS} (h : qW τ) {k v : Int} (v0 : 0 ≤ v) (v2 : v ≤ 60) : qW (mUp τ 11 k v) := by
  have E : ∀ a b9 : Int, ¬ (a = 11 ∧ b9 = k) → (mUp τ 11 k v) a b9 = τ a b9 := fun a b9 q => mUp_ne τ v (by omega)
  obtain ⟨⟨a1, a2, a3, a4, a5, a6, a7, a8⟩, b1, c1, c2, d1, e1⟩ := h
  exact ⟨⟨(by rw [E 0 4 (by omega)]; exact a1), (by rw [E 0 4 (by omega)]; exact a2), (by rw [E 0 0 (by omega)]; exact a3), (by rw [E 0 0 (by omega)]; exact a4), (by rw [E 0 3 (by omega)]; exact a5), (by rw [E 0 3 (by omega)]; exact a6), (by rw [E 0 4 (by omega), E 0 1 (by omega), E 0 2 (by omega)]; exact a7), (fun b9 x0 x1 => by rw [E 1 b9 (by omega), E 2 b9 (by omega), E 3 b9 (by omega), E 4 b9 (by omega), E 5 b9 (by omega)]; exact a8 b9 x0 x1)⟩, (fun d9 x0 x1 => by rw [E 6 d9 (by omega)]; exact b1 d9 x0 x1), (by rw [E 0 6 (by omega)]; exact c1), (by rw [E 0 6 (by omega)]; exact c2), (by rw [E 0 6 (by omega), E 0 4 (by omega)]; exact fun q9 x0 x1 => by rw [E 7 q9 (by omega), E 8 q9 (by omega), E 9 q9 (by omega)]; exact d1 q9 x0 x1), (fun k9 x0 x1 => by
    rw [E 10 k9 (by omega)]
    have g := e1 k9 x0 x1
    refine ⟨g.1, g.2.1, ?_, ?_, fun i9 y0 y1 => by rw [E (12 + k9) i9 (by omega)]; exact g.2.2.2.2 i9 y0 y1⟩
    · by_cases z : k9 = k
      · rw [z, mUp_eq]; exact v0
      · rw [E 11 k9 (by omega)]; exact g.2.2.1
    · by_cases z : k9 = k
      · rw [z, mUp_eq]; exact v2
      · rw [E 11 k9 (by omega)]; exact g.2.2.2.1)⟩
theorem kp_cell {τ : mS} (h : qW τ) {k i v : Int} (k0 : 0 ≤ k) (hv : i32 v) : qW (mUp τ (12 + k) i v) := by
  have E : ∀ a b9 : Int, ¬ (a = (12 + k) ∧ b9 = i) → (mUp τ (12 + k) i v) a b9 = τ a b9 := fun a b9 q => mUp_ne τ v (by omega)
  obtain ⟨⟨a1, a2, a3, a4, a5, a6, a7, a8⟩, b1, c1, c2, d1, e1⟩ := h
  exact ⟨⟨(by rw [E 0 4 (by omega)]; exact a1), (by rw [E 0 4 (by omega)]; exact a2), (by rw [E 0 0 (by omega)]; exact a3), (by rw [E 0 0 (by omega)]; exact a4), (by rw [E 0 3 (by omega)]; exact a5), (by rw [E 0 3 (by omega)]; exact a6), (by rw [E 0 4 (by omega), E 0 1 (by omega), E 0 2 (by omega)]; exact a7), (fun b9 x0 x1 => by rw [E 1 b9 (by omega), E 2 b9 (by omega), E 3 b9 (by omega), E 4 b9 (by omega), E 5 b9 (by omega)]; exact a8 b9 x0 x1)⟩, (fun d9 x0 x1 => by rw [E 6 d9 (by omega)]; exact b1 d9 x0 x1), (by rw [E 0 6 (by omega)]; exact c1), (by rw [E 0 6 (by omega)]; exact c2), (by rw [E 0 6 (by omega), E 0 4 (by omega)]; exact fun q9 x0 x1 => by rw [E 7 q9 (by omega), E 8 q9 (by omega), E 9 q9 (by omega)]; exact d1 q9 x0 x1), (fun k9 x0 x1 => by
    rw [E 10 k9 (by omega), E 11 k9 (by omega)]
    have g := e1 k9 x0 x1
    refine ⟨g.1, g.2.1, g.2.2.1, g.2.2.2.1, fun i9 y0 y1 => ?_⟩
    by_cases z : k9 = k ∧ i9 = i
    · rw [z.1, z.2, mUp_eq]; exact hv
    · rw [E (12 + k9) i9 (by omega)]; exact g.2.2.2.2 i9 y0 y1)⟩
theorem kp_zero {τ : mS} (h : qW τ) {k j : Int} (k0 : 0 ≤ k) : qW (qZr τ k j) := by
  have E : ∀ a b9 : Int, ¬ (a = 12 + k ∧ 0 ≤ b9 ∧ b9 < j) → (qZr τ k j) a b9 = τ a b9 := fun a b9 q => by unfold qZr; rw [if_neg q]
  obtain ⟨⟨a1, a2, a3, a4, a5, a6, a7, a8⟩, b1, c1, c2, d1, e1⟩ := h
  exact ⟨⟨(by rw [E 0 4 (by omega)]; exact a1), (by rw [E 0 4 (by omega)]; exact a2), (by rw [E 0 0 (by omega)]; exact a3), (by rw [E 0 0 (by omega)]; exact a4), (by rw [E 0 3 (by omega)]; exact a5), (by rw [E 0 3 (by omega)]; exact a6), (by rw [E 0 4 (by omega), E 0 1 (by omega), E 0 2 (by omega)]; exact a7), (fun b9 x0 x1 => by rw [E 1 b9 (by omega), E 2 b9 (by omega), E 3 b9 (by omega), E 4 b9 (by omega), E 5 b9 (by omega)]; exact a8 b9 x0 x1)⟩, (fun d9 x0 x1 => by rw [E 6 d9 (by omega)]; exact b1 d9 x0 x1), (by rw [E 0 6 (by omega)]; exact c1), (by rw [E 0 6 (by omega)]; exact c2), (by rw [E 0 6 (by omega), E 0 4 (by omega)]; exact fun q9 x0 x1 => by rw [E 7 q9 (by omega), E 8 q9 (by omega), E 9 q9 (by omega)]; exact d1 q9 x0 x1), (fun k9 x0 x1 => by
    rw [E 10 k9 (by omega), E 11 k9 (by omega)]
    have g := e1 k9 x0 x1
    refine ⟨g.1, g.2.1, g.2.2.1, g.2.2.2.1, fun i9 y0 y1 => ?_⟩
    by_cases z : 12 + k9 = 12 + k ∧ 0 ≤ i9 ∧ i9 < j
    · have z2 : qZr τ k j (12 + k9) i9 = 0 := by unfold qZr; rw [if_pos z]
      rw [z2]; exact ⟨by omega, by omega⟩
    · rw [E (12 + k9) i9 z]; exact g.2.2.2.2 i9 y0 y1)⟩
theorem kp_copy {τ : mS} (h : qW τ) {k i oo j lo hi : Int} (k0 : 0 ≤ k) (k1 : k < 4) (o0 : 0 ≤ oo) (hr : ∀ b9 : Int, lo ≤ b9 → b9 < hi → 0 ≤ i + (b9 - j) ∧ i + (b9 - j) < 60) : qW (qCr τ k i oo j lo hi) := by
  have E : ∀ a b9 : Int, ¬ (a = 12 + oo ∧ lo ≤ b9 ∧ b9 < hi) → (qCr τ k i oo j lo hi) a b9 = τ a b9 := fun a b9 q => by unfold qCr; rw [if_neg q]
  obtain ⟨⟨a1, a2, a3, a4, a5, a6, a7, a8⟩, b1, c1, c2, d1, e1⟩ := h
  exact ⟨⟨(by rw [E 0 4 (by omega)]; exact a1), (by rw [E 0 4 (by omega)]; exact a2), (by rw [E 0 0 (by omega)]; exact a3), (by rw [E 0 0 (by omega)]; exact a4), (by rw [E 0 3 (by omega)]; exact a5), (by rw [E 0 3 (by omega)]; exact a6), (by rw [E 0 4 (by omega), E 0 1 (by omega), E 0 2 (by omega)]; exact a7), (fun b9 x0 x1 => by rw [E 1 b9 (by omega), E 2 b9 (by omega), E 3 b9 (by omega), E 4 b9 (by omega), E 5 b9 (by omega)]; exact a8 b9 x0 x1)⟩, (fun d9 x0 x1 => by rw [E 6 d9 (by omega)]; exact b1 d9 x0 x1), (by rw [E 0 6 (by omega)]; exact c1), (by rw [E 0 6 (by omega)]; exact c2), (by rw [E 0 6 (by omega), E 0 4 (by omega)]; exact fun q9 x0 x1 => by rw [E 7 q9 (by omega), E 8 q9 (by omega), E 9 q9 (by omega)]; exact d1 q9 x0 x1), (fun k9 x0 x1 => by
    rw [E 10 k9 (by omega), E 11 k9 (by omega)]
    have g := e1 k9 x0 x1
    refine ⟨g.1, g.2.1, g.2.2.1, g.2.2.2.1, fun i9 y0 y1 => ?_⟩
    by_cases z : 12 + k9 = 12 + oo ∧ lo ≤ i9 ∧ i9 < hi
    · have z2 : qCr τ k i oo j lo hi (12 + k9) i9 = τ (12 + k) (i + (i9 - j)) := by unfold qCr; rw [if_pos z]
      rw [z2]
      have z3 := hr i9 z.2.1 z.2.2
      exact (e1 k k0 k1).2.2.2.2 _ z3.1 z3.2
    · rw [E (12 + k9) i9 z]; exact g.2.2.2.2 i9 y0 y1)⟩
theorem iB_32 (v : Int) : i32 (iB v) := i32_of _
theorem iH_32 (v : Int) : i32 (iH v) := i32_of _
theorem qCut_32 {l v : Int} (hv : i32 v) : i32 (qCut l v) := by
  unfold qCut
  split
  · exact iB_32 v
  · split
    · exact iH_32 v
    · exact hv
/-- what a text's code is, where it fits -/
theorem qGd_at {tx : Int → Int} {n p : Int} (h : qGd tx n) (p0 : 0 ≤ p) (p1 : p < n) (p49 : p < 49) (hk : ¬ (7 ≤ p ∧ p % 7 = 1)) : (p = 4 ∧ tx 3 = 54 ∧ tx 4 = 48) ∨ (qLo p ≤ tx p ∧ tx p ≤ qHi p) := by
  have g := h p p0 p1
  unfold qFt at g
  rw [if_neg (by omega), if_neg hk] at g
  by_cases z : p = 4 ∧ tx 3 = 54
  · rw [if_pos z] at g
    exact Or.inl ⟨z.1, z.2, of_decide_eq_true g⟩
  · rw [if_neg z] at g
    exact Or.inr (of_decide_eq_true g)
theorem qLo_b {b r : Int} (b0 : 0 ≤ b) (r0 : 2 ≤ r) (r6 : r ≤ 6) : qLo (7 * b + 7 + r) = (if r = 6 then 49 else 48) ∧ qHi (7 * b + 7 + r) = (if r = 4 ∨ r = 5 then 54 else 57) := by
  have e : (7 * b + 7 + r) % 7 = r % 7 := by omega
  have e2 : r % 7 = r := by omega
  unfold qLo qHi
  rw [e, e2]
  rcases (show r = 2 ∨ r = 3 ∨ r = 4 ∨ r = 5 ∨ r = 6 by omega) with q | q | q | q | q <;> subst q <;> refine ⟨?_, ?_⟩ <;> repeat' (first | rw [if_neg (by omega)] | rw [if_pos (by omega)])
theorem kp_found {τ : mS} {tx : Int → Int} {n j : Int} (h : qW τ) (hj1 : 1 ≤ j) (hj6 : j ≤ 6) (hn : n = 7 * j + 7) (hg : qGd tx n) : qW (qNc τ tx j) := by
  obtain ⟨⟨a1, a2, a3, a4, a5, a6, a7, a8⟩, b1, c1, c2, d1, e1⟩ := h
  have v0 : ∀ b : Int, qNc τ tx j 0 b = if b = 0 then 10 * (tx 1 - 48) + (tx 2 - 48) else if b = 1 then 10 * (tx 3 - 48) + (tx 4 - 48) else if b = 2 then tx 5 - 48 else if b = 3 then tx 6 - 48 else if b = 4 then j else if b = 5 then 0 else if b = 6 then 0 else τ 0 b := fun b => by unfold qNc; rw [if_pos rfl]
  have w0 : qNc τ tx j 0 0 = 10 * (tx 1 - 48) + (tx 2 - 48) := by rw [v0]; rfl
  have w1 : qNc τ tx j 0 1 = 10 * (tx 3 - 48) + (tx 4 - 48) := by rw [v0]; rfl
  have w2 : qNc τ tx j 0 2 = tx 5 - 48 := by rw [v0]; rfl
  have w3 : qNc τ tx j 0 3 = tx 6 - 48 := by rw [v0]; rfl
  have w4 : qNc τ tx j 0 4 = j := by rw [v0]; rfl
  have w6 : qNc τ tx j 0 6 = 0 := by rw [v0]; rfl
  have vb : ∀ a b : Int, 1 ≤ a → a ≤ 5 → 0 ≤ b → qNc τ tx j a b = if b < j then qBv tx b (a - 1) else τ a b := fun a b x0 x1 x2 => by
    unfold qNc
    rw [if_neg (by omega)]
    by_cases z : b < j
    · rw [if_pos (by omega), if_pos z]
    · rw [if_neg (by omega), if_neg z, if_neg (by omega)]
  have vo : ∀ a b : Int, 7 ≤ a → qNc τ tx j a b = τ a b := fun a b x0 => by
    unfold qNc
    rw [if_neg (by omega), if_neg (by omega), if_neg (by omega)]
  have l1 : qLo 1 = 48 := rfl
  have h1 : qHi 1 = 50 := rfl
  have l2 : qLo 2 = 48 := rfl
  have h2 : qHi 2 = 57 := rfl
  have l3 : qLo 3 = 50 := rfl
  have h3 : qHi 3 = 54 := rfl
  have l4 : qLo 4 = 48 := rfl
  have h4 : qHi 4 = 57 := rfl
  have l5 : qLo 5 = 49 := rfl
  have h5 : qHi 5 = 50 := rfl
  have l6 : qLo 6 = 48 := rfl
  have h6 : qHi 6 = 57 := rfl
  have g1 := qGd_at hg (p := 1) (by omega) (by omega) (by omega) (by omega)
  have g2 := qGd_at hg (p := 2) (by omega) (by omega) (by omega) (by omega)
  have g3 := qGd_at hg (p := 3) (by omega) (by omega) (by omega) (by omega)
  have g4 := qGd_at hg (p := 4) (by omega) (by omega) (by omega) (by omega)
  have g5 := qGd_at hg (p := 5) (by omega) (by omega) (by omega) (by omega)
  have g6 := qGd_at hg (p := 6) (by omega) (by omega) (by omega) (by omega)
  rw [l1, h1] at g1
  rw [l2, h2] at g2
  rw [l3, h3] at g3
  rw [l4, h4] at g4
  rw [l5, h5] at g5
  rw [l6, h6] at g6
  have hup : 20 ≤ 10 * (tx 3 - 48) + (tx 4 - 48) ∧ 10 * (tx 3 - 48) + (tx 4 - 48) ≤ 60 := by
    by_cases z : tx 3 = 54
    · have q := hg 4 (by omega) (by omega)
      unfold qFt at q
      rw [if_neg (by omega), if_neg (by omega), if_pos ⟨rfl, z⟩] at q
      have := of_decide_eq_true q
      omega
    · omega
  refine ⟨⟨?_, ?_, ?_, ?_, ?_, ?_, ?_, ?_⟩, ?_, ?_, ?_, ?_, ?_⟩
  · rw [w4]; omega
  · rw [w4]; omega
  · rw [w0]; omega
  · rw [w0]; omega
  · rw [w3]; omega
  · rw [w3]; omega
  · rw [w4, w1, w2]
    intro _
    refine ⟨hup.1, hup.2, ?_, ?_⟩ <;> omega
  · intro b x0 x1
    rw [vb 1 b (by omega) (by omega) x0, vb 2 b (by omega) (by omega) x0, vb 3 b (by omega) (by omega) x0, vb 4 b (by omega) (by omega) x0, vb 5 b (by omega) (by omega) x0]
    by_cases z : b < j
    · rw [if_pos z, if_pos z, if_pos z, if_pos z, if_pos z]
      have k0 : qBv tx b (1 - 1) = qKd (tx (7 * b + 8)) := rfl
      have k1 : qBv tx b (2 - 1) = 10 * (tx (7 * b + 9) - 48) + (tx (7 * b + 10) - 48) := rfl
      have k2 : qBv tx b (3 - 1) = tx (7 * b + 9 + 2) - 48 := rfl
      have k3 : qBv tx b (4 - 1) = tx (7 * b + 9 + 3) - 48 := rfl
      have k4 : qBv tx b (5 - 1) = tx (7 * b + 9 + 4) - 48 := rfl
      rw [k0, k1, k2, k3, k4]
      have f0 := hg (7 * b + 8) (by omega) (by omega)
      rw [qFt_k (by omega) ⟨by omega, by omega⟩] at f0
      have f2 := qGd_at hg (p := 7 * b + 9) (by omega) (by omega) (by omega) (by omega)
      have f3 := qGd_at hg (p := 7 * b + 10) (by omega) (by omega) (by omega) (by omega)
      have f4 := qGd_at hg (p := 7 * b + 9 + 2) (by omega) (by omega) (by omega) (by omega)
      have f5 := qGd_at hg (p := 7 * b + 9 + 3) (by omega) (by omega) (by omega) (by omega)
      have f6 := qGd_at hg (p := 7 * b + 9 + 4) (by omega) (by omega) (by omega) (by omega)
      have q2 := qLo_b x0 (r := 2) (by omega) (by omega)
      have q3 := qLo_b x0 (r := 3) (by omega) (by omega)
      have q4 := qLo_b x0 (r := 4) (by omega) (by omega)
      have q5 := qLo_b x0 (r := 5) (by omega) (by omega)
      have q6 := qLo_b x0 (r := 6) (by omega) (by omega)
      rw [show 7 * b + 7 + 2 = 7 * b + 9 by omega] at q2
      rw [show 7 * b + 7 + 3 = 7 * b + 10 by omega] at q3
      rw [show 7 * b + 7 + 4 = 7 * b + 9 + 2 by omega] at q4
      rw [show 7 * b + 7 + 5 = 7 * b + 9 + 3 by omega] at q5
      rw [show 7 * b + 7 + 6 = 7 * b + 9 + 4 by omega] at q6
      simp at q2 q3 q4 q5 q6
      rw [q2.1, q2.2] at f2
      rw [q3.1, q3.2] at f3
      rw [q4.1, q4.2] at f4
      rw [q5.1, q5.2] at f5
      rw [q6.1, q6.2] at f6
      have f7 : 0 ≤ qKd (tx (7 * b + 8)) ∧ qKd (tx (7 * b + 8)) ≤ 2 := by
        unfold qKd
        repeat' split
        all_goals omega
      omega
    · rw [if_neg z, if_neg z, if_neg z, if_neg z, if_neg z]
      exact a8 b x0 x1
  · intro d x0 x1
    refine Or.inl ?_
    unfold qNc
    rw [if_neg (by omega), if_neg (by omega), if_pos rfl]
  · rw [w6]; omega
  · rw [w6]; omega
  · rw [w6]
    intro q x0 x1
    omega
  · intro k x0 x1
    rw [vo 10 k (by omega), vo 11 k (by omega)]
    exact ⟨(e1 k x0 x1).1, (e1 k x0 x1).2.1, (e1 k x0 x1).2.2.1, (e1 k x0 x1).2.2.2.1, fun i y0 y1 => by rw [vo (12 + k) i (by omega)]; exact (e1 k x0 x1).2.2.2.2 i y0 y1⟩
theorem qTo_gd {tx : Int → Int} {n : Int} (h : qTo tx n) : qGd tx n := fun q q0 q1 => by
  have hf : fstN (fun p => !qFt tx p) n.toNat = n := h.1
  have g := (fstN_sp (fun p => !qFt tx p) n.toNat).2.2.1 q q0 (by rw [hf]; exact q1)
  simpa using g
theorem qTo_j {tx : Int → Int} {n : Int} (h : qTo tx n) : 1 ≤ n / 7 - 1 ∧ n / 7 - 1 ≤ 6 ∧ n = 7 * (n / 7 - 1) + 7 := by
  have h14 := h.2.1
  have h7 := h.2.2
  have h49 : n ≤ 49 := by
    refine Decidable.byContradiction fun z => ?_
    have h8 := qTo_gd h 49 (by omega) (by omega)
    have h9 : qFt tx 49 = false := rfl
    rw [h9] at h8
    cases h8
  omega
theorem kw_fault {τ : mS} (h : qW τ) (v : Int) : qW (mUp τ 0 8 v) := qW_up0 h v (by omega)
theorem kw_council {τ : mS} (h : qW τ) (k l i n : Int) : qW (ns_council τ k l i n) := by
  unfold ns_council
  split
  · exact kw_fault h _
  · split
    · exact kw_fault h _
    · split
      · exact kw_fault h _
      · split
        · rename_i z
          have g := qTo_j z
          exact kp_found (kw_fault h _) g.1 g.2.1 g.2.2 (qTo_gd z)
        · exact kw_fault h _
theorem kw_span {τ : mS} (h : qW τ) (v : Int) : qW (ns_span τ v) := by
  unfold ns_span
  split
  · exact h
  · split
    · exact h
    · exact kp_span h (by omega) (by omega)
theorem kw_move {τ : mS} (h : qW τ) (b d : Int) : qW (ns_move τ b d) := by
  unfold ns_move
  split
  · exact h
  · split
    · exact h
    · exact kp_day h (by omega) (by omega)
theorem kw_cloud {τ : mS} (h : qW τ) (d : Int) {i : Int} (hi : i = 0 ∨ i = 1) : qW (ns_cloud τ d i) := by
  unfold ns_cloud
  split
  · exact h
  · split
    · exact h
    · exact qW_up0 (kp_night h hi) _ (by omega)
theorem kw_tell {τ : mS} (h : qW τ) (b : Int) : qW (ns_tell τ b) := by
  unfold ns_tell
  split
  · exact h
  · exact qW_up0 h _ (by omega)
theorem kw_seal {τ : mS} (h : qW τ) (b : Int) : qW (ns_seal τ b) := by
  unfold ns_seal
  split
  · exact h
  · exact qW_up0 h _ (by omega)
theorem kw_as {τ : mS} (h : qW τ) (b k : Int) : qW (ns_as τ b k) := kw_fault h _
theorem kw_reading {τ : mS} (h : qW τ) (b d : Int) {i : Int} (hi : i = 0 ∨ i = 1) : qW (ns_reading τ b d i) := by
  unfold ns_reading
  split
  · exact h
  · split
    · exact h
    · split
      · exact h
      · rename_i x0 x1 x2
        have hr := h.2.2
        have h7 : qW (mUp τ 7 (τ 0 6) b) := kp_r7 h (Int.le_refl _)
        have e7 : mUp τ 7 (τ 0 6) b 0 6 = τ 0 6 := mUp_ne _ _ (by omega)
        have h8 : qW (mUp (mUp τ 7 (τ 0 6) b) 8 (τ 0 6) d) := kp_r8 h7 (by rw [e7]; exact Int.le_refl _)
        have e8 : mUp (mUp τ 7 (τ 0 6) b) 8 (τ 0 6) d 0 6 = τ 0 6 := by rw [mUp_ne _ _ (by omega)]; exact e7
        have h9 : qW (mUp (mUp (mUp τ 7 (τ 0 6) b) 8 (τ 0 6) d) 9 (τ 0 6) i) := kp_r9 h8 (by rw [e8]; exact Int.le_refl _)
        have e9 : mUp (mUp (mUp τ 7 (τ 0 6) b) 8 (τ 0 6) d) 9 (τ 0 6) i 0 6 = τ 0 6 := by rw [mUp_ne _ _ (by omega)]; exact e8
        refine kp_cnt h9 (by omega) (by omega) (fun q q0 q1 => ?_)
        by_cases z : q = τ 0 6
        · subst z
          rw [mUp_eq, mUp_ne _ _ (show (8 : Int) ≠ 9 ∨ τ 0 6 ≠ τ 0 6 by omega), mUp_eq, mUp_ne _ _ (show (7 : Int) ≠ 9 ∨ τ 0 6 ≠ τ 0 6 by omega), mUp_ne _ _ (show (7 : Int) ≠ 8 ∨ τ 0 6 ≠ τ 0 6 by omega), mUp_eq, mUp_ne _ _ (show (0 : Int) ≠ 9 ∨ (4 : Int) ≠ τ 0 6 by omega), mUp_ne _ _ (show (0 : Int) ≠ 8 ∨ (4 : Int) ≠ τ 0 6 by omega), mUp_ne _ _ (show (0 : Int) ≠ 7 ∨ (4 : Int) ≠ τ 0 6 by omega)]
          omega
        · have g := h9.2.2.2.2.1 q q0 (by rw [e9]; omega)
          exact g
theorem kw_back {τ : mS} (h : qW τ) (k : Int) : qW (ns_back τ k) := by
  unfold ns_back
  have hr := h.2.2
  split
  · exact h
  · exact kp_cnt h (by omega) (by omega) (fun q q0 q1 => h.2.2.2.2.1 q q0 (by omega))
theorem kw_sheet {τ : mS} (h : qW τ) (k l n : Int) : qW (ns_sheet τ k l n) := by
  unfold ns_sheet
  split
  · exact kw_fault h _
  · split
    · exact kw_fault h _
    · split
      · exact kw_fault h _
      · exact kp_zero (kp_len (kp_lane (kw_fault h _) (by omega) (by omega)) (by omega) (by omega)) (by omega)
theorem kw_lose {τ : mS} (h : qW τ) (k : Int) : qW (ns_lose τ k) := by
  unfold ns_lose
  split
  · exact h
  · exact kp_len (kp_lane h (by omega) (by omega)) (by omega) (by omega)
theorem kw_put {τ : mS} (h : qW τ) (k i : Int) {v : Int} (hv : i32 v) : qW (ns_put τ k i v) := by
  unfold ns_put
  split
  · exact kw_fault h _
  · split
    · exact kw_fault h _
    · exact kp_cell (kw_fault h _) (by omega) (qCut_32 hv)
theorem kw_cell {τ : mS} (h : qW τ) (k i l : Int) : qW (ns_cell τ k i l) := by
  unfold ns_cell
  split
  · exact kw_fault h _
  · exact kw_fault h _
theorem kw_chron {τ : mS} (h : qW τ) (k l i n : Int) : qW (ns_chron τ k l i n) := by
  unfold ns_chron
  split
  · exact kw_fault h _
  · split
    · exact kw_fault h _
    · exact kw_fault h _
theorem kw_copy {τ : mS} (h : qW τ) (k i oo j n : Int) : qW (ns_copy τ k i oo j n) := by
  unfold ns_copy
  split
  · exact kw_fault h _
  · split
    · exact kw_fault h _
    · rename_i z1 z2
      have hk := h.2.2.2.2.2 k (by omega) (by omega)
      have hoo := h.2.2.2.2.2 oo (by omega) (by omega)
      have z3 : qCy τ k i oo j n = 0 := Decidable.byContradiction z2
      unfold qCy at z3
      split at z3
      · omega
      · split at z3
        · omega
        · split at z3
          · omega
          · exact kp_copy (kw_fault h _) (by omega) (by omega) (by omega) (fun b9 x0 x1 => by omega)
