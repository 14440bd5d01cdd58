/-! ===== fresh objects, as worlds of numbers ===== -/
def zX : mS := fun k j => if 16 ≤ k ∧ k < 20 ∧ j = 1 then -1 else 0
def zM : mS := fun k j => if k = 1 then -9 else if k = 0 ∧ j = 19 then -9 else 0
def zT : mS := fun a b => if a = 10 ∧ 0 ≤ b ∧ b < 4 then -1 else 0
theorem zX_view : vX zX = zT := by
  funext a b
  by_cases g : xV a b
  · rw [vX_at _ g]
    rcases g with ⟨h1, h2, h3⟩ | ⟨h1, h2, h3, h4⟩ | ⟨h1, h2, h3⟩ | ⟨h1, h2, h3, h4⟩ | ⟨h1, h2, h3, h4⟩ | ⟨h1, h2, h3, h4⟩
    · subst h1
      rcases (show b = 0 ∨ b = 1 ∨ b = 2 ∨ b = 3 ∨ b = 4 ∨ b = 5 ∨ b = 6 ∨ b = 7 ∨ b = 8 by omega) with q | q | q | q | q | q | q | q | q <;> subst q <;> decide
    · rw [(xC_b h1 h2).1, (xC_b h1 h2).2]
      unfold zX zT
      rw [if_neg (by omega), if_neg (by omega)]
    · subst h1
      have e1 : xC 6 b = 3 := rfl
      rw [e1]
      unfold zX zT
      rw [if_neg (by omega), if_neg (by omega)]
    · rw [(xC_r h1 h2).1, (xC_r h1 h2).2]
      unfold zX zT
      rw [if_neg (by omega), if_neg (by omega)]
    · rw [(xC_s h1 h2).1, (xC_s h1 h2).2]
      unfold zX zT
      by_cases e : a = 10
      · rw [if_pos (by omega), if_pos (by omega)]
      · rw [if_neg (by omega), if_neg (by omega)]
    · rw [(xC_c h1).1, (xC_c h1).2]
      unfold zX zT
      rw [if_neg (by omega), if_neg (by omega)]
  · unfold vX zT
    rw [if_neg g, if_neg (by omega)]
theorem zM_0 {k j : Int} (h : ¬ k = 1) (h2 : ¬ (k = 0 ∧ j = 19)) : zM k j = 0 := by
  unfold zM
  rw [if_neg h, if_neg h2]
theorem zT_at {a b : Int} (h : ¬ a = 10) : zT a b = 0 := by
  unfold zT
  rw [if_neg (by omega)]
theorem zM_view : vM zM = zT := by
  funext a b
  have z1 : zM 1 b = -9 := rfl
  unfold vM
  rw [zM_0 (k := 0) (j := 5) (by omega) (by omega), zM_0 (k := 0) (j := 6) (by omega) (by omega), zM_0 (k := 0) (j := 7) (by omega) (by omega), zM_0 (k := 0) (j := 8) (by omega) (by omega), zM_0 (k := 0) (j := 9) (by omega) (by omega), zM_0 (k := 0) (j := 15) (by omega) (by omega), zM_0 (k := 0) (j := 30) (by omega) (by omega), zM_0 (k := 0) (j := 0) (by omega) (by omega), zM_0 (k := 9) (j := b) (by omega) (by omega), zM_0 (k := 3) (by omega) (by omega), z1, if_pos rfl, if_pos rfl]
  have z7 : zM 0 1 = 0 := rfl
  rw [z7]
  by_cases a0 : a = 0
  · rw [if_pos a0, zT_at (by omega)]
    repeat' split
    all_goals rfl
  · rw [if_neg a0]
    by_cases a1 : a < 0
    · rw [if_pos a1, zT_at (by omega)]
    · rw [if_neg a1]
      by_cases a2 : a < 6
      · rw [if_pos a2, zM_0 (by omega) (by omega), zT_at (by omega)]
        split <;> rfl
      · rw [if_neg a2]
        by_cases a3 : a = 6
        · rw [if_pos a3, zT_at (by omega)]
          split <;> rfl
        · rw [if_neg a3]
          by_cases a4 : a < 10
          · rw [if_pos a4, zM_0 (by omega) (by omega), zT_at (by omega)]
            split <;> rfl
          · rw [if_neg a4]
            by_cases a5 : a = 10
            · rw [if_pos a5]
              unfold zT
              by_cases hb : 0 ≤ b ∧ b < 4
              · rw [if_pos hb, if_pos ⟨a5, hb⟩]
              · rw [if_neg hb, if_neg (fun z => hb z.2)]
            · rw [if_neg a5, zT_at a5]
              repeat' split
              all_goals rfl
theorem zT_ok : qW zT := by
  refine ⟨⟨?_, ?_, ?_, ?_, ?_, ?_, ?_, ?_⟩, ?_, ?_, ?_, ?_, ?_⟩
  · rw [zT_at (by omega)]; omega
  · rw [zT_at (by omega)]; omega
  · rw [zT_at (by omega)]; omega
  · rw [zT_at (by omega)]; omega
  · rw [zT_at (by omega)]; omega
  · rw [zT_at (by omega)]; omega
  · rw [zT_at (by omega)]; intro h; omega
  · intro b b0 b1
    rw [zT_at (a := 1) (by omega), zT_at (a := 2) (by omega), zT_at (a := 3) (by omega), zT_at (a := 4) (by omega), zT_at (a := 5) (by omega)]
    omega
  · intro d d0 d1
    exact Or.inl (zT_at (by omega))
  · rw [zT_at (by omega)]; omega
  · rw [zT_at (by omega)]; omega
  · intro q q0 q1
    rw [zT_at (by omega)] at q1
    omega
  · intro k k0 k1
    have e : zT 10 k = -1 := by unfold zT; rw [if_pos (by omega)]
    rw [e, zT_at (a := 11) (by omega)]
    exact ⟨by omega, by omega, by omega, by omega, fun i i0 i1 => by rw [zT_at (by omega)]; exact ⟨by omega, by omega⟩⟩
theorem zM_end : mEnd zT zM := ⟨zM_view, ⟨rfl, rfl, rfl⟩, fun k k0 k1 => ⟨Or.inl rfl, by rw [zM_0 (by omega) (by omega)]; omega, by rw [zM_0 (by omega) (by omega)]; omega⟩⟩
/-! the cells -/
theorem arrV_eq {c : ClassId} {n : Nat} {f g : Nat → Value} (h : ∀ j, j < n → f j = g j) : arrV c n f = arrV c n g := by
  unfold arrV
  congr 2
  funext j
  exact h j.val j.isLt
def sameE (e e' : va_E) : Prop := e = e' ∨ (∃ (cA : ClassId) (n : Nat) (f g : Nat → Int32), e = .inl (cA, n, .inl f) ∧ e' = .inl (cA, n, .inl g) ∧ ∀ j, j < n → f j = g j) ∨ ∃ (cA : ClassId) (n : Nat) (f g : Nat → Option Nat), e = .inl (cA, n, .inr (.inr (.inr (.inr f)))) ∧ e' = .inl (cA, n, .inr (.inr (.inr (.inr g)))) ∧ ∀ j, j < n → f j = g j
theorem at_same {D : va_G} {a : Nat} {e e' : va_E} {H : Heap} (h : va_at D vwCl (a, e) H) (hs : sameE e e') : va_at D vwCl (a, e') H := by
  rcases hs with rfl | ⟨cA, n, f, g, rfl, rfl, hj⟩ | ⟨cA, n, f, g, rfl, rfl, hj⟩
  · exact h
  · have e9 : vp_cell cA (n, .inl g) = vp_cell cA (n, .inl f) := by
      show arrV cA n (fun j => .int (g j)) = arrV cA n (fun j => .int (f j))
      exact arrV_eq (fun j h9 => by rw [hj j h9])
    show H[a]? = some (vp_cell cA (n, .inl g))
    rw [e9]
    exact h
  · have e9 : vp_cell cA (n, .inr (.inr (.inr (.inr g)))) = vp_cell cA (n, .inr (.inr (.inr (.inr f)))) := by
      show arrV cA n (fun j => va_rf (g j)) = arrV cA n (fun j => va_rf (f j))
      exact arrV_eq (fun j h9 => by rw [hj j h9])
    show H[a]? = some (vp_cell cA (n, .inr (.inr (.inr (.inr g)))))
    rw [e9]
    exact h
theorem toW {D : va_G} {ws : va_W} {H : Heap} {A : Nat → Prop} {N : Nat} {ad : Int → Nat} {E : Int → va_E} (hg : ∀ k : Nat, k < N → ∃ e : va_E, ws[k]? = some (ad (k : Int), e) ∧ sameE e (E (k : Int))) (hP : va_P D vwCl ws H) (hD : va_D A ws) : va_P D vwCl (mWd N ad E) H ∧ (∀ i j : Int, 0 ≤ i → i < (N : Int) → 0 ≤ j → j < (N : Int) → ad i = ad j → i = j) ∧ ∀ k : Int, 0 ≤ k → k < (N : Int) → A (ad k) := by
  have hg2 : ∀ i : Int, 0 ≤ i → i < (N : Int) → ∃ e : va_E, ws[i.toNat]? = some (ad i, e) := fun i i0 i1 => by
    obtain ⟨e, he, -⟩ := hg i.toNat (by omega)
    rw [Int.toNat_of_nonneg i0] at he
    exact ⟨e, he⟩
  refine ⟨fun k q hk => ?_, fun i j i0 i1 j0 j1 e => ?_, fun k k0 k1 => ?_⟩
  · obtain ⟨h1, rfl⟩ := mWd_at hk
    obtain ⟨e, he, hs⟩ := hg k h1
    exact at_same (hP k _ he) hs
  · obtain ⟨e1, h1⟩ := hg2 i i0 i1
    obtain ⟨e2, h2⟩ := hg2 j j0 j1
    have := hD.1 _ _ _ _ h1 h2 e
    omega
  · obtain ⟨e1, h1⟩ := hg2 k k0 k1
    exact hD.2 _ _ h1
def adL (sd : Int → Nat) (L : List Nat) : Int → Nat := fun k => if 0 ≤ k then L.getD k.toNat 0 else sd k
set_option maxRecDepth 100000 in
set_option maxHeartbeats 4000000 in
theorem zX_cells (cs : mC) (sd : Int → Nat) (a u1 u2 u3 u4 u5 u6 u7 u8 u9 u10 u11 u12 u13 u14 u15 u16 u17 u18 u19 u20 u21 u22 u23 : Nat) : ∀ k : Nat, k < 24 → ∃ e : va_E, ([(a, .inr (5, [.ref u1, .ref u11, .ref u15, mI 0, mI 0])), (u1, .inr (1, [.ref u2, .ref u4, mI 0, mI 0, mI 0])), (u2, .inr (4, [.ref u3, mI 0, mI 0, mI 0, mI 0])), (u3, .inl (cs.2.1, 110, .inl (fun _ => 0))), (u4, .inl (cs.2.2.1, 6, .inr (.inr (.inr (.inr (va_up (va_up (va_up (va_up (va_up (va_up (fun _ => none) 0 (some u5)) 1 (some u6)) 2 (some u7)) 3 (some u8)) 4 (some u9)) 5 (some u10))))))), (u5, .inr (0, [mI 0, mI 0, mI 0, mI 0, mI 0, mI 0])), (u6, .inr (0, [mI 0, mI 0, mI 0, mI 0, mI 0, mI 0])), (u7, .inr (0, [mI 0, mI 0, mI 0, mI 0, mI 0, mI 0])), (u8, .inr (0, [mI 0, mI 0, mI 0, mI 0, mI 0, mI 0])), (u9, .inr (0, [mI 0, mI 0, mI 0, mI 0, mI 0, mI 0])), (u10, .inr (0, [mI 0, mI 0, mI 0, mI 0, mI 0, mI 0])), (u11, .inr (2, [.ref u12, .ref u13, .ref u14, mI 0])), (u12, .inl (cs.1, 8, .inl (fun _ => 0))), (u13, .inl (cs.1, 8, .inl (fun _ => 0))), (u14, .inl (cs.2.1, 8, .inl (fun _ => 0))), (u15, .inl (cs.2.2.2, 4, .inr (.inr (.inr (.inr (va_up (va_up (va_up (va_up (fun _ => none) 0 (some u16)) 1 (some u17)) 2 (some u18)) 3 (some u19))))))), (u16, .inr (3, [.ref u20, mI (-1), mI 0])), (u17, .inr (3, [.ref u21, mI (-1), mI 0])), (u18, .inr (3, [.ref u22, mI (-1), mI 0])), (u19, .inr (3, [.ref u23, mI (-1), mI 0])), (u20, .inl (cs.1, 60, .inl (fun _ => 0))), (u21, .inl (cs.1, 60, .inl (fun _ => 0))), (u22, .inl (cs.1, 60, .inl (fun _ => 0))), (u23, .inl (cs.1, 60, .inl (fun _ => 0)))] : va_W)[k]? = some (adL sd [a, u1, u2, u3, u4, u5, u6, u7, u8, u9, u10, u11, u12, u13, u14, u15, u16, u17, u18, u19, u20, u21, u22, u23] (k : Int), e) ∧ sameE e (EX cs (adL sd [a, u1, u2, u3, u4, u5, u6, u7, u8, u9, u10, u11, u12, u13, u14, u15, u16, u17, u18, u19, u20, u21, u22, u23]) zX (k : Int)) := by
  intro k hk
  rcases (show k = 0 ∨ k = 1 ∨ k = 2 ∨ k = 3 ∨ k = 4 ∨ k = 5 ∨ k = 6 ∨ k = 7 ∨ k = 8 ∨ k = 9 ∨ k = 10 ∨ k = 11 ∨ k = 12 ∨ k = 13 ∨ k = 14 ∨ k = 15 ∨ k = 16 ∨ k = 17 ∨ k = 18 ∨ k = 19 ∨ k = 20 ∨ k = 21 ∨ k = 22 ∨ k = 23 by omega) with rfl | rfl | rfl | rfl | rfl | rfl | rfl | rfl | rfl | rfl | rfl | rfl | rfl | rfl | rfl | rfl | rfl | rfl | rfl | rfl | rfl | rfl | rfl | rfl
  · exact ⟨_, rfl, Or.inl rfl⟩
  · exact ⟨_, rfl, Or.inl rfl⟩
  · exact ⟨_, rfl, Or.inl rfl⟩
  · exact ⟨_, rfl, Or.inl rfl⟩
  · exact ⟨_, rfl, Or.inr (Or.inr ⟨_, _, _, _, rfl, rfl, fun j hj => by rcases (show j = 0 ∨ j = 1 ∨ j = 2 ∨ j = 3 ∨ j = 4 ∨ j = 5 by omega) with rfl | rfl | rfl | rfl | rfl | rfl <;> rfl⟩)⟩
  · exact ⟨_, rfl, Or.inl rfl⟩
  · exact ⟨_, rfl, Or.inl rfl⟩
  · exact ⟨_, rfl, Or.inl rfl⟩
  · exact ⟨_, rfl, Or.inl rfl⟩
  · exact ⟨_, rfl, Or.inl rfl⟩
  · exact ⟨_, rfl, Or.inl rfl⟩
  · exact ⟨_, rfl, Or.inl rfl⟩
  · exact ⟨_, rfl, Or.inl rfl⟩
  · exact ⟨_, rfl, Or.inl rfl⟩
  · exact ⟨_, rfl, Or.inl rfl⟩
  · exact ⟨_, rfl, Or.inr (Or.inr ⟨_, _, _, _, rfl, rfl, fun j hj => by rcases (show j = 0 ∨ j = 1 ∨ j = 2 ∨ j = 3 by omega) with rfl | rfl | rfl | rfl <;> rfl⟩)⟩
  · exact ⟨_, rfl, Or.inl rfl⟩
  · exact ⟨_, rfl, Or.inl rfl⟩
  · exact ⟨_, rfl, Or.inl rfl⟩
  · exact ⟨_, rfl, Or.inl rfl⟩
  · exact ⟨_, rfl, Or.inl rfl⟩
  · exact ⟨_, rfl, Or.inl rfl⟩
  · exact ⟨_, rfl, Or.inl rfl⟩
  · exact ⟨_, rfl, Or.inl rfl⟩
set_option maxRecDepth 100000 in
set_option maxHeartbeats 4000000 in
theorem zM_cells (cs : mC) (sd : Int → Nat) (a u1 u2 u3 u4 u5 u6 u7 u8 u9 u10 u11 u12 u13 u14 u15 u16 : Nat) : ∀ k : Nat, k < 17 → ∃ e : va_E, ([(a, .inr (6, [mI 0, mI 0, .ref u1, .ref u2, .ref u3, mI 0, mI 0, mI 0, mI 0, mI 0, .ref u4, .ref u5, .ref u6, .ref u7, .ref u8, mI 0, .ref u9, mI 0, mI 0, mI (-9), mI 0, mI 0, mI 0, mI 0, mI 0, mI 0, .ref u10, .ref u11, .ref u12, .ref u13, mI 0, .ref u14, .ref u15, .ref u16])), (u1, .inl (cs.1, 4, .inl (upd (upd (upd (upd (fun _ => 0) 0 (Int32.ofInt (-9))) 1 (Int32.ofInt (-9))) 2 (Int32.ofInt (-9))) 3 (Int32.ofInt (-9))))), (u2, .inl (cs.1, 4, .inl (fun _ => 0))), (u3, .inl (cs.1, 240, .inl (fun _ => 0))), (u4, .inl (cs.1, 6, .inl (fun _ => 0))), (u5, .inl (cs.1, 6, .inl (fun _ => 0))), (u6, .inl (cs.1, 6, .inl (fun _ => 0))), (u7, .inl (cs.1, 6, .inl (fun _ => 0))), (u8, .inl (cs.1, 6, .inl (fun _ => 0))), (u9, .inl (cs.2.1, 110, .inl (fun _ => 0))), (u10, .inl (cs.1, 30, .inl (fun _ => 0))), (u11, .inl (cs.1, 6, .inl (fun _ => 0))), (u12, .inl (cs.2.1, 6, .inl (fun _ => 0))), (u13, .inl (cs.2.1, 6, .inl (fun _ => 0))), (u14, .inl (cs.1, 8, .inl (fun _ => 0))), (u15, .inl (cs.1, 8, .inl (fun _ => 0))), (u16, .inl (cs.2.1, 8, .inl (fun _ => 0)))] : va_W)[k]? = some (adL sd [a, u1, u2, u3, u4, u5, u6, u7, u8, u9, u10, u11, u12, u13, u14, u15, u16] (k : Int), e) ∧ sameE e (EM cs (adL sd [a, u1, u2, u3, u4, u5, u6, u7, u8, u9, u10, u11, u12, u13, u14, u15, u16]) zM (k : Int)) := by
  intro k hk
  rcases (show k = 0 ∨ k = 1 ∨ k = 2 ∨ k = 3 ∨ k = 4 ∨ k = 5 ∨ k = 6 ∨ k = 7 ∨ k = 8 ∨ k = 9 ∨ k = 10 ∨ k = 11 ∨ k = 12 ∨ k = 13 ∨ k = 14 ∨ k = 15 ∨ k = 16 by omega) with rfl | rfl | rfl | rfl | rfl | rfl | rfl | rfl | rfl | rfl | rfl | rfl | rfl | rfl | rfl | rfl | rfl
  · exact ⟨_, rfl, Or.inl rfl⟩
  · exact ⟨_, rfl, Or.inr (Or.inl ⟨_, _, _, _, rfl, rfl, fun j hj => by rcases (show j = 0 ∨ j = 1 ∨ j = 2 ∨ j = 3 by omega) with rfl | rfl | rfl | rfl <;> rfl⟩)⟩
  · exact ⟨_, rfl, Or.inl rfl⟩
  · exact ⟨_, rfl, Or.inl rfl⟩
  · exact ⟨_, rfl, Or.inl rfl⟩
  · exact ⟨_, rfl, Or.inl rfl⟩
  · exact ⟨_, rfl, Or.inl rfl⟩
  · exact ⟨_, rfl, Or.inl rfl⟩
  · exact ⟨_, rfl, Or.inl rfl⟩
  · exact ⟨_, rfl, Or.inl rfl⟩
  · exact ⟨_, rfl, Or.inl rfl⟩
  · exact ⟨_, rfl, Or.inl rfl⟩
  · exact ⟨_, rfl, Or.inl rfl⟩
  · exact ⟨_, rfl, Or.inl rfl⟩
  · exact ⟨_, rfl, Or.inl rfl⟩
  · exact ⟨_, rfl, Or.inl rfl⟩
  · exact ⟨_, rfl, Or.inl rfl⟩
