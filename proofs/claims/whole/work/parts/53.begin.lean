theorem nt_X7 : Cond.instantiable RX7 5 ∈ gT := tb_of 19 (by decide +kernel) (by decide +kernel)
theorem nt_X8 : Cond.instantiable RX8 34 ∈ gT := tb_of 603 (by decide +kernel) (by decide +kernel)
theorem cl_RL_7 : Cond.classLink RL 7 RX7 ∈ gT := tb_of 18 (by decide +kernel) (by decide +kernel)
theorem cl_RL_10 : Cond.classLink RL 10 RX8 ∈ gT := tb_of 602 (by decide +kernel) (by decide +kernel)
theorem li_RL_9 : nLi RL 9 M_X7_init := ⟨Or.inl (tb_of 20 (by decide +kernel) (by decide +kernel)), im_X7_init, ini_RX7, co_X7_init, ⟨by decide +kernel, by decide +kernel, by decide +kernel⟩, by decide, rfl, rfl⟩
theorem li_RL_12 : nLi RL 12 M_X8_init := ⟨Or.inl (tb_of 604 (by decide +kernel) (by decide +kernel)), im_X8_init, ini_RX8, co_X8_init, ⟨by decide +kernel, by decide +kernel, by decide +kernel⟩, by decide, rfl, rfl⟩
abbrev ML : mM := (yL_law, code, 4, some .boolean)
theorem va_nd_range : ∀ l : List Nat, l.Nodup → va_nd l = true
  | [], _ => rfl
  | a :: l, h => by
    have h1 := List.nodup_cons.mp h
    unfold va_nd
    rw [va_nd_range l h1.2]
    simp [h1.1]
theorem map_pre {α : Type} (w1 w2 : List α) : (List.range w1.length).map (fun i => (w1 ++ w2)[i]?) = w1.map some := by
  apply List.ext_getElem?
  intro i
  by_cases h : i < w1.length
  · rw [List.getElem?_map, List.getElem?_range h, List.getElem?_map]
    show some ((w1 ++ w2)[i]?) = _
    rw [List.getElem?_append_left h, List.getElem?_eq_getElem h]
    rfl
  · rw [List.getElem?_eq_none (by simp; omega), List.getElem?_eq_none (by simp; omega)]
theorem n_last {x : kX} {l : Launch} {μ : mM} {R : Room} {D : va_G} {cs : mC} {A : Nat → Prop} {pc : Nat} {lv : List (Nat × Value)} {st : List Value} {C S : Nat} (h : nOk x l μ R D cs A) {ν : mM} {k mc ms idx b : Nat} {wr : va_W} {e : va_E} {post : va_W → Prop} (hC : NV l D cs ν k mc ms [.ref b] [(b, e)] post) (hL : nLi μ.1.cls idx ν) (hf : k + 1 ≤ R.frames) (hlo : 8 + (20 + 11) + 40 * k ≤ R.locals) (hc : C + mc ≤ R.cells) (hs : S + ms ≤ R.slots) (hd : decode μ.2.1 pc = .ok (.invokespecial idx, 3)) (hw9 : (st.map fun v => v.category).sum ≤ 8) (kk : ∀ w1 : va_W, post w1 → kG x (pc + 3) lv st (nWd D A x.1.2.2.2.2 (wr ++ w1)) (C + mc) (S + ms)) : kG x pc lv (.ref b :: st) (nWd D A x.1.2.2.2.2 (wr ++ [(b, e)])) C S :=
  n_call h (wr := wr) hC hL hf hlo hc hs [wr.length] (List.range wr.length) (by simp) (by simp) (map_pre wr _) (by simp [va_nd]) (va_nd_range _ List.nodup_range) (fun i hi => by have := List.mem_range.mp hi; simp; omega) hd hw9 kk
theorem va_ap {A : Nat → Prop} {w1 w2 : va_W} (h : va_D A (w1 ++ w2)) : va_D A w1 ∧ va_D A w2 ∧ ∀ (i j : Nat) (p q : Nat × va_E), w1[i]? = some p → w2[j]? = some q → p.1 ≠ q.1 := by
  have L : ∀ (i : Nat) (p : Nat × va_E), w1[i]? = some p → (w1 ++ w2)[i]? = some p := fun i p h9 => by rw [List.getElem?_append_left (List.getElem?_eq_some_iff.mp h9).1]; exact h9
  have Q : ∀ (j : Nat) (q : Nat × va_E), w2[j]? = some q → (w1 ++ w2)[w1.length + j]? = some q := fun j q h9 => by rw [List.getElem?_append_right (Nat.le_add_right _ _), Nat.add_sub_cancel_left]; exact h9
  refine ⟨⟨fun i j p q hi hj e => h.1 i j p q (L i p hi) (L j q hj) e, fun k q hk => h.2 k q (L k q hk)⟩, ⟨fun i j p q hi hj e => ?_, fun k q hk => h.2 _ q (Q k q hk)⟩, fun i j p q hi hj e => ?_⟩
  · have := h.1 _ _ p q (Q i p hi) (Q j q hj) e
    omega
  · have h1 := h.1 _ _ p q (L i p hi) (Q j q hj) e
    have h2 := (List.getElem?_eq_some_iff.mp hi).1
    omega
theorem va_pp {D : va_G} {w1 w2 : va_W} {H : Heap} (h : va_P D vwCl (w1 ++ w2) H) : va_P D vwCl w1 H ∧ va_P D vwCl w2 H :=
  ⟨fun k q hk => h k q (by rw [List.getElem?_append_left (List.getElem?_eq_some_iff.mp hk).1]; exact hk), fun k q hk => h (w1.length + k) q (by rw [List.getElem?_append_right (Nat.le_add_right _ _), Nat.add_sub_cancel_left]; exact hk)⟩
theorem k_pure {x : kX} {pc : Nat} {lv : List (Nat × Value)} {st : List Value} {I : Heap → List Loc → Prop} {C S : Nat} {Z : Prop} (h : ∀ H locs, I H locs → Z) (k : Z → kG x pc lv st I C S) : kG x pc lv st I C S := fun H locs ls hP hl => k (h H locs hP) H locs ls hP hl
theorem toP {D : va_G} {ws : va_W} {H : Heap} {N : Nat} {ad : Int → Nat} {E : Int → va_E} (hg : ∀ k : Nat, k < N → ∃ e : va_E, ws[k]? = some (ad (k : Int), e) ∧ sameE e (E (k : Int))) (hP : va_P D vwCl ws H) : va_P D vwCl (mWd N ad E) H := by
  intro k q hk
  obtain ⟨h1, rfl⟩ := mWd_at hk
  obtain ⟨e, he, hs⟩ := hg k h1
  exact at_same (hP k _ he) hs
theorem toD {ws : va_W} {A : Nat → Prop} {N : Nat} {ad : Int → Nat} {E : Int → va_E} (hg : ∀ k : Nat, k < N → ∃ e : va_E, ws[k]? = some (ad (k : Int), e) ∧ sameE e (E (k : Int))) (hD : va_D A ws) : (∀ i j : Int, 0 ≤ i → i < (N : Int) → 0 ≤ j → j < (N : Int) → ad i = ad j → i = j) ∧ (∀ k : Int, 0 ≤ k → k < (N : Int) → A (ad k)) ∧ ∀ i : Int, 0 ≤ i → i < (N : Int) → ∃ e : va_E, ws[i.toNat]? = some (ad i, e) := by
  have hg2 : ∀ i : Int, 0 ≤ i → i < (N : Int) → ∃ e : va_E, ws[i.toNat]? = some (ad i, e) := fun i i0 i1 => by
    obtain ⟨e, he, -⟩ := hg i.toNat (by omega)
    rw [Int.toNat_of_nonneg i0] at he
    exact ⟨e, he⟩
  refine ⟨fun i j i0 i1 j0 j1 e => ?_, fun k k0 k1 => ?_, hg2⟩
  · obtain ⟨e1, h1⟩ := hg2 i i0 i1
    obtain ⟨e2, h2⟩ := hg2 j j0 j1
    have := hD.1 _ _ _ _ h1 h2 e
    omega
  · obtain ⟨e1, h1⟩ := hg2 k k0 k1
    exact hD.2 _ _ h1
set_option maxRecDepth 100000 in
set_option maxHeartbeats 4000000 in
theorem la_main {x : kX} {l : Launch} {D : va_G} {cs : mC} {b L : Nat} {xs : Nat → Int32} {sd : Int → Nat} (hn : nOk x l ML room_1 D cs (lA x.1.2.2.2.2)) (hX : va_X b L xs x.1.2.2.2.2 x.1.2.2.2.2.heap) (hbl : b < x.1.2.2.2.2.heap.size) (hL : L ≤ 3072) (hstr : ∀ L9 : List Nat, mStr (adL sd L9) (lA x.1.2.2.2.2) x.1.2.2.2.2) (fin : ∀ (lv : List (Nat × Value)) (w1 w2 : va_W), kG x 1209 lv [] (lJ D x.1.2.2.2.2 w1 w2) 41 945) : kG x 0 [(0, .ref b)] [] (nWd D (lA x.1.2.2.2.2) x.1.2.2.2.2 []) 0 0 := by
  refine n_new hn (K := RX7) (T := TX7) (N := 5) (ci := 5) (fs := [.null, .null, .null, mI 0, mI 0]) (fun q => [] ++ [(q, .inr (5, [.null, .null, .null, mI 0, mI 0]))]) inX7 tyX7 tyX7_ok cl_RL_7 nt_X7 ini_RX7 rfl dfX7 (by decide) (by decide) dL_law_0 (fun _ => rfl) (fun qx => ?_)
  refine k_dup hn.1 dL_law_3 rfl ?_
  refine n_last hn (c_X7_init qx) li_RL_9 (by decide) (by decide) (by decide) (by decide) dL_law_4 (Nat.le_of_ble_eq_true rfl) (fun w1 hw1 => ?_)
  refine k_astore_n hn.1 dL_law_7 (by decide) rfl ?_
  show kG x 8 [(0, .ref b), (1, .ref qx)] [] (nWd D (lA x.1.2.2.2.2) x.1.2.2.2.2 w1) 24 451
  refine n_new hn (K := RX8) (T := TX8) (N := 34) (ci := 6) (fs := [mI 0, mI 0, .null, .null, .null, mI 0, mI 0, mI 0, mI 0, mI 0, .null, .null, .null, .null, .null, mI 0, .null, mI 0, mI 0, mI 0, mI 0, mI 0, mI 0, mI 0, mI 0, mI 0, .null, .null, .null, .null, mI 0, .null, .null, .null]) (fun q => w1 ++ [(q, .inr (6, [mI 0, mI 0, .null, .null, .null, mI 0, mI 0, mI 0, mI 0, mI 0, .null, .null, .null, .null, .null, mI 0, .null, mI 0, mI 0, mI 0, mI 0, mI 0, mI 0, mI 0, mI 0, mI 0, .null, .null, .null, .null, mI 0, .null, .null, .null]))]) inX8 tyX8 tyX8_ok cl_RL_10 nt_X8 ini_RX8 rfl dfX8 (by decide) (by decide) dL_law_8 (fun _ => rfl) (fun qm => ?_)
  refine k_dup hn.1 dL_law_11 rfl ?_
  refine n_last hn (c_X8_init qm) li_RL_12 (by decide) (by decide) (by decide) (by decide) dL_law_12 (Nat.le_of_ble_eq_true rfl) (fun w2 hw2 => ?_)
  refine k_astore_n hn.1 dL_law_15 (by decide) rfl ?_
  refine k_iconst hn.1 dL_law_16 rfl ?_
  refine k_istore_n hn.1 dL_law_17 (by decide) rfl ?_
  obtain ⟨u1, u2, u3, u4, u5, u6, u7, u8, u9, u10, u11, u12, u13, u14, u15, u16, u17, u18, u19, u20, u21, u22, u23, e1⟩ := hw1
  obtain ⟨v1, v2, v3, v4, v5, v6, v7, v8, v9, v10, v11, v12, v13, v14, v15, v16, e2⟩ := hw2
  have gX9 := zX_cells cs sd qx u1 u2 u3 u4 u5 u6 u7 u8 u9 u10 u11 u12 u13 u14 u15 u16 u17 u18 u19 u20 u21 u22 u23
  rw [← e1] at gX9
  have gM9 := zM_cells cs sd qm v1 v2 v3 v4 v5 v6 v7 v8 v9 v10 v11 v12 v13 v14 v15 v16
  rw [← e2] at gM9
  refine k_pure (Z := va_D (lA x.1.2.2.2.2) (w1 ++ w2)) (fun H locs q => q.2.1) (fun hD => ?_)
  obtain ⟨hD1, hD2, hD12⟩ := va_ap hD
  have dX := toD gX9 hD1
  have dM := toD gM9 hD2
  have hWo : lWo D cs x.1.2.2.2.2 (adL sd [qx, u1, u2, u3, u4, u5, u6, u7, u8, u9, u10, u11, u12, u13, u14, u15, u16, u17, u18, u19, u20, u21, u22, u23]) (adL sd [qm, v1, v2, v3, v4, v5, v6, v7, v8, v9, v10, v11, v12, v13, v14, v15, v16]) := ⟨⟨hstr _, hstr _⟩, ⟨dX.1, dM.1⟩, ⟨dX.2.1, dM.2.1⟩, fun i j i0 i1 j0 j1 e => by
    obtain ⟨z1, y1⟩ := dX.2.2 i i0 i1
    obtain ⟨z2, y2⟩ := dM.2.2 j j0 j1
    exact hD12 _ _ _ _ y1 y2 e⟩
  show kG x 18 [(0, .ref b), (1, .ref (adL sd [qx, u1, u2, u3, u4, u5, u6, u7, u8, u9, u10, u11, u12, u13, u14, u15, u16, u17, u18, u19, u20, u21, u22, u23] 0)), (2, .ref (adL sd [qm, v1, v2, v3, v4, v5, v6, v7, v8, v9, v10, v11, v12, v13, v14, v15, v16] 0)), (3, mI 0)] [] (nWd D (lA x.1.2.2.2.2) x.1.2.2.2.2 (w1 ++ w2)) 41 945
  refine k_inv (I2 := lJ D x.1.2.2.2.2 (mW (gX D cs (adL sd [qx, u1, u2, u3, u4, u5, u6, u7, u8, u9, u10, u11, u12, u13, u14, u15, u16, u17, u18, u19, u20, u21, u22, u23])) zX) (mW (gM D cs (adL sd [qm, v1, v2, v3, v4, v5, v6, v7, v8, v9, v10, v11, v12, v13, v14, v15, v16])) zM)) (fun H locs q => ⟨toP gX9 (va_pp q.1).1, toP gM9 (va_pp q.1).2, q.2.2⟩) ?_
  exact la_loop (xs := xs) (L := L) ⟨hn.1, hn.2.1, hWo, hn.2.2.2.1, hn.2.2.2.2, ⟨hX, hbl⟩, by decide, by decide⟩ hL (fun i sX sM => fin _ _ _) 3073 0 zT zX zM (by omega) (by omega) (by omega) ⟨zX_view, zM_end, zT_ok⟩
