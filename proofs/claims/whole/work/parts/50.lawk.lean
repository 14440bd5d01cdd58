/-! ===== the law's rows ===== -/
def lA (s : State) : Nat → Prop := fun q => s.heap.size ≤ q
def lJ (D : va_G) (s : State) (w1 w2 : va_W) : Heap → List Loc → Prop := fun H locs => va_P D vwCl w1 H ∧ va_P D vwCl w2 H ∧ va_S (lA s) s.heap H locs
def lWo (D : va_G) (cs : mC) (s : State) (aX aM : Int → Nat) : Prop := (mStr aX (lA s) s ∧ mStr aM (lA s) s) ∧ (mDj (gX D cs aX) ∧ mDj (gM D cs aM)) ∧ ((∀ k : Int, 0 ≤ k → k < 24 → s.heap.size ≤ aX k) ∧ ∀ k : Int, 0 ≤ k → k < 17 → s.heap.size ≤ aM k) ∧ ∀ i j : Int, 0 ≤ i → i < 24 → 0 ≤ j → j < 17 → aX i ≠ aM j
def lOk (x : kX) (l : Launch) (D : va_G) (cs : mC) (aX aM : Int → Nat) (b L : Nat) (xs : Nat → Int32) (C S : Nat) : Prop := kOk x code RL 4 ∧ nEv D cs x.1.2.2.2.2 ∧ lWo D cs x.1.2.2.2.2 aX aM ∧ x.1.2.2.2.1 = room_1 ∧ x.1.2.1 = l ∧ (va_X b L xs x.1.2.2.2.2 x.1.2.2.2.2.heap ∧ b < x.1.2.2.2.2.heap.size) ∧ C ≤ 600000 ∧ S ≤ 7302250
theorem k_inv {x : kX} {pc : Nat} {lv : List (Nat × Value)} {st : List Value} {I I2 : Heap → List Loc → Prop} {C S : Nat} (h : ∀ H locs, I H locs → I2 H locs) (k : kG x pc lv st I2 C S) : kG x pc lv st I C S := fun H locs ls hP hl => k H locs ls (h H locs hP) hl
theorem k_same {x : kX} {pc : Nat} {lv : List (Nat × Value)} {st : List Value} {I : Heap → List Loc → Prop} {C S : Nat} {cc : ByteArray} {own : String} {nL : Nat} (h : kOk x cc own nL) {z : Int} {off : Int} {tgt : Nat} (hd : decode cc pc = .ok (.if_icmp .eq off, 3)) (ht : (pc : Int) + off = (tgt : Int)) (kt : kG x tgt lv st I C S) : kG x pc lv (mI z :: mI z :: st) I C S :=
  fun H locs ls hP hl => lv_icmp_eq (x := Int32.ofInt z) (y := Int32.ofInt z) h.1 h.2.1 hd ht (fun _ => kt H locs ls hP hl) (fun c => absurd rfl c)
theorem lg_cmp_self (v : Int64) : lg_cmp v v = 0 := by
  unfold lg_cmp
  simp
theorem k_lsame {x : kX} {pc : Nat} {lv : List (Nat × Value)} {st : List Value} {I : Heap → List Loc → Prop} {C S : Nat} {cc : ByteArray} {own : String} {nL : Nat} (h : kOk x cc own nL) {z : Int} {off : Int} {tgt : Nat} (hd : decode cc pc = .ok (.lcmp, 1)) (hd2 : decode cc (pc + 1) = .ok (.ifCond .eq off, 3)) (ht : ((pc + 1 : Nat) : Int) + off = (tgt : Int)) (kt : kG x tgt lv st I C S) : kG x pc lv (mL z :: mL z :: st) I C S := by
  intro H locs ls hP hl
  refine W.lcmp (x := Int64.ofInt z) (y := Int64.ofInt z) h.1 h.2.1 hd ?_
  rw [lg_cmp_self]
  exact lv_if_eq (x := 0) h.1 h.2.1 hd2 ht (fun _ => kt H locs ls hP hl) (fun c => absurd rfl c)
/-- the script's number -/
def sx (xs : Nat → Int32) (i : Int) : Int := (xs i.toNat).toInt
theorem sx_32 (xs : Nat → Int32) (i : Int) : i32 (sx xs i) := i32_of _
theorem of_nat32 {L : Nat} (h : L ≤ 3072) : Int32.ofNat L = Int32.ofInt (L : Int) := by
  apply Int32.toInt_inj.mp
  rw [i32_to ⟨by omega, by omega⟩]
  exact Int32.toInt_ofNat_of_lt (by omega)
section LG
variable {x : kX} {l : Launch} {D : va_G} {cs : mC} {aX aM : Int → Nat} {b L : Nat} {xs : Nat → Int32} {C S : Nat} {pc : Nat} {lv : List (Nat × Value)} {st : List Value}
theorem l_sld (h : lOk x l D cs aX aM b L xs C S) {w1 w2 : va_W} {i : Int} (i0 : 0 ≤ i) (i1 : i < (L : Int)) (hL : L ≤ 3072) (hd : decode code pc = .ok (.iaload, 1)) (kk : kG x (pc + 1) lv (mI (sx xs i) :: st) (lJ D x.1.2.2.2.2 w1 w2) C S) : kG x pc lv (mI i :: .ref b :: st) (lJ D x.1.2.2.2.2 w1 w2) C S := by
  obtain ⟨⟨hx, hb, hm, hnl, ho, ht, hlk⟩, hE, hW, hR, hll, ⟨hX, hbl⟩, hC⟩ := h
  intro H locs ls hP hl
  have e : Value.int (xs (Int32.ofInt i).toNatClampNeg) = mI (sx xs i) := by
    unfold mI sx
    rw [i32_cl i0 (by omega), Int32.ofInt_toInt]
  refine va_sld (i := Int32.ofInt i) hx hb hX hbl (A := lA x.1.2.2.2.2) (fun q => by unfold lA at q; omega) hP.2.2 (i32_in i0 i1 (by omega)) hd ?_
  rw [e]
  exact kk H locs ls hP hl
theorem l_slen (h : lOk x l D cs aX aM b L xs C S) {w1 w2 : va_W} (hL : L ≤ 3072) (hd : decode code pc = .ok (.arraylength, 1)) (kk : kG x (pc + 1) lv (mI (L : Int) :: st) (lJ D x.1.2.2.2.2 w1 w2) C S) : kG x pc lv (.ref b :: st) (lJ D x.1.2.2.2.2 w1 w2) C S := by
  obtain ⟨⟨hx, hb, hm, hnl, ho, ht, hlk⟩, hE, hW, hR, hll, ⟨hX, hbl⟩, hC⟩ := h
  intro H locs ls hP hl
  refine va_slen hx hb hX hbl (A := lA x.1.2.2.2.2) (fun q => by unfold lA at q; omega) hP.2.2 hd ?_
  rw [of_nat32 hL]
  exact kk H locs ls hP hl
theorem l_vI (h : lOk x l D cs aX aM b L xs C S) {N : Nat} {ad : Int → Nat} {E : mS → Int → va_E} {wo : va_W} {σ : mS} (hstr : mStr ad (lA x.1.2.2.2.2) x.1.2.2.2.2) (hDj : mDj (D, mTy cs, N, ad, E)) (hge : ∀ k : Int, 0 ≤ k → k < (N : Int) → x.1.2.2.2.2.heap.size ≤ ad k) (hap : ∀ (k : Nat) (q : Nat × va_E), wo[k]? = some q → ∀ i : Int, 0 ≤ i → i < (N : Int) → ad i ≠ q.1)
    {ν : mM} {k idx : Nat} {av stk : List Value} {post : Int → mS → Prop} (hC : CI l (D, mTy cs, N, ad, E) ν k (.ref (ad 0) :: av) σ post) (hk : k ≤ 30) (hL : mLv RL idx ν av.length) (hrv : mRv (D, mTy cs, N, ad, E) σ 0 ν) (hd : decode code pc = .ok (.invokevirtual idx, 3)) (hs : stk = av.reverse ++ .ref (ad 0) :: st) (hw9 : (st.map fun v => v.category).sum ≤ 8)
    (kk : ∀ (z : Int) (σ' : mS), post z σ' → kG x (pc + 3) lv (mI z :: st) (lJ D x.1.2.2.2.2 (mW (D, mTy cs, N, ad, E) σ') wo) C S) : kG x pc lv stk (lJ D x.1.2.2.2.2 (mW (D, mTy cs, N, ad, E) σ) wo) C S := by
  obtain ⟨⟨hx, hb, hm, hnl, ho, ht, hlk⟩, hE, hW, hR, hll, ⟨hX, hbl⟩, hC9⟩ := h
  subst hs; subst hll
  intro H locs ls hP hl
  obtain ⟨hP1, hP2, hS⟩ := hP
  obtain ⟨hl1, hl2, hl7, hl3, hl4, hl5, hl6⟩ := hL
  obtain ⟨ci, fs, T, N9, hE9, hc, h0, h1⟩ := hrv
  have he : (mW (D, mTy cs, N, ad, E) σ)[(0 : Int).toNat]? = some (ad 0, .inr (ci, fs)) := by rw [← hE9]; exact mWd_get h0 h1
  have hA : ∀ q : Nat, mA (D, mTy cs, N, ad, E) H.size q → lA x.1.2.2.2.2 q := by
    intro q hq
    rcases hq with ⟨i, i0, i1, rfl⟩ | h9
    · exact hge i i0 i1
    · exact Nat.le_trans hS.1 h9
  have hpv : PreV x.1.2.2.2.2 H ν.1.cls (ad 0) (va_Pc (.ref (ad 0) :: av) (mPre (D, mTy cs, N, ad, E) σ H.size)) av := ⟨mPre.blind, va_recv hE.1 hP1 hc he, fun U hU hW => ⟨rfl, by rw [hU], ⟨by rw [hU]; exact hP1, va_K.moved hW.alike hE.1⟩, hDj, hE.2.1.warm hW, hstr.move hU hW hS.2.1 hA⟩⟩
  have hRR : (mLev k).frames + 1 ≤ x.1.2.2.2.1.frames ∧ 8 + (ν.2.2.1 + 11) + (mLev k).locals ≤ x.1.2.2.2.1.locals := by
    rw [hR]
    show k + 1 ≤ 2048 ∧ 8 + (ν.2.2.1 + 11) + 40 * k ≤ 84000
    omega
  have hf9 : C + 0 ≤ x.1.2.2.2.1.cells ∧ S + 0 ≤ x.1.2.2.2.1.slots := by
    rw [hR]
    exact hC9
  have fin : ∀ (z : Int) (u : mS) (H1 : Heap) (locs1 : List Loc), post z u → va_P D vwCl (mW (D, mTy cs, N, ad, E) u) H1 → (∀ q : Nat, q < H.size → ¬ mA (D, mTy cs, N, ad, E) H.size q → H1[q]? = H[q]?) → va_S (lA x.1.2.2.2.2) x.1.2.2.2.2.heap H1 locs1 → W x.1.1 x.1.2.1 x.1.2.2.1 x.1.2.2.2.1 x.1.2.2.2.2 x.2.1.1 x.2.1.2.1 x.2.1.2.2.1 x.2.1.2.2.2.1 x.2.1.2.2.2.2 H1 locs1 C S x.2.2.2 (F0 x.2.1.1 (pc + 3) ls (mI z :: st)) := by
    intro z u H1 locs1 hw hB hk1 hS1
    refine kk z u hw H1 locs1 ls ⟨hB, hP2.kept (fun k9 q hq => hk1 q.1 (hP2 k9 q hq).lt (fun z9 => ?_)), hS1⟩ hl
    rcases z9 with ⟨i, i0, i1, e⟩ | h9
    · exact hap k9 q hq i i0 i1 e.symm
    · have := (hP2 k9 q hq).lt
      omega
  rcases hl1 with hl1 | ⟨host, hl1⟩
  · exact va_calli (va_runV (As := av) (rest := st) ⟨hx, hb, hm, ho, ht⟩ (hC H.size) ⟨callB_of av.length ht (mWs_good hl4) rfl rfl rfl (ht _ hl3) (ht _ hl1) hl5 hRR, ht _ hl2, ht _ hl7⟩ hpv rfl rfl hl.1 rfl (lv_room hw9) hd hf9) hS (fun q _ h => hA q h) hA
     (fun r u t H1 locs1 ht hvm hw hB hz1 hk1 hS1 => by
      obtain ⟨z, rfl, hw⟩ := hw
      exact fin z u H1 locs1 hw (by rw [← ht]; exact hB.1) hk1 hS1)
  · exact va_calli (va_runVN (As := av) (rest := st) ⟨hx, hb, hm, ho, ht⟩ (hC H.size) ⟨va_cnB av.length ht (mWs_good hl4) rfl rfl rfl (hE.2.1 _ hl1) (ht _ hl3) hl5 hRR, ht _ hl2, ht _ hl7⟩ hpv rfl rfl hl.1 rfl (lv_room hw9) hd hf9) hS (fun q _ h => hA q h) hA
     (fun r u t H1 locs1 ht hvm hw hB hz1 hk1 hS1 => by
      obtain ⟨z, rfl, hw⟩ := hw
      exact fin z u H1 locs1 hw (by rw [← ht]; exact hB.1) hk1 hS1)
theorem l_xI (h : lOk x l D cs aX aM b L xs C S) {σX σM : mS} {ν : mM} {k idx : Nat} {av stk : List Value} {post : Int → mS → Prop} (hC : CI l (gX D cs aX) ν k (.ref (aX 0) :: av) σX post) (hk : k ≤ 30) (hL : mLv RL idx ν av.length) (hν : ν.1.cls = RX7) (hd : decode code pc = .ok (.invokevirtual idx, 3)) (hs : stk = av.reverse ++ .ref (aX 0) :: st) (hw9 : (st.map fun v => v.category).sum ≤ 8)
    (kk : ∀ (z : Int) (σ' : mS), post z σ' → kG x (pc + 3) lv (mI z :: st) (lJ D x.1.2.2.2.2 (mW (gX D cs aX) σ') (mW (gM D cs aM) σM)) C S) : kG x pc lv stk (lJ D x.1.2.2.2.2 (mW (gX D cs aX) σX) (mW (gM D cs aM) σM)) C S :=
  l_vI h h.2.2.1.1.1 h.2.2.1.2.1.1 h.2.2.1.2.2.1.1 (fun k9 q hq i i0 i1 e => by
    obtain ⟨h9, rfl⟩ := mWd_at hq
    have h10 : k9 < 17 := h9
    exact h.2.2.1.2.2.2 i (k9 : Int) i0 i1 (by omega) (by omega) e) hC hk hL (rvV hν) hd hs hw9 kk
theorem l_mI (h : lOk x l D cs aX aM b L xs C S) {σX σM : mS} {ν : mM} {k idx : Nat} {av stk : List Value} {post : Int → mS → Prop} (hC : CI l (gM D cs aM) ν k (.ref (aM 0) :: av) σM post) (hk : k ≤ 30) (hL : mLv RL idx ν av.length) (hν : ν.1.cls = RX8) (hd : decode code pc = .ok (.invokevirtual idx, 3)) (hs : stk = av.reverse ++ .ref (aM 0) :: st) (hw9 : (st.map fun v => v.category).sum ≤ 8)
    (kk : ∀ (z : Int) (σ' : mS), post z σ' → kG x (pc + 3) lv (mI z :: st) (lJ D x.1.2.2.2.2 (mW (gX D cs aX) σX) (mW (gM D cs aM) σ')) C S) : kG x pc lv stk (lJ D x.1.2.2.2.2 (mW (gX D cs aX) σX) (mW (gM D cs aM) σM)) C S := by
  refine k_inv (I2 := lJ D x.1.2.2.2.2 (mW (gM D cs aM) σM) (mW (gX D cs aX) σX)) (fun H locs q => ⟨q.2.1, q.1, q.2.2⟩) ?_
  refine l_vI h h.2.2.1.1.2 h.2.2.1.2.1.2 h.2.2.1.2.2.1.2 (fun k9 q hq i i0 i1 e => ?_) hC hk hL (rvM hν) hd hs hw9 (fun z s p => ?_)
  · obtain ⟨h9, rfl⟩ := mWd_at hq
    have h10 : k9 < 24 := h9
    exact h.2.2.1.2.2.2 (k9 : Int) i (by omega) (by omega) i0 i1 e.symm
  · exact k_inv (I2 := lJ D x.1.2.2.2.2 (mW (gX D cs aX) σX) (mW (gM D cs aM) s)) (fun H locs q => ⟨q.2.1, q.1, q.2.2⟩) (kk z s p)
theorem l_vL (h : lOk x l D cs aX aM b L xs C S) {N : Nat} {ad : Int → Nat} {E : mS → Int → va_E} {wo : va_W} {σ : mS} (hstr : mStr ad (lA x.1.2.2.2.2) x.1.2.2.2.2) (hDj : mDj (D, mTy cs, N, ad, E)) (hge : ∀ k : Int, 0 ≤ k → k < (N : Int) → x.1.2.2.2.2.heap.size ≤ ad k) (hap : ∀ (k : Nat) (q : Nat × va_E), wo[k]? = some q → ∀ i : Int, 0 ≤ i → i < (N : Int) → ad i ≠ q.1)
    {ν : mM} {k idx : Nat} {av stk : List Value} {post : Int → mS → Prop} (hC : CL l (D, mTy cs, N, ad, E) ν k (.ref (ad 0) :: av) σ post) (hk : k ≤ 30) (hL : mLv RL idx ν av.length) (hrv : mRv (D, mTy cs, N, ad, E) σ 0 ν) (hd : decode code pc = .ok (.invokevirtual idx, 3)) (hs : stk = av.reverse ++ .ref (ad 0) :: st) (hw9 : (st.map fun v => v.category).sum ≤ 8)
    (kk : ∀ (z : Int) (σ' : mS), post z σ' → kG x (pc + 3) lv (mL z :: st) (lJ D x.1.2.2.2.2 (mW (D, mTy cs, N, ad, E) σ') wo) C S) : kG x pc lv stk (lJ D x.1.2.2.2.2 (mW (D, mTy cs, N, ad, E) σ) wo) C S := by
  obtain ⟨⟨hx, hb, hm, hnl, ho, ht, hlk⟩, hE, hW, hR, hll, ⟨hX, hbl⟩, hC9⟩ := h
  subst hs; subst hll
  intro H locs ls hP hl
  obtain ⟨hP1, hP2, hS⟩ := hP
  obtain ⟨hl1, hl2, hl7, hl3, hl4, hl5, hl6⟩ := hL
  obtain ⟨ci, fs, T, N9, hE9, hc, h0, h1⟩ := hrv
  have he : (mW (D, mTy cs, N, ad, E) σ)[(0 : Int).toNat]? = some (ad 0, .inr (ci, fs)) := by rw [← hE9]; exact mWd_get h0 h1
  have hA : ∀ q : Nat, mA (D, mTy cs, N, ad, E) H.size q → lA x.1.2.2.2.2 q := by
    intro q hq
    rcases hq with ⟨i, i0, i1, rfl⟩ | h9
    · exact hge i i0 i1
    · exact Nat.le_trans hS.1 h9
  have hpv : PreV x.1.2.2.2.2 H ν.1.cls (ad 0) (va_Pc (.ref (ad 0) :: av) (mPre (D, mTy cs, N, ad, E) σ H.size)) av := ⟨mPre.blind, va_recv hE.1 hP1 hc he, fun U hU hW => ⟨rfl, by rw [hU], ⟨by rw [hU]; exact hP1, va_K.moved hW.alike hE.1⟩, hDj, hE.2.1.warm hW, hstr.move hU hW hS.2.1 hA⟩⟩
  have hRR : (mLev k).frames + 1 ≤ x.1.2.2.2.1.frames ∧ 8 + (ν.2.2.1 + 11) + (mLev k).locals ≤ x.1.2.2.2.1.locals := by
    rw [hR]
    show k + 1 ≤ 2048 ∧ 8 + (ν.2.2.1 + 11) + 40 * k ≤ 84000
    omega
  have hf9 : C + 0 ≤ x.1.2.2.2.1.cells ∧ S + 0 ≤ x.1.2.2.2.1.slots := by
    rw [hR]
    exact hC9
  have fin : ∀ (z : Int) (u : mS) (H1 : Heap) (locs1 : List Loc), post z u → va_P D vwCl (mW (D, mTy cs, N, ad, E) u) H1 → (∀ q : Nat, q < H.size → ¬ mA (D, mTy cs, N, ad, E) H.size q → H1[q]? = H[q]?) → va_S (lA x.1.2.2.2.2) x.1.2.2.2.2.heap H1 locs1 → W x.1.1 x.1.2.1 x.1.2.2.1 x.1.2.2.2.1 x.1.2.2.2.2 x.2.1.1 x.2.1.2.1 x.2.1.2.2.1 x.2.1.2.2.2.1 x.2.1.2.2.2.2 H1 locs1 C S x.2.2.2 (F0 x.2.1.1 (pc + 3) ls (mL z :: st)) := by
    intro z u H1 locs1 hw hB hk1 hS1
    refine kk z u hw H1 locs1 ls ⟨hB, hP2.kept (fun k9 q hq => hk1 q.1 (hP2 k9 q hq).lt (fun z9 => ?_)), hS1⟩ hl
    rcases z9 with ⟨i, i0, i1, e⟩ | h9
    · exact hap k9 q hq i i0 i1 e.symm
    · have := (hP2 k9 q hq).lt
      omega
  rcases hl1 with hl1 | ⟨host, hl1⟩
  · exact va_calll (va_runV (As := av) (rest := st) ⟨hx, hb, hm, ho, ht⟩ (hC H.size) ⟨callB_of av.length ht (mWs_good hl4) rfl rfl rfl (ht _ hl3) (ht _ hl1) hl5 hRR, ht _ hl2, ht _ hl7⟩ hpv rfl rfl hl.1 rfl (lv_room hw9) hd hf9) hS (fun q _ h => hA q h) hA
     (fun r u t H1 locs1 ht hvm hw hB hz1 hk1 hS1 => by
      obtain ⟨z, rfl, hw⟩ := hw
      exact fin z u H1 locs1 hw (by rw [← ht]; exact hB.1) hk1 hS1)
  · exact va_calll (va_runVN (As := av) (rest := st) ⟨hx, hb, hm, ho, ht⟩ (hC H.size) ⟨va_cnB av.length ht (mWs_good hl4) rfl rfl rfl (hE.2.1 _ hl1) (ht _ hl3) hl5 hRR, ht _ hl2, ht _ hl7⟩ hpv rfl rfl hl.1 rfl (lv_room hw9) hd hf9) hS (fun q _ h => hA q h) hA
     (fun r u t H1 locs1 ht hvm hw hB hz1 hk1 hS1 => by
      obtain ⟨z, rfl, hw⟩ := hw
      exact fin z u H1 locs1 hw (by rw [← ht]; exact hB.1) hk1 hS1)
theorem l_xL (h : lOk x l D cs aX aM b L xs C S) {σX σM : mS} {ν : mM} {k idx : Nat} {av stk : List Value} {post : Int → mS → Prop} (hC : CL l (gX D cs aX) ν k (.ref (aX 0) :: av) σX post) (hk : k ≤ 30) (hL : mLv RL idx ν av.length) (hν : ν.1.cls = RX7) (hd : decode code pc = .ok (.invokevirtual idx, 3)) (hs : stk = av.reverse ++ .ref (aX 0) :: st) (hw9 : (st.map fun v => v.category).sum ≤ 8)
    (kk : ∀ (z : Int) (σ' : mS), post z σ' → kG x (pc + 3) lv (mL z :: st) (lJ D x.1.2.2.2.2 (mW (gX D cs aX) σ') (mW (gM D cs aM) σM)) C S) : kG x pc lv stk (lJ D x.1.2.2.2.2 (mW (gX D cs aX) σX) (mW (gM D cs aM) σM)) C S :=
  l_vL h h.2.2.1.1.1 h.2.2.1.2.1.1 h.2.2.1.2.2.1.1 (fun k9 q hq i i0 i1 e => by
    obtain ⟨h9, rfl⟩ := mWd_at hq
    have h10 : k9 < 17 := h9
    exact h.2.2.1.2.2.2 i (k9 : Int) i0 i1 (by omega) (by omega) e) hC hk hL (rvV hν) hd hs hw9 kk
theorem l_mL (h : lOk x l D cs aX aM b L xs C S) {σX σM : mS} {ν : mM} {k idx : Nat} {av stk : List Value} {post : Int → mS → Prop} (hC : CL l (gM D cs aM) ν k (.ref (aM 0) :: av) σM post) (hk : k ≤ 30) (hL : mLv RL idx ν av.length) (hν : ν.1.cls = RX8) (hd : decode code pc = .ok (.invokevirtual idx, 3)) (hs : stk = av.reverse ++ .ref (aM 0) :: st) (hw9 : (st.map fun v => v.category).sum ≤ 8)
    (kk : ∀ (z : Int) (σ' : mS), post z σ' → kG x (pc + 3) lv (mL z :: st) (lJ D x.1.2.2.2.2 (mW (gX D cs aX) σX) (mW (gM D cs aM) σ')) C S) : kG x pc lv stk (lJ D x.1.2.2.2.2 (mW (gX D cs aX) σX) (mW (gM D cs aM) σM)) C S := by
  refine k_inv (I2 := lJ D x.1.2.2.2.2 (mW (gM D cs aM) σM) (mW (gX D cs aX) σX)) (fun H locs q => ⟨q.2.1, q.1, q.2.2⟩) ?_
  refine l_vL h h.2.2.1.1.2 h.2.2.1.2.1.2 h.2.2.1.2.2.1.2 (fun k9 q hq i i0 i1 e => ?_) hC hk hL (rvM hν) hd hs hw9 (fun z s p => ?_)
  · obtain ⟨h9, rfl⟩ := mWd_at hq
    have h10 : k9 < 24 := h9
    exact h.2.2.1.2.2.2 (k9 : Int) i (by omega) (by omega) i0 i1 e.symm
  · exact k_inv (I2 := lJ D x.1.2.2.2.2 (mW (gX D cs aX) σX) (mW (gM D cs aM) s)) (fun H locs q => ⟨q.2.1, q.1, q.2.2⟩) (kk z s p)
end LG
/-- what both sides show -/
def lInv (τ σX σM : mS) : Prop := vX σX = τ ∧ mEnd τ σM ∧ qW τ
theorem lInv.w {τ σX σM : mS} (h : lInv τ σX σM) : qW (vX σX) := by rw [h.1]; exact h.2.2
theorem lInv.wm {τ σX σM : mS} (h : lInv τ σX σM) : qW (vM σM) := by rw [h.2.1.1]; exact h.2.2
theorem lInv.ok {τ σX σM : mS} (h : lInv τ σX σM) : mOK σM := ⟨h.2.1.2.1, h.2.1.2.2, h.wm⟩
theorem lInv.sc {τ σX σM s : mS} (h : lInv τ σX σM) (g : mSc σM s) : mEnd τ s := by
  have := g.endd h.ok
  rwa [h.2.1.1] at this
