/-! ===== one row an instruction ===== -/
def lvg : List (Nat × Value) → Nat → Option Value
  | [], _ => none
  | q :: r, i => bif q.1 == i then some q.2 else lvg r i
theorem lvg_mem {i : Nat} {v : Value} : ∀ {lv : List (Nat × Value)}, lvg lv i = some v → (i, v) ∈ lv
  | [], h => by cases h
  | q :: r, h => by
    unfold lvg at h
    cases hq : (q.1 == i) with
    | true =>
      rw [hq] at h
      have h1 : q.1 = i := by simpa using hq
      have h2 : q.2 = v := Option.some.inj h
      rw [← h1, ← h2]
      exact List.mem_cons_self
    | false =>
      rw [hq] at h
      exact List.mem_cons_of_mem _ (lvg_mem h)
theorem lvg_at {ls : Array Slot} {nL i : Nat} {v : Value} {lv : List (Nat × Value)} (h : lv_has ls nL lv) (hg : lvg lv i = some v) : ls[i]? = some (.val v) := h.2.2 (i, v) (lvg_mem hg)
def lvs (lv : List (Nat × Value)) (i : Nat) (v : Value) : List (Nat × Value) := bif lv.any (fun q => q.1 == i) then lv.map (fun q => bif q.1 == i then (i, v) else q) else lv ++ [(i, v)]
theorem lvs_mem {lv : List (Nat × Value)} {i : Nat} {v : Value} {q : Nat × Value} (h : q ∈ lvs lv i v) : q = (i, v) ∨ (q ∈ lv ∧ ¬ q.1 = i) := by
  unfold lvs at h
  cases ha : lv.any (fun q => q.1 == i) with
  | true =>
    rw [ha] at h
    obtain ⟨r, hr, e⟩ := List.mem_map.mp h
    cases hb : (r.1 == i) with
    | true =>
      rw [hb] at e
      exact Or.inl e.symm
    | false =>
      rw [hb] at e
      have e2 : r = q := e
      subst e2
      exact Or.inr ⟨hr, by simpa using hb⟩
  | false =>
    rw [ha] at h
    rcases List.mem_append.mp h with h1 | h1
    · refine Or.inr ⟨h1, fun e => ?_⟩
      have := List.any_eq_false.mp ha q h1
      simp [e] at this
    · exact Or.inl (List.mem_singleton.mp h1)
def lvo (lv : List (Nat × Value)) (i : Nat) : Bool := lv.all (fun q => !(q.1 + 1 == i && q.2.category == 2))
def lvo2 (lv : List (Nat × Value)) (i : Nat) : Bool := lv.all (fun q => !(q.1 == i + 1) && !(q.1 + 1 == i && q.2.category == 2))
theorem lvs_has {ls : Array Slot} {nL i : Nat} {v : Value} {lv : List (Nat × Value)} (h : lv_has ls nL ((i, v) :: lv.filter (fun q => !(q.1 == i) && !(q.1 + 1 == i && q.2.category == 2)))) (ho : lvo lv i = true) : lv_has ls nL (lvs lv i v) := by
  refine ⟨h.1, h.2.1, fun q hq => h.2.2 q ?_⟩
  rcases lvs_mem hq with rfl | ⟨h1, h2⟩
  · exact List.mem_cons_self
  · refine List.mem_cons_of_mem _ (List.mem_filter.mpr ⟨h1, ?_⟩)
    have h3 := List.all_eq_true.mp ho q h1
    have h4 : (q.1 == i) = false := by simpa using h2
    rw [h4]
    simpa using h3
theorem lvs_has2 {ls : Array Slot} {nL i : Nat} {v : Value} {lv : List (Nat × Value)} (h : lv_has ls nL ((i, v) :: lv.filter (fun q => !(q.1 == i) && (!(q.1 == i + 1) && !(q.1 + 1 == i && q.2.category == 2))))) (ho : lvo2 lv i = true) : lv_has ls nL (lvs lv i v) := by
  refine ⟨h.1, h.2.1, fun q hq => h.2.2 q ?_⟩
  rcases lvs_mem hq with rfl | ⟨h1, h2⟩
  · exact List.mem_cons_self
  · refine List.mem_cons_of_mem _ (List.mem_filter.mpr ⟨h1, ?_⟩)
    have h3 := List.all_eq_true.mp ho q h1
    have h4 : (q.1 == i) = false := by simpa using h2
    rw [h4]
    simpa using h3
section MG
variable {x : mX} {l : Launch} {μ : mM} {n : Nat} {Γ : mE} {pc : Nat} {lv : List (Nat × Value)} {st : List Value} {σ : mS}
/-- fewer locals are told -/
theorem g_lv {lv' : List (Nat × Value)} (hl : lv'.map (fun q => lvg lv q.1) = lv'.map (fun q => some q.2)) (k : mG x pc lv' st σ) : mG x pc lv st σ := by
  intro H locs ls hP hS h
  refine k H locs ls hP hS ⟨h.1, h.2.1, fun q hq => ?_⟩
  have h1 : lvg lv q.1 = some q.2 := by
    obtain ⟨i, hi⟩ := List.getElem?_of_mem hq
    have h2 := congrArg (fun t : List (Option Value) => t[i]?) hl
    simp only [List.getElem?_map, hi, Option.map_some] at h2
    exact Option.some.inj h2
  exact lvg_at h h1
theorem g_iconst (h : mOk x l μ n Γ) {k : Int} (hd : decode μ.2.1 pc = .ok (.iconst k, 1)) (hv : Int32.ofInt k = Int32.ofInt k) (kk : mG x (pc + 1) lv (mI k :: st) σ) : mG x pc lv st σ :=
  fun H locs ls hP hS hl => lv_iconst h.1 h.2.1 hd hv (kk H locs ls hP hS hl)
theorem g_bipush (h : mOk x l μ n Γ) {k : Int} (hd : decode μ.2.1 pc = .ok (.bipush k, 2)) (hv : (Int8.ofInt k).toInt32 = Int32.ofInt k) (kk : mG x (pc + 2) lv (mI k :: st) σ) : mG x pc lv st σ :=
  fun H locs ls hP hS hl => lv_bipush h.1 h.2.1 hd hv (kk H locs ls hP hS hl)
theorem g_sipush (h : mOk x l μ n Γ) {k : Int} (hd : decode μ.2.1 pc = .ok (.sipush k, 3)) (hv : (Int16.ofInt k).toInt32 = Int32.ofInt k) (kk : mG x (pc + 3) lv (mI k :: st) σ) : mG x pc lv st σ :=
  fun H locs ls hP hS hl => lv_sipush h.1 h.2.1 hd hv (kk H locs ls hP hS hl)
theorem g_lconst (h : mOk x l μ n Γ) {k : Fin 2} {v : Int} (hd : decode μ.2.1 pc = .ok (.lconst k, 1)) (hv : Int64.ofNat (k : Nat) = Int64.ofInt v) (kk : mG x (pc + 1) lv (mL v :: st) σ) : mG x pc lv st σ :=
  fun H locs ls hP hS hl => lv_lconst h.1 h.2.1 hd hv (kk H locs ls hP hS hl)
theorem g_ldc (h : mOk x l μ n Γ) {k : Nat} {v : Int} {c : Int32} (hd : decode μ.2.1 pc = .ok (.ldc k, 2)) (hw : Cond.constant μ.1.cls k c ∈ gT) (hv : c = Int32.ofInt v) (kk : mG x (pc + 2) lv (mI v :: st) σ) : mG x pc lv st σ :=
  fun H locs ls hP hS hl => lv_ldc (v := Int32.ofInt v) h.1 h.2.1 h.2.2.2.2.1 (hv ▸ h.2.2.2.2.2.1 _ hw) hd (kk H locs ls hP hS hl)
theorem g_ldcw (h : mOk x l μ n Γ) {k : Nat} {v : Int} {c : Int32} (hd : decode μ.2.1 pc = .ok (.ldc_w k, 3)) (hw : Cond.constant μ.1.cls k c ∈ gT) (hv : c = Int32.ofInt v) (kk : mG x (pc + 3) lv (mI v :: st) σ) : mG x pc lv st σ :=
  fun H locs ls hP hS hl => lv_ldcw (v := Int32.ofInt v) h.1 h.2.1 h.2.2.2.2.1 (hv ▸ h.2.2.2.2.2.1 _ hw) hd (kk H locs ls hP hS hl)
theorem g_ldc2 (h : mOk x l μ n Γ) {k : Nat} {v : Int} {c : Int64} (hd : decode μ.2.1 pc = .ok (.ldc2_w k, 3)) (hw : Cond.constantLong μ.1.cls k c ∈ gT) (hv : c = Int64.ofInt v) (kk : mG x (pc + 3) lv (mL v :: st) σ) : mG x pc lv st σ :=
  fun H locs ls hP hS hl => lv_ldc2 (v := Int64.ofInt v) h.1 h.2.1 h.2.2.2.2.1 (hv ▸ h.2.2.2.2.2.1 _ hw) hd (kk H locs ls hP hS hl)
theorem g_iload_n (h : mOk x l μ n Γ) {k : Fin 4} {a : Int} (hd : decode μ.2.1 pc = .ok (.iload_n k, 1)) (hl9 : lvg lv (k : Nat) = some (mI a)) (kk : mG x (pc + 1) lv (mI a :: st) σ) : mG x pc lv st σ :=
  fun H locs ls hP hS hl => lv_iload_n h.1 h.2.1 hd rfl (lvg_at hl hl9) (kk H locs ls hP hS hl)
theorem g_iload (h : mOk x l μ n Γ) {k : Nat} {a : Int} (hd : decode μ.2.1 pc = .ok (.iload k, 2)) (hl9 : lvg lv k = some (mI a)) (kk : mG x (pc + 2) lv (mI a :: st) σ) : mG x pc lv st σ :=
  fun H locs ls hP hS hl => lv_iload h.1 h.2.1 hd (lvg_at hl hl9) (kk H locs ls hP hS hl)
theorem g_istore_n (h : mOk x l μ n Γ) {k : Fin 4} {a : Int} (hd : decode μ.2.1 pc = .ok (.istore_n k, 1)) (hn : (k : Nat) < μ.2.2.1) (ho : lvo lv (k : Nat) = true) (kk : mG x (pc + 1) (lvs lv (k : Nat) (mI a)) st σ) : mG x pc lv (mI a :: st) σ :=
  fun H locs ls hP hS hl => lv_istore_n h.1 h.2.1 hd rfl hl (by rw [h.2.2.2.1]; exact hn) rfl (fun ls' hl' => kk H locs ls' hP hS (lvs_has hl' ho))
theorem g_istore (h : mOk x l μ n Γ) {k : Nat} {a : Int} (hd : decode μ.2.1 pc = .ok (.istore k, 2)) (hn : k < μ.2.2.1) (ho : lvo lv k = true) (kk : mG x (pc + 2) (lvs lv k (mI a)) st σ) : mG x pc lv (mI a :: st) σ :=
  fun H locs ls hP hS hl => lv_istore h.1 h.2.1 hd hl (by rw [h.2.2.2.1]; exact hn) rfl (fun ls' hl' => kk H locs ls' hP hS (lvs_has hl' ho))
theorem g_lload_n (h : mOk x l μ n Γ) {k : Fin 4} {a : Int} (hd : decode μ.2.1 pc = .ok (.lload_n k, 1)) (hl9 : lvg lv (k : Nat) = some (mL a)) (kk : mG x (pc + 1) lv (mL a :: st) σ) : mG x pc lv st σ :=
  fun H locs ls hP hS hl => lv_lload_n h.1 h.2.1 hd rfl (lvg_at hl hl9) (kk H locs ls hP hS hl)
theorem g_lload (h : mOk x l μ n Γ) {k : Nat} {a : Int} (hd : decode μ.2.1 pc = .ok (.lload k, 2)) (hl9 : lvg lv k = some (mL a)) (kk : mG x (pc + 2) lv (mL a :: st) σ) : mG x pc lv st σ :=
  fun H locs ls hP hS hl => lv_lload h.1 h.2.1 hd (lvg_at hl hl9) (kk H locs ls hP hS hl)
theorem g_lstore_n (h : mOk x l μ n Γ) {k : Fin 4} {a : Int} (hd : decode μ.2.1 pc = .ok (.lstore_n k, 1)) (hn : (k : Nat) + 1 < μ.2.2.1) (ho : lvo2 lv (k : Nat) = true) (kk : mG x (pc + 1) (lvs lv (k : Nat) (mL a)) st σ) : mG x pc lv (mL a :: st) σ :=
  fun H locs ls hP hS hl => lv_lstore_n h.1 h.2.1 hd rfl hl (by rw [h.2.2.2.1]; exact hn) rfl (fun ls' hl' => kk H locs ls' hP hS (lvs_has2 hl' ho))
theorem g_lstore (h : mOk x l μ n Γ) {k : Nat} {a : Int} (hd : decode μ.2.1 pc = .ok (.lstore k, 2)) (hn : k + 1 < μ.2.2.1) (ho : lvo2 lv k = true) (kk : mG x (pc + 2) (lvs lv k (mL a)) st σ) : mG x pc lv (mL a :: st) σ :=
  fun H locs ls hP hS hl => lv_lstore h.1 h.2.1 hd hl (by rw [h.2.2.2.1]; exact hn) rfl (fun ls' hl' => kk H locs ls' hP hS (lvs_has2 hl' ho))
theorem g_aload_n (h : mOk x l μ n Γ) {k : Fin 4} {a : Nat} (hd : decode μ.2.1 pc = .ok (.aload_n k, 1)) (hl9 : lvg lv (k : Nat) = some (.ref a)) (kk : mG x (pc + 1) lv (.ref a :: st) σ) : mG x pc lv st σ :=
  fun H locs ls hP hS hl => lv_aload_n h.1 h.2.1 hd rfl (lvg_at hl hl9) (kk H locs ls hP hS hl)
theorem g_aload (h : mOk x l μ n Γ) {k : Nat} {a : Nat} (hd : decode μ.2.1 pc = .ok (.aload k, 2)) (hl9 : lvg lv k = some (.ref a)) (kk : mG x (pc + 2) lv (.ref a :: st) σ) : mG x pc lv st σ :=
  fun H locs ls hP hS hl => lv_aload h.1 h.2.1 hd (lvg_at hl hl9) (kk H locs ls hP hS hl)
theorem g_astore_n (h : mOk x l μ n Γ) {k : Fin 4} {a : Nat} (hd : decode μ.2.1 pc = .ok (.astore_n k, 1)) (hn : (k : Nat) < μ.2.2.1) (ho : lvo lv (k : Nat) = true) (kk : mG x (pc + 1) (lvs lv (k : Nat) (.ref a)) st σ) : mG x pc lv (.ref a :: st) σ :=
  fun H locs ls hP hS hl => lv_astore_n h.1 h.2.1 hd rfl hl (by rw [h.2.2.2.1]; exact hn) rfl (fun ls' hl' => kk H locs ls' hP hS (lvs_has hl' ho))
theorem g_astore (h : mOk x l μ n Γ) {k : Nat} {a : Nat} (hd : decode μ.2.1 pc = .ok (.astore k, 2)) (hn : k < μ.2.2.1) (ho : lvo lv k = true) (kk : mG x (pc + 2) (lvs lv k (.ref a)) st σ) : mG x pc lv (.ref a :: st) σ :=
  fun H locs ls hP hS hl => lv_astore h.1 h.2.1 hd hl (by rw [h.2.2.2.1]; exact hn) rfl (fun ls' hl' => kk H locs ls' hP hS (lvs_has hl' ho))
theorem g_iinc (h : mOk x l μ n Γ) {k : Nat} {d a : Int} (hd : decode μ.2.1 pc = .ok (.iinc k d, 3)) (hl9 : lvg lv k = some (mI a)) (hn : k < μ.2.2.1) (ho : lvo lv k = true) (kk : mG x (pc + 3) (lvs lv k (mI (a + d))) st σ) : mG x pc lv st σ := by
  intro H locs ls hP hS hl
  obtain ⟨i, hi⟩ := List.getElem?_of_mem (lvg_mem hl9)
  refine lv_iinc (x := Int32.ofInt a) (v := Int32.ofInt (a + d)) h.1 h.2.1 hd hl hi (Int32.ofInt_add a d).symm (by rw [h.2.2.2.1]; exact hn) rfl (fun ls' hl' => kk H locs ls' hP hS (lvs_has hl' ho))
theorem g_iadd (h : mOk x l μ n Γ) {a b : Int} (hd : decode μ.2.1 pc = .ok (.iadd, 1)) (kk : mG x (pc + 1) lv (mI (a + b) :: st) σ) : mG x pc lv (mI b :: mI a :: st) σ := by
  intro H locs ls hP hS hl
  have q := kk H locs ls hP hS hl
  have e := Int32.ofInt_add a b
  refine lv_iadd (x := Int32.ofInt a) (y := Int32.ofInt b) h.1 h.2.1 hd ?_
  rw [← e]
  exact q
theorem g_isub (h : mOk x l μ n Γ) {a b : Int} (hd : decode μ.2.1 pc = .ok (.isub, 1)) (kk : mG x (pc + 1) lv (mI (a - b) :: st) σ) : mG x pc lv (mI b :: mI a :: st) σ := by
  intro H locs ls hP hS hl
  have q := kk H locs ls hP hS hl
  have e := Int32.ofInt_sub a b
  refine lv_isub (x := Int32.ofInt a) (y := Int32.ofInt b) h.1 h.2.1 hd ?_
  rw [← e]
  exact q
theorem g_imul (h : mOk x l μ n Γ) {a b : Int} (hd : decode μ.2.1 pc = .ok (.imul, 1)) (kk : mG x (pc + 1) lv (mI (a * b) :: st) σ) : mG x pc lv (mI b :: mI a :: st) σ := by
  intro H locs ls hP hS hl
  have q := kk H locs ls hP hS hl
  have e := Int32.ofInt_mul a b
  refine lv_imul (x := Int32.ofInt a) (y := Int32.ofInt b) h.1 h.2.1 hd ?_
  rw [← e]
  exact q
theorem g_iand (h : mOk x l μ n Γ) {a b : Int} (hd : decode μ.2.1 pc = .ok (.iand, 1)) (kk : mG x (pc + 1) lv (mI (iAnd a b) :: st) σ) : mG x pc lv (mI b :: mI a :: st) σ := by
  intro H locs ls hP hS hl
  have q := kk H locs ls hP hS hl
  have e := (Int32.ofInt_toInt _ : Int32.ofInt (iAnd a b) = Int32.ofInt a &&& Int32.ofInt b)
  refine lv_iand (x := Int32.ofInt a) (y := Int32.ofInt b) h.1 h.2.1 hd ?_
  rw [← e]
  exact q
theorem g_ior (h : mOk x l μ n Γ) {a b : Int} (hd : decode μ.2.1 pc = .ok (.ior, 1)) (kk : mG x (pc + 1) lv (mI (iOr a b) :: st) σ) : mG x pc lv (mI b :: mI a :: st) σ := by
  intro H locs ls hP hS hl
  have q := kk H locs ls hP hS hl
  have e := (Int32.ofInt_toInt _ : Int32.ofInt (iOr a b) = Int32.ofInt a ||| Int32.ofInt b)
  refine lv_ior (x := Int32.ofInt a) (y := Int32.ofInt b) h.1 h.2.1 hd ?_
  rw [← e]
  exact q
theorem g_ixor (h : mOk x l μ n Γ) {a b : Int} (hd : decode μ.2.1 pc = .ok (.ixor, 1)) (kk : mG x (pc + 1) lv (mI (iXor a b) :: st) σ) : mG x pc lv (mI b :: mI a :: st) σ := by
  intro H locs ls hP hS hl
  have q := kk H locs ls hP hS hl
  have e := (Int32.ofInt_toInt _ : Int32.ofInt (iXor a b) = Int32.ofInt a ^^^ Int32.ofInt b)
  refine lv_ixor (x := Int32.ofInt a) (y := Int32.ofInt b) h.1 h.2.1 hd ?_
  rw [← e]
  exact q
theorem g_ishl (h : mOk x l μ n Γ) {a b : Int} (hd : decode μ.2.1 pc = .ok (.ishl, 1)) (kk : mG x (pc + 1) lv (mI (iShl a b) :: st) σ) : mG x pc lv (mI b :: mI a :: st) σ := by
  intro H locs ls hP hS hl
  have q := kk H locs ls hP hS hl
  have e := (Int32.ofInt_toInt _ : Int32.ofInt (iShl a b) = Int32.ofInt a <<< (Int32.ofInt b &&& 31))
  refine lv_ishl (x := Int32.ofInt a) (y := Int32.ofInt b) h.1 h.2.1 hd ?_
  rw [← e]
  exact q
theorem g_ishr (h : mOk x l μ n Γ) {a b : Int} (hd : decode μ.2.1 pc = .ok (.ishr, 1)) (kk : mG x (pc + 1) lv (mI (iShr a b) :: st) σ) : mG x pc lv (mI b :: mI a :: st) σ := by
  intro H locs ls hP hS hl
  have q := kk H locs ls hP hS hl
  have e := (Int32.ofInt_toInt _ : Int32.ofInt (iShr a b) = Int32.ofInt a >>> (Int32.ofInt b &&& 31))
  refine lv_ishr (x := Int32.ofInt a) (y := Int32.ofInt b) h.1 h.2.1 hd ?_
  rw [← e]
  exact q
theorem g_iushr (h : mOk x l μ n Γ) {a b : Int} (hd : decode μ.2.1 pc = .ok (.iushr, 1)) (kk : mG x (pc + 1) lv (mI (iUsh a b) :: st) σ) : mG x pc lv (mI b :: mI a :: st) σ :=
  fun H locs ls hP hS hl => lv_iushr (x := Int32.ofInt a) (y := Int32.ofInt b) (v := Int32.ofInt (iUsh a b)) h.1 h.2.1 hd (Int32.ofInt_toInt _).symm (kk H locs ls hP hS hl)
theorem g_idiv (h : mOk x l μ n Γ) {a b : Int} (hd : decode μ.2.1 pc = .ok (.idiv, 1)) (ha : 0 ≤ a) (ha2 : a ≤ 2147483647) (hb : 0 < b) (hb2 : b ≤ 2147483647) (kk : mG x (pc + 1) lv (mI (a / b) :: st) σ) : mG x pc lv (mI b :: mI a :: st) σ := by
  intro H locs ls hP hS hl
  have q := kk H locs ls hP hS hl
  have e : Int32.ofInt (a / b) = Int32.ofInt a / Int32.ofInt b := by
    rw [← Int.tdiv_eq_ediv_of_nonneg ha]
    exact Int32.ofInt_tdiv (by show (-2147483648 : Int) ≤ a; omega) (by show a ≤ 2147483647; omega) (by show (-2147483648 : Int) ≤ b; omega) (by show b ≤ 2147483647; omega)
  refine lv_idiv (x := Int32.ofInt a) (y := Int32.ofInt b) h.1 h.2.1 hd (fun z => ?_) ?_
  · have := (i32_eq (a := b) (b := 0) ⟨by omega, by omega⟩ ⟨by omega, by omega⟩).mp (z.trans i32_0)
    omega
  · rw [← e]
    exact q
theorem g_irem (h : mOk x l μ n Γ) {a b : Int} (hd : decode μ.2.1 pc = .ok (.irem, 1)) (ha : 0 ≤ a) (ha2 : a ≤ 2147483647) (hb : 0 < b) (hb2 : b ≤ 2147483647) (kk : mG x (pc + 1) lv (mI (a % b) :: st) σ) : mG x pc lv (mI b :: mI a :: st) σ := by
  intro H locs ls hP hS hl
  have q := kk H locs ls hP hS hl
  have e : Int32.ofInt (a / b) = Int32.ofInt a / Int32.ofInt b := by
    rw [← Int.tdiv_eq_ediv_of_nonneg ha]
    exact Int32.ofInt_tdiv (by show (-2147483648 : Int) ≤ a; omega) (by show a ≤ 2147483647; omega) (by show (-2147483648 : Int) ≤ b; omega) (by show b ≤ 2147483647; omega)
  have e2 : Int32.ofInt (a % b) = Int32.ofInt a - Int32.ofInt a / Int32.ofInt b * Int32.ofInt b := by
    rw [← e, ← Int32.ofInt_mul, ← Int32.ofInt_sub, Int.emod_def, Int.mul_comm]
  refine lv_irem (x := Int32.ofInt a) (y := Int32.ofInt b) h.1 h.2.1 hd (fun z => ?_) ?_
  · have := (i32_eq (a := b) (b := 0) ⟨by omega, by omega⟩ ⟨by omega, by omega⟩).mp (z.trans i32_0)
    omega
  · rw [← e2]
    exact q
theorem g_ladd (h : mOk x l μ n Γ) {a b : Int} (hd : decode μ.2.1 pc = .ok (.ladd, 1)) (kk : mG x (pc + 1) lv (mL (a + b) :: st) σ) : mG x pc lv (mL b :: mL a :: st) σ := by
  intro H locs ls hP hS hl
  have q := kk H locs ls hP hS hl
  have e := Int64.ofInt_add a b
  refine lv_ladd (x := Int64.ofInt a) (y := Int64.ofInt b) h.1 h.2.1 hd ?_
  rw [← e]
  exact q
theorem g_lsub (h : mOk x l μ n Γ) {a b : Int} (hd : decode μ.2.1 pc = .ok (.lsub, 1)) (kk : mG x (pc + 1) lv (mL (a - b) :: st) σ) : mG x pc lv (mL b :: mL a :: st) σ := by
  intro H locs ls hP hS hl
  have q := kk H locs ls hP hS hl
  have e := Int64.ofInt_sub a b
  refine lv_lsub (x := Int64.ofInt a) (y := Int64.ofInt b) h.1 h.2.1 hd ?_
  rw [← e]
  exact q
theorem g_land (h : mOk x l μ n Γ) {a b : Int} (hd : decode μ.2.1 pc = .ok (.land, 1)) (kk : mG x (pc + 1) lv (mL (lAnd a b) :: st) σ) : mG x pc lv (mL b :: mL a :: st) σ := by
  intro H locs ls hP hS hl
  have q := kk H locs ls hP hS hl
  have e := (Int64.ofInt_toInt _ : Int64.ofInt (lAnd a b) = Int64.ofInt a &&& Int64.ofInt b)
  refine lv_land (x := Int64.ofInt a) (y := Int64.ofInt b) h.1 h.2.1 hd ?_
  rw [← e]
  exact q
theorem g_lxor (h : mOk x l μ n Γ) {a b : Int} (hd : decode μ.2.1 pc = .ok (.lxor, 1)) (kk : mG x (pc + 1) lv (mL (lXor a b) :: st) σ) : mG x pc lv (mL b :: mL a :: st) σ := by
  intro H locs ls hP hS hl
  have q := kk H locs ls hP hS hl
  have e := (Int64.ofInt_toInt _ : Int64.ofInt (lXor a b) = Int64.ofInt a ^^^ Int64.ofInt b)
  refine lv_lxor (x := Int64.ofInt a) (y := Int64.ofInt b) h.1 h.2.1 hd ?_
  rw [← e]
  exact q
theorem g_lshl (h : mOk x l μ n Γ) {a b : Int} (hd : decode μ.2.1 pc = .ok (.lshl, 1)) (kk : mG x (pc + 1) lv (mL (lShl a b) :: st) σ) : mG x pc lv (mI b :: mL a :: st) σ :=
  fun H locs ls hP hS hl => lv_lshl (x := Int64.ofInt a) (y := Int32.ofInt b) (v := Int64.ofInt (lShl a b)) h.1 h.2.1 hd (Int64.ofInt_toInt _).symm (kk H locs ls hP hS hl)
theorem g_lshr (h : mOk x l μ n Γ) {a b : Int} (hd : decode μ.2.1 pc = .ok (.lshr, 1)) (kk : mG x (pc + 1) lv (mL (lShr a b) :: st) σ) : mG x pc lv (mI b :: mL a :: st) σ :=
  fun H locs ls hP hS hl => lv_lshr (x := Int64.ofInt a) (y := Int32.ofInt b) (v := Int64.ofInt (lShr a b)) h.1 h.2.1 hd (Int64.ofInt_toInt _).symm (kk H locs ls hP hS hl)
theorem g_lushr (h : mOk x l μ n Γ) {a b : Int} (hd : decode μ.2.1 pc = .ok (.lushr, 1)) (kk : mG x (pc + 1) lv (mL (lUsh a b) :: st) σ) : mG x pc lv (mI b :: mL a :: st) σ :=
  fun H locs ls hP hS hl => lv_lushr (x := Int64.ofInt a) (y := Int32.ofInt b) (v := Int64.ofInt (lUsh a b)) h.1 h.2.1 hd (Int64.ofInt_toInt _).symm (kk H locs ls hP hS hl)
theorem g_i2b (h : mOk x l μ n Γ) {a : Int} (hd : decode μ.2.1 pc = .ok (.i2b, 1)) (kk : mG x (pc + 1) lv (mI (iB a) :: st) σ) : mG x pc lv (mI a :: st) σ :=
  fun H locs ls hP hS hl => lv_i2b (x := Int32.ofInt a) (v := Int32.ofInt (iB a)) h.1 h.2.1 hd (Int32.ofInt_toInt _).symm (kk H locs ls hP hS hl)
theorem g_i2s (h : mOk x l μ n Γ) {a : Int} (hd : decode μ.2.1 pc = .ok (.i2s, 1)) (kk : mG x (pc + 1) lv (mI (iH a) :: st) σ) : mG x pc lv (mI a :: st) σ :=
  fun H locs ls hP hS hl => lv_i2s (x := Int32.ofInt a) (v := Int32.ofInt (iH a)) h.1 h.2.1 hd (Int32.ofInt_toInt _).symm (kk H locs ls hP hS hl)
theorem g_i2c (h : mOk x l μ n Γ) {a : Int} (hd : decode μ.2.1 pc = .ok (.i2c, 1)) (kk : mG x (pc + 1) lv (mI (iC a) :: st) σ) : mG x pc lv (mI a :: st) σ :=
  fun H locs ls hP hS hl => lv_i2c (x := Int32.ofInt a) (v := Int32.ofInt (iC a)) h.1 h.2.1 hd (Int32.ofInt_toInt _).symm (kk H locs ls hP hS hl)
theorem g_i2l (h : mOk x l μ n Γ) {a : Int} (hd : decode μ.2.1 pc = .ok (.i2l, 1)) (ha : i32 a) (kk : mG x (pc + 1) lv (mL a :: st) σ) : mG x pc lv (mI a :: st) σ :=
  fun H locs ls hP hS hl => lv_i2l (x := Int32.ofInt a) (v := Int64.ofInt a) h.1 h.2.1 hd (Int32.toInt64_ofInt (by show (-2147483648 : Int) ≤ a; exact ha.1) (by show a ≤ 2147483647; exact ha.2)) (kk H locs ls hP hS hl)
theorem g_l2i (h : mOk x l μ n Γ) {a : Int} (hd : decode μ.2.1 pc = .ok (.l2i, 1)) (kk : mG x (pc + 1) lv (mI a :: st) σ) : mG x pc lv (mL a :: st) σ :=
  fun H locs ls hP hS hl => lv_l2i (x := Int64.ofInt a) (v := Int32.ofInt a) h.1 h.2.1 hd Int64.toInt32_ofInt (kk H locs ls hP hS hl)
def cmp3 (a b : Int) : Int := if b < a then 1 else if a = b then 0 else -1
theorem g_lcmp (h : mOk x l μ n Γ) {a b : Int} (hd : decode μ.2.1 pc = .ok (.lcmp, 1)) (ha : i64 a) (hb : i64 b) (kk : mG x (pc + 1) lv (mI (cmp3 a b) :: st) σ) : mG x pc lv (mL b :: mL a :: st) σ := by
  intro H locs ls hP hS hl
  have q := kk H locs ls hP hS hl
  have e : Int32.ofInt (cmp3 a b) = lg_cmp (Int64.ofInt a) (Int64.ofInt b) := by
    unfold cmp3 lg_cmp
    simp only [gt_iff_lt, Int64.lt_iff_toInt_lt, ← Int64.toInt_inj, i64_to ha, i64_to hb]
    by_cases h1 : b < a
    · rw [if_pos h1, if_pos h1]; decide
    · rw [if_neg h1, if_neg h1]
      by_cases h2 : a = b
      · rw [if_pos h2, if_pos h2]; decide
      · rw [if_neg h2, if_neg h2]; decide
  refine W.lcmp (x := Int64.ofInt a) (y := Int64.ofInt b) h.1 h.2.1 hd ?_
  rw [← e]
  exact q
theorem g_dup (h : mOk x l μ n Γ) {v : Value} (hd : decode μ.2.1 pc = .ok (.dup, 1)) (hv : v.category = 1) (kk : mG x (pc + 1) lv (v :: v :: st) σ) : mG x pc lv (v :: st) σ :=
  fun H locs ls hP hS hl => lv_dup h.1 h.2.1 hd hv (kk H locs ls hP hS hl)
theorem g_pop (h : mOk x l μ n Γ) {v : Value} (hd : decode μ.2.1 pc = .ok (.pop, 1)) (hv : v.category = 1) (kk : mG x (pc + 1) lv st σ) : mG x pc lv (v :: st) σ :=
  fun H locs ls hP hS hl => lv_pop h.1 h.2.1 hd hv (kk H locs ls hP hS hl)
theorem g_goto (h : mOk x l μ n Γ) {off : Int} {tgt : Nat} (hd : decode μ.2.1 pc = .ok (.goto off, 3)) (ht : (pc : Int) + off = (tgt : Int)) (kk : mG x tgt lv st σ) : mG x pc lv st σ :=
  fun H locs ls hP hS hl => lv_goto h.1 h.2.1 hd ht (kk H locs ls hP hS hl)
theorem g_icmp_eq (h : mOk x l μ n Γ) {a b : Int} {off : Int} {tgt : Nat} (hd : decode μ.2.1 pc = .ok (.if_icmp .eq off, 3)) (ht : (pc : Int) + off = (tgt : Int)) (ha : i32 a) (hb : i32 b) (kt : a = b → mG x tgt lv st σ) (kf : ¬ a = b → mG x (pc + 3) lv st σ) : mG x pc lv (mI b :: mI a :: st) σ :=
  fun H locs ls hP hS hl => lv_icmp_eq (x := Int32.ofInt a) (y := Int32.ofInt b) h.1 h.2.1 hd ht (fun c => kt ((i32_eq ha hb).mp c) H locs ls hP hS hl) (fun c => kf (fun q => c ((i32_eq ha hb).mpr q)) H locs ls hP hS hl)
theorem g_if_eq (h : mOk x l μ n Γ) {a : Int} {off : Int} {tgt : Nat} (hd : decode μ.2.1 pc = .ok (.ifCond .eq off, 3)) (ht : (pc : Int) + off = (tgt : Int)) (ha : i32 a) (kt : a = 0 → mG x tgt lv st σ) (kf : ¬ a = 0 → mG x (pc + 3) lv st σ) : mG x pc lv (mI a :: st) σ := by
  have hb : i32 0 := ⟨by omega, by omega⟩
  intro H locs ls hP hS hl
  refine lv_if_eq (x := Int32.ofInt a) h.1 h.2.1 hd ht (fun c => ?_) (fun c => ?_)
  · rw [i32_0] at c
    exact kt ((i32_eq ha hb).mp c) H locs ls hP hS hl
  · rw [i32_0] at c
    exact kf (fun q => c ((i32_eq ha hb).mpr q)) H locs ls hP hS hl
theorem g_icmp_ne (h : mOk x l μ n Γ) {a b : Int} {off : Int} {tgt : Nat} (hd : decode μ.2.1 pc = .ok (.if_icmp .ne off, 3)) (ht : (pc : Int) + off = (tgt : Int)) (ha : i32 a) (hb : i32 b) (kt : ¬ a = b → mG x tgt lv st σ) (kf : a = b → mG x (pc + 3) lv st σ) : mG x pc lv (mI b :: mI a :: st) σ :=
  fun H locs ls hP hS hl => lv_icmp_ne (x := Int32.ofInt a) (y := Int32.ofInt b) h.1 h.2.1 hd ht (fun c => kt (fun q => c ((i32_eq ha hb).mpr q)) H locs ls hP hS hl) (fun c => kf ((i32_eq ha hb).mp c) H locs ls hP hS hl)
theorem g_if_ne (h : mOk x l μ n Γ) {a : Int} {off : Int} {tgt : Nat} (hd : decode μ.2.1 pc = .ok (.ifCond .ne off, 3)) (ht : (pc : Int) + off = (tgt : Int)) (ha : i32 a) (kt : ¬ a = 0 → mG x tgt lv st σ) (kf : a = 0 → mG x (pc + 3) lv st σ) : mG x pc lv (mI a :: st) σ := by
  have hb : i32 0 := ⟨by omega, by omega⟩
  intro H locs ls hP hS hl
  refine lv_if_ne (x := Int32.ofInt a) h.1 h.2.1 hd ht (fun c => ?_) (fun c => ?_)
  · rw [i32_0] at c
    exact kt (fun q => c ((i32_eq ha hb).mpr q)) H locs ls hP hS hl
  · rw [i32_0] at c
    exact kf ((i32_eq ha hb).mp c) H locs ls hP hS hl
theorem g_icmp_lt (h : mOk x l μ n Γ) {a b : Int} {off : Int} {tgt : Nat} (hd : decode μ.2.1 pc = .ok (.if_icmp .lt off, 3)) (ht : (pc : Int) + off = (tgt : Int)) (ha : i32 a) (hb : i32 b) (kt : a < b → mG x tgt lv st σ) (kf : ¬ a < b → mG x (pc + 3) lv st σ) : mG x pc lv (mI b :: mI a :: st) σ :=
  fun H locs ls hP hS hl => lv_icmp_lt (x := Int32.ofInt a) (y := Int32.ofInt b) h.1 h.2.1 hd ht (fun c => kt ((i32_lt ha hb).mp c) H locs ls hP hS hl) (fun c => kf (fun q => c ((i32_lt ha hb).mpr q)) H locs ls hP hS hl)
theorem g_if_lt (h : mOk x l μ n Γ) {a : Int} {off : Int} {tgt : Nat} (hd : decode μ.2.1 pc = .ok (.ifCond .lt off, 3)) (ht : (pc : Int) + off = (tgt : Int)) (ha : i32 a) (kt : a < 0 → mG x tgt lv st σ) (kf : ¬ a < 0 → mG x (pc + 3) lv st σ) : mG x pc lv (mI a :: st) σ := by
  have hb : i32 0 := ⟨by omega, by omega⟩
  intro H locs ls hP hS hl
  refine lv_if_lt (x := Int32.ofInt a) h.1 h.2.1 hd ht (fun c => ?_) (fun c => ?_)
  · rw [i32_0] at c
    exact kt ((i32_lt ha hb).mp c) H locs ls hP hS hl
  · rw [i32_0] at c
    exact kf (fun q => c ((i32_lt ha hb).mpr q)) H locs ls hP hS hl
theorem g_icmp_ge (h : mOk x l μ n Γ) {a b : Int} {off : Int} {tgt : Nat} (hd : decode μ.2.1 pc = .ok (.if_icmp .ge off, 3)) (ht : (pc : Int) + off = (tgt : Int)) (ha : i32 a) (hb : i32 b) (kt : b ≤ a → mG x tgt lv st σ) (kf : ¬ b ≤ a → mG x (pc + 3) lv st σ) : mG x pc lv (mI b :: mI a :: st) σ :=
  fun H locs ls hP hS hl => lv_icmp_ge (x := Int32.ofInt a) (y := Int32.ofInt b) h.1 h.2.1 hd ht (fun c => kt ((i32_le hb ha).mp c) H locs ls hP hS hl) (fun c => kf (fun q => c ((i32_le hb ha).mpr q)) H locs ls hP hS hl)
theorem g_if_ge (h : mOk x l μ n Γ) {a : Int} {off : Int} {tgt : Nat} (hd : decode μ.2.1 pc = .ok (.ifCond .ge off, 3)) (ht : (pc : Int) + off = (tgt : Int)) (ha : i32 a) (kt : 0 ≤ a → mG x tgt lv st σ) (kf : ¬ 0 ≤ a → mG x (pc + 3) lv st σ) : mG x pc lv (mI a :: st) σ := by
  have hb : i32 0 := ⟨by omega, by omega⟩
  intro H locs ls hP hS hl
  refine lv_if_ge (x := Int32.ofInt a) h.1 h.2.1 hd ht (fun c => ?_) (fun c => ?_)
  · rw [i32_0] at c
    exact kt ((i32_le hb ha).mp c) H locs ls hP hS hl
  · rw [i32_0] at c
    exact kf (fun q => c ((i32_le hb ha).mpr q)) H locs ls hP hS hl
theorem g_icmp_gt (h : mOk x l μ n Γ) {a b : Int} {off : Int} {tgt : Nat} (hd : decode μ.2.1 pc = .ok (.if_icmp .gt off, 3)) (ht : (pc : Int) + off = (tgt : Int)) (ha : i32 a) (hb : i32 b) (kt : b < a → mG x tgt lv st σ) (kf : ¬ b < a → mG x (pc + 3) lv st σ) : mG x pc lv (mI b :: mI a :: st) σ :=
  fun H locs ls hP hS hl => lv_icmp_gt (x := Int32.ofInt a) (y := Int32.ofInt b) h.1 h.2.1 hd ht (fun c => kt ((i32_lt hb ha).mp c) H locs ls hP hS hl) (fun c => kf (fun q => c ((i32_lt hb ha).mpr q)) H locs ls hP hS hl)
theorem g_if_gt (h : mOk x l μ n Γ) {a : Int} {off : Int} {tgt : Nat} (hd : decode μ.2.1 pc = .ok (.ifCond .gt off, 3)) (ht : (pc : Int) + off = (tgt : Int)) (ha : i32 a) (kt : 0 < a → mG x tgt lv st σ) (kf : ¬ 0 < a → mG x (pc + 3) lv st σ) : mG x pc lv (mI a :: st) σ := by
  have hb : i32 0 := ⟨by omega, by omega⟩
  intro H locs ls hP hS hl
  refine lv_if_gt (x := Int32.ofInt a) h.1 h.2.1 hd ht (fun c => ?_) (fun c => ?_)
  · rw [i32_0] at c
    exact kt ((i32_lt hb ha).mp c) H locs ls hP hS hl
  · rw [i32_0] at c
    exact kf (fun q => c ((i32_lt hb ha).mpr q)) H locs ls hP hS hl
theorem g_icmp_le (h : mOk x l μ n Γ) {a b : Int} {off : Int} {tgt : Nat} (hd : decode μ.2.1 pc = .ok (.if_icmp .le off, 3)) (ht : (pc : Int) + off = (tgt : Int)) (ha : i32 a) (hb : i32 b) (kt : a ≤ b → mG x tgt lv st σ) (kf : ¬ a ≤ b → mG x (pc + 3) lv st σ) : mG x pc lv (mI b :: mI a :: st) σ :=
  fun H locs ls hP hS hl => lv_icmp_le (x := Int32.ofInt a) (y := Int32.ofInt b) h.1 h.2.1 hd ht (fun c => kt ((i32_le ha hb).mp c) H locs ls hP hS hl) (fun c => kf (fun q => c ((i32_le ha hb).mpr q)) H locs ls hP hS hl)
theorem g_if_le (h : mOk x l μ n Γ) {a : Int} {off : Int} {tgt : Nat} (hd : decode μ.2.1 pc = .ok (.ifCond .le off, 3)) (ht : (pc : Int) + off = (tgt : Int)) (ha : i32 a) (kt : a ≤ 0 → mG x tgt lv st σ) (kf : ¬ a ≤ 0 → mG x (pc + 3) lv st σ) : mG x pc lv (mI a :: st) σ := by
  have hb : i32 0 := ⟨by omega, by omega⟩
  intro H locs ls hP hS hl
  refine lv_if_le (x := Int32.ofInt a) h.1 h.2.1 hd ht (fun c => ?_) (fun c => ?_)
  · rw [i32_0] at c
    exact kt ((i32_le ha hb).mp c) H locs ls hP hS hl
  · rw [i32_0] at c
    exact kf (fun q => c ((i32_le ha hb).mpr q)) H locs ls hP hS hl
/-! answers -/
theorem g_iret (h : mOk x l μ n Γ) {post : Int → mS → Prop} (hq : rI x Γ post) (hr : μ.2.2.2 = some .int) {z : Int} (hd : decode μ.2.1 pc = .ok (.ireturn, 1)) (hp : post z σ) : mG x pc lv [mI z] σ := by
  obtain ⟨hx, hb, hm, hnl, ho, ht, hR, hΓ, hD, hK, hN, hS9, hlk, hrt, hll⟩ := h
  subst hΓ
  intro H locs ls hP hS hl
  unfold rI at hq
  rw [hq]
  exact W.iret (v := Int32.ofInt z) hx hb (hrt.trans hr) (fun t ht hW => ⟨⟨_, σ, rfl, ⟨z, rfl, hp⟩, by rw [ht]; exact hP, va_K.moved hW.alike hK⟩, hS.F ht⟩) hS.2.2 hd hlk
theorem g_zret (h : mOk x l μ n Γ) {post : Int → mS → Prop} (hq : rI x Γ post) (hr : μ.2.2.2 = some .boolean) {z : Int} (hd : decode μ.2.1 pc = .ok (.ireturn, 1)) (hz : z = 0 ∨ z = 1) (hp : post z σ) : mG x pc lv [mI z] σ := by
  obtain ⟨hx, hb, hm, hnl, ho, ht, hR, hΓ, hD, hK, hN, hS9, hlk, hrt, hll⟩ := h
  subst hΓ
  intro H locs ls hP hS hl
  unfold rI at hq
  rw [hq]
  exact W.zret (v := Int32.ofInt z) (ty := .boolean) hx hb (hrt.trans hr) (by rcases hz with rfl | rfl <;> rfl) (fun t ht hW => ⟨⟨_, σ, rfl, ⟨z, rfl, hp⟩, by rw [ht]; exact hP, va_K.moved hW.alike hK⟩, hS.F ht⟩) hS.2.2 hd hlk
theorem g_cret (h : mOk x l μ n Γ) {post : Int → mS → Prop} (hq : rI x Γ post) {ty : FieldType} (hr : μ.2.2.2 = some ty) {z : Int} (hd : decode μ.2.1 pc = .ok (.ireturn, 1)) (hz : narrow ty (mI z) = mI z) (hp : post z σ) : mG x pc lv [mI z] σ := by
  obtain ⟨hx, hb, hm, hnl, ho, ht, hR, hΓ, hD, hK, hN, hS9, hlk, hrt, hll⟩ := h
  subst hΓ
  intro H locs ls hP hS hl
  unfold rI at hq
  rw [hq]
  exact W.zret (v := Int32.ofInt z) (ty := ty) hx hb (hrt.trans hr) hz (fun t ht hW => ⟨⟨_, σ, rfl, ⟨z, rfl, hp⟩, by rw [ht]; exact hP, va_K.moved hW.alike hK⟩, hS.F ht⟩) hS.2.2 hd hlk
theorem g_lret (h : mOk x l μ n Γ) {post : Int → mS → Prop} (hq : rL x Γ post) (hr : μ.2.2.2 = some .long) {z : Int} (hd : decode μ.2.1 pc = .ok (.lreturn, 1)) (hp : post z σ) : mG x pc lv [mL z] σ := by
  obtain ⟨hx, hb, hm, hnl, ho, ht, hR, hΓ, hD, hK, hN, hS9, hlk, hrt, hll⟩ := h
  subst hΓ
  intro H locs ls hP hS hl
  unfold rL at hq
  rw [hq]
  exact W.lret (v := Int64.ofInt z) hx hb (hrt.trans hr) (fun t ht hW => ⟨⟨_, σ, rfl, ⟨z, rfl, hp⟩, by rw [ht]; exact hP, va_K.moved hW.alike hK⟩, hS.F ht⟩) hS.2.2 hd hlk
theorem g_vret (h : mOk x l μ n Γ) {post : mS → Prop} (hq : rV x Γ post) (hr : μ.2.2.2 = none) (hd : decode μ.2.1 pc = .ok (.return_, 1)) (hp : post σ) : mG x pc lv [] σ := by
  obtain ⟨hx, hb, hm, hnl, ho, ht, hR, hΓ, hD, hK, hN, hS9, hlk, hrt, hll⟩ := h
  subst hΓ
  intro H locs ls hP hS hl
  unfold rV at hq
  rw [hq]
  exact W.vret hx hb (hrt.trans hr) (fun t ht hW => ⟨⟨σ, rfl, hp, by rw [ht]; exact hP, va_K.moved hW.alike hK⟩, hS.F ht⟩) hS.2.2 hd hlk
/-! fields -/
def mLf (own : String) (idx : Nat) (r nm ds : String) : Prop := Cond.fieldLink own idx r nm ds ∈ gT ∨ ∃ host, Cond.fieldLinkNest own idx r nm ds host ∈ nWs
theorem g_getf (h : mOk x l μ n Γ) {C : String} {T : u_T} {N ci idx j : Nat} {k : Int} {fs : List Value} {v : Value} (hin : ∀ w ∈ u_ws C T N, w ∈ gT) (hc : vwCl[ci]? = some (C, T, N)) (hj : j < N) (hL : mLf μ.1.cls idx (T j).1 (T j).2.1 (T j).2.2.1) (hd : decode μ.2.1 pc = .ok (.getfield idx, 3)) (h0 : 0 ≤ k) (h1 : k < (Γ.2.2.1 : Int)) (hE : Γ.2.2.2.2 σ k = .inr (ci, fs)) (hv : fs[j]? = some v) (kk : mG x (pc + 3) lv (v :: st) σ) : mG x pc lv (.ref (Γ.2.2.2.1 k) :: st) σ := by
  obtain ⟨hx, hb, hm, hnl, ho, ht, hR, hΓ, hD, hK, hN, hS9, hlk, hrt, hll⟩ := h
  subst hΓ
  intro H locs ls hP hS hl
  have he : (mW x.2.2.1 σ)[k.toNat]? = some (x.2.2.1.2.2.2.1 k, .inr (ci, fs)) := by rw [← hE]; exact mWd_get h0 h1
  rcases hL with hL | ⟨host, hL⟩
  · exact va_get hx hb ht hin ho hK hP k.toNat he hc j hj (ht _ hL) (fun _ h9 => h9) hv hd (kk H locs ls hP hS hl)
  · exact va_getN hx hb ht hin ho hK hP k.toNat he hc j hj (va_Nw.use rfl (hN _ hL)) (fun _ h9 => h9) hv hd (kk H locs ls hP hS hl)
theorem g_putf (h : mOk x l μ n Γ) {C : String} {T : u_T} {N ci idx j : Nat} {k : Int} {fs : List Value} {v : Value} {σ' : mS} {ty : FieldType} (hin : ∀ w ∈ u_ws C T N, w ∈ gT) (ty0 : Nat → FieldType) (hty : ∀ k, k < N → parseFieldDescriptor (T k).2.2.1 = some (ty0 k)) (hnm : ∀ a, a < N → ∀ b, b < N → a ≠ b → (T a).2.1 ≠ (T b).2.1) (hc : vwCl[ci]? = some (C, T, N)) (hj : j < N) (hL : mLf μ.1.cls idx (T j).1 (T j).2.1 (T j).2.2.1) (hfin : (T j).2.2.2 = false) (hdd : parseFieldDescriptor (T j).2.2.1 = some ty) (hnr : narrow ty v = v) (hft : fits ty v = true) (hlen : j < fs.length) (hd : decode μ.2.1 pc = .ok (.putfield idx, 3)) (h0 : 0 ≤ k) (h1 : k < (Γ.2.2.1 : Int)) (hE : Γ.2.2.2.2 σ k = .inr (ci, fs)) (hE' : Γ.2.2.2.2 σ' k = .inr (ci, fs.set j v)) (hoth : ∀ a : Int, a ≠ k → Γ.2.2.2.2 σ' a = Γ.2.2.2.2 σ a) (kk : mG x (pc + 3) lv st σ') : mG x pc lv (v :: .ref (Γ.2.2.2.1 k) :: st) σ := by
  obtain ⟨hx, hb, hm, hnl, ho, ht, hR, hΓ, hD, hK, hN, hS9, hlk, hrt, hll⟩ := h
  subst hΓ
  intro H locs ls hP hS hl
  have he : (mW x.2.2.1 σ)[k.toNat]? = some (x.2.2.1.2.2.2.1 k, .inr (ci, fs)) := by rw [← hE]; exact mWd_get h0 h1
  have hset : (mW x.2.2.1 σ).set k.toNat (x.2.2.1.2.2.2.1 k, .inr (ci, fs.set j v)) = mW x.2.2.1 σ' := mWd_set h0 h1 hE' hoth
  rcases hL with hL | ⟨host, hL⟩
  · exact va_put hx hb ht hin ty0 hty hnm ho hK hP (mW_D hD σ _) hS k.toNat he hc j hj (ht _ hL) (fun _ h9 => h9) hfin hdd hnr hft hlen hd (fun H1 locs1 hP1 _ hS1 => kk H1 locs1 ls (by rw [← hset]; exact hP1) hS1 hl)
  · exact va_putN hx hb ht hin ty0 hty hnm ho hK hP (mW_D hD σ _) hS k.toNat he hc j hj (va_Nw.use rfl (hN _ hL)) (fun _ h9 => h9) hfin hdd hnr hft hlen hd (fun H1 locs1 hP1 _ hS1 => kk H1 locs1 ls (by rw [← hset]; exact hP1) hS1 hl)
/-! arrays -/
theorem g_iald (h : mOk x l μ n Γ) {k i : Int} {t0 N : Nat} {cA : ClassId} {f : Nat → Int32} {v : Int} (h0 : 0 ≤ k) (h1 : k < (Γ.2.2.1 : Int)) (hE : Γ.2.2.2.2 σ k = .inl (cA, N, .inl f)) (ht0 : Γ.2.1[t0]? = some (cA, .int)) (hi0 : 0 ≤ i) (hi1 : i < (N : Int)) (hNs : N ≤ 2147483647) (hv : f i.toNat = Int32.ofInt v) (hd : decode μ.2.1 pc = .ok (.iaload, 1)) (kk : mG x (pc + 1) lv (mI v :: st) σ) : mG x pc lv (mI i :: .ref (Γ.2.2.2.1 k) :: st) σ := by
  obtain ⟨hx, hb, hm, hnl, ho, ht, hR, hΓ, hD, hK, hN, hS9, hlk, hrt, hll⟩ := h
  subst hΓ
  intro H locs ls hP hS hl
  have he : (mW x.2.2.1 σ)[k.toNat]? = some (x.2.2.1.2.2.2.1 k, .inl (cA, N, .inl f)) := by rw [← hE]; exact mWd_get h0 h1
  refine va_iald (i := Int32.ofInt i) hx hb hK hP k.toNat t0 he ht0 (i32_in hi0 hi1 hNs) hd ?_
  rw [i32_cl hi0 (by omega), hv]
  exact kk H locs ls hP hS hl
theorem g_zald (h : mOk x l μ n Γ) {k i : Int} {t0 N : Nat} {cA : ClassId} {f : Nat → Int32} {v : Int} (h0 : 0 ≤ k) (h1 : k < (Γ.2.2.1 : Int)) (hE : Γ.2.2.2.2 σ k = .inl (cA, N, .inl f)) (ht0 : Γ.2.1[t0]? = some (cA, .boolean)) (hi0 : 0 ≤ i) (hi1 : i < (N : Int)) (hNs : N ≤ 2147483647) (hv : f i.toNat = Int32.ofInt v) (hd : decode μ.2.1 pc = .ok (.baload, 1)) (kk : mG x (pc + 1) lv (mI v :: st) σ) : mG x pc lv (mI i :: .ref (Γ.2.2.2.1 k) :: st) σ := by
  obtain ⟨hx, hb, hm, hnl, ho, ht, hR, hΓ, hD, hK, hN, hS9, hlk, hrt, hll⟩ := h
  subst hΓ
  intro H locs ls hP hS hl
  have he : (mW x.2.2.1 σ)[k.toNat]? = some (x.2.2.1.2.2.2.1 k, .inl (cA, N, .inl f)) := by rw [← hE]; exact mWd_get h0 h1
  refine va_zald (i := Int32.ofInt i) hx hb hK hP k.toNat t0 he ht0 (i32_in hi0 hi1 hNs) hd ?_
  rw [i32_cl hi0 (by omega), hv]
  exact kk H locs ls hP hS hl
theorem g_aald (h : mOk x l μ n Γ) {k i : Int} {t0 N : Nat} {cA : ClassId} {C : String} {f : Nat → Option Nat} {v : Nat} (h0 : 0 ≤ k) (h1 : k < (Γ.2.2.1 : Int)) (hE : Γ.2.2.2.2 σ k = .inl (cA, N, .inr (.inr (.inr (.inr f))))) (ht0 : Γ.2.1[t0]? = some (cA, .object C)) (hi0 : 0 ≤ i) (hi1 : i < (N : Int)) (hNs : N ≤ 2147483647) (hv : f i.toNat = some v) (hd : decode μ.2.1 pc = .ok (.aaload, 1)) (kk : mG x (pc + 1) lv (.ref v :: st) σ) : mG x pc lv (mI i :: .ref (Γ.2.2.2.1 k) :: st) σ := by
  obtain ⟨hx, hb, hm, hnl, ho, ht, hR, hΓ, hD, hK, hN, hS9, hlk, hrt, hll⟩ := h
  subst hΓ
  intro H locs ls hP hS hl
  have he : (mW x.2.2.1 σ)[k.toNat]? = some (x.2.2.1.2.2.2.1 k, .inl (cA, N, .inr (.inr (.inr (.inr f))))) := by rw [← hE]; exact mWd_get h0 h1
  refine va_aldq (i := Int32.ofInt i) hx hb hK hP k.toNat t0 he ht0 (i32_in hi0 hi1 hNs) hd ?_
  rw [i32_cl hi0 (by omega), hv]
  exact kk H locs ls hP hS hl
theorem g_iast (h : mOk x l μ n Γ) {k i : Int} {t0 N : Nat} {cA : ClassId} {f : Nat → Int32} {v : Int} {σ' : mS} (h0 : 0 ≤ k) (h1 : k < (Γ.2.2.1 : Int)) (hE : Γ.2.2.2.2 σ k = .inl (cA, N, .inl f)) (ht0 : Γ.2.1[t0]? = some (cA, .int)) (hi0 : 0 ≤ i) (hi1 : i < (N : Int)) (hNs : N ≤ 2147483647) (hE' : Γ.2.2.2.2 σ' k = .inl (cA, N, .inl (upd f i.toNat (Int32.ofInt v)))) (hoth : ∀ a : Int, a ≠ k → Γ.2.2.2.2 σ' a = Γ.2.2.2.2 σ a) (hd : decode μ.2.1 pc = .ok (.iastore, 1)) (kk : mG x (pc + 1) lv st σ') : mG x pc lv (mI v :: mI i :: .ref (Γ.2.2.2.1 k) :: st) σ := by
  obtain ⟨hx, hb, hm, hnl, ho, ht, hR, hΓ, hD, hK, hN, hS9, hlk, hrt, hll⟩ := h
  subst hΓ
  intro H locs ls hP hS hl
  have he : (mW x.2.2.1 σ)[k.toNat]? = some (x.2.2.1.2.2.2.1 k, .inl (cA, N, .inl f)) := by rw [← hE]; exact mWd_get h0 h1
  have hset : (mW x.2.2.1 σ).set k.toNat (x.2.2.1.2.2.2.1 k, .inl (cA, N, .inl (upd f i.toNat (Int32.ofInt v)))) = mW x.2.2.1 σ' := mWd_set h0 h1 hE' hoth
  refine va_iast (i := Int32.ofInt i) (x := Int32.ofInt v) hx hb hK hP (mW_D hD σ _) hS k.toNat t0 he ht0 (i32_in hi0 hi1 hNs) hd (fun H1 locs1 hP1 hD1 hS1 => ?_)
  rw [i32_cl hi0 (by omega)] at hP1
  exact kk H1 locs1 ls (by rw [← hset]; exact hP1) hS1 hl
theorem g_zast (h : mOk x l μ n Γ) {k i : Int} {t0 N : Nat} {cA : ClassId} {f : Nat → Int32} {v : Int} {σ' : mS} (h0 : 0 ≤ k) (h1 : k < (Γ.2.2.1 : Int)) (hE : Γ.2.2.2.2 σ k = .inl (cA, N, .inl f)) (ht0 : Γ.2.1[t0]? = some (cA, .boolean)) (hi0 : 0 ≤ i) (hi1 : i < (N : Int)) (hNs : N ≤ 2147483647) (hz : v = 0 ∨ v = 1) (hE' : Γ.2.2.2.2 σ' k = .inl (cA, N, .inl (upd f i.toNat (Int32.ofInt v)))) (hoth : ∀ a : Int, a ≠ k → Γ.2.2.2.2 σ' a = Γ.2.2.2.2 σ a) (hd : decode μ.2.1 pc = .ok (.bastore, 1)) (kk : mG x (pc + 1) lv st σ') : mG x pc lv (mI v :: mI i :: .ref (Γ.2.2.2.1 k) :: st) σ := by
  obtain ⟨hx, hb, hm, hnl, ho, ht, hR, hΓ, hD, hK, hN, hS9, hlk, hrt, hll⟩ := h
  subst hΓ
  intro H locs ls hP hS hl
  have he : (mW x.2.2.1 σ)[k.toNat]? = some (x.2.2.1.2.2.2.1 k, .inl (cA, N, .inl f)) := by rw [← hE]; exact mWd_get h0 h1
  have hset : (mW x.2.2.1 σ).set k.toNat (x.2.2.1.2.2.2.1 k, .inl (cA, N, .inl (upd f i.toNat (Int32.ofInt v)))) = mW x.2.2.1 σ' := mWd_set h0 h1 hE' hoth
  refine va_zast (i := Int32.ofInt i) (x := Int32.ofInt v) hx hb hK hP (mW_D hD σ _) hS k.toNat t0 he ht0 (i32_in hi0 hi1 hNs) hd (fun H1 locs1 hP1 hD1 hS1 => ?_)
  have ev : vp_nar .boolean (Int32.ofInt v) = Int32.ofInt v := by rcases hz with rfl | rfl <;> rfl
  rw [i32_cl hi0 (by omega), ev] at hP1
  exact kk H1 locs1 ls (by rw [← hset]; exact hP1) hS1 hl
/-! calls -/
theorem mWs_good {ν : mM} (h : Cond.code ν.1 ν.2.1 ν.2.2.1 ν.2.2.2 ∈ gT) : GoodIn gT (mWs ν) := by
  intro w hw
  rcases List.mem_cons.mp hw with rfl | h1
  · exact ⟨h, good_of_word (gT_good h)⟩
  · exact ⟨h1, good_of_word (gT_good h1)⟩
def mLs (own : String) (idx : Nat) (ν : mM) (n : Nat) : Prop := (Cond.methodLink own idx ν.1 ∈ gT ∨ ∃ host, Cond.methodLinkNest own idx ν.1 host ∈ nWs) ∧ Cond.static ν.1 ∈ gT ∧ Cond.initialized ν.1.cls ∈ gT ∧ Cond.code ν.1 ν.2.1 ν.2.2.1 ν.2.2.2 ∈ gT ∧ (ν.1.cls ≠ "java/lang/invoke/MethodHandle" ∧ ν.1.cls ≠ "java/lang/invoke/VarHandle" ∧ (parseMethodDescriptor ν.1.desc).map (fun d => d.parameters.length) = some n) ∧ ν.2.2.1 ≤ 20
def mLv (own : String) (idx : Nat) (ν : mM) (n : Nat) : Prop := (Cond.methodLink own idx ν.1 ∈ gT ∨ ∃ host, Cond.methodLinkNest own idx ν.1 host ∈ nWs) ∧ Cond.instanceMethod ν.1 ∈ gT ∧ Cond.selects ν.1.cls ν.1 ν.1 ∈ gT ∧ Cond.initialized ν.1.cls ∈ gT ∧ Cond.code ν.1 ν.2.1 ν.2.2.1 ν.2.2.2 ∈ gT ∧ (ν.1.cls ≠ "java/lang/invoke/MethodHandle" ∧ ν.1.cls ≠ "java/lang/invoke/VarHandle" ∧ (parseMethodDescriptor ν.1.desc).map (fun d => d.parameters.length) = some n) ∧ ν.2.2.1 ≤ 20
def mRv (Γ : mE) (σ : mS) (r : Int) (ν : mM) : Prop := ∃ (ci : Nat) (fs : List Value) (T : u_T) (N : Nat), Γ.2.2.2.2 σ r = .inr (ci, fs) ∧ vwCl[ci]? = some (ν.1.cls, T, N) ∧ 0 ≤ r ∧ r < (Γ.2.2.1 : Int)
theorem mPreS (h : mOk x l μ n Γ) {H : Heap} {locs : List Loc} (hP : va_P Γ.1 vwCl (mW Γ σ) H) (hS : va_S (mA Γ x.1.2.2.2.2.heap.size) x.1.2.2.2.2.heap H locs) (av : List Value) : PreS x.1.2.2.2.2 H (va_Pc av (mPre Γ σ H.size)) av := by
  obtain ⟨hx, hb, hm, hnl, ho, ht, hR, hΓ, hD, hK, hN, hS9, hlk, hrt, hll⟩ := h
  exact ⟨mPre.blind, fun U hU hW => ⟨rfl, by rw [hU], ⟨by rw [hU]; exact hP, va_K.moved hW.alike hK⟩, hD, hN.warm hW, hS9.move hU hW hS.2.1 (mA_in hS.1 rfl)⟩⟩
theorem mLv_room {k : Nat} (hk : k < n) {m : Nat} (hm : m ≤ 20) : (mLev k).frames + 1 ≤ (mLev n).frames ∧ 8 + (m + 11) + (mLev k).locals ≤ (mLev n).locals := by
  show k + 1 ≤ n ∧ 8 + (m + 11) + 40 * k ≤ 40 * n
  omega
theorem g_sI (h : mOk x l μ n Γ) {ν : mM} {k idx : Nat} {av stk : List Value} {post : Int → mS → Prop} (hC : CI l Γ ν k av σ post) (hk : k < n) (hL : mLs μ.1.cls idx ν av.length) (hd : decode μ.2.1 pc = .ok (.invokestatic idx, 3)) (hs : stk = av.reverse ++ st) (hw9 : (st.map fun v => v.category).sum ≤ 8) (kk : ∀ (z : Int) (σ' : mS), post z σ' → mG x (pc + 3) lv (mI z :: st) σ') : mG x pc lv stk σ := by
  have h9 := h
  obtain ⟨hx, hb, hm, hnl, ho, ht, hR, hΓ, hD, hK, hN, hS9, hlk, hrt, hll⟩ := h
  subst hΓ; subst hs; subst hll
  intro H locs ls hP hS hl
  obtain ⟨hl1, hl2, hl3, hl4, hl5, hl6⟩ := hL
  have hA : ∀ q : Nat, mA x.2.2.1 H.size q → mA x.2.2.1 x.1.2.2.2.2.heap.size q := mA_in hS.1 rfl
  rcases hl1 with hl1 | ⟨host, hl1⟩
  · exact va_calli (va_runS (As := av) (rest := st) ⟨hx, hb, hm, ho, ht⟩ (hC H.size) ⟨callB_of av.length ht (mWs_good hl4) rfl rfl rfl (ht _ hl3) (ht _ hl1) hl5 (by rw [hR]; exact mLv_room hk hl6), ht _ hl2⟩ (mPreS h9 hP hS av) rfl rfl hl.1 rfl (lv_room hw9) hd (by rw [hR]; exact ⟨Nat.le_refl 0, Nat.le_refl 0⟩)) hS (fun q _ h => hA q h) hA
     (fun r u t H1 locs1 ht hvm hw hB hz1 hk1 hS1 => by
      obtain ⟨z, rfl, hw⟩ := hw
      exact kk z u hw H1 locs1 ls (by rw [← ht]; exact hB.1) hS1 hl)
  · exact va_calli (va_runSN (As := av) (rest := st) ⟨hx, hb, hm, ho, ht⟩ (hC H.size) ⟨va_cnB av.length ht (mWs_good hl4) rfl rfl rfl (hN _ hl1) (ht _ hl3) hl5 (by rw [hR]; exact mLv_room hk hl6), ht _ hl2, trivial⟩ (mPreS h9 hP hS av) rfl rfl hl.1 rfl (lv_room hw9) hd (by rw [hR]; exact ⟨Nat.le_refl 0, Nat.le_refl 0⟩)) hS (fun q _ h => hA q h) hA
     (fun r u t H1 locs1 ht hvm hw hB hz1 hk1 hS1 => by
      obtain ⟨z, rfl, hw⟩ := hw
      exact kk z u hw H1 locs1 ls (by rw [← ht]; exact hB.1) hS1 hl)
theorem g_vI (h : mOk x l μ n Γ) {ν : mM} {k idx : Nat} {av stk : List Value} {r : Int} {post : Int → mS → Prop} (hC : CI l Γ ν k (.ref (Γ.2.2.2.1 r) :: av) σ post) (hk : k < n) (hL : mLv μ.1.cls idx ν av.length) (hrv : mRv Γ σ r ν) (hd : decode μ.2.1 pc = .ok (.invokevirtual idx, 3)) (hs : stk = av.reverse ++ .ref (Γ.2.2.2.1 r) :: st) (hw9 : (st.map fun v => v.category).sum ≤ 8) (kk : ∀ (z : Int) (σ' : mS), post z σ' → mG x (pc + 3) lv (mI z :: st) σ') : mG x pc lv stk σ := by
  have h9 := h
  obtain ⟨hx, hb, hm, hnl, ho, ht, hR, hΓ, hD, hK, hN, hS9, hlk, hrt, hll⟩ := h
  subst hΓ; subst hs; subst hll
  intro H locs ls hP hS hl
  obtain ⟨hl1, hl2, hl7, hl3, hl4, hl5, hl6⟩ := hL
  obtain ⟨ci, fs, T, N, hE, hc, h0, h1⟩ := hrv
  have he : (mW x.2.2.1 σ)[r.toNat]? = some (x.2.2.1.2.2.2.1 r, .inr (ci, fs)) := by rw [← hE]; exact mWd_get h0 h1
  have hA : ∀ q : Nat, mA x.2.2.1 H.size q → mA x.2.2.1 x.1.2.2.2.2.heap.size q := mA_in hS.1 rfl
  have hpr := mPreS h9 hP hS (.ref (x.2.2.1.2.2.2.1 r) :: av)
  have hpv : PreV x.1.2.2.2.2 H ν.1.cls (x.2.2.1.2.2.2.1 r) (va_Pc (.ref (x.2.2.1.2.2.2.1 r) :: av) (mPre x.2.2.1 σ H.size)) av := ⟨hpr.1, va_recv hK hP hc he, hpr.2⟩
  rcases hl1 with hl1 | ⟨host, hl1⟩
  · exact va_calli (va_runV (As := av) (rest := st) ⟨hx, hb, hm, ho, ht⟩ (hC H.size) ⟨callB_of av.length ht (mWs_good hl4) rfl rfl rfl (ht _ hl3) (ht _ hl1) hl5 (by rw [hR]; exact mLv_room hk hl6), ht _ hl2, ht _ hl7⟩ hpv rfl rfl hl.1 rfl (lv_room hw9) hd (by rw [hR]; exact ⟨Nat.le_refl 0, Nat.le_refl 0⟩)) hS (fun q _ h => hA q h) hA
     (fun r u t H1 locs1 ht hvm hw hB hz1 hk1 hS1 => by
      obtain ⟨z, rfl, hw⟩ := hw
      exact kk z u hw H1 locs1 ls (by rw [← ht]; exact hB.1) hS1 hl)
  · exact va_calli (va_runVN (As := av) (rest := st) ⟨hx, hb, hm, ho, ht⟩ (hC H.size) ⟨va_cnB av.length ht (mWs_good hl4) rfl rfl rfl (hN _ hl1) (ht _ hl3) hl5 (by rw [hR]; exact mLv_room hk hl6), ht _ hl2, ht _ hl7⟩ hpv rfl rfl hl.1 rfl (lv_room hw9) hd (by rw [hR]; exact ⟨Nat.le_refl 0, Nat.le_refl 0⟩)) hS (fun q _ h => hA q h) hA
     (fun r u t H1 locs1 ht hvm hw hB hz1 hk1 hS1 => by
      obtain ⟨z, rfl, hw⟩ := hw
      exact kk z u hw H1 locs1 ls (by rw [← ht]; exact hB.1) hS1 hl)
theorem g_sL (h : mOk x l μ n Γ) {ν : mM} {k idx : Nat} {av stk : List Value} {post : Int → mS → Prop} (hC : CL l Γ ν k av σ post) (hk : k < n) (hL : mLs μ.1.cls idx ν av.length) (hd : decode μ.2.1 pc = .ok (.invokestatic idx, 3)) (hs : stk = av.reverse ++ st) (hw9 : (st.map fun v => v.category).sum ≤ 8) (kk : ∀ (z : Int) (σ' : mS), post z σ' → mG x (pc + 3) lv (mL z :: st) σ') : mG x pc lv stk σ := by
  have h9 := h
  obtain ⟨hx, hb, hm, hnl, ho, ht, hR, hΓ, hD, hK, hN, hS9, hlk, hrt, hll⟩ := h
  subst hΓ; subst hs; subst hll
  intro H locs ls hP hS hl
  obtain ⟨hl1, hl2, hl3, hl4, hl5, hl6⟩ := hL
  have hA : ∀ q : Nat, mA x.2.2.1 H.size q → mA x.2.2.1 x.1.2.2.2.2.heap.size q := mA_in hS.1 rfl
  rcases hl1 with hl1 | ⟨host, hl1⟩
  · exact va_calll (va_runS (As := av) (rest := st) ⟨hx, hb, hm, ho, ht⟩ (hC H.size) ⟨callB_of av.length ht (mWs_good hl4) rfl rfl rfl (ht _ hl3) (ht _ hl1) hl5 (by rw [hR]; exact mLv_room hk hl6), ht _ hl2⟩ (mPreS h9 hP hS av) rfl rfl hl.1 rfl (lv_room hw9) hd (by rw [hR]; exact ⟨Nat.le_refl 0, Nat.le_refl 0⟩)) hS (fun q _ h => hA q h) hA
     (fun r u t H1 locs1 ht hvm hw hB hz1 hk1 hS1 => by
      obtain ⟨z, rfl, hw⟩ := hw
      exact kk z u hw H1 locs1 ls (by rw [← ht]; exact hB.1) hS1 hl)
  · exact va_calll (va_runSN (As := av) (rest := st) ⟨hx, hb, hm, ho, ht⟩ (hC H.size) ⟨va_cnB av.length ht (mWs_good hl4) rfl rfl rfl (hN _ hl1) (ht _ hl3) hl5 (by rw [hR]; exact mLv_room hk hl6), ht _ hl2, trivial⟩ (mPreS h9 hP hS av) rfl rfl hl.1 rfl (lv_room hw9) hd (by rw [hR]; exact ⟨Nat.le_refl 0, Nat.le_refl 0⟩)) hS (fun q _ h => hA q h) hA
     (fun r u t H1 locs1 ht hvm hw hB hz1 hk1 hS1 => by
      obtain ⟨z, rfl, hw⟩ := hw
      exact kk z u hw H1 locs1 ls (by rw [← ht]; exact hB.1) hS1 hl)
theorem g_vL (h : mOk x l μ n Γ) {ν : mM} {k idx : Nat} {av stk : List Value} {r : Int} {post : Int → mS → Prop} (hC : CL l Γ ν k (.ref (Γ.2.2.2.1 r) :: av) σ post) (hk : k < n) (hL : mLv μ.1.cls idx ν av.length) (hrv : mRv Γ σ r ν) (hd : decode μ.2.1 pc = .ok (.invokevirtual idx, 3)) (hs : stk = av.reverse ++ .ref (Γ.2.2.2.1 r) :: st) (hw9 : (st.map fun v => v.category).sum ≤ 8) (kk : ∀ (z : Int) (σ' : mS), post z σ' → mG x (pc + 3) lv (mL z :: st) σ') : mG x pc lv stk σ := by
  have h9 := h
  obtain ⟨hx, hb, hm, hnl, ho, ht, hR, hΓ, hD, hK, hN, hS9, hlk, hrt, hll⟩ := h
  subst hΓ; subst hs; subst hll
  intro H locs ls hP hS hl
  obtain ⟨hl1, hl2, hl7, hl3, hl4, hl5, hl6⟩ := hL
  obtain ⟨ci, fs, T, N, hE, hc, h0, h1⟩ := hrv
  have he : (mW x.2.2.1 σ)[r.toNat]? = some (x.2.2.1.2.2.2.1 r, .inr (ci, fs)) := by rw [← hE]; exact mWd_get h0 h1
  have hA : ∀ q : Nat, mA x.2.2.1 H.size q → mA x.2.2.1 x.1.2.2.2.2.heap.size q := mA_in hS.1 rfl
  have hpr := mPreS h9 hP hS (.ref (x.2.2.1.2.2.2.1 r) :: av)
  have hpv : PreV x.1.2.2.2.2 H ν.1.cls (x.2.2.1.2.2.2.1 r) (va_Pc (.ref (x.2.2.1.2.2.2.1 r) :: av) (mPre x.2.2.1 σ H.size)) av := ⟨hpr.1, va_recv hK hP hc he, hpr.2⟩
  rcases hl1 with hl1 | ⟨host, hl1⟩
  · exact va_calll (va_runV (As := av) (rest := st) ⟨hx, hb, hm, ho, ht⟩ (hC H.size) ⟨callB_of av.length ht (mWs_good hl4) rfl rfl rfl (ht _ hl3) (ht _ hl1) hl5 (by rw [hR]; exact mLv_room hk hl6), ht _ hl2, ht _ hl7⟩ hpv rfl rfl hl.1 rfl (lv_room hw9) hd (by rw [hR]; exact ⟨Nat.le_refl 0, Nat.le_refl 0⟩)) hS (fun q _ h => hA q h) hA
     (fun r u t H1 locs1 ht hvm hw hB hz1 hk1 hS1 => by
      obtain ⟨z, rfl, hw⟩ := hw
      exact kk z u hw H1 locs1 ls (by rw [← ht]; exact hB.1) hS1 hl)
  · exact va_calll (va_runVN (As := av) (rest := st) ⟨hx, hb, hm, ho, ht⟩ (hC H.size) ⟨va_cnB av.length ht (mWs_good hl4) rfl rfl rfl (hN _ hl1) (ht _ hl3) hl5 (by rw [hR]; exact mLv_room hk hl6), ht _ hl2, ht _ hl7⟩ hpv rfl rfl hl.1 rfl (lv_room hw9) hd (by rw [hR]; exact ⟨Nat.le_refl 0, Nat.le_refl 0⟩)) hS (fun q _ h => hA q h) hA
     (fun r u t H1 locs1 ht hvm hw hB hz1 hk1 hS1 => by
      obtain ⟨z, rfl, hw⟩ := hw
      exact kk z u hw H1 locs1 ls (by rw [← ht]; exact hB.1) hS1 hl)
theorem g_sV (h : mOk x l μ n Γ) {ν : mM} {k idx : Nat} {av stk : List Value} {post : mS → Prop} (hC : CV l Γ ν k av σ post) (hk : k < n) (hL : mLs μ.1.cls idx ν av.length) (hd : decode μ.2.1 pc = .ok (.invokestatic idx, 3)) (hs : stk = av.reverse ++ st) (hw9 : (st.map fun v => v.category).sum ≤ 8) (kk : ∀ (σ' : mS), post σ' → mG x (pc + 3) lv st σ') : mG x pc lv stk σ := by
  have h9 := h
  obtain ⟨hx, hb, hm, hnl, ho, ht, hR, hΓ, hD, hK, hN, hS9, hlk, hrt, hll⟩ := h
  subst hΓ; subst hs; subst hll
  intro H locs ls hP hS hl
  obtain ⟨hl1, hl2, hl3, hl4, hl5, hl6⟩ := hL
  have hA : ∀ q : Nat, mA x.2.2.1 H.size q → mA x.2.2.1 x.1.2.2.2.2.heap.size q := mA_in hS.1 rfl
  rcases hl1 with hl1 | ⟨host, hl1⟩
  · exact va_callv (va_runS (As := av) (rest := st) ⟨hx, hb, hm, ho, ht⟩ (hC H.size) ⟨callB_of av.length ht (mWs_good hl4) rfl rfl rfl (ht _ hl3) (ht _ hl1) hl5 (by rw [hR]; exact mLv_room hk hl6), ht _ hl2⟩ (mPreS h9 hP hS av) rfl rfl hl.1 rfl (lv_room hw9) hd (by rw [hR]; exact ⟨Nat.le_refl 0, Nat.le_refl 0⟩)) hS (fun q _ h => hA q h) hA
     (fun u t H1 locs1 ht hvm hw hB hz1 hk1 hS1 => kk u hw H1 locs1 ls (by rw [← ht]; exact hB.1) hS1 hl)
  · exact va_callv (va_runSN (As := av) (rest := st) ⟨hx, hb, hm, ho, ht⟩ (hC H.size) ⟨va_cnB av.length ht (mWs_good hl4) rfl rfl rfl (hN _ hl1) (ht _ hl3) hl5 (by rw [hR]; exact mLv_room hk hl6), ht _ hl2, trivial⟩ (mPreS h9 hP hS av) rfl rfl hl.1 rfl (lv_room hw9) hd (by rw [hR]; exact ⟨Nat.le_refl 0, Nat.le_refl 0⟩)) hS (fun q _ h => hA q h) hA
     (fun u t H1 locs1 ht hvm hw hB hz1 hk1 hS1 => kk u hw H1 locs1 ls (by rw [← ht]; exact hB.1) hS1 hl)
theorem g_vV (h : mOk x l μ n Γ) {ν : mM} {k idx : Nat} {av stk : List Value} {r : Int} {post : mS → Prop} (hC : CV l Γ ν k (.ref (Γ.2.2.2.1 r) :: av) σ post) (hk : k < n) (hL : mLv μ.1.cls idx ν av.length) (hrv : mRv Γ σ r ν) (hd : decode μ.2.1 pc = .ok (.invokevirtual idx, 3)) (hs : stk = av.reverse ++ .ref (Γ.2.2.2.1 r) :: st) (hw9 : (st.map fun v => v.category).sum ≤ 8) (kk : ∀ (σ' : mS), post σ' → mG x (pc + 3) lv st σ') : mG x pc lv stk σ := by
  have h9 := h
  obtain ⟨hx, hb, hm, hnl, ho, ht, hR, hΓ, hD, hK, hN, hS9, hlk, hrt, hll⟩ := h
  subst hΓ; subst hs; subst hll
  intro H locs ls hP hS hl
  obtain ⟨hl1, hl2, hl7, hl3, hl4, hl5, hl6⟩ := hL
  obtain ⟨ci, fs, T, N, hE, hc, h0, h1⟩ := hrv
  have he : (mW x.2.2.1 σ)[r.toNat]? = some (x.2.2.1.2.2.2.1 r, .inr (ci, fs)) := by rw [← hE]; exact mWd_get h0 h1
  have hA : ∀ q : Nat, mA x.2.2.1 H.size q → mA x.2.2.1 x.1.2.2.2.2.heap.size q := mA_in hS.1 rfl
  have hpr := mPreS h9 hP hS (.ref (x.2.2.1.2.2.2.1 r) :: av)
  have hpv : PreV x.1.2.2.2.2 H ν.1.cls (x.2.2.1.2.2.2.1 r) (va_Pc (.ref (x.2.2.1.2.2.2.1 r) :: av) (mPre x.2.2.1 σ H.size)) av := ⟨hpr.1, va_recv hK hP hc he, hpr.2⟩
  rcases hl1 with hl1 | ⟨host, hl1⟩
  · exact va_callv (va_runV (As := av) (rest := st) ⟨hx, hb, hm, ho, ht⟩ (hC H.size) ⟨callB_of av.length ht (mWs_good hl4) rfl rfl rfl (ht _ hl3) (ht _ hl1) hl5 (by rw [hR]; exact mLv_room hk hl6), ht _ hl2, ht _ hl7⟩ hpv rfl rfl hl.1 rfl (lv_room hw9) hd (by rw [hR]; exact ⟨Nat.le_refl 0, Nat.le_refl 0⟩)) hS (fun q _ h => hA q h) hA
     (fun u t H1 locs1 ht hvm hw hB hz1 hk1 hS1 => kk u hw H1 locs1 ls (by rw [← ht]; exact hB.1) hS1 hl)
  · exact va_callv (va_runVN (As := av) (rest := st) ⟨hx, hb, hm, ho, ht⟩ (hC H.size) ⟨va_cnB av.length ht (mWs_good hl4) rfl rfl rfl (hN _ hl1) (ht _ hl3) hl5 (by rw [hR]; exact mLv_room hk hl6), ht _ hl2, ht _ hl7⟩ hpv rfl rfl hl.1 rfl (lv_room hw9) hd (by rw [hR]; exact ⟨Nat.le_refl 0, Nat.le_refl 0⟩)) hS (fun q _ h => hA q h) hA
     (fun u t H1 locs1 ht hvm hw hB hz1 hk1 hS1 => kk u hw H1 locs1 ls (by rw [← ht]; exact hB.1) hS1 hl)
end MG
