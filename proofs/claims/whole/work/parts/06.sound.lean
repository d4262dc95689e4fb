-- PART 06 (by gen_sound.py): the meaning of the abstract machine over the real one
def Aw (ad : Nat → Nat → Nat) : Nat → Prop := fun q => ∃ k i, i < cnt k ∧ k < 60 ∧ ad k i = q
def tyL (cy : Nat → ClassId) : List (ClassId × FieldType) := [(cy 0, .int), (cy 1, .byte), (cy 2, .boolean)]
def ZS (ad : Nat → Nat → Nat) (U : State) (H : Heap) : Prop := (va_Z RX1 "LETTERS" "[I" (.ref (ad 60 0)) (Aw ad) U H ∧ va_T .int (ad 60 0) 6 (fun j => .int (stT 60 j)) (Aw ad) U H) ∧ (va_Z RX1 "ABOVE" "[I" (.ref (ad 61 0)) (Aw ad) U H ∧ va_T .int (ad 61 0) 6 (fun j => .int (stT 61 j)) (Aw ad) U H)
def NW (U : State) : Prop := ∀ e ∈ nLk, va_Nw (nW e.1 e.2.1 e.2.2.1 e.2.2.2.1) U
def WP (D : va_G) (cy : Nat → ClassId) (ad : Nat → Nat → Nat) (S : MS) (H : Heap) : Prop := va_P D vwCl (wld cy ad S) H ∧ va_D (Aw ad) (wld cy ad S)
def WK (D : va_G) (cy : Nat → ClassId) (ad : Nat → Nat → Nat) (U : State) : Prop := va_K D vwCl (tyL cy) U ∧ ZS ad U U.heap ∧ NW U
def rmD (d : Nat) : Room := { frames := d, cells := 0, slots := 0, locals := 64 * d }
def Qp (D : va_G) (cy : Nat → ClassId) (ad : Nat → Nat → Nat) (P : Option AV → MS → Prop) : Array Value → State → Outcome → State → Prop := fun _ st oc t => (∃ (r : Option AV) (S : MS), oc = .returned (r.map (rv ad)) ∧ P r S ∧ WP D cy ad S t.heap) ∧ va_F (Aw ad) st t
/-- the contract of method u at the arguments as, in the state S: it returns r, leaving S2, with P r S2 -/
def wpM (d u : Nat) (as : List AV) (S : MS) (P : Option AV → MS → Prop) : Prop := ∀ (l : Launch) (D : va_G) (cy : Nat → ClassId) (ad : Nat → Nat → Nat), Met l (mY u) (Cond.code (mY u) (mC u) (mL u) (mR u) :: gdT) (rmD d) (va_Pc (as.map (rv ad)) (fun U => WK D cy ad U ∧ WP D cy ad S U.heap)) (Qp D cy ad P) 0 0 (Aw ad)
def Cx (u : Nat) (p : Program) (s : State) (m : MethodId) (args : Array Value) (meth : Method) (c : Code) : Prop := p.tables.exec = Jvm.exec ∧ c.code = mC u ∧ meth.sig.returnType = mR u ∧ c.maxLocals = mL u ∧ (∀ w ∈ gdT, w.before args s = true) ∧ s.vm.findClass (RN (mO u)) = some m.cls ∧ meth.locks = false
def Sx (D : va_G) (cy : Nat → ClassId) (ad : Nat → Nat → Nat) (S : MS) (s : State) (H : Heap) (locs : List Loc) : Prop := WK D cy ad s ∧ WP D cy ad S H ∧ va_S (Aw ad) s.heap H locs
def lh (ad : Nat → Nat → Nat) (ls : List AV) (lsR : Array Slot) (nL : Nat) : Prop := lsR.size = nL ∧ lv_wf lsR ∧ ∀ (i : Nat) (v : AV), ls[i]? = some v → v ≠ aU → lsR[i]? = some (.val (rv ad v))
/-- from pc on, with these locals, this stack, in this state: the method u returns r, leaving S2, with P r S2 (its calls go d deep) -/
def wpX (d u pc : Nat) (ls st : List AV) (S : MS) (P : Option AV → MS → Prop) : Prop := ∀ (p : Program) (l : Launch) (e : Env) (s : State) (m : MethodId) (args : Array Value) (below : List Frame) (meth : Method) (c : Code) (H : Heap) (locs : List Loc) (D : va_G) (cy : Nat → ClassId) (ad : Nat → Nat → Nat) (lsR : Array Slot),
  Cx u p s m args meth c → Sx D cy ad S s H locs → lh ad ls lsR (mL u) → W p l e (rmD (d + 1)) s m args below meth c H locs 0 0 (MQ below (Qp D cy ad P) args s 0 0 (Aw ad)) (F0 m pc lsR (st.map (rv ad)))
theorem WK_go {D : va_G} {cy : Nat → ClassId} {ad : Nat → Nat → Nat} {s U : State} {H : Heap} {locs : List Loc} (h : WK D cy ad s) (hW : s.WarmedH U.vm) (hU : U.heap = H) (hS : va_S (Aw ad) s.heap H locs) : WK D cy ad U := by
  obtain ⟨h1, ⟨⟨z1, z2⟩, z3, z4⟩, h3⟩ := h
  have hq : ∀ a : Nat, a < s.heap.size → ¬ Aw ad a → U.heap[a]? = s.heap[a]? := fun a ha hA => by rw [hU]; exact hS.2.1 a ha hA
  refine ⟨h1.moved hW.alike, ⟨⟨(z1.moved hW.alike).kept hq, (z2.moved hW.alike).kept hq⟩, (z3.moved hW.alike).kept hq, (z4.moved hW.alike).kept hq⟩, fun e he => ?_⟩
  exact va_Nw.warmF hW (h3 e he)
theorem WK_call {D : va_G} {cy : Nat → ClassId} {ad : Nat → Nat → Nat} {U : State} {g : JFrame} {mk : MethodId} {a : Array Value} (h : WK D cy ad U) : WK D cy ad (U.calling g mk a) := by
  obtain ⟨h1, ⟨⟨z1, z2⟩, z3, z4⟩, h3⟩ := h
  refine ⟨va_K.moved (u := U) (U := U.calling g mk a) (Vm.Alike.refl U.vm) h1, ⟨⟨va_Z.moved (u := U) (U := U.calling g mk a) (Vm.Alike.refl U.vm) z1, va_T.moved (u := U) (U := U.calling g mk a) (Vm.Alike.refl U.vm) z2⟩, va_Z.moved (u := U) (U := U.calling g mk a) (Vm.Alike.refl U.vm) z3, va_T.moved (u := U) (U := U.calling g mk a) (Vm.Alike.refl U.vm) z4⟩, fun e he => ?_⟩
  exact va_Nw.same (w := nW e.1 e.2.1 e.2.2.1 e.2.2.2.1) rfl (u := U) (U := U.calling g mk a) rfl (h3 e he)
theorem gd_good : ∀ w ∈ gdT, w ∈ gdT ∧ ((w.onTables && w.keeps) = true ∨ ∃ ty, w = .arrayClass ty) := fun w h => ⟨h, good_of_word (List.mem_filter.mp h).2⟩
theorem lh_ld {ad : Nat → Nat → Nat} {ls : List AV} {lsR : Array Slot} {nL a : Nat} (h : lh ad ls lsR nL) (hv : ld ls a ≠ aU) : lsR[a]? = some (.val (rv ad (ld ls a))) := by
  have key : ∀ (ls : List AV) (a : Nat), ld ls a ≠ aU → ls[a]? = some (ld ls a) := by
    intro ls
    induction ls with
    | nil => intro a h; exact absurd rfl h
    | cons v t ih =>
      intro a h
      cases a with
      | zero => rfl
      | succ n => exact ih n h
  exact h.2.2 a _ (key ls a hv) hv
/-- the listed locals as the kit has them -/
def asc (ad : Nat → Nat → Nat) : Nat → List AV → List (Nat × Value)
  | _, [] => []
  | i, v :: t => if v = aU then asc ad (i + 1) t else (i, rv ad v) :: asc ad (i + 1) t
theorem asc_mem {ad : Nat → Nat → Nat} {q : Nat × Value} : ∀ (ls : List AV) (i : Nat), q ∈ asc ad i ls ↔ ∃ j v, ls[j]? = some v ∧ v ≠ aU ∧ q = (i + j, rv ad v) := by
  intro ls
  induction ls with
  | nil => intro i; exact ⟨fun h => (List.not_mem_nil h).elim, fun ⟨j, v, h, _⟩ => by cases h⟩
  | cons x t ih =>
    intro i
    by_cases hx : x = aU
    · rw [asc, if_pos hx, ih]
      constructor
      · rintro ⟨j, v, h1, h2, h3⟩
        exact ⟨j + 1, v, h1, h2, by rw [h3]; congr 1; omega⟩
      · rintro ⟨j, v, h1, h2, h3⟩
        cases j with
        | zero => cases h1; exact absurd hx h2
        | succ j => exact ⟨j, v, h1, h2, by rw [h3]; congr 1; omega⟩
    · rw [asc, if_neg hx, List.mem_cons, ih]
      constructor
      · rintro (h | ⟨j, v, h1, h2, h3⟩)
        · exact ⟨0, x, rfl, hx, h⟩
        · exact ⟨j + 1, v, h1, h2, by rw [h3]; congr 1; omega⟩
      · rintro ⟨j, v, h1, h2, h3⟩
        cases j with
        | zero => cases h1; exact Or.inl h3
        | succ j => exact Or.inr ⟨j, v, h1, h2, by rw [h3]; congr 1; omega⟩
theorem lh_has {ad : Nat → Nat → Nat} {ls : List AV} {lsR : Array Slot} {nL : Nat} (h : lh ad ls lsR nL) : lv_has lsR nL (asc ad 0 ls) := by
  refine ⟨h.1, h.2.1, fun q hq => ?_⟩
  obtain ⟨j, v, h1, h2, rfl⟩ := (asc_mem ls 0).mp hq
  rw [Nat.zero_add]
  exact h.2.2 j v h1 h2
theorem lset_at : ∀ (ls : List AV) (i : Nat) (v : AV) (j : Nat) (x : AV), (lset ls i v)[j]? = some x → x ≠ aU → (j = i ∧ x = v) ∨ (j ≠ i ∧ ls[j]? = some x ∧ ¬ (j + 1 = i ∧ avw x = 2)) := by
  intro ls
  induction ls with
  | nil => intro i v j x h; cases h
  | cons y t ih =>
    intro i v j x h hx
    cases i with
    | zero =>
      cases j with
      | zero => exact Or.inl ⟨rfl, (Option.some.inj h).symm⟩
      | succ j => exact Or.inr ⟨by omega, h, by omega⟩
    | succ n =>
      cases j with
      | zero =>
        have h1 : (if n = 0 ∧ avw y = 2 then aU else y) = x := Option.some.inj h
        by_cases hc : n = 0 ∧ avw y = 2
        · rw [if_pos hc] at h1; exact absurd h1.symm hx
        · rw [if_neg hc] at h1
          subst h1
          exact Or.inr ⟨by omega, rfl, fun q => hc ⟨by omega, q.2⟩⟩
      | succ j =>
        rcases ih n v j x h hx with ⟨h1, h2⟩ | ⟨h1, h2, h3⟩
        · exact Or.inl ⟨by omega, h2⟩
        · exact Or.inr ⟨by omega, h2, fun q => h3 ⟨by omega, q.2⟩⟩
theorem lh_set {ad : Nat → Nat → Nat} {ls : List AV} {lsR : Array Slot} {nL i : Nat} {v : AV} (h : lv_has lsR nL ((i, rv ad v) :: (asc ad 0 ls).filter (fun q => !(q.1 == i) && !(q.1 + 1 == i && q.2.category == 2)))) : lh ad (lset ls i v) lsR nL := by
  refine ⟨h.1, h.2.1, fun j x hj hx => ?_⟩
  rcases lset_at ls i v j x hj hx with ⟨rfl, rfl⟩ | ⟨h1, h2, h3⟩
  · exact h.2.2 (j, rv ad x) List.mem_cons_self
  · refine h.2.2 (j, rv ad x) (List.mem_cons_of_mem _ (List.mem_filter.mpr ⟨(asc_mem ls 0).mpr ⟨j, x, h2, hx, by rw [Nat.zero_add]⟩, ?_⟩))
    have e1 : (j == i) = false := by simp [h1]
    simp only [e1, rv_cat, Bool.not_false, Bool.true_and]
    by_cases h4 : j + 1 = i
    · have : avw x ≠ 2 := fun q => h3 ⟨h4, q⟩
      simp [this]
    · simp [h4]
theorem lh_set2 {ad : Nat → Nat → Nat} {ls : List AV} {lsR : Array Slot} {nL i : Nat} {v : AV} (h : lv_has lsR nL ((i, rv ad v) :: (asc ad 0 ls).filter (fun q => !(q.1 == i) && (!(q.1 == i + 1) && !(q.1 + 1 == i && q.2.category == 2))))) : lh ad ((lset ls i v).set (i + 1) aU) lsR nL := by
  refine ⟨h.1, h.2.1, fun j x hj hx => ?_⟩
  rw [List.getElem?_set] at hj
  by_cases hji : i + 1 = j
  · rw [if_pos hji] at hj
    split at hj
    · exact absurd (Option.some.inj hj).symm hx
    · cases hj
  · rw [if_neg hji] at hj
    rcases lset_at ls i v j x hj hx with ⟨rfl, rfl⟩ | ⟨h1, h2, h3⟩
    · exact h.2.2 (j, rv ad x) List.mem_cons_self
    · refine h.2.2 (j, rv ad x) (List.mem_cons_of_mem _ (List.mem_filter.mpr ⟨(asc_mem ls 0).mpr ⟨j, x, h2, hx, by rw [Nat.zero_add]⟩, ?_⟩))
      have e1 : (j == i) = false := by simp [h1]
      have e2 : (j == i + 1) = false := by simp; omega
      simp only [e1, e2, rv_cat, Bool.not_false, Bool.true_and]
      by_cases h4 : j + 1 = i
      · have : avw x ≠ 2 := fun q => h3 ⟨h4, q⟩
        simp [this]
      · simp [h4]
theorem clr_at : ∀ (ls : List AV) (m j : Nat) (x : AV), (clr m ls)[j]? = some x → x ≠ aU → ls[j]? = some x := by
  intro ls
  induction ls with
  | nil => intro m j x h _; rw [clr_nil] at h; exact h
  | cons y t ih =>
    intro m j x h hx
    rw [clr_cons] at h
    cases j with
    | zero =>
      have h1 : (if m % 2 = 1 then aU else y) = x := Option.some.inj h
      split at h1
      · exact absurd h1.symm hx
      · rw [← h1]; rfl
    | succ j => exact ih _ j x h hx
theorem lh_clr {ad : Nat → Nat → Nat} {ls : List AV} {lsR : Array Slot} {nL : Nat} (m : Nat) (h : lh ad ls lsR nL) : lh ad (clr m ls) lsR nL := ⟨h.1, h.2.1, fun j x hj hx => h.2.2 j x (clr_at ls m j x hj hx) hx⟩
section
variable {d u pc : Nat} {ls st : List AV} {S : MS} {P : Option AV → MS → Prop}
theorem x_clr (m : Nat) (k : wpX d u pc (clr m ls) st S P) : wpX d u pc ls st S P := by
  intro p l e s m args below meth c H locs D cy ad lsR cx sx hl
  exact k p l e s m args below meth c H locs D cy ad lsR cx sx (lh_clr _ hl)

theorem x_iconst {n : Int} {v : Int32} (hdg : decode (mC u) pc = .ok (.iconst n, 1)) (hv : Int32.ofInt n = v) (k : wpX d u (pc + 1) ls (aI v :: st) S P) : wpX d u pc ls (st) S P := by
  intro p l e s m args below meth c H locs D cy ad lsR cx sx hl
  exact lv_iconst cx.1 cx.2.1 hdg hv (k p l e s m args below meth c H locs D cy ad lsR cx sx hl)
theorem x_bipush {n : Int} {v : Int32} (hdg : decode (mC u) pc = .ok (.bipush n, 2)) (hv : (Int8.ofInt n).toInt32 = v) (k : wpX d u (pc + 2) ls (aI v :: st) S P) : wpX d u pc ls (st) S P := by
  intro p l e s m args below meth c H locs D cy ad lsR cx sx hl
  exact lv_bipush cx.1 cx.2.1 hdg hv (k p l e s m args below meth c H locs D cy ad lsR cx sx hl)
theorem x_sipush {n : Int} {v : Int32} (hdg : decode (mC u) pc = .ok (.sipush n, 3)) (hv : (Int16.ofInt n).toInt32 = v) (k : wpX d u (pc + 3) ls (aI v :: st) S P) : wpX d u pc ls (st) S P := by
  intro p l e s m args below meth c H locs D cy ad lsR cx sx hl
  exact lv_sipush cx.1 cx.2.1 hdg hv (k p l e s m args below meth c H locs D cy ad lsR cx sx hl)
theorem x_lconst {n : Fin 2} {v : Int64} (hdg : decode (mC u) pc = .ok (.lconst n, 1)) (hv : Int64.ofNat (n : Nat) = v) (k : wpX d u (pc + 1) ls (aL v :: st) S P) : wpX d u pc ls (st) S P := by
  intro p l e s m args below meth c H locs D cy ad lsR cx sx hl
  exact lv_lconst cx.1 cx.2.1 hdg hv (k p l e s m args below meth c H locs D cy ad lsR cx sx hl)
theorem x_ldc {n : Nat} {v : Int32} (hdg : decode (mC u) pc = .ok (.ldc n, 2)) (hv : Cond.constant (RN (mO u)) n v ∈ gdT) (k : wpX d u (pc + 2) ls (aI v :: st) S P) : wpX d u pc ls (st) S P := by
  intro p l e s m args below meth c H locs D cy ad lsR cx sx hl
  exact lv_ldc cx.1 cx.2.1 cx.2.2.2.2.2.1 (cx.2.2.2.2.1 _ hv) hdg (k p l e s m args below meth c H locs D cy ad lsR cx sx hl)
theorem x_ldc_w {n : Nat} {v : Int32} (hdg : decode (mC u) pc = .ok (.ldc_w n, 3)) (hv : Cond.constant (RN (mO u)) n v ∈ gdT) (k : wpX d u (pc + 3) ls (aI v :: st) S P) : wpX d u pc ls (st) S P := by
  intro p l e s m args below meth c H locs D cy ad lsR cx sx hl
  exact lv_ldcw cx.1 cx.2.1 cx.2.2.2.2.2.1 (cx.2.2.2.2.1 _ hv) hdg (k p l e s m args below meth c H locs D cy ad lsR cx sx hl)
theorem x_ldc2_w {n : Nat} {v : Int64} (hdg : decode (mC u) pc = .ok (.ldc2_w n, 3)) (hv : Cond.constantLong (RN (mO u)) n v ∈ gdT) (k : wpX d u (pc + 3) ls (aL v :: st) S P) : wpX d u pc ls (st) S P := by
  intro p l e s m args below meth c H locs D cy ad lsR cx sx hl
  exact lv_ldc2 cx.1 cx.2.1 cx.2.2.2.2.2.1 (cx.2.2.2.2.1 _ hv) hdg (k p l e s m args below meth c H locs D cy ad lsR cx sx hl)
theorem x_iload_n {n : Fin 4} {a : Nat} {x : Int32} (hdg : decode (mC u) pc = .ok (.iload_n n, 1)) (hn : (n : Nat) = a) (hx : ld ls a = aI x) (k : wpX d u (pc + 1) ls (aI x :: st) S P) : wpX d u pc ls (st) S P := by
  intro p l e s m args below meth c H locs D cy ad lsR cx sx hl
  exact lv_iload_n cx.1 cx.2.1 hdg hn (by have := lh_ld (a := a) hl (by rw [hx]; intro q; cases q); rw [hx] at this; exact this) (k p l e s m args below meth c H locs D cy ad lsR cx sx hl)
theorem x_iload {a : Nat} {x : Int32} (hdg : decode (mC u) pc = .ok (.iload a, 2)) (hx : ld ls a = aI x) (k : wpX d u (pc + 2) ls (aI x :: st) S P) : wpX d u pc ls (st) S P := by
  intro p l e s m args below meth c H locs D cy ad lsR cx sx hl
  exact lv_iload cx.1 cx.2.1 hdg (by have := lh_ld (a := a) hl (by rw [hx]; intro q; cases q); rw [hx] at this; exact this) (k p l e s m args below meth c H locs D cy ad lsR cx sx hl)
theorem x_lload_n {n : Fin 4} {a : Nat} {x : Int64} (hdg : decode (mC u) pc = .ok (.lload_n n, 1)) (hn : (n : Nat) = a) (hx : ld ls a = aL x) (k : wpX d u (pc + 1) ls (aL x :: st) S P) : wpX d u pc ls (st) S P := by
  intro p l e s m args below meth c H locs D cy ad lsR cx sx hl
  exact lv_lload_n cx.1 cx.2.1 hdg hn (by have := lh_ld (a := a) hl (by rw [hx]; intro q; cases q); rw [hx] at this; exact this) (k p l e s m args below meth c H locs D cy ad lsR cx sx hl)
theorem x_lload {a : Nat} {x : Int64} (hdg : decode (mC u) pc = .ok (.lload a, 2)) (hx : ld ls a = aL x) (k : wpX d u (pc + 2) ls (aL x :: st) S P) : wpX d u pc ls (st) S P := by
  intro p l e s m args below meth c H locs D cy ad lsR cx sx hl
  exact lv_lload cx.1 cx.2.1 hdg (by have := lh_ld (a := a) hl (by rw [hx]; intro q; cases q); rw [hx] at this; exact this) (k p l e s m args below meth c H locs D cy ad lsR cx sx hl)
theorem x_aload_n {n : Fin 4} {a k1 j1 : Nat} (hdg : decode (mC u) pc = .ok (.aload_n n, 1)) (hn : (n : Nat) = a) (hx : ld ls a = aR k1 j1) (h99 : ¬ k1 = 99) (k : wpX d u (pc + 1) ls (aR k1 j1 :: st) S P) : wpX d u pc ls (st) S P := by
  intro p l e s m args below meth c H locs D cy ad lsR cx sx hl
  exact lv_aload_n cx.1 cx.2.1 hdg hn (by have := lh_ld (a := a) hl (by rw [hx]; intro q; cases q; exact h99 rfl); rw [hx] at this; exact this) (k p l e s m args below meth c H locs D cy ad lsR cx sx hl)
theorem x_aload {a k1 j1 : Nat} (hdg : decode (mC u) pc = .ok (.aload a, 2)) (hx : ld ls a = aR k1 j1) (h99 : ¬ k1 = 99) (k : wpX d u (pc + 2) ls (aR k1 j1 :: st) S P) : wpX d u pc ls (st) S P := by
  intro p l e s m args below meth c H locs D cy ad lsR cx sx hl
  exact lv_aload cx.1 cx.2.1 hdg (by have := lh_ld (a := a) hl (by rw [hx]; intro q; cases q; exact h99 rfl); rw [hx] at this; exact this) (k p l e s m args below meth c H locs D cy ad lsR cx sx hl)
theorem x_istore_n {n : Fin 4} {a : Nat} {x : Int32} (hdg : decode (mC u) pc = .ok (.istore_n n, 1)) (hn : (n : Nat) = a) (ha : a < mL u) (k : wpX d u (pc + 1) (lset ls a (aI x)) st S P) : wpX d u pc ls (aI x :: st) S P := by
  intro p l e s m args below meth c H locs D cy ad lsR cx sx hl
  exact lv_istore_n cx.1 cx.2.1 hdg hn (lh_has hl) ha rfl (fun ls2 hl2 => (k p l e s m args below meth c H locs D cy ad _ cx sx (lh_set hl2)))
theorem x_istore {a : Nat} {x : Int32} (hdg : decode (mC u) pc = .ok (.istore a, 2)) (ha : a < mL u) (k : wpX d u (pc + 2) (lset ls a (aI x)) st S P) : wpX d u pc ls (aI x :: st) S P := by
  intro p l e s m args below meth c H locs D cy ad lsR cx sx hl
  exact lv_istore cx.1 cx.2.1 hdg (lh_has hl) ha rfl (fun ls2 hl2 => (k p l e s m args below meth c H locs D cy ad _ cx sx (lh_set hl2)))
theorem x_astore_n {n : Fin 4} {a : Nat} {k1 j1 : Nat} (hdg : decode (mC u) pc = .ok (.astore_n n, 1)) (hn : (n : Nat) = a) (ha : a < mL u) (k : wpX d u (pc + 1) (lset ls a (aR k1 j1)) st S P) : wpX d u pc ls (aR k1 j1 :: st) S P := by
  intro p l e s m args below meth c H locs D cy ad lsR cx sx hl
  exact lv_astore_n cx.1 cx.2.1 hdg hn (lh_has hl) ha rfl (fun ls2 hl2 => (k p l e s m args below meth c H locs D cy ad _ cx sx (lh_set hl2)))
theorem x_astore {a : Nat} {k1 j1 : Nat} (hdg : decode (mC u) pc = .ok (.astore a, 2)) (ha : a < mL u) (k : wpX d u (pc + 2) (lset ls a (aR k1 j1)) st S P) : wpX d u pc ls (aR k1 j1 :: st) S P := by
  intro p l e s m args below meth c H locs D cy ad lsR cx sx hl
  exact lv_astore cx.1 cx.2.1 hdg (lh_has hl) ha rfl (fun ls2 hl2 => (k p l e s m args below meth c H locs D cy ad _ cx sx (lh_set hl2)))
theorem x_lstore_n {n : Fin 4} {a : Nat} {x : Int64} (hdg : decode (mC u) pc = .ok (.lstore_n n, 1)) (hn : (n : Nat) = a) (ha : a + 1 < mL u) (k : wpX d u (pc + 1) ((lset ls a (aL x)).set (a + 1) aU) st S P) : wpX d u pc ls (aL x :: st) S P := by
  intro p l e s m args below meth c H locs D cy ad lsR cx sx hl
  exact lv_lstore_n cx.1 cx.2.1 hdg hn (lh_has hl) ha rfl (fun ls2 hl2 => (k p l e s m args below meth c H locs D cy ad _ cx sx (lh_set2 hl2)))
theorem x_lstore {a : Nat} {x : Int64} (hdg : decode (mC u) pc = .ok (.lstore a, 2)) (ha : a + 1 < mL u) (k : wpX d u (pc + 2) ((lset ls a (aL x)).set (a + 1) aU) st S P) : wpX d u pc ls (aL x :: st) S P := by
  intro p l e s m args below meth c H locs D cy ad lsR cx sx hl
  exact lv_lstore cx.1 cx.2.1 hdg (lh_has hl) ha rfl (fun ls2 hl2 => (k p l e s m args below meth c H locs D cy ad _ cx sx (lh_set2 hl2)))
theorem x_iinc {j : Nat} {z : Int} {x y : Int32} (hdg : decode (mC u) pc = .ok (.iinc j z, 3)) (hx : ld ls j = aI x) (hz : Int32.ofInt z = y) (ha : j < mL u) (k : wpX d u (pc + 3) (lset ls j (aI (x + y))) st S P) : wpX d u pc ls st S P := by
  intro p l e s m args below meth c H locs D cy ad lsR cx sx hl
  subst hz
  have h1 : (j, Value.int x) ∈ asc ad 0 ls := by
    have key : ∀ (ls : List AV) (a : Nat), ld ls a ≠ aU → ls[a]? = some (ld ls a) := by
      intro ls
      induction ls with
      | nil => intro a h; exact absurd rfl h
      | cons v t ih =>
        intro a h
        cases a with
        | zero => rfl
        | succ n => exact ih n h
    refine (asc_mem ls 0).mpr ⟨j, aI x, ?_, (by intro q; cases q), by rw [Nat.zero_add]; rfl⟩
    rw [key ls j (by rw [hx]; intro q; cases q), hx]
  obtain ⟨k0, hk0⟩ := List.getElem?_of_mem h1
  exact lv_iinc cx.1 cx.2.1 hdg (lh_has hl) (k := k0) hk0 rfl ha rfl (fun ls2 hl2 => k p l e s m args below meth c H locs D cy ad _ cx sx (lh_set (v := aI (x + Int32.ofInt z)) hl2))
theorem x_iadd {x y : Int32} (hdg : decode (mC u) pc = .ok (.iadd, 1))  (k : wpX d u (pc + 1) ls (aI (x + y) :: st) S P) : wpX d u pc ls (aI y :: aI x :: st) S P := by
  intro p l e s m args below meth c H locs D cy ad lsR cx sx hl
  exact lv_iadd cx.1 cx.2.1 hdg (k p l e s m args below meth c H locs D cy ad lsR cx sx hl)
theorem x_isub {x y : Int32} (hdg : decode (mC u) pc = .ok (.isub, 1))  (k : wpX d u (pc + 1) ls (aI (x - y) :: st) S P) : wpX d u pc ls (aI y :: aI x :: st) S P := by
  intro p l e s m args below meth c H locs D cy ad lsR cx sx hl
  exact lv_isub cx.1 cx.2.1 hdg (k p l e s m args below meth c H locs D cy ad lsR cx sx hl)
theorem x_imul {x y : Int32} (hdg : decode (mC u) pc = .ok (.imul, 1))  (k : wpX d u (pc + 1) ls (aI (x * y) :: st) S P) : wpX d u pc ls (aI y :: aI x :: st) S P := by
  intro p l e s m args below meth c H locs D cy ad lsR cx sx hl
  exact lv_imul cx.1 cx.2.1 hdg (k p l e s m args below meth c H locs D cy ad lsR cx sx hl)
theorem x_iand {x y : Int32} (hdg : decode (mC u) pc = .ok (.iand, 1))  (k : wpX d u (pc + 1) ls (aI (x &&& y) :: st) S P) : wpX d u pc ls (aI y :: aI x :: st) S P := by
  intro p l e s m args below meth c H locs D cy ad lsR cx sx hl
  exact lv_iand cx.1 cx.2.1 hdg (k p l e s m args below meth c H locs D cy ad lsR cx sx hl)
theorem x_ior {x y : Int32} (hdg : decode (mC u) pc = .ok (.ior, 1))  (k : wpX d u (pc + 1) ls (aI (x ||| y) :: st) S P) : wpX d u pc ls (aI y :: aI x :: st) S P := by
  intro p l e s m args below meth c H locs D cy ad lsR cx sx hl
  exact lv_ior cx.1 cx.2.1 hdg (k p l e s m args below meth c H locs D cy ad lsR cx sx hl)
theorem x_ixor {x y : Int32} (hdg : decode (mC u) pc = .ok (.ixor, 1))  (k : wpX d u (pc + 1) ls (aI (x ^^^ y) :: st) S P) : wpX d u pc ls (aI y :: aI x :: st) S P := by
  intro p l e s m args below meth c H locs D cy ad lsR cx sx hl
  exact lv_ixor cx.1 cx.2.1 hdg (k p l e s m args below meth c H locs D cy ad lsR cx sx hl)
theorem x_ishl {x y : Int32} (hdg : decode (mC u) pc = .ok (.ishl, 1))  (k : wpX d u (pc + 1) ls (aI (x <<< (y &&& 31)) :: st) S P) : wpX d u pc ls (aI y :: aI x :: st) S P := by
  intro p l e s m args below meth c H locs D cy ad lsR cx sx hl
  exact lv_ishl cx.1 cx.2.1 hdg (k p l e s m args below meth c H locs D cy ad lsR cx sx hl)
theorem x_ishr {x y : Int32} (hdg : decode (mC u) pc = .ok (.ishr, 1))  (k : wpX d u (pc + 1) ls (aI (x >>> (y &&& 31)) :: st) S P) : wpX d u pc ls (aI y :: aI x :: st) S P := by
  intro p l e s m args below meth c H locs D cy ad lsR cx sx hl
  exact lv_ishr cx.1 cx.2.1 hdg (k p l e s m args below meth c H locs D cy ad lsR cx sx hl)
theorem x_iushr {x y : Int32} (hdg : decode (mC u) pc = .ok (.iushr, 1))  (k : wpX d u (pc + 1) ls (aI ((x.toUInt32 >>> (y.toUInt32 &&& Int32.toUInt32 31)).toInt32) :: st) S P) : wpX d u pc ls (aI y :: aI x :: st) S P := by
  intro p l e s m args below meth c H locs D cy ad lsR cx sx hl
  exact lv_iushr cx.1 cx.2.1 hdg rfl (k p l e s m args below meth c H locs D cy ad lsR cx sx hl)
theorem x_idiv {x y : Int32} (hdg : decode (mC u) pc = .ok (.idiv, 1)) (h0 : ¬ y = 0) (k : wpX d u (pc + 1) ls (aI (x / y) :: st) S P) : wpX d u pc ls (aI y :: aI x :: st) S P := by
  intro p l e s m args below meth c H locs D cy ad lsR cx sx hl
  exact lv_idiv cx.1 cx.2.1 hdg h0 (k p l e s m args below meth c H locs D cy ad lsR cx sx hl)
theorem x_irem {x y : Int32} (hdg : decode (mC u) pc = .ok (.irem, 1)) (h0 : ¬ y = 0) (k : wpX d u (pc + 1) ls (aI (x - x / y * y) :: st) S P) : wpX d u pc ls (aI y :: aI x :: st) S P := by
  intro p l e s m args below meth c H locs D cy ad lsR cx sx hl
  exact lv_irem cx.1 cx.2.1 hdg h0 (k p l e s m args below meth c H locs D cy ad lsR cx sx hl)
theorem x_ladd {x y : Int64} (hdg : decode (mC u) pc = .ok (.ladd, 1))  (k : wpX d u (pc + 1) ls (aL (x + y) :: st) S P) : wpX d u pc ls (aL y :: aL x :: st) S P := by
  intro p l e s m args below meth c H locs D cy ad lsR cx sx hl
  exact lv_ladd cx.1 cx.2.1 hdg (k p l e s m args below meth c H locs D cy ad lsR cx sx hl)
theorem x_lmul {x y : Int64} (hdg : decode (mC u) pc = .ok (.lmul, 1))  (k : wpX d u (pc + 1) ls (aL (x * y) :: st) S P) : wpX d u pc ls (aL y :: aL x :: st) S P := by
  intro p l e s m args below meth c H locs D cy ad lsR cx sx hl
  exact lv_lmul cx.1 cx.2.1 hdg (k p l e s m args below meth c H locs D cy ad lsR cx sx hl)
theorem x_ldiv {x y : Int64} (hdg : decode (mC u) pc = .ok (.ldiv, 1)) (h0 : ¬ y = 0) (k : wpX d u (pc + 1) ls (aL (x / y) :: st) S P) : wpX d u pc ls (aL y :: aL x :: st) S P := by
  intro p l e s m args below meth c H locs D cy ad lsR cx sx hl
  exact lv_ldiv cx.1 cx.2.1 hdg h0 (k p l e s m args below meth c H locs D cy ad lsR cx sx hl)
theorem x_lrem {x y : Int64} (hdg : decode (mC u) pc = .ok (.lrem, 1)) (h0 : ¬ y = 0) (k : wpX d u (pc + 1) ls (aL (x - x / y * y) :: st) S P) : wpX d u pc ls (aL y :: aL x :: st) S P := by
  intro p l e s m args below meth c H locs D cy ad lsR cx sx hl
  exact lv_lrem cx.1 cx.2.1 hdg h0 (k p l e s m args below meth c H locs D cy ad lsR cx sx hl)
theorem x_lcmp {x y : Int64} (hdg : decode (mC u) pc = .ok (.lcmp, 1))  (k : wpX d u (pc + 1) ls (aI (lg_cmp x y) :: st) S P) : wpX d u pc ls (aL y :: aL x :: st) S P := by
  intro p l e s m args below meth c H locs D cy ad lsR cx sx hl
  exact W.lcmp cx.1 cx.2.1 hdg (k p l e s m args below meth c H locs D cy ad lsR cx sx hl)
theorem x_ineg {x : Int32} (hdg : decode (mC u) pc = .ok (.ineg, 1))  (k : wpX d u (pc + 1) ls (aI (-x) :: st) S P) : wpX d u pc ls (aI x :: st) S P := by
  intro p l e s m args below meth c H locs D cy ad lsR cx sx hl
  exact lv_ineg cx.1 cx.2.1 hdg (k p l e s m args below meth c H locs D cy ad lsR cx sx hl)
theorem x_i2l {x : Int32} (hdg : decode (mC u) pc = .ok (.i2l, 1))  (k : wpX d u (pc + 1) ls (aL x.toInt64 :: st) S P) : wpX d u pc ls (aI x :: st) S P := by
  intro p l e s m args below meth c H locs D cy ad lsR cx sx hl
  exact lv_i2l cx.1 cx.2.1 hdg rfl (k p l e s m args below meth c H locs D cy ad lsR cx sx hl)
theorem x_l2i {x : Int64} (hdg : decode (mC u) pc = .ok (.l2i, 1))  (k : wpX d u (pc + 1) ls (aI x.toInt32 :: st) S P) : wpX d u pc ls (aL x :: st) S P := by
  intro p l e s m args below meth c H locs D cy ad lsR cx sx hl
  exact lv_l2i cx.1 cx.2.1 hdg rfl (k p l e s m args below meth c H locs D cy ad lsR cx sx hl)
theorem x_i2b {x : Int32} (hdg : decode (mC u) pc = .ok (.i2b, 1))  (k : wpX d u (pc + 1) ls (aI x.toInt8.toInt32 :: st) S P) : wpX d u pc ls (aI x :: st) S P := by
  intro p l e s m args below meth c H locs D cy ad lsR cx sx hl
  exact lv_i2b cx.1 cx.2.1 hdg rfl (k p l e s m args below meth c H locs D cy ad lsR cx sx hl)
theorem x_dup {v : AV} (hdg : decode (mC u) pc = .ok (.dup, 1)) (hv : avw v = 1) (k : wpX d u (pc + 1) ls (v :: v :: st) S P) : wpX d u pc ls (v :: st) S P := by
  intro p l e s m args below meth c H locs D cy ad lsR cx sx hl
  exact lv_dup cx.1 cx.2.1 hdg ((rv_cat ad v).trans hv) (k p l e s m args below meth c H locs D cy ad lsR cx sx hl)
theorem x_dup2 {v w : AV} (hdg : decode (mC u) pc = .ok (.dup2, 1)) (hv : avw v = 1) (hw : avw w = 1) (k : wpX d u (pc + 1) ls (v :: w :: v :: w :: st) S P) : wpX d u pc ls (v :: w :: st) S P := by
  intro p l e s m args below meth c H locs D cy ad lsR cx sx hl
  exact lv_dup2_11 cx.1 cx.2.1 hdg ((rv_cat ad v).trans hv) ((rv_cat ad w).trans hw) (k p l e s m args below meth c H locs D cy ad lsR cx sx hl)
theorem x_pop {v : AV} (hdg : decode (mC u) pc = .ok (.pop, 1)) (hv : avw v = 1) (k : wpX d u (pc + 1) ls (st) S P) : wpX d u pc ls (v :: st) S P := by
  intro p l e s m args below meth c H locs D cy ad lsR cx sx hl
  exact lv_pop cx.1 cx.2.1 hdg ((rv_cat ad v).trans hv) (k p l e s m args below meth c H locs D cy ad lsR cx sx hl)
theorem x_goto {z : Int} {t : Nat} (hdg : decode (mC u) pc = .ok (.goto z, 3)) (ht : (pc : Int) + z = (t : Int)) (k : wpX d u (t) ls (st) S P) : wpX d u pc ls (st) S P := by
  intro p l e s m args below meth c H locs D cy ad lsR cx sx hl
  exact lv_goto cx.1 cx.2.1 hdg ht (k p l e s m args below meth c H locs D cy ad lsR cx sx hl)
theorem x_if_eq {z : Int} {t : Nat} {x : Int32} (hdg : decode (mC u) pc = .ok (.ifCond .eq z, 3)) (ht : (pc : Int) + z = (t : Int)) (k1 : x = 0 → wpX d u t ls st S P) (k2 : ¬ (x = 0) → wpX d u (pc + 3) ls st S P) : wpX d u pc ls (aI x :: st) S P := by
  intro p l e s m args below meth c H locs D cy ad lsR cx sx hl
  exact lv_if_eq cx.1 cx.2.1 hdg ht (fun q => k1 q p l e s m args below meth c H locs D cy ad lsR cx sx hl) (fun q => k2 q p l e s m args below meth c H locs D cy ad lsR cx sx hl)
theorem x_icmp_eq {z : Int} {t : Nat} {x y : Int32} (hdg : decode (mC u) pc = .ok (.if_icmp .eq z, 3)) (ht : (pc : Int) + z = (t : Int)) (k1 : x = y → wpX d u t ls st S P) (k2 : ¬ (x = y) → wpX d u (pc + 3) ls st S P) : wpX d u pc ls (aI y :: aI x :: st) S P := by
  intro p l e s m args below meth c H locs D cy ad lsR cx sx hl
  exact lv_icmp_eq cx.1 cx.2.1 hdg ht (fun q => k1 q p l e s m args below meth c H locs D cy ad lsR cx sx hl) (fun q => k2 q p l e s m args below meth c H locs D cy ad lsR cx sx hl)
theorem x_if_ne {z : Int} {t : Nat} {x : Int32} (hdg : decode (mC u) pc = .ok (.ifCond .ne z, 3)) (ht : (pc : Int) + z = (t : Int)) (k1 : ¬ x = 0 → wpX d u t ls st S P) (k2 : ¬ (¬ x = 0) → wpX d u (pc + 3) ls st S P) : wpX d u pc ls (aI x :: st) S P := by
  intro p l e s m args below meth c H locs D cy ad lsR cx sx hl
  exact lv_if_ne cx.1 cx.2.1 hdg ht (fun q => k1 q p l e s m args below meth c H locs D cy ad lsR cx sx hl) (fun q => k2 (fun z => z q) p l e s m args below meth c H locs D cy ad lsR cx sx hl)
theorem x_icmp_ne {z : Int} {t : Nat} {x y : Int32} (hdg : decode (mC u) pc = .ok (.if_icmp .ne z, 3)) (ht : (pc : Int) + z = (t : Int)) (k1 : ¬ x = y → wpX d u t ls st S P) (k2 : ¬ (¬ x = y) → wpX d u (pc + 3) ls st S P) : wpX d u pc ls (aI y :: aI x :: st) S P := by
  intro p l e s m args below meth c H locs D cy ad lsR cx sx hl
  exact lv_icmp_ne cx.1 cx.2.1 hdg ht (fun q => k1 q p l e s m args below meth c H locs D cy ad lsR cx sx hl) (fun q => k2 (fun z => z q) p l e s m args below meth c H locs D cy ad lsR cx sx hl)
theorem x_if_lt {z : Int} {t : Nat} {x : Int32} (hdg : decode (mC u) pc = .ok (.ifCond .lt z, 3)) (ht : (pc : Int) + z = (t : Int)) (k1 : x < 0 → wpX d u t ls st S P) (k2 : ¬ (x < 0) → wpX d u (pc + 3) ls st S P) : wpX d u pc ls (aI x :: st) S P := by
  intro p l e s m args below meth c H locs D cy ad lsR cx sx hl
  exact lv_if_lt cx.1 cx.2.1 hdg ht (fun q => k1 q p l e s m args below meth c H locs D cy ad lsR cx sx hl) (fun q => k2 q p l e s m args below meth c H locs D cy ad lsR cx sx hl)
theorem x_icmp_lt {z : Int} {t : Nat} {x y : Int32} (hdg : decode (mC u) pc = .ok (.if_icmp .lt z, 3)) (ht : (pc : Int) + z = (t : Int)) (k1 : x < y → wpX d u t ls st S P) (k2 : ¬ (x < y) → wpX d u (pc + 3) ls st S P) : wpX d u pc ls (aI y :: aI x :: st) S P := by
  intro p l e s m args below meth c H locs D cy ad lsR cx sx hl
  exact lv_icmp_lt cx.1 cx.2.1 hdg ht (fun q => k1 q p l e s m args below meth c H locs D cy ad lsR cx sx hl) (fun q => k2 q p l e s m args below meth c H locs D cy ad lsR cx sx hl)
theorem x_if_ge {z : Int} {t : Nat} {x : Int32} (hdg : decode (mC u) pc = .ok (.ifCond .ge z, 3)) (ht : (pc : Int) + z = (t : Int)) (k1 : 0 ≤ x → wpX d u t ls st S P) (k2 : ¬ (0 ≤ x) → wpX d u (pc + 3) ls st S P) : wpX d u pc ls (aI x :: st) S P := by
  intro p l e s m args below meth c H locs D cy ad lsR cx sx hl
  exact lv_if_ge cx.1 cx.2.1 hdg ht (fun q => k1 q p l e s m args below meth c H locs D cy ad lsR cx sx hl) (fun q => k2 q p l e s m args below meth c H locs D cy ad lsR cx sx hl)
theorem x_icmp_ge {z : Int} {t : Nat} {x y : Int32} (hdg : decode (mC u) pc = .ok (.if_icmp .ge z, 3)) (ht : (pc : Int) + z = (t : Int)) (k1 : y ≤ x → wpX d u t ls st S P) (k2 : ¬ (y ≤ x) → wpX d u (pc + 3) ls st S P) : wpX d u pc ls (aI y :: aI x :: st) S P := by
  intro p l e s m args below meth c H locs D cy ad lsR cx sx hl
  exact lv_icmp_ge cx.1 cx.2.1 hdg ht (fun q => k1 q p l e s m args below meth c H locs D cy ad lsR cx sx hl) (fun q => k2 q p l e s m args below meth c H locs D cy ad lsR cx sx hl)
theorem x_if_gt {z : Int} {t : Nat} {x : Int32} (hdg : decode (mC u) pc = .ok (.ifCond .gt z, 3)) (ht : (pc : Int) + z = (t : Int)) (k1 : 0 < x → wpX d u t ls st S P) (k2 : ¬ (0 < x) → wpX d u (pc + 3) ls st S P) : wpX d u pc ls (aI x :: st) S P := by
  intro p l e s m args below meth c H locs D cy ad lsR cx sx hl
  exact lv_if_gt cx.1 cx.2.1 hdg ht (fun q => k1 q p l e s m args below meth c H locs D cy ad lsR cx sx hl) (fun q => k2 q p l e s m args below meth c H locs D cy ad lsR cx sx hl)
theorem x_icmp_gt {z : Int} {t : Nat} {x y : Int32} (hdg : decode (mC u) pc = .ok (.if_icmp .gt z, 3)) (ht : (pc : Int) + z = (t : Int)) (k1 : y < x → wpX d u t ls st S P) (k2 : ¬ (y < x) → wpX d u (pc + 3) ls st S P) : wpX d u pc ls (aI y :: aI x :: st) S P := by
  intro p l e s m args below meth c H locs D cy ad lsR cx sx hl
  exact lv_icmp_gt cx.1 cx.2.1 hdg ht (fun q => k1 q p l e s m args below meth c H locs D cy ad lsR cx sx hl) (fun q => k2 q p l e s m args below meth c H locs D cy ad lsR cx sx hl)
theorem x_if_le {z : Int} {t : Nat} {x : Int32} (hdg : decode (mC u) pc = .ok (.ifCond .le z, 3)) (ht : (pc : Int) + z = (t : Int)) (k1 : x ≤ 0 → wpX d u t ls st S P) (k2 : ¬ (x ≤ 0) → wpX d u (pc + 3) ls st S P) : wpX d u pc ls (aI x :: st) S P := by
  intro p l e s m args below meth c H locs D cy ad lsR cx sx hl
  exact lv_if_le cx.1 cx.2.1 hdg ht (fun q => k1 q p l e s m args below meth c H locs D cy ad lsR cx sx hl) (fun q => k2 q p l e s m args below meth c H locs D cy ad lsR cx sx hl)
theorem x_icmp_le {z : Int} {t : Nat} {x y : Int32} (hdg : decode (mC u) pc = .ok (.if_icmp .le z, 3)) (ht : (pc : Int) + z = (t : Int)) (k1 : x ≤ y → wpX d u t ls st S P) (k2 : ¬ (x ≤ y) → wpX d u (pc + 3) ls st S P) : wpX d u pc ls (aI y :: aI x :: st) S P := by
  intro p l e s m args below meth c H locs D cy ad lsR cx sx hl
  exact lv_icmp_le cx.1 cx.2.1 hdg ht (fun q => k1 q p l e s m args below meth c H locs D cy ad lsR cx sx hl) (fun q => k2 q p l e s m args below meth c H locs D cy ad lsR cx sx hl)
theorem x_tsw {dd lo hi : Int} {offs : Array Int} {len : Nat} {x : Int32} (hdg : decode (mC u) pc = .ok (.tableswitch dd lo hi offs, len)) (h0 : 0 ≤ (pc : Int) + dd) (h1 : ∀ o ∈ offs.toList, 0 ≤ (pc : Int) + o) (h2 : hi - lo + 1 = offs.size) (k : wpX d u (swt pc dd lo hi offs x) ls st S P) : wpX d u pc ls (aI x :: st) S P := by
  intro p l e s m args below meth c H locs D cy ad lsR cx sx hl
  have k2 := k p l e s m args below meth c H locs D cy ad lsR cx sx hl
  unfold swt at k2
  by_cases hq : x.toInt < lo ∨ hi < x.toInt
  · rw [if_pos hq] at k2
    exact lv_tableOut cx.1 cx.2.1 hdg hq (Int.toNat_of_nonneg h0).symm k2
  · rw [if_neg hq] at k2
    have hlt : (x.toInt - lo).toNat < offs.toList.length := by
      rw [Array.length_toList]; omega
    have e1 : offs.toList[(x.toInt - lo).toNat]? = some (offs.toList.getD (x.toInt - lo).toNat 0) := by
      rw [List.getD_eq_getElem?_getD, List.getElem?_eq_getElem hlt]; rfl
    exact lv_tableIn cx.1 cx.2.1 hdg (fun z => hq (Or.inl z)) (fun z => hq (Or.inr z)) (by rw [← Array.getElem?_toList]; exact e1) (Int.toNat_of_nonneg (h1 _ (List.mem_of_getElem? e1))).symm k2
theorem x_ireturn {x : Int32} (hdg : decode (mC u) pc = .ok (.ireturn, 1)) (hr : mR u = some .int) (k : P (some (aI x)) S) : wpX d u pc ls [aI x] S P := by
  intro p l e s m args below meth c H locs D cy ad lsR cx sx hl
  exact W.iret (v := x) cx.1 cx.2.1 (cx.2.2.1.trans hr) (fun t ht hW => ⟨⟨some (aI x), S, rfl, k, by rw [ht]; exact sx.2.1⟩, sx.2.2.F ht⟩) sx.2.2.2.2 hdg cx.2.2.2.2.2.2
theorem x_zreturn {x : Int32} (hdg : decode (mC u) pc = .ok (.ireturn, 1)) (hr : mR u = some .boolean) (hx : x = 0 ∨ x = 1) (k : P (some (aI x)) S) : wpX d u pc ls [aI x] S P := by
  intro p l e s m args below meth c H locs D cy ad lsR cx sx hl
  exact W.zret (v := x) cx.1 cx.2.1 (cx.2.2.1.trans hr) (by rcases hx with rfl | rfl <;> decide) (fun t ht hW => ⟨⟨some (aI x), S, rfl, k, by rw [ht]; exact sx.2.1⟩, sx.2.2.F ht⟩) sx.2.2.2.2 hdg cx.2.2.2.2.2.2
theorem x_lreturn {x : Int64} (hdg : decode (mC u) pc = .ok (.lreturn, 1)) (hr : mR u = some .long) (k : P (some (aL x)) S) : wpX d u pc ls [aL x] S P := by
  intro p l e s m args below meth c H locs D cy ad lsR cx sx hl
  exact W.lret (v := x) cx.1 cx.2.1 (cx.2.2.1.trans hr) (fun t ht hW => ⟨⟨some (aL x), S, rfl, k, by rw [ht]; exact sx.2.1⟩, sx.2.2.F ht⟩) sx.2.2.2.2 hdg cx.2.2.2.2.2.2
theorem x_areturn {k1 j1 : Nat} {rt : FieldType} (hdg : decode (mC u) pc = .ok (.areturn, 1)) (hr : mR u = some rt) (hrt : (∃ n, rt = .object n) ∨ ∃ t, rt = .array t) (k : P (some (aR k1 j1)) S) : wpX d u pc ls [aR k1 j1] S P := by
  intro p l e s m args below meth c H locs D cy ad lsR cx sx hl
  exact W.aret (v := .ref (ad k1 j1)) cx.1 cx.2.1 (cx.2.2.1.trans hr) hrt (Or.inr ⟨_, rfl⟩) (fun t ht hW => ⟨⟨some (aR k1 j1), S, rfl, k, by rw [ht]; exact sx.2.1⟩, sx.2.2.F ht⟩) sx.2.2.2.2 hdg cx.2.2.2.2.2.2
theorem x_return {dummy : Unit} (hdg : decode (mC u) pc = .ok (.return_, 1)) (hr : mR u = none) (k : P none S) : wpX d u pc ls [] S P := by
  intro p l e s m args below meth c H locs D cy ad lsR cx sx hl
  exact W.vret cx.1 cx.2.1 (cx.2.2.1.trans hr) (fun t ht hW => ⟨⟨none, S, rfl, k, by rw [ht]; exact sx.2.1⟩, sx.2.2.F ht⟩) sx.2.2.2.2 hdg cx.2.2.2.2.2.2
end
