-- PART 59: rows for what makes the objects: worlds that grow
def Cn (o nL : Nat) (cc : ByteArray) (p : Program) (s : State) (m : MethodId) (args : Array Value) (meth : Method) (c : Code) : Prop := p.tables.exec = Jvm.exec ∧ c.code = cc ∧ meth.sig.returnType = none ∧ c.maxLocals = nL ∧ (∀ w ∈ gdT, w.before args s = true) ∧ s.vm.findClass (RN o) = some m.cls ∧ meth.locks = false ∧ (o < 10 → meth.name = "<init>")
/-- the end of what makes an object: its world, at some addresses -/
def Qn (D : va_G) (cy : Nat → ClassId) (Z : (Nat → Nat) → va_W) (A : Nat → Prop) : Array Value → State → Outcome → State → Prop := va_Qv (fun _ : Unit => True) (fun _ t => va_K D vwCl (tyL cy) t ∧ ∃ f : Nat → Nat, va_P D vwCl (Z f) t.heap ∧ va_D A (Z f)) A
def wpN (o nL : Nat) (cc : ByteArray) (R : Room) (mc ms : Nat) (D : va_G) (cy : Nat → ClassId) (Z : (Nat → Nat) → va_W) (pc : Nat) (lv : List (Nat × Value)) (st : List Value) (ws : va_W) (k n : Nat) : Prop :=
  ∀ (p : Program) (l : Launch) (e : Env) (s : State) (m : MethodId) (args : Array Value) (below : List Frame) (meth : Method) (c : Code) (H : Heap) (locs : List Loc) (ls : Array Slot) (A : Nat → Prop),
    Cn o nL cc p s m args meth c → va_K D vwCl (tyL cy) s → va_P D vwCl ws H → va_D A ws → va_S A s.heap H locs → (∀ q : Nat, s.heap.size ≤ q → A q) → lv_has ls nL lv → W p l e R s m args below meth c H locs k n (MQ below (Qn D cy Z A) args s mc ms A) (F0 m pc ls st)
/-- what makes an object (or fills one): from the world w0 it comes to the world Z -/
def Ini (y : MethodName) (b : ByteArray) (mL : Nat) (rm : Room) (D : va_G) (cy : Nat → ClassId) (as : List Value) (w0 : va_W) (Z : (Nat → Nat) → va_W) : Prop := ∀ (l : Launch) (sz : Nat), Met l y (Cond.code y b mL none :: gdT) rm (va_Pc as (fun U => U.heap.size = sz ∧ va_P D vwCl w0 U.heap ∧ va_K D vwCl (tyL cy) U ∧ va_D (fun _ => True) w0)) (Qn D cy Z (va_A w0 sz)) rm.cells rm.slots (va_A w0 sz)
section
variable {o nL : Nat} {cc : ByteArray} {R : Room} {mc ms : Nat} {D : va_G} {cy : Nat → ClassId} {Z : (Nat → Nat) → va_W} {pc : Nat} {lv : List (Nat × Value)} {st : List Value} {ws : va_W} {k n : Nat}
theorem n_aload {i : Fin 4} {a : Nat} (j : Nat) (hdg : decode cc pc = .ok (.aload_n i, 1)) (hj : lv[j]? = some ((i : Nat), .ref a)) (kk : wpN o nL cc R mc ms D cy Z (pc + 1) lv (.ref a :: st) ws k n) : wpN o nL cc R mc ms D cy Z pc lv st ws k n := by
  intro p l e s m args below meth c H locs ls A cx hK hP hD hS hA hl
  exact lv_aload_n cx.1 cx.2.1 hdg rfl (lv_at hl j hj) (kk p l e s m args below meth c H locs ls A cx hK hP hD hS hA hl)
theorem n_iload {i : Fin 4} {x : Int32} (j : Nat) (hdg : decode cc pc = .ok (.iload_n i, 1)) (hj : lv[j]? = some ((i : Nat), .int x)) (kk : wpN o nL cc R mc ms D cy Z (pc + 1) lv (.int x :: st) ws k n) : wpN o nL cc R mc ms D cy Z pc lv st ws k n := by
  intro p l e s m args below meth c H locs ls A cx hK hP hD hS hA hl
  exact lv_iload_n cx.1 cx.2.1 hdg rfl (lv_at hl j hj) (kk p l e s m args below meth c H locs ls A cx hK hP hD hS hA hl)
theorem n_iconst {x : Int} {v : Int32} (hdg : decode cc pc = .ok (.iconst x, 1)) (hv : Int32.ofInt x = v) (kk : wpN o nL cc R mc ms D cy Z (pc + 1) lv (.int v :: st) ws k n) : wpN o nL cc R mc ms D cy Z pc lv st ws k n := by
  intro p l e s m args below meth c H locs ls A cx hK hP hD hS hA hl
  exact lv_iconst cx.1 cx.2.1 hdg hv (kk p l e s m args below meth c H locs ls A cx hK hP hD hS hA hl)
theorem n_bipush {x : Int} {v : Int32} (hdg : decode cc pc = .ok (.bipush x, 2)) (hv : (Int8.ofInt x).toInt32 = v) (kk : wpN o nL cc R mc ms D cy Z (pc + 2) lv (.int v :: st) ws k n) : wpN o nL cc R mc ms D cy Z pc lv st ws k n := by
  intro p l e s m args below meth c H locs ls A cx hK hP hD hS hA hl
  exact lv_bipush cx.1 cx.2.1 hdg hv (kk p l e s m args below meth c H locs ls A cx hK hP hD hS hA hl)
theorem n_sipush {x : Int} {v : Int32} (hdg : decode cc pc = .ok (.sipush x, 3)) (hv : (Int16.ofInt x).toInt32 = v) (kk : wpN o nL cc R mc ms D cy Z (pc + 3) lv (.int v :: st) ws k n) : wpN o nL cc R mc ms D cy Z pc lv st ws k n := by
  intro p l e s m args below meth c H locs ls A cx hK hP hD hS hA hl
  exact lv_sipush cx.1 cx.2.1 hdg hv (kk p l e s m args below meth c H locs ls A cx hK hP hD hS hA hl)
theorem n_lconst {x : Fin 2} {v : Int64} (hdg : decode cc pc = .ok (.lconst x, 1)) (hv : Int64.ofNat (x : Nat) = v) (kk : wpN o nL cc R mc ms D cy Z (pc + 1) lv (.long v :: st) ws k n) : wpN o nL cc R mc ms D cy Z pc lv st ws k n := by
  intro p l e s m args below meth c H locs ls A cx hK hP hD hS hA hl
  exact lv_lconst cx.1 cx.2.1 hdg hv (kk p l e s m args below meth c H locs ls A cx hK hP hD hS hA hl)
theorem n_dup {v : Value} (hdg : decode cc pc = .ok (.dup, 1)) (hv : v.category = 1) (kk : wpN o nL cc R mc ms D cy Z (pc + 1) lv (v :: v :: st) ws k n) : wpN o nL cc R mc ms D cy Z pc lv (v :: st) ws k n := by
  intro p l e s m args below meth c H locs ls A cx hK hP hD hS hA hl
  exact lv_dup cx.1 cx.2.1 hdg hv (kk p l e s m args below meth c H locs ls A cx hK hP hD hS hA hl)
theorem n_goto {off : Int} {tgt : Nat} (hdg : decode cc pc = .ok (.goto off, 3)) (ht : (pc : Int) + off = (tgt : Int)) (kk : wpN o nL cc R mc ms D cy Z tgt lv st ws k n) : wpN o nL cc R mc ms D cy Z pc lv st ws k n := by
  intro p l e s m args below meth c H locs ls A cx hK hP hD hS hA hl
  exact lv_goto cx.1 cx.2.1 hdg ht (kk p l e s m args below meth c H locs ls A cx hK hP hD hS hA hl)
theorem n_icmp_ge {off : Int} {tgt : Nat} {x y : Int32} (hdg : decode cc pc = .ok (.if_icmp .ge off, 3)) (ht : (pc : Int) + off = (tgt : Int)) (k1 : y ≤ x → wpN o nL cc R mc ms D cy Z tgt lv st ws k n) (k2 : ¬ y ≤ x → wpN o nL cc R mc ms D cy Z (pc + 3) lv st ws k n) : wpN o nL cc R mc ms D cy Z pc lv (.int y :: .int x :: st) ws k n := by
  intro p l e s m args below meth c H locs ls A cx hK hP hD hS hA hl
  exact lv_icmp_ge cx.1 cx.2.1 hdg ht (fun h => k1 h p l e s m args below meth c H locs ls A cx hK hP hD hS hA hl) (fun h => k2 h p l e s m args below meth c H locs ls A cx hK hP hD hS hA hl)
theorem n_istore {i : Fin 4} {x : Int32} {lv' : List (Nat × Value)} (hdg : decode cc pc = .ok (.istore_n i, 1)) (hn : (i : Nat) < nL) (hl2 : ((i : Nat), Value.int x) :: lv.filter (fun q => !(q.1 == (i : Nat)) && !(q.1 + 1 == (i : Nat) && q.2.category == 2)) = lv') (kk : wpN o nL cc R mc ms D cy Z (pc + 1) lv' st ws k n) : wpN o nL cc R mc ms D cy Z pc lv (.int x :: st) ws k n := by
  intro p l e s m args below meth c H locs ls A cx hK hP hD hS hA hl
  exact lv_istore_n cx.1 cx.2.1 hdg rfl hl hn hl2 (fun ls2 hl3 => kk p l e s m args below meth c H locs ls2 A cx hK hP hD hS hA hl3)
theorem n_iinc {i : Nat} {d : Int} {x v : Int32} {lv' : List (Nat × Value)} (j : Nat) (hdg : decode cc pc = .ok (.iinc i d, 3)) (hj : lv[j]? = some (i, .int x)) (hv : x + Int32.ofInt d = v) (hn : i < nL) (hl2 : (i, Value.int v) :: lv.filter (fun q => !(q.1 == i) && !(q.1 + 1 == i && q.2.category == 2)) = lv') (kk : wpN o nL cc R mc ms D cy Z (pc + 3) lv' st ws k n) : wpN o nL cc R mc ms D cy Z pc lv st ws k n := by
  intro p l e s m args below meth c H locs ls A cx hK hP hD hS hA hl
  exact lv_iinc cx.1 cx.2.1 hdg hl hj hv hn hl2 (fun ls2 hl3 => kk p l e s m args below meth c H locs ls2 A cx hK hP hD hS hA hl3)
theorem ob_i : Cond.instanceMethod Lib.objectInit ∈ gdT := wq_in (p := 21) (by decide +kernel)
theorem ob_c : Cond.code Lib.objectInit ⟨#[0xb1]⟩ 1 none ∈ gdT := wq_in (p := 22) (by decide +kernel)
theorem n_obj {x a : Nat} (hdg : decode cc pc = .ok (.invokespecial x, 3)) (hlk : Cond.methodLink (RN o) x Lib.objectInit ∈ gdT) (h1 : 1 ≤ R.frames) (h2 : (st.map fun v => v.category).sum + 12 ≤ R.locals) (kk : wpN o nL cc R mc ms D cy Z (pc + 3) lv st ws k n) : wpN o nL cc R mc ms D cy Z pc lv (.ref a :: st) ws k n := by
  intro p l e s m args below meth c H locs ls A cx hK hP hD hS hA hl
  refine W.objInit cx.1 cx.2.1 cx.2.2.2.2.2.1 (cx.2.2.2.2.1 _ hlk) (cx.2.2.2.2.1 _ ob_i) (cx.2.2.2.2.1 _ ob_c) rfl (by rw [cx.2.2.2.1]; exact hl.1) rfl hdg h1 (by show 2 * 0 + (st.map fun v => v.category).sum + 12 ≤ R.locals; omega) ?_
  refine W.eq (g2 := F0 m (pc + 3) ls st) rfl ?_
  exact kk p l e s m args below meth c H locs ls A cx hK hP hD hS hA hl
theorem n_newa {atype : ArrayType} {ty : FieldType} {t N : Nat} {x : Int32} (hdg : decode cc pc = .ok (.newarray atype, 2)) (hw : Cond.arrayClass (newarray.typeOf atype) ∈ gdT) (hty : newarray.typeOf atype = ty) (ht : (tyL cy)[t]? = some (cy t, ty)) (ha : ∀ cA : ClassId, vp_cell cA (N, .inl (fun _ => 0)) = arrV cA N (fun _ => defaultValue ty)) (hn : ¬ x < 0) (hN : x.toNatClampNeg = N) (hb : N * componentBytes ty ≤ 536870912) (h1 : k + 1 ≤ R.cells) (h2 : n + N ≤ R.slots) (kk : ∀ q : Nat, wpN o nL cc R mc ms D cy Z (pc + 2) lv (.ref q :: st) (ws ++ [(q, .inl (cy t, N, .inl (fun _ => 0)))]) (k + 1) (n + N)) : wpN o nL cc R mc ms D cy Z pc lv (.int x :: st) ws k n := by
  intro p l e s m args below meth c H locs ls A cx hK hP hD hS hA hl
  refine va_newa (D := D) (cl := vwCl) (tys := tyL cy) (ws := ws) (A := A) (H0 := s.heap) (N' := N) (a0 := (N, .inl (fun _ => 0))) cx.1 cx.2.1 (cx.2.2.2.2.1 _ hw) hty hK hP hD hS hA ha hn hN hb h1 h2 hdg (fun q cA H1 hK1 hP1 hD1 hS1 => ?_)
  have e : cA = cy t := by
    subst hty
    have g1 : s.vm.findClass ("[" ++ (newarray.typeOf atype).toString) = some cA := by
      have := (hK1.2 3 (cA, newarray.typeOf atype) rfl).2
      cases atype <;> exact this
    have g2 : s.vm.findClass ("[" ++ (newarray.typeOf atype).toString) = some (cy t) := by
      have := (hK.2 t (cy t, newarray.typeOf atype) ht).2
      cases atype <;> exact this
    exact Option.some.inj (g1.symm.trans g2)
  subst e
  exact kk q p l e s m args below meth c H1 locs ls A cx hK hP1 hD1 hS1 hA hl
theorem n_put {x c f q0 a : Nat} {v : Value} {ty : FieldType} {fs : List Value} (hdg : decode cc pc = .ok (.putfield x, 3)) (hlk : fLk.any (fun e => decide (e.1 = o ∧ e.2.1 = x ∧ e.2.2.1 = c ∧ e.2.2.2.1 = f)) = true) (ho : o < 10) (hc : c < 9) (hf : f < fN c) (he : ws[q0]? = some (a, .inr (c, fs))) (hfin : ((clG c).2.1 f).2.2.2 = false ∨ ((clG c).2.1 f).2.2.2 = true ∧ ((clG c).2.1 f).1 = RN o) (hd : parseFieldDescriptor ((clG c).2.1 f).2.2.1 = some ty) (hnr : narrow ty v = v) (hfit : fits ty v = true) (hln : f < fs.length) (kk : wpN o nL cc R mc ms D cy Z (pc + 3) lv st (ws.set q0 (a, .inr (c, fs.set f v))) k n) : wpN o nL cc R mc ms D cy Z pc lv (v :: .ref a :: st) ws k n := by
  intro p l e s m args below meth c0 H locs ls A cx hK hP hD hS hA hl
  have hlt : f < (clG c).2.2 := by rw [clG_n c hc]; exact hf
  rcases hfin with h | ⟨h, h2⟩
  · exact va_put cx.1 cx.2.1 cx.2.2.2.2.1 (uw_in c hc) (tyG c) (tyG_ok c hc) (nmG_ok c hc) cx.2.2.2.2.2.1 hK hP hD hS q0 he (clG_at c hc) f hlt (cx.2.2.2.2.1 _ (fLk_w hlk)) (fun _ h9 => h9) h hd hnr hfit hln hdg (fun H1 locs1 hP1 hD1 hS1 => kk p l e s m args below meth c0 H1 locs1 ls A cx hK hP1 hD1 hS1 hA hl)
  · exact va_putF cx.1 cx.2.1 cx.2.2.2.2.1 (uw_in c hc) (tyG c) (tyG_ok c hc) (nmG_ok c hc) cx.2.2.2.2.2.1 hK hP hD hS q0 he (clG_at c hc) f hlt (cx.2.2.2.2.1 _ (fLk_w hlk)) (fun _ h9 => h9) h (cx.2.2.2.2.2.2.2 ho) h2 hd hnr hfit hln hdg (fun H1 locs1 hP1 hD1 hS1 => kk p l e s m args below meth c0 H1 locs1 ls A cx hK hP1 hD1 hS1 hA hl)
theorem n_get {x c f q0 a : Nat} {v : Value} {fs : List Value} (hdg : decode cc pc = .ok (.getfield x, 3)) (hlk : fLk.any (fun e => decide (e.1 = o ∧ e.2.1 = x ∧ e.2.2.1 = c ∧ e.2.2.2.1 = f)) = true) (hc : c < 9) (hf : f < fN c) (he : ws[q0]? = some (a, .inr (c, fs))) (hv : fs[f]? = some v) (kk : wpN o nL cc R mc ms D cy Z (pc + 3) lv (v :: st) ws k n) : wpN o nL cc R mc ms D cy Z pc lv (.ref a :: st) ws k n := by
  intro p l e s m args below meth c0 H locs ls A cx hK hP hD hS hA hl
  have hlt : f < (clG c).2.2 := by rw [clG_n c hc]; exact hf
  exact va_get cx.1 cx.2.1 cx.2.2.2.2.1 (uw_in c hc) cx.2.2.2.2.2.1 hK hP q0 he (clG_at c hc) f hlt (cx.2.2.2.2.1 _ (fLk_w hlk)) (fun _ h9 => h9) hv hdg (kk p l e s m args below meth c0 H locs ls A cx hK hP hD hS hA hl)
theorem n_iast {q0 a N : Nat} {f : Nat → Int32} {i x : Int32} (hdg : decode cc pc = .ok (.iastore, 1)) (he : ws[q0]? = some (a, .inl (cy 0, N, .inl f))) (hin : vp_in i N) (kk : wpN o nL cc R mc ms D cy Z (pc + 1) lv st (ws.set q0 (a, .inl (cy 0, N, .inl (upd f i.toNatClampNeg x)))) k n) : wpN o nL cc R mc ms D cy Z pc lv (.int x :: .int i :: .ref a :: st) ws k n := by
  intro p l e s m args below meth c H locs ls A cx hK hP hD hS hA hl
  exact va_iast (tys := tyL cy) cx.1 cx.2.1 hK hP hD hS q0 0 he rfl hin hdg (fun H1 locs1 hP1 hD1 hS1 => kk p l e s m args below meth c H1 locs1 ls A cx hK hP1 hD1 hS1 hA hl)
theorem n_new {x c : Nat} {fs : List Value} (hdg : decode cc pc = .ok (.new x, 3)) (hc : c < 9) (hcl : Cond.classLink (RN o) x (clG c).1 ∈ gdT) (hin : Cond.instantiable (clG c).1 (clG c).2.2 ∈ gdT) (hini : Cond.initialized (clG c).1 ∈ gdT) (hfs : ∀ j, j < (clG c).2.2 → defaultValue (tyG c j) = vp_V fs j) (h1 : k + 1 ≤ R.cells) (h2 : n + (clG c).2.2 ≤ R.slots) (kk : ∀ q : Nat, wpN o nL cc R mc ms D cy Z (pc + 3) lv (.ref q :: st) (ws ++ [(q, .inr (c, fs))]) (k + 1) (n + (clG c).2.2)) : wpN o nL cc R mc ms D cy Z pc lv st ws k n := by
  intro p l e s m args below meth c0 H locs ls A cx hK hP hD hS hA hl
  exact va_new cx.1 cx.2.1 cx.2.2.2.2.1 (uw_in c hc) (tyG c) (tyG_ok c hc) cx.2.2.2.2.2.1 (cx.2.2.2.2.1 _ hcl) (cx.2.2.2.2.1 _ hin) (cx.2.2.2.2.1 _ hini) hK hP hD hS hA (clG_at c hc) hfs h1 h2 hdg (fun q H1 hP1 hD1 hS1 => kk q p l e s m args below meth c0 H1 locs ls A cx hK hP1 hD1 hS1 hA hl)
theorem gd_one {w : Cond} (h : w ∈ gdT) : GoodIn gdT (w :: gdT) := by
  intro v hv
  rcases List.mem_cons.mp hv with rfl | hv
  · exact gd_good _ h
  · exact gd_good _ hv
theorem fm_of {ws : va_W} : ∀ {is : List Nat} {w : va_W}, is.map (fun i => ws[i]?) = w.map some → is.filterMap (fun i => ws[i]?) = w := by
  intro is
  induction is with
  | nil =>
    intro w h
    cases w with
    | nil => rfl
    | cons _ _ => cases h
  | cons i is ih =>
    intro w h
    cases w with
    | nil => cases h
    | cons x w =>
      rw [List.map_cons, List.map_cons] at h
      injection h with e1 e2
      rw [List.filterMap_cons, e1]
      exact congrArg (x :: ·) (ih e2)
theorem n_init {x a mL z : Nat} {y : MethodName} {b : ByteArray} {rm : Room} {As : List Value} {w0 wr : va_W} {Z2 : (Nat → Nat) → va_W} (hM : Ini y b mL rm D cy (.ref a :: As) w0 Z2) (hdg : decode cc pc = .ok (.invokespecial x, 3)) (hcd : Cond.code y b mL none ∈ gdT) (hlk : Cond.methodLink (RN o) x y ∈ gdT) (hini : Cond.initialized y.cls ∈ gdT) (hins : Cond.instanceMethod y ∈ gdT) (hy : y.name = "<init>") (hd : y.cls ≠ "java/lang/invoke/MethodHandle" ∧ y.cls ≠ "java/lang/invoke/VarHandle" ∧ (parseMethodDescriptor y.desc).map (fun d => d.parameters.length) = some z) (hz : As.length = z) (hr1 : rm.frames + 1 ≤ R.frames) (hr2 : 8 + (mL + 11) + rm.locals ≤ R.locals) (hw8 : (st.map fun v => v.category).sum ≤ 8) (isC isR : List Nat) (hC : isC.map (fun i => ws[i]?) = w0.map some) (hR : isR.map (fun i => ws[i]?) = wr.map some) (hndC : va_nd isC = true) (hnd : va_nd isR = true) (hdis : ∀ i ∈ isR, i ∉ isC) (h1 : k + rm.cells ≤ R.cells) (h2 : n + rm.slots ≤ R.slots)
    (kk : ∀ f : Nat → Nat, wpN o nL cc R mc ms D cy Z (pc + 3) lv st (wr ++ Z2 f) (k + rm.cells) (n + rm.slots)) : wpN o nL cc R mc ms D cy Z pc lv (As.reverse ++ .ref a :: st) ws k n := by
  intro p l e s m args below meth c H locs ls A cx hK hP hD hS hA hl
  have hPc : va_P D vwCl w0 H := hP.sub isC (fm_of hC)
  have hDc : va_D (fun _ => True) w0 := (hD.sub isC hndC hC).weaken (fun _ _ _ _ => trivial)
  have hFc := va_free (wc := w0) hD hS hA isC hC
  have hr := va_runI (As := As) (rest := st) (H := H) (locs := locs) (cells := k) (slots := n) (g := F0 m pc ls (As.reverse ++ .ref a :: st)) (below := below) (meth := meth) (e := e) (nL := nL) (n := z) ⟨cx.1, cx.2.1, cx.2.2.2.1, cx.2.2.2.2.2.1, cx.2.2.2.2.1⟩ (hM l H.size) (cwI z cx.2.2.2.2.1 (gd_one hcd) rfl rfl rfl (cx.2.2.2.2.1 _ hini) (cx.2.2.2.2.1 _ hlk) (cx.2.2.2.2.1 _ hins) hy hd ⟨hr1, hr2⟩) ⟨fun a U g mk q => by obtain ⟨q0, q1, qP, qK, qD⟩ := q; exact ⟨q0, q1, qP, va_K.moved (u := U) (U := U.calling g mk a) (Vm.Alike.refl U.vm) qK, qD⟩, fun U hU hW => ⟨rfl, by rw [hU], by rw [hU]; exact hPc, va_K.moved hW.alike hK, hDc⟩⟩ rfl hz hl.1 rfl (lv_room hw8) hdg ⟨h1, h2⟩
  refine va_callv hr hS (fun q _ h => hFc q h) hFc (fun u t H1 locs1 ht hvm _ hB hz1 hk1 hS1 => ?_)
  obtain ⟨hK1, f, hP1, hD1⟩ := hB
  rw [ht] at hP1
  obtain ⟨hP2, hD2⟩ := va_join (wr := wr) (w1 := Z2 f) hP hD isC isR hC hR hnd hdis hk1 hFc hP1 hD1
  exact kk f p l e s m args below meth c H1 locs1 ls A cx hK hP2 hD2 hS1 hA hl
theorem n_static {x mL z : Nat} {y : MethodName} {b : ByteArray} {rm : Room} {As : List Value} {w0 wr : va_W} {Z2 : (Nat → Nat) → va_W} (hM : Ini y b mL rm D cy As w0 Z2) (hdg : decode cc pc = .ok (.invokestatic x, 3)) (hcd : Cond.code y b mL none ∈ gdT) (hlk : Cond.methodLink (RN o) x y ∈ gdT) (hini : Cond.initialized y.cls ∈ gdT) (hins : Cond.static y ∈ gdT) (hd : y.cls ≠ "java/lang/invoke/MethodHandle" ∧ y.cls ≠ "java/lang/invoke/VarHandle" ∧ (parseMethodDescriptor y.desc).map (fun d => d.parameters.length) = some z) (hz : As.length = z) (hr1 : rm.frames + 1 ≤ R.frames) (hr2 : 8 + (mL + 11) + rm.locals ≤ R.locals) (hw8 : (st.map fun v => v.category).sum ≤ 8) (isC isR : List Nat) (hC : isC.map (fun i => ws[i]?) = w0.map some) (hR : isR.map (fun i => ws[i]?) = wr.map some) (hndC : va_nd isC = true) (hnd : va_nd isR = true) (hdis : ∀ i ∈ isR, i ∉ isC) (h1 : k + rm.cells ≤ R.cells) (h2 : n + rm.slots ≤ R.slots)
    (kk : ∀ f : Nat → Nat, wpN o nL cc R mc ms D cy Z (pc + 3) lv st (wr ++ Z2 f) (k + rm.cells) (n + rm.slots)) : wpN o nL cc R mc ms D cy Z pc lv (As.reverse ++ st) ws k n := by
  intro p l e s m args below meth c H locs ls A cx hK hP hD hS hA hl
  have hPc : va_P D vwCl w0 H := hP.sub isC (fm_of hC)
  have hDc : va_D (fun _ => True) w0 := (hD.sub isC hndC hC).weaken (fun _ _ _ _ => trivial)
  have hFc := va_free (wc := w0) hD hS hA isC hC
  have hr := va_runS (As := As) (rest := st) (H := H) (locs := locs) (cells := k) (slots := n) (g := F0 m pc ls (As.reverse ++ st)) (below := below) (meth := meth) (e := e) (nL := nL) (n := z) ⟨cx.1, cx.2.1, cx.2.2.2.1, cx.2.2.2.2.2.1, cx.2.2.2.2.1⟩ (hM l H.size) ⟨callB_of z cx.2.2.2.2.1 (gd_one hcd) rfl rfl rfl (cx.2.2.2.2.1 _ hini) (cx.2.2.2.2.1 _ hlk) hd ⟨hr1, hr2⟩, cx.2.2.2.2.1 _ hins⟩ ⟨fun a U g mk q => by obtain ⟨q0, q1, qP, qK, qD⟩ := q; exact ⟨q0, q1, qP, va_K.moved (u := U) (U := U.calling g mk a) (Vm.Alike.refl U.vm) qK, qD⟩, fun U hU hW => ⟨rfl, by rw [hU], by rw [hU]; exact hPc, va_K.moved hW.alike hK, hDc⟩⟩ rfl hz hl.1 rfl (lv_room hw8) hdg ⟨h1, h2⟩
  refine va_callv hr hS (fun q _ h => hFc q h) hFc (fun u t H1 locs1 ht hvm _ hB hz1 hk1 hS1 => ?_)
  obtain ⟨hK1, f, hP1, hD1⟩ := hB
  rw [ht] at hP1
  obtain ⟨hP2, hD2⟩ := va_join (wr := wr) (w1 := Z2 f) hP hD isC isR hC hR hnd hdis hk1 hFc hP1 hD1
  exact kk f p l e s m args below meth c H1 locs1 ls A cx hK hP2 hD2 hS1 hA hl
theorem n_ret {f : Nat → Nat} (hdg : decode cc pc = .ok (.return_, 1)) (hw : ws = Z f) (h1 : k ≤ mc) (h2 : n ≤ ms) : wpN o nL cc R mc ms D cy Z pc lv [] ws k n := by
  intro p l e s m args below meth c H locs ls A cx hK hP hD hS hA hl
  subst hw
  refine W.widen (k := mc) (n := ms) h1 h2 ?_
  have hlk : meth.locks = false := cx.2.2.2.2.2.2.1
  exact W.vret cx.1 cx.2.1 cx.2.2.1 (fun t ht hW => ⟨⟨(), rfl, trivial, va_K.moved hW.alike hK, f, by rw [ht]; exact hP, hD⟩, hS.F ht⟩) hS.2.2 hdg
theorem n_entry {y : MethodName} {b : ByteArray} {mL : Nat} {rm : Room} {as : List Value} {w0 : va_W} {lv0 : List (Nat × Value)} (ho : y.cls = RN o) (hy : plainName y.cls = true) (hnm : o < 10 → y.name = "<init>") (hle : (lg_sl as).length ≤ mL) (hlv : lv_args 0 as = lv0) (kk : wpN o mL b rm rm.cells rm.slots D cy Z 0 lv0 [] w0 0 0) : Ini y b mL rm D cy as w0 Z := by
  intro l sz
  refine Met.ofW (cc := b) (maxL := mL) (ret := none) hy rfl ?_
  intro p e s m args below meth c s₁ B hml hv
  obtain ⟨rfl, hsz, hP, hK, hD0⟩ := hv
  have hts0 := atoms_spec (ws := Cond.code y b mL none :: gdT) B.pre
  have hown : s.vm.findClass y.cls = some m.cls := findClass_of_methodNamed B.named
  rw [ho] at hown
  have hin : o < 10 → meth.name = "<init>" := fun h => (name_of_methodNamed B.named B.method).1.trans (hnm h)
  subst hsz
  have hen := lv_entry as (n := mL) hle
  rw [lg_entry_eq]
  subst hlv
  refine kk p l e s m _ below meth c s.heap [] _ (va_A w0 s.heap.size) ⟨B.exec, B.bytes, B.returns, hml, fun w hw => hts0 w (List.mem_cons_of_mem _ hw), hown, B.notSynchronized, hin⟩ hK hP hD0.self va_S.rf (fun q h => Or.inr h) hen
theorem n_istoreW {i : Nat} {x : Int32} {lv' : List (Nat × Value)} (hdg : decode cc pc = .ok (.istore i, 2)) (hn : i < nL) (hl2 : (i, Value.int x) :: lv.filter (fun q => !(q.1 == i) && !(q.1 + 1 == i && q.2.category == 2)) = lv') (kk : wpN o nL cc R mc ms D cy Z (pc + 2) lv' st ws k n) : wpN o nL cc R mc ms D cy Z pc lv (.int x :: st) ws k n := by
  intro p l e s m args below meth c H locs ls A cx hK hP hD hS hA hl
  exact lv_istore cx.1 cx.2.1 hdg hl hn hl2 (fun ls2 hl3 => kk p l e s m args below meth c H locs ls2 A cx hK hP hD hS hA hl3)
theorem n_alen {q0 a N : Nat} {f : Nat → Int32} {v : Int32} (hdg : decode cc pc = .ok (.arraylength, 1)) (he : ws[q0]? = some (a, .inl (cy 0, N, .inl f))) (hv : Int32.ofNat N = v) (kk : wpN o nL cc R mc ms D cy Z (pc + 1) lv (.int v :: st) ws k n) : wpN o nL cc R mc ms D cy Z pc lv (.ref a :: st) ws k n := by
  intro p l e s m args below meth c H locs ls A cx hK hP hD hS hA hl
  exact va_alen (tys := tyL cy) cx.1 cx.2.1 hK hP q0 0 he rfl hv hdg (kk p l e s m args below meth c H locs ls A cx hK hP hD hS hA hl)
end
