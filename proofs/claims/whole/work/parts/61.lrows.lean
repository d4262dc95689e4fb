-- PART 61: the law: its frame, its rows
/-! THE CLAIM OUT OF ONE WALK OF THE LAW'S BODY. Your part is whole_start (and what it stands on); all else here is the same for every law, but numbers. -/
def R_law : String := "NinthDayLaw"
def lw_P (b : Addr) (xs : List Int32) (args : Array Value) (s : State) : Prop := args = #[.ref b] ∧ s.IntsAt b xs ∧ xs.length ≤ 3072 ∧ (Jvm.Cond.and given_1 narrow_1).before args s = true
def lw_Q (_ : Array Value) (s : State) (o : Outcome) (t : State) : Prop := o = .returned (some (.int 1)) ∧ Framed s o t [] 600000 7302250
def lw_Z (below : List Frame) (a : Array Value) (s : State) : State → Prop := fun t => ∃ o, t.status = .running ∧ Ended t below o ∧ lw_Q a s o t
/-- the law's own end, with 1 on the stack, nothing written that was there before, its room as the claim has it -/
theorem lw_ret {p : Program} {l : Launch} {e : Env} {s : State} {m : MethodId} {below : List Frame} {meth : Method} {c : Code} {b : Nat} (hx : p.tables.exec = Jvm.exec) (hb : c.code = code) (hr : meth.sig.returnType = ret) (hlocks : meth.locks = false) {pc : Nat} {H : Heap} {ls : Array Slot} (hdg : decode code pc = .ok (.ireturn, 1)) : W p l e room_1 s m #[Value.ref b] below meth c H [] 600000 7302250 (lw_Z below #[Value.ref b] s) (F0 m pc ls [.int 1]) := by
  intro T hT X
  obtain ⟨fs, hret, hrun, hended, hW, hframe⟩ := X.leave (v := some (.int 1)) (hlocks := hlocks) (fun h => by rw [hr] at h; cases h)
  have hmeth' : T.vm.method? m = some meth := X.method'
  refine ⟨T.setFrames fs, ?_, .returned (some (.int 1)), hrun, hended, rfl, ⟨_, rfl⟩, hW, hframe⟩
  jvm_step X.here [X.here.top, hx, hb, hdg, hmeth', hr, ret, narrow_b1]
  (try refine ⟨rfl, ?_⟩); (try refine ⟨rfl, ?_⟩)
  first | (intro acts; rw [hret _ acts rfl rfl rfl]) | rw [hret _ _ rfl rfl rfl]
  exact Steps.refl _
/-- what holds at the law's entry: the machine, the code, the tables' words (any of lw_tbl by 'hts w (by decide +kernel)'), the script of L ints xs at the cell b, what the Statement gives of the start (any of its parts by flat_of_before) -/
def lw_At (p : Program) (s : State) (m : MethodId) (meth : Method) (c : Code) (b L : Nat) (xs : Nat → Int32) : Prop :=
  p.tables.exec = Jvm.exec ∧ c.code = code ∧ meth.sig.returnType = ret ∧ c.maxLocals = 4 ∧ s.vm.findClass R_law = some m.cls ∧ (∀ w ∈ lw_tbl, w.before #[Value.ref b] s = true) ∧ va_X b L xs s s.heap ∧ b < s.heap.size ∧ meth.locks = false ∧ (Jvm.Cond.and given_1 narrow_1).before #[Value.ref b] s = true
def wpL (b L : Nat) (xs : Nat → Int32) (pc i : Nat) (st : List AV) (S : MS) : Prop := ∀ (p : Program) (l : Launch) (e : Env) (s : State) (m : MethodId) (below : List Frame) (meth : Method) (c : Code) (H : Heap) (D : va_G) (cy : Nat → ClassId) (ad : Nat → Nat → Nat) (ls : Array Slot),
  lw_At p s m meth c b L xs → Sx D cy ad S s H [] → (∀ q : Nat, Aw ad q → s.heap.size ≤ q) → lv_has ls 4 [(0, .ref b), (1, .ref (ad 7 0)), (2, .ref (ad 8 0)), (3, .int (nI i))] → W p l e room_1 s m #[Value.ref b] below meth c H [] 600000 7302250 (lw_Z below #[Value.ref b] s) (F0 m pc ls (st.map (rv ad)))
/-- behind a call, with cells made before -/
theorem call_backL {S : MS} {st : List AV} {pc : Nat} {p : Program} {l : Launch} {e : Env} {s : State} {m : MethodId} {args : Array Value} {below : List Frame} {meth : Method} {c : Code} {H : Heap} {locs : List Loc} {D : va_G} {cy : Nat → ClassId} {ad : Nat → Nat → Nat} {lsR : Array Slot} {st0 : List Value} {R : Room} {Q : State → Prop} {a : Array Value} {P2 : Option AV → MS → Prop} {ca sl : Nat}
    (sx : Sx D cy ad S s H locs) (hr : va_Run p l e R s m args below meth c H locs ca sl 0 0 (F0 m pc lsR st0) (st.map (rv ad)) (Qp D cy ad P2 a) (Aw ad))
    (kk : ∀ (v : Option AV) (S2 : MS) (H1 : Heap) (locs1 : List Loc), P2 v S2 → Sx D cy ad S2 s H1 locs1 → W p l e R s m args below meth c H1 locs1 ca sl Q (F0 m (pc + 3) lsR ((v.toList ++ st).map (rv ad)))) : W p l e R s m args below meth c H locs ca sl Q (F0 m pc lsR st0) := by
  intro T hT X
  obtain ⟨v, st₀, t, T', L, h0, X', hL, e1, e2, ⟨⟨r, S2, hv, hp, hb⟩, hz, hk⟩, stp⟩ := hr T hT X
  cases hv
  rw [h0] at hz hk
  have hS2 : va_S (Aw ad) s.heap T'.heap (locs ++ L) := ⟨Nat.le_trans sx.2.2.1 (by rw [e1]; exact hz), fun q h1 h2 => by rw [e1, hk q (Nat.lt_of_lt_of_le h1 sx.2.2.1) h2]; exact sx.2.2.2.1 q h1 h2, fun q hq => by
      rcases List.mem_append.mp hq with h | h
      · exact sx.2.2.2.2 q h
      · exact hL q h⟩
  obtain ⟨t2, a1, b1⟩ := kk r S2 T'.heap (locs ++ L) hp ⟨sx.1, by rw [e1]; exact hb, hS2⟩ T' rfl X'
  refine ⟨t2, stp t2 ?_, b1⟩
  have e3 : (r.toList ++ st).map (rv ad) = (r.map (rv ad)).toList ++ st.map (rv ad) := by
    rw [List.map_append]
    cases r <;> rfl
  rw [e3] at a1
  exact a1
theorem gd_tbl {w : Cond} (h : w ∈ gdT) : w ∈ lw_tbl := (List.mem_filter.mp h).1
section
variable {b L : Nat} {xs : Nat → Int32} {pc i : Nat} {st : List AV} {S : MS}
theorem w_x (hdg : decode code pc = .ok (.aload_n 1, 1)) (kk : wpL b L xs (pc + 1) i (aR 7 0 :: st) S) : wpL b L xs pc i st S := by
  intro p l e s m below meth c H D cy ad ls C0 sx hA hl
  exact lv_aload_n C0.1 C0.2.1 hdg rfl (lv_at hl 1 rfl) (kk p l e s m below meth c H D cy ad ls C0 sx hA hl)
theorem w_m (hdg : decode code pc = .ok (.aload_n 2, 1)) (kk : wpL b L xs (pc + 1) i (aR 8 0 :: st) S) : wpL b L xs pc i st S := by
  intro p l e s m below meth c H D cy ad ls C0 sx hA hl
  exact lv_aload_n C0.1 C0.2.1 hdg rfl (lv_at hl 2 rfl) (kk p l e s m below meth c H D cy ad ls C0 sx hA hl)
theorem sl_of {ad : Nat → Nat → Nat} {s : State} {H : Heap} {b : Nat} (hA : ∀ q : Nat, Aw ad q → s.heap.size ≤ q) (hb : b < s.heap.size) : ¬ Aw ad b := fun h => absurd (hA b h) (Nat.not_le.mpr hb)
theorem w_arg {k : Nat} (d0 : decode code pc = .ok (.aload_n 0, 1)) (d1 : decode code (pc + 1) = .ok (.iload_n 3, 1)) (d2 : decode code (pc + 2) = .ok (.iconst (k : Int), 1)) (d3 : decode code (pc + 3) = .ok (.iadd, 1)) (d4 : decode code (pc + 4) = .ok (.iaload, 1)) (hv : Int32.ofInt (k : Int) = nI k) (hi : i + k < L) (hL : L ≤ 3072) (kk : wpL b L xs (pc + 5) i (aI (xs (i + k)) :: st) S) : wpL b L xs pc i st S := by
  intro p l e s m below meth c H D cy ad ls C0 sx hA hl
  refine lv_aload_n C0.1 C0.2.1 d0 rfl (lv_at hl 0 rfl) ?_
  refine lv_iload_n C0.1 C0.2.1 d1 rfl (lv_at hl 3 rfl) ?_
  refine lv_iconst C0.1 C0.2.1 d2 hv ?_
  refine lv_iadd C0.1 C0.2.1 d3 ?_
  rw [nI_add]
  have hbl := C0.2.2.2.2.2.2.2.1
  refine va_sld C0.1 C0.2.1 C0.2.2.2.2.2.2.1 hbl (sl_of (H := H) hA hbl) sx.2.2 (i_in hi (by omega)) d4 ?_
  rw [i_cl (by omega)]
  exact kk p l e s m below meth c H D cy ad ls C0 sx hA hl
theorem w_call {d x a k : Nat} {as : List AV} {P2 : Option AV → MS → Prop} (hM : wpM d a (aR k 0 :: as) S P2) (hdg : decode code pc = .ok (.invokevirtual x, 3)) (ha : a < nM) (hlk : Cond.methodLink R_law x (mY a) ∈ gdT) (hst : ¬ (mPl.getD a (1, 0, 0, 0, 0, 0, 0)).1 = 0) (hn : (mPl.getD a (1, 0, 0, 0, 0, 0, 0)).2.2.2.2.2.2 = as.length) (hk : k < 9) (hj : 0 < cnt k) (hc : (mY a).cls = (clG k).1) (hw8 : wid st ≤ 8) (hf : d + 1 ≤ 2048) (hlc : 8 + (mL a + 11) + 64 * d ≤ 84000) (kk : ∀ v S2, P2 v S2 → wpL b L xs (pc + 3) i (v.toList ++ st) S2) : wpL b L xs pc i (as.reverse ++ aR k 0 :: st) S := by
  intro p l e s m below meth c H D cy ad ls C0 sx hA hl
  obtain ⟨q, hq, b1, b2, b3, b4, b5, b6, b7⟩ := mOk_spec ha
  rw [List.getD_eq_getElem?_getD, hq] at hst hn
  have hst : ¬ q.1 = 0 := hst
  have hn : q.2.2.2.2.2.2 = as.length := hn
  obtain ⟨q0, hq0⟩ := Rs_of hj (by omega)
  have hw := wld_get (cy := cy) (ad := ad) (S := S) hq0
  rw [cE_obj hk] at hw
  have hts : ∀ w ∈ gdT, w.before #[Value.ref b] s = true := fun w hw => C0.2.2.2.2.2.1 w (gd_tbl hw)
  have hcb : CallB room_1 s #[Value.ref b] R_law x (mY a) (mC a) (mL a) (mR a) (Cond.code (mY a) (mC a) (mL a) (mR a) :: gdT) (rmD d) 0 0 as.length :=
    callB_of as.length hts (gd_cons ha) rfl rfl rfl (hts _ b3) (hts _ hlk) ⟨b4.1, b4.2, by rw [b5, hn]⟩ ⟨hf, hlc⟩
  have hrc := va_recv sx.1.1 sx.2.1.1 (clG_at k hk) hw
  have hr := va_runV (As := as.map (rv ad)) (rest := st.map (rv ad)) (H := H) (locs := []) (cells := 600000) (slots := 7302250) (g := F0 m pc ls ((as.reverse ++ aR k 0 :: st).map (rv ad))) (below := below) (meth := meth) (e := e) (nL := 4) (n := as.length) (C := (mY a).cls) (b := ad k 0) ⟨C0.1, C0.2.1, C0.2.2.2.1, C0.2.2.2.2.1, hts⟩ (hM l D cy ad) ⟨hcb, hts _ (b2 hst).1, hts _ (b2 hst).2⟩ ⟨pre_ok, by rw [hc]; exact hrc, fun U hU hW => ⟨rfl, pre_at sx hU hW⟩⟩ rfl (List.length_map _) hl.1 (by rw [List.map_append, List.map_reverse]; rfl) (by rw [rv_wid]; show 2 * 0 + wid st ≤ 8; omega) hdg ⟨Nat.le_refl _, Nat.le_refl _⟩
  refine call_backL sx hr (fun v S2 H1 locs1 hp sx2 => ?_)
  refine va_forget (fun q hq => hA _ (sx2.2.2.2.2 q hq)) ?_
  exact kk v S2 hp p l e s m below meth c H1 D cy ad ls C0 ⟨sx2.1, sx2.2.1, sx2.2.2.1, sx2.2.2.2.1, fun q hq => (List.not_mem_nil hq).elim⟩ hA hl
theorem w_eq {off : Int} {z : Int32} (hdg : decode code pc = .ok (.if_icmp .eq off, 3)) (ht : (pc : Int) + off = ((1436 : Nat) : Int)) (kk : wpL b L xs 1436 i st S) : wpL b L xs pc i (aI z :: aI z :: st) S := by
  intro p l e s m below meth c H D cy ad ls C0 sx hA hl
  exact lv_icmp_eq C0.1 C0.2.1 hdg ht (fun _ => kk p l e s m below meth c H D cy ad ls C0 sx hA hl) (fun h => absurd rfl h)
theorem w_leq {off : Int} {z : Int64} (hdg : decode code pc = .ok (.lcmp, 1)) (hd2 : decode code (pc + 1) = .ok (.ifCond .eq off, 3)) (ht : ((pc + 1 : Nat) : Int) + off = ((1436 : Nat) : Int)) (kk : wpL b L xs 1436 i st S) : wpL b L xs pc i (aL z :: aL z :: st) S := by
  intro p l e s m below meth c H D cy ad ls C0 sx hA hl
  refine W.lcmp C0.1 C0.2.1 hdg ?_
  exact lv_if_eq C0.1 C0.2.1 hd2 ht (fun _ => kk p l e s m below meth c H D cy ad ls C0 sx hA hl) (fun h => absurd ((lg_cmp_eq z z).mpr rfl) h)
theorem w_next (hi : i + 6 ≤ L) (kk : wpL b L xs 18 (i + 6) [] S) : wpL b L xs 1436 i [] S := by
  intro p l e s m below meth c H D cy ad ls C0 sx hA hl
  refine lv_iinc (v := nI (i + 6)) (lv' := [(3, .int (nI (i + 6))), (0, .ref b), (1, .ref (ad 7 0)), (2, .ref (ad 8 0))]) C0.1 C0.2.1 (show decode code 1436 = .ok (.iinc 3 6, 3) by decide +kernel) hl (k := 3) rfl ?_ (by decide) rfl (fun ls2 hl2 => ?_)
  · rw [show Int32.ofInt 6 = nI 6 by decide +kernel, nI_add]
  · refine lv_goto (tgt := 18) C0.1 C0.2.1 (show decode code 1439 = .ok (.goto (-1421), 3) by decide +kernel) (by decide) ?_
    exact kk p l e s m below meth c H D cy ad ls2 C0 sx hA (lv_sub hl2 [1, 2, 3, 0] rfl)
theorem w_done : wpL b L xs 1442 i [] S := by
  intro p l e s m below meth c H D cy ad ls C0 sx hA hl
  refine lv_iconst (v := 1) C0.1 C0.2.1 (show decode code 1442 = .ok (.iconst 1, 1) by decide +kernel) (by decide) ?_
  exact lw_ret C0.1 C0.2.1 C0.2.2.1 C0.2.2.2.2.2.2.2.2.1 (show decode code 1443 = .ok (.ireturn, 1) by decide +kernel)
end
