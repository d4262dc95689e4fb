-- PART 08: calls, the entry, blocks of instructions
theorem gs_1 : Cond.fieldLink RX1 11 RX1 "LETTERS" "[I" ∈ gdT := wq_in (p := 380) (by decide +kernel)
theorem gs_2 : Cond.fieldLink RX1 15 RX1 "ABOVE" "[I" ∈ gdT := wq_in (p := 436) (by decide +kernel)
theorem mm_s_max : Cond.static Lib.Math.max.name ∈ gdT := wq_in (p := 423) (by decide +kernel)
theorem mm_c_max : Cond.code Lib.Math.max.name Lib.Math.max.code 2 (some .int) ∈ gdT := wq_in (p := 424) (by decide +kernel)
theorem mm_y_max : mY 224 = Lib.Math.max.name := by decide +kernel
theorem mm_s_min : Cond.static Lib.Math.min.name ∈ gdT := wq_in (p := 496) (by decide +kernel)
theorem mm_c_min : Cond.code Lib.Math.min.name Lib.Math.min.code 2 (some .int) ∈ gdT := wq_in (p := 497) (by decide +kernel)
theorem mm_y_min : mY 225 = Lib.Math.min.name := by decide +kernel
theorem mm_i : Cond.initialized "java/lang/Math" ∈ gdT := wq_in (p := 13) (by decide +kernel)
abbrev uMax : Nat := 224
abbrev uMin : Nat := 225
theorem mOk_at {u : Nat} (h : u < nM) : mOkB u = true := List.all_eq_true.mp mOk_all u (List.mem_range.mpr h)
/-- what is known of a method of the table -/
theorem mOk_spec {u : Nat} (h : u < nM) : ∃ q, mPl[u]? = some q ∧ (q.1 = 0 → Cond.static (mY u) ∈ gdT) ∧ (¬ q.1 = 0 → Cond.instanceMethod (mY u) ∈ gdT ∧ Cond.selects (mY u).cls (mY u) (mY u) ∈ gdT) ∧ Cond.initialized (mY u).cls ∈ gdT ∧ ((mY u).cls ≠ "java/lang/invoke/MethodHandle" ∧ (mY u).cls ≠ "java/lang/invoke/VarHandle") ∧ (parseMethodDescriptor (mY u).desc).map (fun d => d.parameters.length) = some q.2.2.2.2.2.2 ∧ (mY u).cls = RN (mO u) ∧ mL u ≤ 40 := by
  have h1 := mOk_at h
  unfold mOkB at h1
  split at h1
  · cases h1
  · rename_i q hq
    simp only [Bool.and_eq_true, decide_eq_true_eq] at h1
    obtain ⟨⟨⟨⟨⟨⟨a1, a2⟩, a3⟩, a4⟩, a5⟩, a6⟩, a7⟩ := h1
    refine ⟨q, hq, fun h0 => ?_, fun h0 => ?_, wq_in a2, ⟨a3, a4⟩, a5, a6, a7⟩
    · rw [if_pos h0] at a1
      exact wq_in a1
    · rw [if_neg h0] at a1
      obtain ⟨b1, b2⟩ := Bool.and_eq_true_iff.mp a1
      refine ⟨wq_in b1, ?_⟩
      split at b2
      · exact wq_in b2
      · exact wq_sel b2
section
variable {d u pc : Nat} {ls st : List AV} {S : MS} {P : Option AV → MS → Prop}
theorem gd_cons {a : Nat} (ha : a < nM) : GoodIn gdT (Cond.code (mY a) (mC a) (mL a) (mR a) :: gdT) := by
  intro w hw
  rcases List.mem_cons.mp hw with rfl | h
  · exact gd_good _ (cd_in a ha)
  · exact gd_good _ h
theorem pre_ok {D : va_G} {cy : Nat → ClassId} {ad : Nat → Nat → Nat} {as : List AV} : FrameBlind (va_Pc (as.map (rv ad)) (fun U => WK D cy ad U ∧ WP D cy ad S U.heap)) := fun _ _ _ _ q => ⟨q.1, WK_call q.2.1, q.2.2⟩
theorem pre_at {D : va_G} {cy : Nat → ClassId} {ad : Nat → Nat → Nat} {s U : State} {H : Heap} {locs : List Loc} (sx : Sx D cy ad S s H locs) (hU : U.heap = H) (hW : s.WarmedH U.vm) : WK D cy ad U ∧ WP D cy ad S U.heap := ⟨WK_go sx.1 hW hU sx.2.2, by rw [hU]; exact sx.2.1⟩
/-- behind a call -/
theorem call_back {p : Program} {l : Launch} {e : Env} {s : State} {m : MethodId} {args : Array Value} {below : List Frame} {meth : Method} {c : Code} {H : Heap} {locs : List Loc} {D : va_G} {cy : Nat → ClassId} {ad : Nat → Nat → Nat} {lsR : Array Slot} {st0 : List Value} {R : Room} {Q : State → Prop} {a : Array Value} {P2 : Option AV → MS → Prop}
    (sx : Sx D cy ad S s H locs) (hr : va_Run p l e R s m args below meth c H locs 0 0 0 0 (F0 m pc lsR st0) (st.map (rv ad)) (Qp D cy ad P2 a) (Aw ad))
    (kk : ∀ (v : Option AV) (S2 : MS) (H1 : Heap) (locs1 : List Loc), P2 v S2 → Sx D cy ad S2 s H1 locs1 → W p l e R s m args below meth c H1 locs1 0 0 Q (F0 m (pc + 3) lsR ((v.toList ++ st).map (rv ad)))) : W p l e R s m args below meth c H locs 0 0 Q (F0 m pc lsR st0) := by
  intro T hT X
  obtain ⟨v, st₀, t, T', L, h0, X', hL, e1, e2, ⟨⟨r, S2, hv, hp, hb⟩, hz, hk⟩, stp⟩ := hr T hT X
  cases hv
  rw [h0] at hz hk
  have hS2 : va_S (Aw ad) s.heap T'.heap (locs ++ L) := ⟨Nat.le_trans sx.2.2.1 (by rw [e1]; exact hz), fun q h1 h2 => by rw [e1, hk q (Nat.lt_of_lt_of_le h1 sx.2.2.1) h2]; exact sx.2.2.2.1 q h1 h2, fun q hq => by
      rcases List.mem_append.mp hq with h | h
      · exact sx.2.2.2.2 q h
      · exact hL q h⟩
  obtain ⟨t2, a1, b1⟩ := kk r S2 T'.heap (locs ++ L) hp ⟨sx.1, by rw [e1]; exact hb, hS2⟩ T' rfl X'
  refine ⟨t2, stp t2 ?_, b1⟩
  have e3 : (r.toList ++ st).map (rv ad) = (r.map (rv ad)).toList ++ st.map (rv ad) := by
    rw [List.map_append]
    cases r <;> rfl
  rw [e3] at a1
  exact a1
theorem x_call {x a : Nat} {as : List AV} {P2 : Option AV → MS → Prop} (hdg : decode (mC u) pc = .ok (.invokestatic x, 3)) (ha : a < nM) (hlk : cLk.any (fun e => decide (e.1 = mO u ∧ e.2.1 = x ∧ e.2.2.1 = a ∧ e.2.2.2.1 = 0)) = true) (hst : (mPl.getD a (1, 0, 0, 0, 0, 0, 0)).1 = 0) (hn : (mPl.getD a (1, 0, 0, 0, 0, 0, 0)).2.2.2.2.2.2 = as.length) (hw8 : wid st ≤ 8) (hM : wpM d a as S P2) (kk : ∀ v S2, P2 v S2 → wpX d u (pc + 3) ls (v.toList ++ st) S2 P) : wpX d u pc ls (as.reverse ++ st) S P := by
  intro p l e s m args below meth c H locs D cy ad lsR cx sx hl
  obtain ⟨q, hq, b1, b2, b3, b4, b5, b6, b7⟩ := mOk_spec ha
  rw [List.getD_eq_getElem?_getD, hq] at hst hn
  have hst : q.1 = 0 := hst
  have hn : q.2.2.2.2.2.2 = as.length := hn
  have hcb : CallB (rmD (d + 1)) s args (RN (mO u)) x (mY a) (mC a) (mL a) (mR a) (Cond.code (mY a) (mC a) (mL a) (mR a) :: gdT) (rmD d) 0 0 as.length :=
    callB_of as.length cx.2.2.2.2.1 (gd_cons ha) rfl rfl rfl (cx.2.2.2.2.1 _ b3) (cx.2.2.2.2.1 _ (cLk_w hlk)) ⟨b4.1, b4.2, by rw [b5, hn]⟩ ⟨Nat.le_refl _, by show 8 + (mL a + 11) + 64 * d ≤ 64 * (d + 1); omega⟩
  have hr := va_runS (As := as.map (rv ad)) (rest := st.map (rv ad)) (H := H) (locs := locs) (cells := 0) (slots := 0) (g := F0 m pc lsR ((as.reverse ++ st).map (rv ad))) (below := below) (meth := meth) (e := e) (nL := mL u) (n := as.length) ⟨cx.1, cx.2.1, cx.2.2.2.1, cx.2.2.2.2.2.1, cx.2.2.2.2.1⟩ (hM l D cy ad) ⟨hcb, cx.2.2.2.2.1 _ (b1 hst)⟩ ⟨pre_ok, fun U hU hW => ⟨rfl, pre_at sx hU hW⟩⟩ rfl (List.length_map _) hl.1 (by rw [List.map_append, List.map_reverse]) (by rw [rv_wid]; show 2 * 0 + wid st ≤ 8; omega) hdg ⟨Nat.zero_le _, Nat.zero_le _⟩
  exact call_back sx hr (fun v S2 H1 locs1 hp sx2 => kk v S2 hp p l e s m args below meth c H1 locs1 D cy ad lsR cx sx2 hl)
theorem x_callv {x a k j : Nat} {as : List AV} {P2 : Option AV → MS → Prop} (hdg : decode (mC u) pc = .ok (.invokevirtual x, 3)) (ha : a < nM) (hlk : cLk.any (fun e => decide (e.1 = mO u ∧ e.2.1 = x ∧ e.2.2.1 = a ∧ e.2.2.2.1 = 1)) = true) (hst : ¬ (mPl.getD a (1, 0, 0, 0, 0, 0, 0)).1 = 0) (hn : (mPl.getD a (1, 0, 0, 0, 0, 0, 0)).2.2.2.2.2.2 = as.length) (hk : k < 9) (hj : j < cnt k) (hc : (mY a).cls = (clG k).1) (hw8 : wid st ≤ 8) (hM : wpM d a (aR k j :: as) S P2) (kk : ∀ v S2, P2 v S2 → wpX d u (pc + 3) ls (v.toList ++ st) S2 P) : wpX d u pc ls (as.reverse ++ aR k j :: st) S P := by
  intro p l e s m args below meth c H locs D cy ad lsR cx sx hl
  obtain ⟨q, hq, b1, b2, b3, b4, b5, b6, b7⟩ := mOk_spec ha
  rw [List.getD_eq_getElem?_getD, hq] at hst hn
  have hst : ¬ q.1 = 0 := hst
  have hn : q.2.2.2.2.2.2 = as.length := hn
  obtain ⟨q0, hq0⟩ := Rs_of hj (by omega)
  have hw := wld_get (cy := cy) (ad := ad) (S := S) hq0
  rw [cE_obj hk] at hw
  have hcb : CallB (rmD (d + 1)) s args (RN (mO u)) x (mY a) (mC a) (mL a) (mR a) (Cond.code (mY a) (mC a) (mL a) (mR a) :: gdT) (rmD d) 0 0 as.length :=
    callB_of as.length cx.2.2.2.2.1 (gd_cons ha) rfl rfl rfl (cx.2.2.2.2.1 _ b3) (cx.2.2.2.2.1 _ (cLk_w hlk)) ⟨b4.1, b4.2, by rw [b5, hn]⟩ ⟨Nat.le_refl _, by show 8 + (mL a + 11) + 64 * d ≤ 64 * (d + 1); omega⟩
  have hrc := va_recv sx.1.1 sx.2.1.1 (clG_at k hk) hw
  have hr := va_runV (As := as.map (rv ad)) (rest := st.map (rv ad)) (H := H) (locs := locs) (cells := 0) (slots := 0) (g := F0 m pc lsR ((as.reverse ++ aR k j :: st).map (rv ad))) (below := below) (meth := meth) (e := e) (nL := mL u) (n := as.length) (C := (mY a).cls) (b := ad k j) ⟨cx.1, cx.2.1, cx.2.2.2.1, cx.2.2.2.2.2.1, cx.2.2.2.2.1⟩ (hM l D cy ad) ⟨hcb, cx.2.2.2.2.1 _ (b2 hst).1, cx.2.2.2.2.1 _ (b2 hst).2⟩ ⟨pre_ok, by rw [hc]; exact hrc, fun U hU hW => ⟨rfl, pre_at sx hU hW⟩⟩ rfl (List.length_map _) hl.1 (by rw [List.map_append, List.map_reverse]; rfl) (by rw [rv_wid]; show 2 * 0 + wid st ≤ 8; omega) hdg ⟨Nat.zero_le _, Nat.zero_le _⟩
  exact call_back sx hr (fun v S2 H1 locs1 hp sx2 => kk v S2 hp p l e s m args below meth c H1 locs1 D cy ad lsR cx sx2 hl)
/-- the locals at a method's entry -/
def lay : List AV → List AV
  | [] => []
  | v :: t => if avw v = 2 then v :: aU :: lay t else v :: lay t
def ini (as : List AV) (n : Nat) : List AV := lay as ++ List.replicate (n - (lay as).length) aU
theorem lay_args {ad : Nat → Nat → Nat} : ∀ (as : List AV) (i j : Nat) (v : AV), (lay as)[j]? = some v → v ≠ aU → (i + j, rv ad v) ∈ lv_args i (as.map (rv ad)) := by
  intro as
  induction as with
  | nil => intro i j v h; cases h
  | cons x t ih =>
    intro i j v h hv
    rw [List.map_cons, lv_args, rv_cat]
    unfold lay at h
    split at h
    · rename_i h2
      rw [if_pos h2]
      match j, h with
      | 0, h => cases h; exact List.mem_cons_self
      | 1, h => cases h; exact absurd rfl hv
      | j + 2, h =>
        have := ih (i + 2) j v h hv
        rw [show i + (j + 2) = i + 2 + j by omega]
        exact List.mem_cons_of_mem _ this
    · rename_i h2
      rw [if_neg h2]
      match j, h with
      | 0, h => cases h; exact List.mem_cons_self
      | j + 1, h =>
        have := ih (i + 1) j v h hv
        rw [show i + (j + 1) = i + 1 + j by omega]
        exact List.mem_cons_of_mem _ this
theorem lay_len {ad : Nat → Nat → Nat} : ∀ (as : List AV), (lg_sl (as.map (rv ad))).length = (lay as).length := by
  intro as
  induction as with
  | nil => rfl
  | cons x t ih =>
    have e : lg_sl ((x :: t).map (rv ad)) = (if (rv ad x).category = 2 then [Slot.val (rv ad x), Slot.second] else [Slot.val (rv ad x)]) ++ lg_sl (t.map (rv ad)) := by
      unfold lg_sl
      rw [List.map_cons, List.flatMap_cons]
    rw [e, List.length_append, ih, rv_cat, lay]
    split
    · simp only [List.length_cons, List.length_nil]; omega
    · simp only [List.length_cons, List.length_nil]; omega
theorem x_entry {as ls2 : List AV} (hu : u < nM) (hp : plainName (RN (mO u)) = true) (hini : ini as (mL u) = ls2) (hle : (lay as).length ≤ mL u) (k : wpX d u 0 ls2 [] S P) : wpM (d + 1) u as S P := by
  intro l D cy ad
  subst hini
  obtain ⟨q, hq, b1, b2, b3, b4, b5, b6, b7⟩ := mOk_spec hu
  refine Met.ofW (cc := mC u) (maxL := mL u) (ret := mR u) (by rw [b6]; exact hp) rfl ?_
  intro p e s m args below meth c s₁ B hml hv
  obtain ⟨rfl, hK, hW⟩ := hv
  have hts0 := atoms_spec (ws := Cond.code (mY u) (mC u) (mL u) (mR u) :: gdT) B.pre
  have hown : s.vm.findClass (mY u).cls = some m.cls := findClass_of_methodNamed B.named
  rw [b6] at hown
  have hen := lv_entry (as.map (rv ad)) (n := mL u) (by rw [lay_len]; exact hle)
  rw [lg_entry_eq]
  refine k p l e s m _ below meth c s.heap [] D cy ad _ ⟨B.exec, B.bytes, B.returns, hml, fun w hw => hts0 w (List.mem_cons_of_mem _ hw), hown, B.notSynchronized⟩ ⟨hK, hW, va_S.rf⟩ ⟨hen.1, hen.2.1, fun i v hi hv => ?_⟩
  refine hen.2.2 (i, rv ad v) ?_
  have hi2 : (lay as)[i]? = some v := by
    unfold ini at hi
    rcases Nat.lt_or_ge i (lay as).length with h | h
    · rw [List.getElem?_append_left h] at hi
      exact hi
    · rw [List.getElem?_append_right h] at hi
      exact absurd (List.eq_of_mem_replicate (List.mem_of_getElem? hi)) hv
  have := lay_args (ad := ad) as 0 i v hi2 hv
  rw [Nat.zero_add] at this
  exact this
/-- a weaker claim -/
theorem x_post {Q : Option AV → MS → Prop} (h : ∀ v S2, P v S2 → Q v S2) (k : wpM d u ls S P) : wpM d u ls S Q := by
  intro l D cy ad p e ha hc hk s m args below hf hsp hP hX
  obtain ⟨t, o, a1, a2, a3, ⟨⟨⟨r, S2, b1, b2, b3⟩, b4⟩, b5⟩⟩ := k l D cy ad p e ha hc hk s m args below hf hsp hP hX
  exact ⟨t, o, a1, a2, a3, ⟨⟨⟨r, S2, b1, h _ _ b2, b3⟩, b4⟩, b5⟩⟩
end
