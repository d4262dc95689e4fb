-- PART 63: the law from its entry
def S0 : MS := (fun k _ f => if k = 6 ∧ f = 8 then 1 else 0, fun k _ f => if (k = 4 ∧ f = 1) ∨ (k = 8 ∧ f = 4) then 1 else 0, fun k _ => if k = 15 ∨ k = 31 then fm 6 else if k = 17 ∨ k = 34 then fm 4 else if k = 12 then fm 3 else if k = 40 then upd (fm 0) 0 1 else fun _ => 0)
def adT (a0 a1 tL tA : Nat) (f g : Nat → Nat) (k i : Nat) : Nat := if k = 0 then (f 31) else if k = 1 then (f 35) else if k = 2 then (f 30) else if k = 3 then (f 0) else if k = 4 then (f 54) else if k = 5 then (f 3) else if k = 6 then (if i = 0 then f 6 else if i = 1 then f 14 else if i = 2 then f 22 else if i = 3 then f 36 else f 44) else if k = 7 then (a0) else if k = 8 then (a1) else if k = 10 then (f 32) else if k = 11 then (f 33) else if k = 12 then (f 34) else if k = 13 then (f 52) else if k = 14 then (f 53) else if k = 15 then (f 1) else if k = 16 then (f 2) else if k = 17 then (f 4) else if k = 18 then (f 5) else if k = 20 then (if i = 0 then f 7 else if i = 1 then f 15 else if i = 2 then f 23 else if i = 3 then f 37 else f 45) else if k = 21 then (if i = 0 then f 8 else if i = 1 then f 16 else if i = 2 then f 24 else if i = 3 then f 38 else f 46) else if k = 22 then (if i = 0 then f 9 else if i = 1 then f 17 else if i = 2 then f 25 else if i = 3 then f 39 else f 47) else if k = 23 then (if i = 0 then f 10 else if i = 1 then f 18 else if i = 2 then f 26 else if i = 3 then f 40 else f 48) else if k = 24 then (if i = 0 then f 11 else if i = 1 then f 19 else if i = 2 then f 27 else if i = 3 then f 41 else f 49) else if k = 25 then (if i = 0 then f 12 else if i = 1 then f 20 else if i = 2 then f 28 else if i = 3 then f 42 else f 50) else if k = 26 then (if i = 0 then f 13 else if i = 1 then f 21 else if i = 2 then f 29 else if i = 3 then f 43 else f 51) else if k = 27 then (f 55) else if k = 30 then (g 0) else if k = 31 then (g 1) else if k = 32 then (g 2) else if k = 33 then (g 3) else if k = 34 then (g 4) else if k = 35 then (g 5) else if k = 36 then (g 6) else if k = 37 then (g 7) else if k = 38 then (g 8) else if k = 39 then (g 9) else if k = 40 then (g 10) else if k = 41 then (g 11) else if k = 42 then (g 12) else if k = 43 then (g 13) else if k = 44 then (g 14) else if k = 45 then (g 15) else if k = 46 then (g 16) else if k = 47 then (g 17) else if k = 48 then (g 18) else if k = 49 then (g 19) else if k = 50 then (g 20) else if k = 60 then (tL) else if k = 61 then (tA) else 0
def permR : List Nat := [32, 36, 31, 1, 55, 4, 7, 15, 23, 37, 45, 0, 57, 33, 34, 35, 53, 54, 2, 3, 5, 6, 8, 16, 24, 38, 46, 9, 17, 25, 39, 47, 10, 18, 26, 40, 48, 11, 19, 27, 41, 49, 12, 20, 28, 42, 50, 13, 21, 29, 43, 51, 14, 22, 30, 44, 52, 56, 58, 59, 60, 61, 62, 63, 64, 65, 66, 67, 68, 69, 70, 71, 72, 73, 74, 75, 76, 77, 78]
theorem inst_in : ∀ c, c < 9 → Cond.instantiable (clG c).1 (clG c).2.2 ∈ gdT := by
  intro c hc
  rcases (show c = 0 ∨ c = 1 ∨ c = 2 ∨ c = 3 ∨ c = 4 ∨ c = 5 ∨ c = 6 ∨ c = 7 ∨ c = 8 by omega) with rfl | rfl | rfl | rfl | rfl | rfl | rfl | rfl | rfl
  · exact wq_in (p := 135) (by decide +kernel)
  · exact wq_in (p := 157) (by decide +kernel)
  · exact wq_in (p := 113) (by decide +kernel)
  · exact wq_in (p := 24) (by decide +kernel)
  · exact wq_in (p := 182) (by decide +kernel)
  · exact wq_in (p := 41) (by decide +kernel)
  · exact wq_in (p := 56) (by decide +kernel)
  · exact wq_in (p := 16) (by decide +kernel)
  · exact wq_in (p := 805) (by decide +kernel)
/-- the world of both, cell for cell -/
theorem wld_0 {cy : Nat → ClassId} {a0 a1 tL tA : Nat} {f g : Nat → Nat} : permR.map (fun i => (iX8 cy a0 f ++ iX9 cy a1 g)[i]?) = (wld cy (adT a0 a1 tL tA f g) S0).map some := by
  rfl
theorem m1_sz : (-1 : Int32) = szI 0 := by decide +kernel
theorem tb_0 {kz kc N w : Nat} (h : ∀ r, r < N → gA S0 kz 0 r = -1) : Tb S0 kz kc N w (fun _ => 0) (fun _ _ => 0) := fun r hr => ⟨(h r hr).trans m1_sz, Nat.zero_le _, fun i hi => absurd hi (Nat.not_lt_zero _)⟩
def Y00 : Nat → Nat → Nat := fun a b => if a = 6 ∧ b = 1 then 1 else 0
theorem fm_lt {n r : Nat} (h : r < n) : fm n r = -1 := if_pos h
theorem yrx_0 {j : Nat} : YrX S0 j Y00 := by
  refine ⟨fun g hg i hi => ?_, fun t ht => ?_⟩
  · rcases (show g = 0 ∨ g = 1 ∨ g = 2 ∨ g = 3 ∨ g = 4 ∨ g = 5 by omega) with rfl | rfl | rfl | rfl | rfl | rfl <;> exact nI_0.symm
  · rcases (show t = 0 ∨ t = 1 ∨ t = 2 ∨ t = 3 ∨ t = 4 by omega) with rfl | rfl | rfl | rfl | rfl
    · exact nI_0.symm
    · show (1 : Int32) = nI 1
      decide +kernel
    · exact nI_0.symm
    · exact nI_0.symm
    · exact nI_0.symm
theorem rr_0 : Rr S0 := by
  refine ⟨⟨fun _ => 0, fun _ _ => 0, tb_0 (fun r hr => fm_lt hr), tb_0 (fun r hr => fm_lt hr)⟩, ⟨fun _ => 0, fun _ _ => 32, ?_, ?_, ?_⟩, ⟨Y00, [], fun _ => none, ⟨yrx_0, yrx_0, ⟨nI_0.symm, fun i hi => absurd hi (Nat.not_lt_zero i)⟩, ?_⟩, ⟨⟨⟨nI_0.symm, fun i hi => absurd hi (Nat.not_lt_zero i)⟩, ?_⟩, ⟨nI_0.symm, fun k hk => absurd hk (Nat.not_lt_zero k)⟩, fun k hk => nI_0.symm⟩, ?_, ?_, fun k hk l hl => (by cases hl)⟩, rfl, ⟨rfl, fun f hf => rfl⟩, ⟨rfl, rfl⟩⟩
  · exact fun r hr => ⟨(fm_lt hr).trans m1_sz, Nat.zero_le _, fun i hi => absurd hi (Nat.not_lt_zero _)⟩
  · exact fun r hr => ⟨(fm_lt hr).trans m1_sz, Nat.zero_le _, fun i hi => absurd hi (Nat.not_lt_zero _)⟩
  · intro t p
    show -128 ≤ (32 : Int32).toInt ∧ (32 : Int32).toInt ≤ 127
    decide +kernel
  · exact fun r hr => ⟨(fm_lt hr).trans m1_sz, Nat.zero_le _, fun i hi => absurd hi (Nat.not_lt_zero _)⟩
  · refine ⟨⟨?_, nI_0.symm, nI_0.symm, nI_0.symm⟩, fun i hi => absurd hi (Nat.not_lt_zero i)⟩
    show upd (fm 0) 0 1 0 = nI 1
    rw [pk_us]
    decide +kernel
  · exact ⟨⟨by decide, by decide, by decide, by decide, by decide⟩, fun i hi => absurd hi (Nat.not_lt_zero i)⟩
  · exact ⟨by decide, trivial⟩
theorem known_all {s : State} {args : Array Value} (hts : ∀ w ∈ gdT, w.before args s = true) : ∃ D : va_G, ∀ (k : Nat) (q : vw_C), vwCl[k]? = some q → u_Kn s q.1 q.2.1 q.2.2 (D.1 k) (D.2 k) := by
  have one : ∀ k : Nat, ∃ x : ClassId × (Nat → Nat), ∀ q : vw_C, vwCl[k]? = some q → u_Kn s q.1 q.2.1 q.2.2 x.1 x.2 := by
    intro k
    by_cases hk : k < 9
    · obtain ⟨cC, iS, h⟩ := u_known (C := (clG k).1) (T := (clG k).2.1) (N := (clG k).2.2) (n := (clG k).2.2) hts (uw_in k hk) (hts _ (inst_in k hk))
      refine ⟨(cC, iS), fun q hq => ?_⟩
      rw [clG_at k hk] at hq
      cases hq
      exact h
    · refine ⟨(0, fun _ => 0), fun q hq => ?_⟩
      have : k < vwCl.length := (List.getElem?_eq_some_iff.mp hq).1
      exact absurd (show k < 9 from this) hk
  obtain ⟨F, hF⟩ := Classical.axiomOfChoice one
  exact ⟨(fun k => (F k).1, fun k => (F k).2), hF⟩
theorem arr_one {s : State} {args : Array Value} {ty : FieldType} (h : (Cond.arrayClass ty).before args s = true) : ∃ cA : ClassId, ArrOfT s cA ty ∧ s.vm.findClass ("[" ++ ty.toString) = some cA := by
  obtain ⟨cA, kA, comp, h1, h2, h3⟩ := Cond.arrayClass_spec h
  exact ⟨cA, fun n z => ⟨fun k h => (by cases h), kA, h2, comp, h3⟩, h1⟩
theorem arrs_all {s : State} {args : Array Value} {D : va_G} (hts : ∀ w ∈ gdT, w.before args s = true) (hD : ∀ (k : Nat) (q : vw_C), vwCl[k]? = some q → u_Kn s q.1 q.2.1 q.2.2 (D.1 k) (D.2 k)) : ∃ cy : Nat → ClassId, va_K D vwCl (tyL cy) s := by
  obtain ⟨c0, h0, g0⟩ := arr_one (hts _ ac_0)
  obtain ⟨c1, h1, g1⟩ := arr_one (hts _ ac_1)
  obtain ⟨c2, h2, g2⟩ := arr_one (hts _ ac_2)
  refine ⟨fun t => if t = 0 then c0 else if t = 1 then c1 else c2, hD, fun k q hk => ?_⟩
  match k, hk with
  | 0, hk => cases hk; exact ⟨h0, g0⟩
  | 1, hk => cases hk; exact ⟨h1, g1⟩
  | 2, hk => cases hk; exact ⟨h2, g2⟩
  | k + 3, hk => simp [tyL] at hk
theorem tab_one {s : State} {args : Array Value} {nm : String} {v : Nat → Int32} {A : Nat → Prop} (hA : ∀ a : Nat, a < s.heap.size → ¬ A a) (hl : (Cond.laysStatic "NinthDay$Kinds" nm "[I").before args s = true) (hi : (Cond.initialized "NinthDay$Kinds").before args s = true) (harr : (Cond.arrayOf (.static "NinthDay$Kinds" nm "[I") .int).before args s = true) (hlen : (Cond.eq (.length (.static "NinthDay$Kinds" nm "[I")) (.int 6)).before args s = true) (hel : ∀ j : Nat, j < 6 → (Cond.eq (.elem (.static "NinthDay$Kinds" nm "[I") (.int (Int32.ofNat j))) (.int (v j))).before args s = true) : ∃ t : Nat, va_Z RX1 nm "[I" (.ref t) A s s.heap ∧ va_T .int t 6 (fun j => .int (v j)) A s s.heap := by
  obtain ⟨t, h1, h2⟩ := va_Tof (ty := .int) (N := 6) (f := fun j => .int (v j)) (A := A) (by decide) harr (va_eqt hlen) (fun j hj => va_eqt (hel j hj)) hA
  exact ⟨t, va_Zof hl hi h1 hA, h2⟩
theorem aw_rs {ad : Nat → Nat → Nat} {r : Nat × Nat} (h : r ∈ Rs) : Aw ad (ad r.1 r.2) := by
  have : Rs.all (fun r => decide (r.2 < cnt r.1 ∧ r.1 < 60)) = true := by decide +kernel
  have h2 := of_decide_eq_true (List.all_eq_true.mp this r h)
  exact ⟨r.1, r.2, h2.1, h2.2, rfl⟩
theorem nw_all : nLk.all (fun e => decide (tables_1[e.2.2.2.2]? = some (nW e.1 e.2.1 e.2.2.1 e.2.2.2.1))) = true := by decide +kernel
theorem nw_tbl (e : Nat × Nat × Nat × Nat × Nat) (he : e ∈ nLk) : nW e.1 e.2.1 e.2.2.1 e.2.2.2.1 ∈ lw_tbl := List.mem_append_right _ (List.mem_of_getElem? (of_decide_eq_true (List.all_eq_true.mp nw_all e he)))
theorem start_ok {p : Program} {s : State} {m : MethodId} {meth : Method} {c : Code} {b L : Nat} {xs : Nat → Int32} (C0 : lw_At p s m meth c b L xs) : ∃ (D : va_G) (cy : Nat → ClassId) (tL tA : Nat), va_K D vwCl (tyL cy) s ∧ NW s ∧ ∀ ad : Nat → Nat → Nat, (∀ q, Aw ad q → s.heap.size ≤ q) → ad 60 0 = tL → ad 61 0 = tA → ZS ad s s.heap := by
  have hts : ∀ w ∈ gdT, w.before #[Value.ref b] s = true := fun w hw => C0.2.2.2.2.2.1 w (gd_tbl hw)
  have hs := flat_of_before _ C0.2.2.2.2.2.2.2.2.2
  obtain ⟨D, hD⟩ := known_all hts
  obtain ⟨cy, hK⟩ := arrs_all hts hD
  have hA0 : ∀ a : Nat, a < s.heap.size → ¬ (fun q : Nat => s.heap.size ≤ q) a := fun a h => Nat.not_le.mpr h
  obtain ⟨tL, z1, t1⟩ := tab_one (nm := "LETTERS") (v := stT 60) (A := fun q : Nat => s.heap.size ≤ q) hA0 (C0.2.2.2.2.2.1 _ (List.mem_append_right _ (List.mem_of_getElem? (i := 381) (show tables_1[381]? = some (Cond.laysStatic "NinthDay$Kinds" "LETTERS" "[I") by decide +kernel)))) (hts _ (wq_in (p := 12) (by decide +kernel))) (hs _ (by decide +kernel)) (hs _ (by decide +kernel)) (fun j hj => by
    rcases (show j = 0 ∨ j = 1 ∨ j = 2 ∨ j = 3 ∨ j = 4 ∨ j = 5 by omega) with rfl | rfl | rfl | rfl | rfl | rfl <;> exact hs _ (by decide +kernel))
  obtain ⟨tA, z2, t2⟩ := tab_one (nm := "ABOVE") (v := stT 61) (A := fun q : Nat => s.heap.size ≤ q) hA0 (C0.2.2.2.2.2.1 _ (List.mem_append_right _ (List.mem_of_getElem? (i := 437) (show tables_1[437]? = some (Cond.laysStatic "NinthDay$Kinds" "ABOVE" "[I") by decide +kernel)))) (hts _ (wq_in (p := 12) (by decide +kernel))) (hs _ (by decide +kernel)) (hs _ (by decide +kernel)) (fun j hj => by
    rcases (show j = 0 ∨ j = 1 ∨ j = 2 ∨ j = 3 ∨ j = 4 ∨ j = 5 by omega) with rfl | rfl | rfl | rfl | rfl | rfl <;> exact hs _ (by decide +kernel))
  refine ⟨D, cy, tL, tA, hK, fun e he => ?_, fun ad had h60 h61 => ?_⟩
  · refine va_Nw.of rfl (C0.2.2.2.2.2.1 _ (nw_tbl e he))
  · unfold ZS
    rw [h60, h61]
    exact ⟨⟨va_Z.narrow z1 had, va_T.narrow t1 had⟩, va_Z.narrow z2 had, va_T.narrow t2 had⟩
set_option maxHeartbeats 4000000 in
set_option maxRecDepth 100000 in
theorem whole_start {p : Program} {e : Env} {s : State} {m : MethodId} {below : List Frame} {meth : Method} {c : Code} (l : Launch) (hflags : l.flags = flags0) {b L : Nat} {xs : Nat → Int32} (hL : L ≤ 3072) (C0 : lw_At p s m meth c b L xs) : W p l e room_1 s m #[Value.ref b] below meth c s.heap [] 0 0 (lw_Z below #[Value.ref b] s) (entryFrame m ([Value.ref b] : List Value).toArray 4) := by
  obtain ⟨hx, hb, hr, hml, hown, hts, hX, hbl, hlocks, hgv⟩ := id C0
  obtain ⟨D, cy, tL, tA, hK, hNW, hZS⟩ := start_ok C0
  have htg : ∀ w ∈ gdT, w.before #[Value.ref b] s = true := fun w hw => hts w (gd_tbl hw)
  have hA : ∀ q : Nat, s.heap.size ≤ q → (fun q : Nat => s.heap.size ≤ q) q := fun _ h => h
  have hS : va_S (fun q : Nat => s.heap.size ≤ q) s.heap s.heap [] := va_S.rf
  have hP : va_P D vwCl [] s.heap := fun k q h => by simp at h
  have hD : va_D (fun q : Nat => s.heap.size ≤ q) [] := ⟨fun i j p q h => by simp at h, fun k q h => by simp at h⟩
  have hl := lv_entry ([.ref b]) (n := 4) (Nat.le_of_ble_eq_true rfl)
  rw [lg_entry_eq]
  generalize (lg_sl ([.ref b]) ++ List.replicate (4 - (lg_sl ([.ref b])).length) Slot.unset).toArray = ls at hl ⊢
  have hl : lv_has ls 4 [(0, .ref b)] := hl
  refine va_new (ci := 7) (fs := [.null, .null, .null, .null, .null, .null, .null, .null, .null, .null, .int 0, .int 0]) (C := (clG 7).1) (T := (clG 7).2.1) (N := 12) hx hb htg (uw_in 7 (by decide)) (tyG 7) (tyG_ok 7 (by decide)) hown (htg _ (show Cond.classLink R_law 7 (clG 7).1 ∈ gdT from wq_in (p := 15) (by decide +kernel))) (htg _ (inst_in 7 (by decide))) (htg _ (show Cond.initialized (clG 7).1 ∈ gdT from wq_in (p := 1) (by decide +kernel))) hK hP hD hS hA (clG_at 7 (by decide)) (fun j hj => by
    rcases (show j = 0 ∨ j = 1 ∨ j = 2 ∨ j = 3 ∨ j = 4 ∨ j = 5 ∨ j = 6 ∨ j = 7 ∨ j = 8 ∨ j = 9 ∨ j = 10 ∨ j = 11 by omega) with rfl | rfl | rfl | rfl | rfl | rfl | rfl | rfl | rfl | rfl | rfl | rfl <;> rfl) (Nat.le_of_ble_eq_true rfl) (Nat.le_of_ble_eq_true rfl) (show decode code 0 = .ok (.new 7, 3) by decide +kernel) (fun a0 H hP hD hS => ?_)
  have hP : va_P D vwCl [(a0, .inr (7, [.null, .null, .null, .null, .null, .null, .null, .null, .null, .null, .int 0, .int 0]))] H := hP
  have hD : va_D (fun q : Nat => s.heap.size ≤ q) [(a0, .inr (7, [.null, .null, .null, .null, .null, .null, .null, .null, .null, .null, .int 0, .int 0]))] := hD
  refine lv_dup hx hb (show decode code 3 = .ok (.dup, 1) by decide +kernel) rfl ?_
  have hPc := hP
  have hDc := hD
  have hKc := hK
  have hFc := va_free (wc := [(a0, .inr (7, [.null, .null, .null, .null, .null, .null, .null, .null, .null, .null, .int 0, .int 0]))]) hD hS hA [0] rfl
  refine va_callv (va_runI (As := []) (rest := [.ref a0]) ⟨hx, hb, hml, hown, htg⟩ (ini_X8 D cy a0 l H.size) (cwI 0 htg (gd_one (wq_in (p := 19) (by decide +kernel))) rfl rfl rfl (htg _ (show Cond.initialized yX8_init.cls ∈ gdT from wq_in (p := 1) (by decide +kernel))) (htg _ (show Cond.methodLink R_law 9 yX8_init ∈ gdT from wq_in (p := 17) (by decide +kernel))) (htg _ (show Cond.instanceMethod yX8_init ∈ gdT from wq_in (p := 18) (by decide +kernel))) rfl ⟨by decide +kernel, by decide +kernel, by decide +kernel⟩ ⟨Nat.le_of_ble_eq_true rfl, Nat.le_of_ble_eq_true rfl⟩) ⟨fun a U g mk q => by obtain ⟨q0, q1, qP, qK, qD⟩ := q; exact ⟨q0, q1, qP, va_K.moved (u := U) (U := U.calling g mk a) (Vm.Alike.refl U.vm) qK, qD⟩, fun U hU hW => ⟨rfl, by rw [hU], by rw [hU]; exact hPc, va_K.moved hW.alike hKc, hDc.weaken (fun _ _ _ _ => trivial)⟩⟩ rfl rfl hl.1 rfl (lv_room (Nat.le_of_ble_eq_true rfl)) (show decode code 4 = .ok (.invokespecial 9, 3) by decide +kernel) ⟨Nat.le_of_ble_eq_true rfl, Nat.le_of_ble_eq_true rfl⟩) hS (fun q _ h => hFc q h) hFc (fun u t H1 locs ht hvm _ hB hz1 hk1 hS => ?_)
  obtain ⟨hK1, f, hP1, hD1⟩ := hB
  rw [ht] at hP1
  obtain ⟨hP, hD⟩ := va_join (wr := []) (w1 := iX8 cy a0 f) hP hD [0] [] rfl rfl (by decide) (by decide) hk1 hFc hP1 hD1
  have hP : va_P D vwCl (iX8 cy a0 f) H1 := hP
  have hD : va_D (fun q : Nat => s.heap.size ≤ q) (iX8 cy a0 f) := hD
  refine lv_astore_n (lv' := [(1, .ref a0), (0, .ref b)]) hx hb (show decode code 7 = .ok (.astore_n 1, 1) by decide +kernel) rfl hl (by decide) rfl (fun ls hl => ?_)
  refine va_new (ci := 8) (fs := [.int 0, .null, .int 0, .long 0, .long 0, .null, .null, .null, .null, .null, .int 0, .null, .null, .null, .int 0, .int 0, .int 0, .int 0, .int 0, .null, .null, .null, .int 0, .null, .null, .null, .null, .null, .null, .int 0, .int 0, .int 0, .int 0, .null, .null, .null, .long 0]) (C := (clG 8).1) (T := (clG 8).2.1) (N := 37) hx hb htg (uw_in 8 (by decide)) (tyG 8) (tyG_ok 8 (by decide)) hown (htg _ (show Cond.classLink R_law 10 (clG 8).1 ∈ gdT from wq_in (p := 804) (by decide +kernel))) (htg _ (inst_in 8 (by decide))) (htg _ (show Cond.initialized (clG 8).1 ∈ gdT from wq_in (p := 10) (by decide +kernel))) hK hP hD hS hA (clG_at 8 (by decide)) (fun j hj => by
    rcases (show j = 0 ∨ j = 1 ∨ j = 2 ∨ j = 3 ∨ j = 4 ∨ j = 5 ∨ j = 6 ∨ j = 7 ∨ j = 8 ∨ j = 9 ∨ j = 10 ∨ j = 11 ∨ j = 12 ∨ j = 13 ∨ j = 14 ∨ j = 15 ∨ j = 16 ∨ j = 17 ∨ j = 18 ∨ j = 19 ∨ j = 20 ∨ j = 21 ∨ j = 22 ∨ j = 23 ∨ j = 24 ∨ j = 25 ∨ j = 26 ∨ j = 27 ∨ j = 28 ∨ j = 29 ∨ j = 30 ∨ j = 31 ∨ j = 32 ∨ j = 33 ∨ j = 34 ∨ j = 35 ∨ j = 36 by omega) with rfl | rfl | rfl | rfl | rfl | rfl | rfl | rfl | rfl | rfl | rfl | rfl | rfl | rfl | rfl | rfl | rfl | rfl | rfl | rfl | rfl | rfl | rfl | rfl | rfl | rfl | rfl | rfl | rfl | rfl | rfl | rfl | rfl | rfl | rfl | rfl | rfl <;> rfl) (Nat.le_of_ble_eq_true rfl) (Nat.le_of_ble_eq_true rfl) (show decode code 8 = .ok (.new 10, 3) by decide +kernel) (fun a1 H2 hP hD hS => ?_)
  refine lv_dup hx hb (show decode code 11 = .ok (.dup, 1) by decide +kernel) rfl ?_
  have hDc := hD.sub (ws' := [(a1, .inr (8, [.int 0, .null, .int 0, .long 0, .long 0, .null, .null, .null, .null, .null, .int 0, .null, .null, .null, .int 0, .int 0, .int 0, .int 0, .int 0, .null, .null, .null, .int 0, .null, .null, .null, .null, .null, .null, .int 0, .int 0, .int 0, .int 0, .null, .null, .null, .long 0]))]) [57] (by decide) rfl
  have hPc := hP.sub (ws' := [(a1, .inr (8, [.int 0, .null, .int 0, .long 0, .long 0, .null, .null, .null, .null, .null, .int 0, .null, .null, .null, .int 0, .int 0, .int 0, .int 0, .int 0, .null, .null, .null, .int 0, .null, .null, .null, .null, .null, .null, .int 0, .int 0, .int 0, .int 0, .null, .null, .null, .long 0]))]) [57] rfl
  have hFc := va_free (wc := [(a1, .inr (8, [.int 0, .null, .int 0, .long 0, .long 0, .null, .null, .null, .null, .null, .int 0, .null, .null, .null, .int 0, .int 0, .int 0, .int 0, .int 0, .null, .null, .null, .int 0, .null, .null, .null, .null, .null, .null, .int 0, .int 0, .int 0, .int 0, .null, .null, .null, .long 0]))]) hD hS hA [57] rfl
  refine va_callv (va_runI (As := []) (rest := [.ref a1]) ⟨hx, hb, hml, hown, htg⟩ (ini_X9 D cy a1 l H2.size) (cwI 0 htg (gd_one (wq_in (p := 808) (by decide +kernel))) rfl rfl rfl (htg _ (show Cond.initialized yX9_init.cls ∈ gdT from wq_in (p := 10) (by decide +kernel))) (htg _ (show Cond.methodLink R_law 12 yX9_init ∈ gdT from wq_in (p := 806) (by decide +kernel))) (htg _ (show Cond.instanceMethod yX9_init ∈ gdT from wq_in (p := 807) (by decide +kernel))) rfl ⟨by decide +kernel, by decide +kernel, by decide +kernel⟩ ⟨Nat.le_of_ble_eq_true rfl, Nat.le_of_ble_eq_true rfl⟩) ⟨fun a U g mk q => by obtain ⟨q0, q1, qP, qK, qD⟩ := q; exact ⟨q0, q1, qP, va_K.moved (u := U) (U := U.calling g mk a) (Vm.Alike.refl U.vm) qK, qD⟩, fun U hU hW => ⟨rfl, by rw [hU], by rw [hU]; exact hPc, va_K.moved hW.alike hK, hDc.weaken (fun _ _ _ _ => trivial)⟩⟩ rfl rfl hl.1 rfl (lv_room (Nat.le_of_ble_eq_true rfl)) (show decode code 12 = .ok (.invokespecial 12, 3) by decide +kernel) ⟨Nat.le_of_ble_eq_true rfl, Nat.le_of_ble_eq_true rfl⟩) hS (fun q _ h => hFc q h) hFc (fun u t H3 locs ht hvm _ hB hz1 hk1 hS => ?_)
  obtain ⟨hK1, g, hP1, hD1⟩ := hB
  rw [ht] at hP1
  obtain ⟨hP, hD⟩ := va_join (wr := iX8 cy a0 f) (w1 := iX9 cy a1 g) hP hD [57] [0, 1, 2, 3, 4, 5, 6, 7, 8, 9, 10, 11, 12, 13, 14, 15, 16, 17, 18, 19, 20, 21, 22, 23, 24, 25, 26, 27, 28, 29, 30, 31, 32, 33, 34, 35, 36, 37, 38, 39, 40, 41, 42, 43, 44, 45, 46, 47, 48, 49, 50, 51, 52, 53, 54, 55, 56] rfl rfl (by decide) (by decide) hk1 hFc hP1 hD1
  refine lv_astore_n (lv' := [(2, .ref a1), (1, .ref a0), (0, .ref b)]) hx hb (show decode code 15 = .ok (.astore_n 2, 1) by decide +kernel) rfl hl (by decide) rfl (fun ls hl => ?_)
  refine lv_iconst (v := nI 0) hx hb (show decode code 16 = .ok (.iconst 0, 1) by decide +kernel) (by decide +kernel) ?_
  refine lv_istore_n (lv' := [(3, .int (nI 0)), (2, .ref a1), (1, .ref a0), (0, .ref b)]) hx hb (show decode code 17 = .ok (.istore_n 3, 1) by decide +kernel) rfl hl (by decide) rfl (fun ls hl => ?_)
  refine va_forget (fun q hq => hS.2.2 q hq) ?_
  refine W.widen (k := 600000) (n := 7302250) (Nat.le_of_ble_eq_true rfl) (Nat.le_of_ble_eq_true rfl) ?_
  have hw0 := wld_0 (cy := cy) (a0 := a0) (a1 := a1) (tL := tL) (tA := tA) (f := f) (g := g)
  have hPw := hP.sub permR (fm_of hw0)
  have hDw := hD.sub permR (by decide +kernel) hw0
  have hAw : ∀ q, Aw (adT a0 a1 tL tA f g) q → s.heap.size ≤ q := by
    rintro q ⟨k, i, hi, hk, rfl⟩
    obtain ⟨j, hj⟩ := Rs_of hi hk
    exact hDw.2 j _ (wld_get hj)
  have hDA : va_D (Aw (adT a0 a1 tL tA f g)) (wld cy (adT a0 a1 tL tA f g) S0) := by
    refine ⟨hDw.1, fun k q hq => ?_⟩
    unfold wld at hq
    rw [List.getElem?_map] at hq
    cases hr : Rs[k]? with
    | none => rw [hr] at hq; cases hq
    | some r =>
      rw [hr] at hq
      cases hq
      exact aw_rs (List.mem_of_getElem? hr)
  refine w_loop hL (L + 1) 0 S0 (Nat.zero_le _) (by omega) rr_0 p l e s m below meth c H3 D cy (adT a0 a1 tL tA f g) ls C0 ⟨⟨hK, hZS _ hAw rfl rfl, hNW⟩, ⟨hPw, hDA⟩, hS.1, fun q h1 h2 => hS.2.1 q h1 (Nat.not_le.mpr h1), fun q hq => (List.not_mem_nil hq).elim⟩ hAw (lv_sub hl [3, 2, 1, 0] rfl)
