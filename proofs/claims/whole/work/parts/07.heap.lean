-- PART 07: fields, arrays, calls
theorem nLk_w {U : State} (h : NW U) {o x c k : Nat} (hn : nLk.any (fun e => decide (e.1 = o ∧ e.2.1 = x ∧ e.2.2.1 = c ∧ e.2.2.2.1 = k)) = true) {A : Array Value} : (nW o x c k).before A U = true := by
  obtain ⟨e, he, hd⟩ := List.any_eq_true.mp hn
  obtain ⟨rfl, rfl, rfl, rfl⟩ := of_decide_eq_true hd
  exact va_Nw.use rfl (h e he)
def lkOk (o x c k : Nat) : Bool := fLk.any (fun e => decide (e.1 = o ∧ e.2.1 = x ∧ e.2.2.1 = c ∧ e.2.2.2.1 = k)) || nLk.any (fun e => decide (e.1 = o ∧ e.2.1 = x ∧ e.2.2.1 = c ∧ e.2.2.2.1 = k))
section
variable {d u pc : Nat} {ls st : List AV} {S : MS} {P : Option AV → MS → Prop}
theorem x_getfield {x k j f : Nat} (hdg : decode (mC u) pc = .ok (.getfield x, 3)) (hlk : lkOk (mO u) x k f = true) (hj : j < cnt k) (hf : (fdK k f).isSome = true) (kk : wpX d u (pc + 3) ls (fldv S k j f :: st) S P) : wpX d u pc ls (aR k j :: st) S P := by
  intro p l e s m args below meth c H locs D cy ad lsR cx sx hl
  have hlt := fdK_lt hf
  have hk := fN_9 hlt
  obtain ⟨q, hq⟩ := Rs_of hj (by omega)
  have hw := wld_get (cy := cy) (ad := ad) (S := S) hq
  rw [cE_obj hk] at hw
  have hv : ((List.range (fN k)).map (fun g => rv ad (fldv S k j g)))[f]? = some (rv ad (fldv S k j f)) := by
    rw [List.getElem?_map, List.getElem?_range hlt]; rfl
  have hln : f < (clG k).2.2 := by rw [clG_n k hk]; exact hlt
  rcases Bool.or_eq_true_iff.mp hlk with h | h
  · exact va_get cx.1 cx.2.1 cx.2.2.2.2.1 (uw_in k hk) cx.2.2.2.2.2.1 sx.1.1 sx.2.1.1 q hw (clG_at k hk) f hln (cx.2.2.2.2.1 _ (fLk_w h)) (fun _ h9 => h9) hv hdg (kk p l e s m args below meth c H locs D cy ad lsR cx sx hl)
  · exact va_getN cx.1 cx.2.1 cx.2.2.2.2.1 (uw_in k hk) cx.2.2.2.2.2.1 sx.1.1 sx.2.1.1 q hw (clG_at k hk) f hln (nLk_w sx.1.2.2 h) (fun _ h9 => h9) hv hdg (kk p l e s m args below meth c H locs D cy ad lsR cx sx hl)
theorem x_putfield {x k j f : Nat} {v : AV} (hdg : decode (mC u) pc = .ok (.putfield x, 3)) (hlk : lkOk (mO u) x k f = true) (hj : j < cnt k) (hp : pOk k f v) (kk : wpX d u (pc + 3) ls st (putv S k j f v) P) : wpX d u pc ls (v :: aR k j :: st) S P := by
  intro p l e s m args below meth c H locs D cy ad lsR cx sx hl
  have hf : (fdK k f).isSome = true := by
    unfold pOk at hp
    cases h : fdK k f with
    | none => rw [h] at hp; exact hp.elim
    | some _ => rfl
  have hlt := fdK_lt hf
  have hk := fN_9 hlt
  obtain ⟨q, hq⟩ := Rs_of hj (by omega)
  have hw := wld_get (cy := cy) (ad := ad) (S := S) hq
  rw [cE_obj hk] at hw
  have hln : f < (clG k).2.2 := by rw [clG_n k hk]; exact hlt
  have hdt : ∃ ty, parseFieldDescriptor ((clG k).2.1 f).2.2.1 = some ty ∧ ((clG k).2.1 f).2.2.2 = false ∧ narrow ty (rv ad v) = rv ad v ∧ fits ty (rv ad v) = true := by
    have h1 := fdOk_at hk hlt
    unfold fdOk at h1
    unfold pOk at hp
    split at hp
    · rename_i h0
      rw [h0] at h1
      obtain ⟨h2, h3⟩ := Bool.and_eq_true_iff.mp h1
      exact ⟨.int, of_decide_eq_true h2, by simpa using h3, rfl, rfl⟩
    · rename_i x0 h0
      rw [h0] at h1
      obtain ⟨h2, h3⟩ := Bool.and_eq_true_iff.mp h1
      refine ⟨.boolean, of_decide_eq_true h2, by simpa using h3, ?_, ?_⟩
      · rcases hp with rfl | rfl
        · show narrow .boolean (.int 0) = .int 0
          decide
        · show narrow .boolean (.int 1) = .int 1
          decide
      · rcases hp with rfl | rfl
        · show fits .boolean (.int 0) = true
          decide
        · show fits .boolean (.int 1) = true
          decide
    · rename_i h0
      rw [h0] at h1
      obtain ⟨h2, h3⟩ := Bool.and_eq_true_iff.mp h1
      exact ⟨.long, of_decide_eq_true h2, by simpa using h3, rfl, rfl⟩
    · exact hp.elim
  obtain ⟨ty, t1, t2, t3, t4⟩ := hdt
  have hset : (wld cy ad S).set q (ad k j, .inr (k, ((List.range (fN k)).map (fun g => rv ad (fldv S k j g))).set f (rv ad v))) = wld cy ad (putv S k j f v) := by
    refine wld_set hq ?_ (fun a b h => cE_putv h)
    rw [cE_obj hk, flds_put hp]
  have hlen : f < ((List.range (fN k)).map (fun g => rv ad (fldv S k j g))).length := by rw [List.length_map, List.length_range]; exact hlt
  rcases Bool.or_eq_true_iff.mp hlk with h | h
  · refine va_put cx.1 cx.2.1 cx.2.2.2.2.1 (uw_in k hk) (tyG k) (tyG_ok k hk) (nmG_ok k hk) cx.2.2.2.2.2.1 sx.1.1 sx.2.1.1 sx.2.1.2 sx.2.2 q hw (clG_at k hk) f hln (cx.2.2.2.2.1 _ (fLk_w h)) (fun _ h9 => h9) t2 t1 t3 t4 hlen hdg (fun H1 locs1 hP hD hS => ?_)
    rw [hset] at hP hD
    exact kk p l e s m args below meth c H1 locs1 D cy ad lsR cx ⟨sx.1, ⟨hP, hD⟩, hS⟩ hl
  · refine va_putN cx.1 cx.2.1 cx.2.2.2.2.1 (uw_in k hk) (tyG k) (tyG_ok k hk) (nmG_ok k hk) cx.2.2.2.2.2.1 sx.1.1 sx.2.1.1 sx.2.1.2 sx.2.2 q hw (clG_at k hk) f hln (nLk_w sx.1.2.2 h) (fun _ h9 => h9) t2 t1 t3 t4 hlen hdg (fun H1 locs1 hP hD hS => ?_)
    rw [hset] at hP hD
    exact kk p l e s m args below meth c H1 locs1 D cy ad lsR cx ⟨sx.1, ⟨hP, hD⟩, hS⟩ hl
theorem ty_at (cy : Nat → ClassId) {t : Nat} {ft : FieldType} (h : (tyL cy)[t]? = some (cy t, ft)) : (tyL cy)[t]? = some (cy t, ft) := h
theorem x_iaload {k j : Nat} {x : Int32} (hdg : decode (mC u) pc = .ok (.iaload, 1)) (hj : j < cnt k) (ht : aTy k = 0) (hx : vp_in x (aLn k)) (kk : wpX d u (pc + 1) ls (aI (arr S k j x.toNatClampNeg) :: st) S P) : wpX d u pc ls (aI x :: aR k j :: st) S P := by
  intro p l e s m args below meth c H locs D cy ad lsR cx sx hl
  have kq := kk p l e s m args below meth c H locs D cy ad lsR cx sx hl
  by_cases hk : k < 60
  · obtain ⟨q, hq⟩ := Rs_of hj hk
    have hw := wld_get (cy := cy) (ad := ad) (S := S) hq
    rw [cE_arr (aTy_9 (by omega)), ht] at hw
    unfold arr at kq
    rw [if_pos hk] at kq
    exact va_iald cx.1 cx.2.1 sx.1.1 sx.2.1.1 q 0 hw rfl hx hdg kq
  · have h61 : k = 60 ∨ k = 61 := by
      rcases Nat.lt_or_ge k 62 with h | h
      · omega
      · obtain ⟨n, rfl⟩ := Nat.exists_eq_add_of_le h
        rw [Nat.add_comm] at hj
        exact absurd (show j < 0 from hj) (Nat.not_lt_zero j)
    rcases h61 with rfl | rfl
    · have h0 : j = 0 := by have : j < 1 := hj; omega
      subst h0
      exact va_ti cx.1 cx.2.1 sx.1.2.1.1.2 sx.2.2 hx rfl hdg kq
    · have h0 : j = 0 := by have : j < 1 := hj; omega
      subst h0
      exact va_ti cx.1 cx.2.1 sx.1.2.1.2.2 sx.2.2 hx rfl hdg kq
theorem x_baload {k j : Nat} {x : Int32} (hdg : decode (mC u) pc = .ok (.baload, 1)) (hj : j < cnt k) (hk : k < 60) (ht : aTy k = 1 ∨ aTy k = 2) (hx : vp_in x (aLn k)) (kk : wpX d u (pc + 1) ls (aI (gA S k j x.toNatClampNeg) :: st) S P) : wpX d u pc ls (aI x :: aR k j :: st) S P := by
  intro p l e s m args below meth c H locs D cy ad lsR cx sx hl
  have kq := kk p l e s m args below meth c H locs D cy ad lsR cx sx hl
  obtain ⟨q, hq⟩ := Rs_of hj hk
  have hw := wld_get (cy := cy) (ad := ad) (S := S) hq
  rw [cE_arr (aTy_9 (by omega))] at hw
  rcases ht with ht | ht
  · rw [ht] at hw
    exact va_bald cx.1 cx.2.1 sx.1.1 sx.2.1.1 q 1 hw rfl hx hdg kq
  · rw [ht] at hw
    exact va_zald cx.1 cx.2.1 sx.1.1 sx.2.1.1 q 2 hw rfl hx hdg kq
theorem wld_sA {cy : Nat → ClassId} {ad : Nat → Nat → Nat} {S : MS} {q k i : Nat} {r : Nat → Int32} (hq : Rs[q]? = some (k, i)) (hk : ¬ k < 9) : (wld cy ad S).set q (ad k i, .inl (cy (aTy k), aLn k, .inl r)) = wld cy ad (sA S k i r) := by
  refine wld_set hq ?_ (fun a b h => cE_sA h)
  rw [cE_arr hk, gA_sA, if_pos ⟨rfl, rfl⟩]
theorem x_iastore {k j : Nat} {x v : Int32} (hdg : decode (mC u) pc = .ok (.iastore, 1)) (hj : j < cnt k) (hk : k < 60) (ht : aTy k = 0) (hx : vp_in x (aLn k)) (kk : wpX d u (pc + 1) ls st (sA S k j (upd (gA S k j) x.toNatClampNeg v)) P) : wpX d u pc ls (aI v :: aI x :: aR k j :: st) S P := by
  intro p l e s m args below meth c H locs D cy ad lsR cx sx hl
  obtain ⟨q, hq⟩ := Rs_of hj hk
  have hk9 := aTy_9 (k := k) (by omega)
  have hw := wld_get (cy := cy) (ad := ad) (S := S) hq
  rw [cE_arr hk9] at hw
  refine va_iast cx.1 cx.2.1 sx.1.1 sx.2.1.1 sx.2.1.2 sx.2.2 q 0 hw (by rw [ht]; rfl) hx hdg (fun H1 locs1 hP hD hS => ?_)
  rw [wld_sA hq hk9] at hP hD
  exact kk p l e s m args below meth c H1 locs1 D cy ad lsR cx ⟨sx.1, ⟨hP, hD⟩, hS⟩ hl
theorem x_bastore {k j : Nat} {x v : Int32} (hdg : decode (mC u) pc = .ok (.bastore, 1)) (hj : j < cnt k) (hk : k < 60) (ht : aTy k = 1 ∨ aTy k = 2) (hx : vp_in x (aLn k)) (kk : wpX d u (pc + 1) ls st (sA S k j (upd (gA S k j) x.toNatClampNeg (bsv k v))) P) : wpX d u pc ls (aI v :: aI x :: aR k j :: st) S P := by
  intro p l e s m args below meth c H locs D cy ad lsR cx sx hl
  obtain ⟨q, hq⟩ := Rs_of hj hk
  have hk9 := aTy_9 (k := k) (by omega)
  have hw := wld_get (cy := cy) (ad := ad) (S := S) hq
  rw [cE_arr hk9] at hw
  unfold bsv at kk
  rcases ht with ht | ht
  · rw [if_pos ht] at kk
    refine va_bast cx.1 cx.2.1 sx.1.1 sx.2.1.1 sx.2.1.2 sx.2.2 q 1 hw (by rw [ht]; rfl) hx hdg (fun H1 locs1 hP hD hS => ?_)
    rw [wld_sA hq hk9] at hP hD
    exact kk p l e s m args below meth c H1 locs1 D cy ad lsR cx ⟨sx.1, ⟨hP, hD⟩, hS⟩ hl
  · rw [if_neg (by omega)] at kk
    refine va_zast cx.1 cx.2.1 sx.1.1 sx.2.1.1 sx.2.1.2 sx.2.2 q 2 hw (by rw [ht]; rfl) hx hdg (fun H1 locs1 hP hD hS => ?_)
    rw [wld_sA hq hk9] at hP hD
    exact kk p l e s m args below meth c H1 locs1 D cy ad lsR cx ⟨sx.1, ⟨hP, hD⟩, hS⟩ hl
theorem x_arraylength {k j : Nat} (hdg : decode (mC u) pc = .ok (.arraylength, 1)) (hj : j < cnt k) (hk : k < 60) (ht : aTy k < 3) (kk : wpX d u (pc + 1) ls (aI (nI (aLn k)) :: st) S P) : wpX d u pc ls (aR k j :: st) S P := by
  intro p l e s m args below meth c H locs D cy ad lsR cx sx hl
  have kq := kk p l e s m args below meth c H locs D cy ad lsR cx sx hl
  obtain ⟨q, hq⟩ := Rs_of hj hk
  have hw := wld_get (cy := cy) (ad := ad) (S := S) hq
  rw [cE_arr (aTy_9 ht)] at hw
  rcases (show aTy k = 0 ∨ aTy k = 1 ∨ aTy k = 2 by omega) with h | h | h
  · exact va_alen cx.1 cx.2.1 sx.1.1 sx.2.1.1 q 0 hw (ty := .int) (by rw [h]; rfl) rfl hdg kq
  · exact va_alen cx.1 cx.2.1 sx.1.1 sx.2.1.1 q 1 hw (ty := .byte) (by rw [h]; rfl) rfl hdg kq
  · exact va_alen cx.1 cx.2.1 sx.1.1 sx.2.1.1 q 2 hw (ty := .boolean) (by rw [h]; rfl) rfl hdg kq
theorem x_getstatic {x a : Nat} (hdg : decode (mC u) pc = .ok (.getstatic x, 3)) (ho : mO u = 1) (hx : (x = 11 ∧ a = 60) ∨ (x = 15 ∧ a = 61)) (hl1 : Cond.fieldLink RX1 11 RX1 "LETTERS" "[I" ∈ gdT) (hl2 : Cond.fieldLink RX1 15 RX1 "ABOVE" "[I" ∈ gdT) (kk : wpX d u (pc + 3) ls (aR a 0 :: st) S P) : wpX d u pc ls st S P := by
  intro p l e s m args below meth c H locs D cy ad lsR cx sx hl
  have kq := kk p l e s m args below meth c H locs D cy ad lsR cx sx hl
  have hown := cx.2.2.2.2.2.1
  rw [ho] at hown
  rcases hx with ⟨rfl, rfl⟩ | ⟨rfl, rfl⟩
  · exact va_gets cx.1 cx.2.1 sx.1.2.1.1.1 sx.2.2 hown (cx.2.2.2.2.1 _ hl1) (fun _ h9 => h9) hdg kq
  · exact va_gets cx.1 cx.2.1 sx.1.2.1.2.1 sx.2.2 hown (cx.2.2.2.2.1 _ hl2) (fun _ h9 => h9) hdg kq
theorem x_arraycopy {x k0 j0 k1 j1 : Nat} {n dp sp : Int32} (hdg : decode (mC u) pc = .ok (.invokestatic x, 3)) (hlk : Cond.methodLink (RN (mO u)) x arraycopyName ∈ gdT) (h0 : j0 < cnt k0 ∧ k0 < 60 ∧ aTy k0 = 0) (h1 : j1 < cnt k1 ∧ k1 < 60 ∧ aTy k1 = 0) (hw8 : wid st ≤ 8) (hb : ¬ sp < 0 ∧ ¬ dp < 0 ∧ ¬ n < 0 ∧ sp.toNatClampNeg + n.toNatClampNeg ≤ aLn k0 ∧ dp.toNatClampNeg + n.toNatClampNeg ≤ aLn k1) (kk : wpX d u (pc + 3) ls st (sA S k1 j1 (va_cpy (gA S k0 j0) (gA S k1 j1) sp.toNatClampNeg dp.toNatClampNeg n.toNatClampNeg)) P) : wpX d u pc ls (aI n :: aI dp :: aR k1 j1 :: aI sp :: aR k0 j0 :: st) S P := by
  intro p l e s m args below meth c H locs D cy ad lsR cx sx hl
  obtain ⟨q0, hq0⟩ := Rs_of h0.1 h0.2.1
  obtain ⟨q1, hq1⟩ := Rs_of h1.1 h1.2.1
  have hk9 := aTy_9 (k := k1) (by omega)
  have hw0 := wld_get (cy := cy) (ad := ad) (S := S) hq0
  have hw1 := wld_get (cy := cy) (ad := ad) (S := S) hq1
  rw [cE_arr (aTy_9 (by omega))] at hw0
  rw [cE_arr hk9] at hw1
  refine va_copyi cx.1 cx.2.1 (cx.2.2.2.1.trans hl.1.symm) cx.2.2.2.2.2.1 (cx.2.2.2.2.1 _ hlk) (cx.2.2.2.2.1 _ (wq_in ac_n)) (cx.2.2.2.2.1 _ (wq_in ac_s)) (cx.2.2.2.2.1 _ (wq_in ac_i)) sx.1.1 sx.2.1.1 sx.2.1.2 sx.2.2 q0 q1 0 0 (ty := .int) hw0 hw1 (by rw [h0.2.2]; rfl) (by rw [h1.2.2]; rfl) rfl hb.1 hb.2.1 hb.2.2.1 hb.2.2.2.1 hb.2.2.2.2 (fun _ _ => rfl) ?_ ?_ hdg (fun H1 locs1 hP hD hS => ?_)
  · show 1 ≤ d + 1; omega
  · rw [rv_wid]
    have e : nativeFrameWords "java/lang/System" "arraycopy" 5 + 11 ≤ 56 := by decide +kernel
    show wid st + _ ≤ 64 * (d + 1)
    omega
  · rw [wld_sA hq1 hk9] at hP hD
    exact kk p l e s m args below meth c H1 locs1 D cy ad lsR cx ⟨sx.1, ⟨hP, hD⟩, hS⟩ hl
theorem x_max {z : Nat} {x y : Int32} (hdg : decode (mC u) pc = .ok (.invokestatic z, 3)) (hlk : Cond.methodLink (RN (mO u)) z Lib.Math.max.name ∈ gdT) (h1 : Cond.static Lib.Math.max.name ∈ gdT) (h2 : Cond.initialized "java/lang/Math" ∈ gdT) (h3 : Cond.code Lib.Math.max.name Lib.Math.max.code 2 (some .int) ∈ gdT) (hw8 : wid st ≤ 8) (kk : wpX d u (pc + 3) ls (aI (if x < y then y else x) :: st) S P) : wpX d u pc ls (aI y :: aI x :: st) S P := by
  intro p l e s m args below meth c H locs D cy ad lsR cx sx hl
  refine va_mmax cx.1 cx.2.1 (cx.2.2.2.1.trans hl.1.symm) cx.2.2.2.2.2.1 (cx.2.2.2.2.1 _ hlk) (cx.2.2.2.2.1 _ h1) (cx.2.2.2.2.1 _ h2) (cx.2.2.2.2.1 _ h3) ?_ ?_ (Nat.zero_le _) (Nat.zero_le _) hdg (kk p l e s m args below meth c H locs D cy ad lsR cx sx hl)
  · show 1 ≤ d + 1; omega
  · rw [rv_wid]; show wid st + 13 ≤ 64 * (d + 1); omega
theorem x_min {z : Nat} {x y : Int32} (hdg : decode (mC u) pc = .ok (.invokestatic z, 3)) (hlk : Cond.methodLink (RN (mO u)) z Lib.Math.min.name ∈ gdT) (h1 : Cond.static Lib.Math.min.name ∈ gdT) (h2 : Cond.initialized "java/lang/Math" ∈ gdT) (h3 : Cond.code Lib.Math.min.name Lib.Math.min.code 2 (some .int) ∈ gdT) (hw8 : wid st ≤ 8) (kk : wpX d u (pc + 3) ls (aI (if y < x then y else x) :: st) S P) : wpX d u pc ls (aI y :: aI x :: st) S P := by
  intro p l e s m args below meth c H locs D cy ad lsR cx sx hl
  refine va_mmin cx.1 cx.2.1 (cx.2.2.2.1.trans hl.1.symm) cx.2.2.2.2.2.1 (cx.2.2.2.2.1 _ hlk) (cx.2.2.2.2.1 _ h1) (cx.2.2.2.2.1 _ h2) (cx.2.2.2.2.1 _ h3) ?_ ?_ (Nat.zero_le _) (Nat.zero_le _) hdg (kk p l e s m args below meth c H locs D cy ad lsR cx sx hl)
  · show 1 ≤ d + 1; omega
  · rw [rv_wid]; show wid st + 13 ≤ 64 * (d + 1); omega
end
