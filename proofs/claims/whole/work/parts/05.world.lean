-- PART 05: the world of cells that a state stands for
def fN (c : Nat) : Nat := (fdT.getD c []).length
def lyT : List (List Nat) := [[147, 149, 151, 153], [170, 172, 174, 176, 178], [123, 125, 127, 129, 131], [34, 36], [191, 193], [49, 51], [87, 89, 91, 93, 95, 97, 99, 101, 103, 105, 107, 109], [208, 210, 212, 214, 216, 218, 220, 222, 224, 226, 228, 230], [847, 849, 851, 853, 855, 857, 859, 861, 863, 865, 867, 869, 871, 873, 875, 877, 879, 881, 883, 885, 887, 889, 891, 893, 895, 897, 899, 901, 903, 905, 907, 909, 911, 913, 915, 917, 919]]
def aLk : List (Nat × Nat × Nat) := [(4, 27, 306), (7, 49, 394), (0, 31, 537)]
theorem ac_n : wq tables_1 308 (.native arraycopyName) = true := by decide +kernel
theorem ac_s : wq tables_1 307 (.static arraycopyName) = true := by decide +kernel
theorem ac_i : wq tables_1 11 (.initialized "java/lang/System") = true := by decide +kernel
def tyGT : List (Nat → FieldType) := [tyX0, tyX2, tyX3, tyX4, tyX5, tyX6, tyX7, tyX8, tyX9]
def tyG (c : Nat) : Nat → FieldType := tyGT.getD c (fun _ => .int)
theorem tyG_ok (c : Nat) (h : c < 9) : ∀ k, k < (clG c).2.2 → parseFieldDescriptor ((clG c).2.1 k).2.2.1 = some (tyG c k) := by
  match c, h with
  | 0, _ => exact tyX0_ok
  | 1, _ => exact tyX2_ok
  | 2, _ => exact tyX3_ok
  | 3, _ => exact tyX4_ok
  | 4, _ => exact tyX5_ok
  | 5, _ => exact tyX6_ok
  | 6, _ => exact tyX7_ok
  | 7, _ => exact tyX8_ok
  | 8, _ => exact tyX9_ok
  | k + 9, h => exact absurd h (by omega)
theorem nmG_ok (c : Nat) (h : c < 9) : ∀ a, a < (clG c).2.2 → ∀ b, b < (clG c).2.2 → a ≠ b → ((clG c).2.1 a).2.1 ≠ ((clG c).2.1 b).2.1 := by
  match c, h with
  | 0, _ => exact nmX0
  | 1, _ => exact nmX2
  | 2, _ => exact nmX3
  | 3, _ => exact nmX4
  | 4, _ => exact nmX5
  | 5, _ => exact nmX6
  | 6, _ => exact nmX7
  | 7, _ => exact nmX8
  | 8, _ => exact nmX9
  | k + 9, h => exact absurd h (by omega)
theorem clG_at (c : Nat) (h : c < 9) : vwCl[c]? = some ((clG c).1, (clG c).2.1, (clG c).2.2) := by
  match c, h with
  | 0, _ => exact rfl
  | 1, _ => exact rfl
  | 2, _ => exact rfl
  | 3, _ => exact rfl
  | 4, _ => exact rfl
  | 5, _ => exact rfl
  | 6, _ => exact rfl
  | 7, _ => exact rfl
  | 8, _ => exact rfl
  | k + 9, h => exact absurd h (by omega)
theorem clG_n (c : Nat) (h : c < 9) : (clG c).2.2 = fN c := by
  match c, h with
  | 0, _ => exact rfl
  | 1, _ => exact rfl
  | 2, _ => exact rfl
  | 3, _ => exact rfl
  | 4, _ => exact rfl
  | 5, _ => exact rfl
  | 6, _ => exact rfl
  | 7, _ => exact rfl
  | 8, _ => exact rfl
  | k + 9, h => exact absurd h (by omega)

set_option maxRecDepth 100000 in
set_option maxHeartbeats 4000000 in
theorem ly_all : (List.range 9).all (fun c => (List.range (fN c)).all (fun k => wq tables_1 ((lyT.getD c []).getD k 0) (u_lay (clG c).1 (clG c).2.1 k))) = true := by decide +kernel
set_option maxRecDepth 100000 in
set_option maxHeartbeats 4000000 in
theorem aLk_all : aLk.all (fun e => wq tables_1 e.2.2 (.methodLink (RN e.1) e.2.1 arraycopyName)) = true := by decide +kernel
theorem uw_in (c : Nat) (h : c < 9) : ∀ w ∈ u_ws (clG c).1 (clG c).2.1 (clG c).2.2, w ∈ gdT := by
  intro w hw
  rw [clG_n c h] at hw
  obtain ⟨k, hk, rfl⟩ := List.mem_map.mp hw
  exact wq_in (List.all_eq_true.mp (List.all_eq_true.mp ly_all c (List.mem_range.mpr h)) k hk)
theorem fLk_w {o x c k : Nat} (h : fLk.any (fun e => decide (e.1 = o ∧ e.2.1 = x ∧ e.2.2.1 = c ∧ e.2.2.2.1 = k)) = true) : fW o x c k ∈ gdT := by
  obtain ⟨e, he, hd⟩ := List.any_eq_true.mp h
  obtain ⟨rfl, rfl, rfl, rfl⟩ := of_decide_eq_true hd
  exact wq_in (List.all_eq_true.mp fLk_all e he)
theorem cLk_w {o x a k : Nat} (h : cLk.any (fun e => decide (e.1 = o ∧ e.2.1 = x ∧ e.2.2.1 = a ∧ e.2.2.2.1 = k)) = true) : Cond.methodLink (RN o) x (mY a) ∈ gdT := by
  obtain ⟨e, he, hd⟩ := List.any_eq_true.mp h
  obtain ⟨rfl, rfl, rfl, rfl⟩ := of_decide_eq_true hd
  exact wq_in (List.all_eq_true.mp cLk_all e he)
theorem aLk_w {o x : Nat} (h : aLk.any (fun e => decide (e.1 = o ∧ e.2.1 = x)) = true) : Cond.methodLink (RN o) x arraycopyName ∈ gdT := by
  obtain ⟨e, he, hd⟩ := List.any_eq_true.mp h
  obtain ⟨rfl, rfl⟩ := of_decide_eq_true hd
  exact wq_in (List.all_eq_true.mp aLk_all e he)
theorem cns_w {o x : Nat} {v : Int32} (h : cns.any (fun e => decide (e.1 = o ∧ e.2.1 = x ∧ e.2.2.1 = 0 ∧ Int32.ofInt e.2.2.2.2 = v)) = true) : Cond.constant (RN o) x v ∈ gdT := by
  obtain ⟨e, he, hd⟩ := List.any_eq_true.mp h
  obtain ⟨rfl, rfl, h0, rfl⟩ := of_decide_eq_true hd
  have h1 := wq_in (List.all_eq_true.mp cns_all e he)
  unfold cnW at h1
  rw [if_pos h0] at h1
  exact h1
theorem cns_wL {o x : Nat} {v : Int64} (h : cns.any (fun e => decide (e.1 = o ∧ e.2.1 = x ∧ e.2.2.1 = 1 ∧ Int64.ofInt e.2.2.2.2 = v)) = true) : Cond.constantLong (RN o) x v ∈ gdT := by
  obtain ⟨e, he, hd⟩ := List.any_eq_true.mp h
  obtain ⟨rfl, rfl, h0, rfl⟩ := of_decide_eq_true hd
  have h1 := wq_in (List.all_eq_true.mp cns_all e he)
  unfold cnW at h1
  rw [if_neg (by rw [h0]; decide)] at h1
  exact h1
/-- what a field's kind says of its descriptor -/
def fdOk (c k : Nat) : Bool := match fdK c k with
  | some (.inl 0) => decide (parseFieldDescriptor ((clG c).2.1 k).2.2.1 = some .int) && !((clG c).2.1 k).2.2.2
  | some (.inl 1) => decide (parseFieldDescriptor ((clG c).2.1 k).2.2.1 = some .long) && !((clG c).2.1 k).2.2.2
  | some (.inl 2) => decide (parseFieldDescriptor ((clG c).2.1 k).2.2.1 = some .boolean) && !((clG c).2.1 k).2.2.2
  | some (.inl _) => false
  | _ => true
set_option maxRecDepth 100000 in
theorem fdOk_all : (List.range 9).all (fun c => (List.range (fN c)).all (fun k => fdOk c k)) = true := by decide +kernel
theorem fdOk_at {c k : Nat} (hc : c < 9) (hk : k < fN c) : fdOk c k = true := List.all_eq_true.mp (List.all_eq_true.mp fdOk_all c (List.mem_range.mpr hc)) k (List.mem_range.mpr hk)
theorem fdK_lt {c k : Nat} (h : (fdK c k).isSome = true) : k < fN c := by
  unfold fdK at h
  unfold fN
  cases hq : (fdT.getD c [])[k]? with
  | none => rw [hq] at h; cases h
  | some x => exact (List.getElem?_eq_some_iff.mp hq).1
theorem fN_9 {c k : Nat} (h : k < fN c) : c < 9 := by
  rcases Nat.lt_or_ge c 9 with q | q
  · exact q
  · obtain ⟨j, rfl⟩ := Nat.exists_eq_add_of_le q
    rw [Nat.add_comm] at h
    exact absurd (show k < 0 from h) (Nat.not_lt_zero k)
-- the world
def rv (ad : Nat → Nat → Nat) : AV → Value
  | .inl x => .int x
  | .inr (.inl x) => .long x
  | .inr (.inr (k, i)) => .ref (ad k i)
theorem rv_cat (ad : Nat → Nat → Nat) (v : AV) : (rv ad v).category = avw v := by
  rcases v with x | x | ⟨k, i⟩ <;> rfl
theorem rv_wid (ad : Nat → Nat → Nat) (l : List AV) : ((l.map (rv ad)).map fun v => v.category).sum = wid l := by
  induction l with
  | nil => rfl
  | cons v t ih =>
    rw [List.map_cons, List.map_cons, List.sum_cons, ih, rv_cat]
    rfl
def cE (cy : Nat → ClassId) (ad : Nat → Nat → Nat) (S : MS) (k i : Nat) : va_E :=
  if k < 9 then .inr (k, (List.range (fN k)).map (fun f => rv ad (fldv S k i f))) else .inl (cy (aTy k), aLn k, .inl (gA S k i))
def wld (cy : Nat → ClassId) (ad : Nat → Nat → Nat) (S : MS) : va_W := Rs.map (fun r => (ad r.1 r.2, cE cy ad S r.1 r.2))
set_option maxRecDepth 100000 in
theorem Rs_all : (List.range 60).all (fun k => (List.range 5).all (fun i => !(decide (i < cnt k)) || decide ((k, i) ∈ Rs))) = true := by decide +kernel
theorem Rs_fin (k : Nat) (hk : k < 60) (i : Nat) (hi : i < 5) (h : i < cnt k) : (k, i) ∈ Rs := by
  have h1 := List.all_eq_true.mp (List.all_eq_true.mp Rs_all k (List.mem_range.mpr hk)) i (List.mem_range.mpr hi)
  rw [decide_eq_true h] at h1
  exact of_decide_eq_true h1
set_option maxRecDepth 100000 in
theorem cnt_le5 : ∀ k, k < 60 → cnt k ≤ 5 := by decide +kernel
theorem Rs_of {k i : Nat} (h : i < cnt k) (hk : k < 60) : ∃ q : Nat, Rs[q]? = some (k, i) := List.getElem?_of_mem (Rs_fin k hk i (Nat.lt_of_lt_of_le h (cnt_le5 k hk)) h)
set_option maxRecDepth 100000 in
theorem Rs_nodup : Rs.Nodup := by decide +kernel
theorem Rs_nd {p q : Nat} {r : Nat × Nat} (hp : Rs[p]? = some r) (hq : Rs[q]? = some r) : p = q :=
  (List.getElem?_inj (List.getElem?_eq_some_iff.mp hp).1 Rs_nodup).mp (hp.trans hq.symm)
theorem wld_get {cy : Nat → ClassId} {ad : Nat → Nat → Nat} {S : MS} {q k i : Nat} (h : Rs[q]? = some (k, i)) : (wld cy ad S)[q]? = some (ad k i, cE cy ad S k i) := by
  unfold wld
  rw [List.getElem?_map, h]
  rfl
theorem wld_set {cy : Nat → ClassId} {ad : Nat → Nat → Nat} {S S2 : MS} {q k i : Nat} {e : va_E} (h : Rs[q]? = some (k, i)) (he : cE cy ad S2 k i = e) (ho : ∀ a b, ¬ (a = k ∧ b = i) → cE cy ad S2 a b = cE cy ad S a b) : (wld cy ad S).set q (ad k i, e) = wld cy ad S2 := by
  apply List.ext_getElem?
  intro p
  rw [List.getElem?_set]
  by_cases hp : q = p
  · subst hp
    have hl : q < (wld cy ad S).length := (List.getElem?_eq_some_iff.mp (wld_get h)).1
    rw [if_pos rfl, if_pos hl, wld_get h, he]
  · rw [if_neg hp]
    cases hr : Rs[p]? with
    | none => unfold wld; rw [List.getElem?_map, List.getElem?_map, hr]; rfl
    | some r =>
      obtain ⟨a, b⟩ := r
      rw [wld_get hr, wld_get hr, ho a b (fun hab => hp (Rs_nd h (by rw [hr, hab.1, hab.2])))]
theorem cE_congr {cy : Nat → ClassId} {ad : Nat → Nat → Nat} {S S2 : MS} {k i : Nat} (h1 : ∀ f, gI S k i f = gI S2 k i f) (h2 : ∀ f, gL S k i f = gL S2 k i f) (h3 : gA S k i = gA S2 k i) : cE cy ad S k i = cE cy ad S2 k i := by
  unfold cE
  rw [h3]
  have : (fun f => rv ad (fldv S k i f)) = fun f => rv ad (fldv S2 k i f) := by
    funext f
    unfold fldv
    rw [h1, h2]
  rw [this]
theorem cE_sI {cy : Nat → ClassId} {ad : Nat → Nat → Nat} {S : MS} {k i f a b : Nat} {v : Int32} (h : ¬ (a = k ∧ b = i)) : cE cy ad (sI S k i f v) a b = cE cy ad S a b :=
  cE_congr (fun g => by rw [gI_sI, if_neg (fun q => h ⟨q.1, q.2.1⟩)]) (fun _ => rfl) rfl
theorem cE_sL {cy : Nat → ClassId} {ad : Nat → Nat → Nat} {S : MS} {k i f a b : Nat} {v : Int64} (h : ¬ (a = k ∧ b = i)) : cE cy ad (sL S k i f v) a b = cE cy ad S a b :=
  cE_congr (fun _ => rfl) (fun g => by rw [gL_sL, if_neg (fun q => h ⟨q.1, q.2.1⟩)]) rfl
theorem cE_sA {cy : Nat → ClassId} {ad : Nat → Nat → Nat} {S : MS} {k i a b : Nat} {r : Nat → Int32} (h : ¬ (a = k ∧ b = i)) : cE cy ad (sA S k i r) a b = cE cy ad S a b :=
  cE_congr (fun _ => rfl) (fun _ => rfl) (by rw [gA_sA, if_neg h])
theorem cE_obj {cy : Nat → ClassId} {ad : Nat → Nat → Nat} {S : MS} {k i : Nat} (h : k < 9) : cE cy ad S k i = .inr (k, (List.range (fN k)).map (fun f => rv ad (fldv S k i f))) := by
  unfold cE
  rw [if_pos h]
theorem cE_arr {cy : Nat → ClassId} {ad : Nat → Nat → Nat} {S : MS} {k i : Nat} (h : ¬ k < 9) : cE cy ad S k i = .inl (cy (aTy k), aLn k, .inl (gA S k i)) := by
  unfold cE
  rw [if_neg h]
theorem aTy_9 {k : Nat} (h : aTy k < 3) : ¬ k < 9 := by
  intro q
  have : ∀ k, k < 9 → aTy k = 9 := by decide +kernel
  rw [this k q] at h
  exact absurd h (by decide)
theorem flds_put {ad : Nat → Nat → Nat} {S : MS} {k i f : Nat} {v : AV} (hk : pOk k f v) : ((List.range (fN k)).map (fun g => rv ad (fldv S k i g))).set f (rv ad v) = (List.range (fN k)).map (fun g => rv ad (fldv (putv S k i f v) k i g)) := by
  have hs : (fdK k f).isSome = true := by
    unfold pOk at hk
    cases h : fdK k f with
    | none => rw [h] at hk; exact hk.elim
    | some _ => rfl
  have hlt := fdK_lt hs
  apply List.ext_getElem?
  intro p
  rw [List.getElem?_set]
  by_cases hp : f = p
  · subst hp
    rw [if_pos rfl, if_pos (by rw [List.length_map, List.length_range]; exact hlt), List.getElem?_map, List.getElem?_range hlt]
    show some (rv ad v) = some (rv ad (fldv (putv S k i f v) k i f))
    unfold pOk at hk
    unfold fldv
    rcases v with x | x | x
    · show _ = some (rv ad (match fdK k f with | some (.inl 1) => aL (gL (sI S k i f x) k i f) | some (.inl _) => aI (gI (sI S k i f x) k i f) | some (.inr (k2, j2)) => aR k2 (i + j2) | none => aU))
      rw [gI_sI, if_pos ⟨rfl, rfl, rfl⟩]
      split at hk <;> simp_all
    · show _ = some (rv ad (match fdK k f with | some (.inl 1) => aL (gL (sL S k i f x) k i f) | some (.inl _) => aI (gI (sL S k i f x) k i f) | some (.inr (k2, j2)) => aR k2 (i + j2) | none => aU))
      rw [gL_sL, if_pos ⟨rfl, rfl, rfl⟩]
      split at hk <;> simp_all
    · split at hk <;> simp_all
  · rw [if_neg hp, List.getElem?_map, List.getElem?_map]
    cases hr : (List.range (fN k))[p]? with
    | none => rfl
    | some g =>
      have hg : g = p := by
        obtain ⟨h1, h2⟩ := List.getElem?_eq_some_iff.mp hr
        rw [List.getElem_range] at h2
        exact h2.symm
      subst hg
      show some (rv ad (fldv S k i g)) = some (rv ad (fldv (putv S k i f v) k i g))
      have e : fldv (putv S k i f v) k i g = fldv S k i g := by
        unfold fldv
        rcases v with x | x | x
        · show (match fdK k g with | some (.inl 1) => aL (gL (sI S k i f x) k i g) | some (.inl _) => aI (gI (sI S k i f x) k i g) | some (.inr (k2, j2)) => aR k2 (i + j2) | none => aU) = _
          rw [gI_sI, if_neg (fun q => hp q.2.2.symm)]
          rfl
        · show (match fdK k g with | some (.inl 1) => aL (gL (sL S k i f x) k i g) | some (.inl _) => aI (gI (sL S k i f x) k i g) | some (.inr (k2, j2)) => aR k2 (i + j2) | none => aU) = _
          rw [gL_sL, if_neg (fun q => hp q.2.2.symm)]
          rfl
        · rfl
      rw [e]
theorem cE_putv {cy : Nat → ClassId} {ad : Nat → Nat → Nat} {S : MS} {k i f a b : Nat} {v : AV} (h : ¬ (a = k ∧ b = i)) : cE cy ad (putv S k i f v) a b = cE cy ad S a b := by
  rcases v with x | x | x
  · exact cE_sI h
  · exact cE_sL h
  · rfl
