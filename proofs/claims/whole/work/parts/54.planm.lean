-- PART 54: plans: plain mathematics, the reference's side
def okB (Y : Nat → Nat → Nat) (s : Nat) : Bool := subB Y s && decide (csum (ycz Y) 5 s ≤ Y 6 2)
def fld {σ : Type} (F : Nat → σ → σ) : Nat → σ → σ
  | 0, st => st
  | n + 1, st => F n (fld F n st)
/-- all rows of sets, lesser ones ahead: the first of the best -/
def sk : Nat → Nat → (Nat → Nat → Nat) → (Nat → Nat) → Nat → Nat × (Nat → Nat) → Nat × (Nat → Nat)
  | 0, _, _, q, sum, st => if st.1 ≤ sum then (sum + 1, q) else st
  | k + 1, i, Y, q, sum, st => fld (fun s st => if okB Y s = true then sk k (i + 1) (psY Y s 0) (updN q i s) (sum + bct s) st else st) 32 st
def Vv : Nat → Nat → (Nat → Nat → Nat) → (Nat → Nat) → Option Nat
  | 0, _, _, _ => some 0
  | k + 1, i, Y, q => if okB Y (q i) = true then (Vv k (i + 1) (psY Y (q i) 0) q).map (fun v => bct (q i) + v) else none
def cat (N : Nat) (q : Nat → Nat) (i k c : Nat) : Nat → Nat := fun t => if i ≤ t ∧ t < i + k then c / N ^ (i + k - 1 - t) % N else q t
def mk (N k i : Nat) (Y : Nat → Nat → Nat) (q : Nat → Nat) (sum : Nat) (st : Nat × (Nat → Nat)) : Nat → Nat × (Nat → Nat)
  | 0 => st
  | c + 1 => match Vv k i Y (cat N q i k c) with
    | none => mk N k i Y q sum st c
    | some v => if (mk N k i Y q sum st c).1 ≤ sum + v then (sum + v + 1, cat N q i k c) else mk N k i Y q sum st c
theorem cat_step {N : Nat} {q : Nat → Nat} {i k s c : Nat} (hs : s < N) (hc : c < N ^ k) : cat N q i (k + 1) (s * N ^ k + c) = cat N (updN q i s) (i + 1) k c := by
  have hN : 0 < N := by omega
  have hP : 0 < N ^ k := Nat.pow_pos hN
  funext t
  unfold cat updN
  by_cases h1 : t = i
  · subst h1
    rw [if_pos (by omega), if_neg (by omega), if_pos rfl, show t + (k + 1) - 1 - t = k by omega, Nat.mul_comm, Nat.mul_add_div hP, Nat.div_eq_of_lt hc, Nat.add_zero, Nat.mod_eq_of_lt hs]
  · by_cases h2 : i + 1 ≤ t ∧ t < i + 1 + k
    · rw [if_pos (by omega), if_pos h2, show i + (k + 1) - 1 - t = i + 1 + k - 1 - t by omega]
      obtain ⟨e, he, hk⟩ : ∃ e, i + 1 + k - 1 - t = e ∧ e < k := ⟨i + 1 + k - 1 - t, rfl, by omega⟩
      rw [he]
      have hE : 0 < N ^ e := Nat.pow_pos hN
      have e1 : N ^ k = N ^ e * (N * N ^ (k - e - 1)) := by
        rw [← Nat.mul_assoc, ← Nat.pow_succ, ← Nat.pow_add]
        congr 1
        omega
      rw [e1, show s * (N ^ e * (N * N ^ (k - e - 1))) + c = N ^ e * (N * (s * N ^ (k - e - 1))) + c by
        congr 1
        rw [Nat.mul_left_comm, ← Nat.mul_assoc N, Nat.mul_comm N s, Nat.mul_assoc s], Nat.mul_add_div hE, Nat.mul_add_mod]
    · rw [if_neg (by omega), if_neg h2, if_neg h1]
theorem mk_split {N k i s : Nat} {Y : Nat → Nat → Nat} {q : Nat → Nat} {sum : Nat} {st : Nat × (Nat → Nat)} (hs : s < N) : ∀ c, c ≤ N ^ k → mk N (k + 1) i Y q sum st (s * N ^ k + c) = if okB Y s = true then mk N k (i + 1) (psY Y s 0) (updN q i s) (sum + bct s) (mk N (k + 1) i Y q sum st (s * N ^ k)) c else mk N (k + 1) i Y q sum st (s * N ^ k) := by
  intro c
  induction c with
  | zero =>
    intro _
    rw [Nat.add_zero]
    split <;> rfl
  | succ c ih =>
    intro hc
    rw [← Nat.add_assoc, mk, ih (by omega), cat_step hs (by omega)]
    have e : cat N (updN q i s) (i + 1) k c i = s := by
      unfold cat updN
      rw [if_neg (by omega), if_pos rfl]
    rw [Vv, e]
    cases hk : okB Y s
    · rw [if_neg (by decide)]
      rfl
    · rw [if_pos rfl, if_pos rfl]
      rw [if_pos rfl, mk]
      cases Vv k (i + 1) (psY Y s 0) (cat N (updN q i s) (i + 1) k c) with
      | none => rfl
      | some v =>
        show (if (mk N k (i + 1) (psY Y s 0) (updN q i s) (sum + bct s) (mk N (k + 1) i Y q sum st (s * N ^ k)) c).1 ≤ sum + (bct s + v) then (sum + (bct s + v) + 1, cat N (updN q i s) (i + 1) k c) else _) = _
        rw [show sum + (bct s + v) = sum + bct s + v by omega]
theorem fld_cong {σ : Type} {F G : Nat → σ → σ} : ∀ (n : Nat) (st : σ), (∀ s st, s < n → F s st = G s st) → fld F n st = fld G n st := by
  intro n
  induction n with
  | zero => intro st _; rfl
  | succ n ih =>
    intro st h
    rw [fld, fld, ih st (fun s st hs => h s st (by omega)), h n _ (by omega)]
theorem fld_stop {σ : Type} {F : Nat → σ → σ} {n : Nat} : ∀ (m : Nat) (st : σ), (∀ s st, n ≤ s → s < n + m → F s st = st) → fld F (n + m) st = fld F n st := by
  intro m
  induction m with
  | zero => intro st _; rfl
  | succ m ih =>
    intro st h
    rw [← Nat.add_assoc, fld, h _ _ (by omega) (by omega)]
    exact ih st (fun s st h1 h2 => h s st h1 (by omega))
def dgs (N n c : Nat) : Nat → Nat := cat N (fun _ => 0) 0 n c
theorem dgs_lt {N n c t : Nat} (hN : 0 < N) : dgs N n c t < N := by
  unfold dgs cat
  split
  · exact Nat.mod_lt _ hN
  · exact hN
theorem dgs_at {N n c t : Nat} (ht : t < n) : dgs N n c t = c / N ^ (n - (t + 1)) % N := by
  unfold dgs cat
  rw [if_pos ⟨Nat.zero_le t, by omega⟩, show 0 + n - 1 - t = n - (t + 1) by omega]
theorem dgs_0 {N n : Nat} : dgs N n 0 = fun _ => 0 := by
  funext t
  unfold dgs cat
  split
  · rw [Nat.zero_div, Nat.zero_mod]
  · rfl
/-- the best code below c -/
def mb (N n : Nat) (Y : Nat → Nat → Nat) : Nat → Nat × Nat
  | 0 => (0, 0)
  | c + 1 => match Vv n 0 Y (dgs N n c) with
    | none => mb N n Y c
    | some v => if (mb N n Y c).1 ≤ v then (v + 1, c) else mb N n Y c
theorem mb_mk {N n : Nat} {Y : Nat → Nat → Nat} : ∀ c, mk N n 0 Y (fun _ => 0) 0 (0, fun _ => 0) c = ((mb N n Y c).1, dgs N n (mb N n Y c).2) := by
  intro c
  induction c with
  | zero => rw [mk, mb, dgs_0]
  | succ c ih =>
    rw [mk, mb, ih]
    show (match Vv n 0 Y (dgs N n c) with
      | none => _
      | some v => if (mb N n Y c).1 ≤ 0 + v then (0 + v + 1, dgs N n c) else _) = _
    cases Vv n 0 Y (dgs N n c) with
    | none => rfl
    | some v =>
      try dsimp only
      rw [Nat.zero_add]
      split <;> rfl
theorem mod_s (a b : Nat) : a - a / b * b = a % b := by
  have h := Nat.div_add_mod a b
  rw [Nat.mul_comm] at h
  omega
section
variable {d B : Nat} {S : MS} {Y Y0 : Nat → Nat → Nat} {P : Option AV → MS → Prop}
theorem okB_out (ho : YOk B Y) {s : Nat} (hs : s < 32) (h : 2 ^ Y 6 0 ≤ s) : okB Y s = false := by
  unfold okB
  cases hb : subB Y s
  · rfl
  · have := (subB_iff ho hs).mp hb; omega
theorem mk_sk : ∀ (k i : Nat) (B : Nat) (Y : Nat → Nat → Nat) (q : Nat → Nat) (sum : Nat) (st : Nat × (Nat → Nat)), YOk B Y → mk (2 ^ Y 6 0) k i Y q sum st ((2 ^ Y 6 0) ^ k) = sk k i Y q sum st := by
  intro k
  induction k with
  | zero =>
    intro i B Y q sum st ho
    rw [Nat.pow_zero, mk, mk, sk, Vv]
    have e : cat (2 ^ Y 6 0) q i 0 0 = q := by
      funext t
      unfold cat
      rw [if_neg (by omega)]
    rw [e]
    rfl
  | succ k ih =>
    intro i B Y q sum st ho
    have h32 := p2_lt ho.1.1
    have hl : ∀ s, s ≤ 2 ^ Y 6 0 → mk (2 ^ Y 6 0) (k + 1) i Y q sum st (s * (2 ^ Y 6 0) ^ k) = fld (fun s st => if okB Y s = true then sk k (i + 1) (psY Y s 0) (updN q i s) (sum + bct s) st else st) s st := by
      intro s
      induction s with
      | zero => intro _; rw [Nat.zero_mul]; rfl
      | succ s ihs =>
        intro hs
        rw [Nat.succ_mul, mk_split (by omega) _ (Nat.le_refl _), fld, ihs (by omega)]
        have e6 : psY Y s 0 6 0 = Y 6 0 := psY_sc.1
        have := ih (i + 1) (B + 1) (psY Y s 0) (updN q i s) (sum + bct s) (fld (fun s st => if okB Y s = true then sk k (i + 1) (psY Y s 0) (updN q i s) (sum + bct s) st else st) s st) (psY_ok ho)
        rw [e6] at this
        rw [this]
    rw [Nat.pow_succ, Nat.mul_comm, hl _ (Nat.le_refl _), sk]
    have hst := fld_stop (F := fun s st => if okB Y s = true then sk k (i + 1) (psY Y s 0) (updN q i s) (sum + bct s) st else st) (n := 2 ^ Y 6 0) (32 - 2 ^ Y 6 0) st (fun s st h1 h2 => by
      try dsimp only
      rw [okB_out ho (by omega) h1, if_neg (by decide)])
    rw [show 2 ^ Y 6 0 + (32 - 2 ^ Y 6 0) = 32 by omega] at hst
    exact hst.symm
theorem okB_iff (ho : YOk B Y) {s : Nat} (hs : s < 32) : okB Y s = true ↔ (s < 2 ^ Y 6 0 ∧ s &&& Y 6 4 = 0) ∧ csum (ycz Y) 5 s ≤ Y 6 2 := by
  unfold okB
  rw [Bool.and_eq_true, subB_iff ho hs, decide_eq_true_eq]
theorem psM_ok (ho : YOk B Y) {s : Nat} (h : s &&& Y 6 4 = 0) : psM Y s 0 = psY Y s 0 := psM_eq (fun t _ hs => and0_bit h hs) (by rw [ofc_0, bct_0])
def mvI (o : Option Nat) : Int32 := match o with
  | none => -nI 1
  | some v => nI v
theorem Vv_le : ∀ (k i : Nat) (Y : Nat → Nat → Nat) (q : Nat → Nat) (v : Nat), (∀ t, q t < 32) → Vv k i Y q = some v → v ≤ 6 * k := by
  intro k
  induction k with
  | zero => intro i Y q v _ h; cases h; exact Nat.le_refl 0
  | succ k ih =>
    intro i Y q v hq h
    rw [Vv] at h
    split at h
    · cases hV : Vv k (i + 1) (psY Y (q i) 0) q with
      | none => rw [hV] at h; cases h
      | some u =>
        rw [hV] at h
        have := ih (i + 1) _ q u hq hV
        have hb := bct_lt (s := q i) (by have := hq i; omega)
        have e := Option.some.inj h
        try dsimp only at e
        omega
    · cases h
theorem l_mk2 {n : Nat} {q : Nat → Nat} {S0 : MS} {R : Option Nat} (hn : n ≤ 3) (hq : ∀ t, q t < 2 ^ Y0 6 0) (h05 : Y0 6 0 ≤ 5) (hg0 : Y0 6 4 < 32) (hm0 : YrM S0 40 Y0) (hs0 : ∀ t, t < n → gA S0 47 0 t = nI (q t)) (fin : ∀ S2, FA 41 S0 S2 → P (some (aI (mvI R))) S2) :
    ∀ (m k t : Nat) (Y : Nat → Nat → Nat) (S : MS), k + m = n → t ≤ 6 * k → YrM S 41 Y → YOk (40 + k) Y → Y 6 0 = Y0 6 0 → Y 6 4 = Y0 6 4 → (Vv m k Y q).map (fun v => t + v) = R → FA 41 S0 S → wpX (d + 8) mX9_keptBy 52 [aR 8 0, aU, aI (nI n), aU, aI (nI t), aI (nI k), aU] [] S P := by
  intro m
  induction m with
  | zero =>
    intro k t Y S hk ht hy ho e0 e4 hR hf
    have e : k = n := by omega
    subst e
    have hR : some (t + 0) = R := hR
    subst hR
    refine s_X9_keptBy_52 ?_
    simp (disch := omega) only [B_X9_keptBy_52, wi_iload, wi_iload_n, wi_icmp_ge, wi_if_lt, wi_aload_n, wi_getfield, fldv_8_28, fds_8_28, cnt_8, wi_iaload, fldv_8_20, fds_8_20, wi_iconst, wi_iand, wi_if_ne, fldv_8_21, fds_8_21, wi_invokevirtual, cnt_40, aTy_40, aLn_40, arr_40, cnt_41, aTy_41, aLn_41, arr_41, cnt_47, aTy_47, aLn_47, arr_47, no0, no1, nz1, nz2, nz3, nz4, nz5, nz7, nz8, Classical.not_not, bz0, bz1, wi_nil, ld_0, ld_s, isIv_I, isLv_L, isRv_R, true_and, and_true, lset_0, lset_1, lset_s, avw_I, avw_L, avw_R, clr_cons, clr_nil, kst_0, kst_1, kstL_0, kstL_1, addk_I, pA_0, pA_s, pD_0, pD_s, wid_nil, wid_cons, rcv_c, putv_I, putv_L, List.length_cons, List.length_nil, List.set_cons_zero, List.set_cons_succ, not_false_eq_true, Nat.reduceMod, Nat.reduceDiv, Nat.reduceEqDiff, Nat.reduceLT, Nat.reduceLeDiff, Nat.reduceAdd, Nat.reduceSub, reduceIte, Nat.lt_irrefl, Nat.zero_ne_one, Nat.one_ne_zero, Nat.zero_add, List.nil_append, List.cons_append, Option.toList_some, Option.toList_none, forall_const, false_implies, true_implies, false_or, or_false, true_or, or_true, i_le, i_lt, i_eq, i_eq0, i_lt0, i_0le, i_0lt, i_le0, i_in1, i_cl, nI_add, pk_mul, pk_sub, i_div, i_rem, i_sh1, i_bit, i_or, i_and, i_andn, nt_le, nf_le, nt_lt, nf_lt, nt_eq, nf_eq, not_true_eq_false, and_self, and_false, false_and, eq_self, Bool.toNat_true, Bool.toNat_false, i_bool, i_bool1, Bool.false_eq_true, Bool.true_eq_false, reduceCtorEq, i_neg1, i_neg2, i_neg3, i_neg4, i_neg5, i_neg6, i_neg7, i_neg8, i_neg9, i_nega, i_negb, i_negc, i_max2, i_min2]
    try simp (disch := omega) only [no0, no1, nz1, nz2, nz3, nz4, nz5, nz7, nz8, Classical.not_not, bz0, bz1, wi_nil, ld_0, ld_s, isIv_I, isLv_L, isRv_R, true_and, and_true, lset_0, lset_1, lset_s, avw_I, avw_L, avw_R, clr_cons, clr_nil, kst_0, kst_1, kstL_0, kstL_1, addk_I, pA_0, pA_s, pD_0, pD_s, wid_nil, wid_cons, rcv_c, putv_I, putv_L, List.length_cons, List.length_nil, List.set_cons_zero, List.set_cons_succ, not_false_eq_true, Nat.reduceMod, Nat.reduceDiv, Nat.reduceEqDiff, Nat.reduceLT, Nat.reduceLeDiff, Nat.reduceAdd, Nat.reduceSub, reduceIte, Nat.lt_irrefl, Nat.zero_ne_one, Nat.one_ne_zero, Nat.zero_add, List.nil_append, List.cons_append, Option.toList_some, Option.toList_none, forall_const, false_implies, true_implies, false_or, or_false, true_or, or_true, i_le, i_lt, i_eq, i_eq0, i_lt0, i_0le, i_0lt, i_le0, i_in1, i_cl, nI_add, pk_mul, pk_sub, i_div, i_rem, i_sh1, i_bit, i_or, i_and, i_andn, nt_le, nf_le, nt_lt, nf_lt, nt_eq, nf_eq, not_true_eq_false, and_self, and_false, false_and, eq_self, Bool.toNat_true, Bool.toNat_false, i_bool, i_bool1, Bool.false_eq_true, Bool.true_eq_false, reduceCtorEq, i_neg1, i_neg2, i_neg3, i_neg4, i_neg5, i_neg6, i_neg7, i_neg8, i_neg9, i_nega, i_negb, i_negc, i_max2, i_min2, wi_nil]
    repeat (
      first
      | refine s_X9_keptBy_0 ?_
      | refine s_X9_keptBy_42 ?_
      | refine s_X9_keptBy_49 ?_
      | refine s_X9_keptBy_95 ?_
      | refine s_X9_keptBy_108 ?_
      | refine s_X9_keptBy_109 ?_
      | refine s_X9_keptBy_127 ?_
      | refine s_X9_keptBy_144 ?_
      | refine s_X9_keptBy_148 ?_
      | refine s_X9_keptBy_149 ?_
      | refine s_X9_keptBy_157 ?_
      simp (disch := omega) only [B_X9_keptBy_0, wi_iload_n, wi_istore_n, wi_iconst, wi_isub, wi_istore, B_X9_keptBy_7, wi_iload, wi_if_lt, wi_aload_n, wi_getfield, fldv_8_28, fds_8_28, cnt_8, fldv_8_10, fds_8_10, wi_ishl, wi_irem, wi_iastore, wi_idiv, wi_iinc, wi_goto, cnt_40, aTy_40, aLn_40, arr_40, cnt_41, aTy_41, aLn_41, arr_41, cnt_47, aTy_47, aLn_47, arr_47, B_X9_keptBy_42, wi_invokevirtual, B_X9_keptBy_49, B_X9_keptBy_52, wi_icmp_ge, wi_iaload, fldv_8_20, fds_8_20, wi_iand, wi_if_ne, fldv_8_21, fds_8_21, B_X9_keptBy_95, wi_icmp_gt, B_X9_keptBy_108, B_X9_keptBy_109, B_X9_keptBy_127, wi_if_eq, wi_invokestatic, B_X9_keptBy_144, wi_iadd, B_X9_keptBy_148, B_X9_keptBy_149, B_X9_keptBy_157, wi_ireturn, no0, no1, nz1, nz2, nz3, nz4, nz5, nz7, nz8, Classical.not_not, bz0, bz1, wi_nil, ld_0, ld_s, isIv_I, isLv_L, isRv_R, true_and, and_true, lset_0, lset_1, lset_s, avw_I, avw_L, avw_R, clr_cons, clr_nil, kst_0, kst_1, kstL_0, kstL_1, addk_I, pA_0, pA_s, pD_0, pD_s, wid_nil, wid_cons, rcv_c, putv_I, putv_L, List.length_cons, List.length_nil, List.set_cons_zero, List.set_cons_succ, not_false_eq_true, Nat.reduceMod, Nat.reduceDiv, Nat.reduceEqDiff, Nat.reduceLT, Nat.reduceLeDiff, Nat.reduceAdd, Nat.reduceSub, reduceIte, Nat.lt_irrefl, Nat.zero_ne_one, Nat.one_ne_zero, Nat.zero_add, List.nil_append, List.cons_append, Option.toList_some, Option.toList_none, forall_const, false_implies, true_implies, false_or, or_false, true_or, or_true, i_le, i_lt, i_eq, i_eq0, i_lt0, i_0le, i_0lt, i_le0, i_in1, i_cl, nI_add, pk_mul, pk_sub, i_div, i_rem, i_sh1, i_bit, i_or, i_and, i_andn, nt_le, nf_le, nt_lt, nf_lt, nt_eq, nf_eq, not_true_eq_false, and_self, and_false, false_and, eq_self, Bool.toNat_true, Bool.toNat_false, i_bool, i_bool1, Bool.false_eq_true, Bool.true_eq_false, reduceCtorEq, i_neg1, i_neg2, i_neg3, i_neg4, i_neg5, i_neg6, i_neg7, i_neg8, i_neg9, i_nega, i_negb, i_negc, i_max2, i_min2])
    exact fin S hf
  | succ m ih =>
    intro k t Y S hk ht hy ho e0 e4 hR hf
    have h32 := p2_lt ho.1.1
    have hqk := hq k
    have hs : gA S 47 0 k = nI (q k) := by rw [hf.2.2 47 0 (by decide)]; exact hs0 k (by omega)
    have hg40 : gA S 40 0 3 = nI (Y 6 4) := by rw [hf.2.2 40 0 (by decide), e4]; exact m_gone hm0
    have hw := m_will hy
    have hw40 := ho.1.2.2.1
    have hcs := csum_lt ho (q k)
    rw [e0] at h32
    have hb6 := bct_lt (s := q k) (by omega)
    have a1 : q k &&& Y 6 4 < 32 := and_lt32 (by omega)
    have b0 : bct 0 = 0 := bct_0
    have hok := okB_iff ho (s := q k) (by omega)
    rw [Vv] at hR
    have bad : okB Y (q k) = false → wpX (d + 8) mX9_keptBy 108 [aR 8 0, aU, aI (nI n), aU, aI (nI t), aI (nI k), aU] [] S P := by
      intro hb
      rw [hb, if_neg (by decide)] at hR
      have hR : none = R := hR
      try simp (disch := omega) only [no0, no1, nz1, nz2, nz3, nz4, nz5, nz7, nz8, Classical.not_not, bz0, bz1, wi_nil, ld_0, ld_s, isIv_I, isLv_L, isRv_R, true_and, and_true, lset_0, lset_1, lset_s, avw_I, avw_L, avw_R, clr_cons, clr_nil, kst_0, kst_1, kstL_0, kstL_1, addk_I, pA_0, pA_s, pD_0, pD_s, wid_nil, wid_cons, rcv_c, putv_I, putv_L, List.length_cons, List.length_nil, List.set_cons_zero, List.set_cons_succ, not_false_eq_true, Nat.reduceMod, Nat.reduceDiv, Nat.reduceEqDiff, Nat.reduceLT, Nat.reduceLeDiff, Nat.reduceAdd, Nat.reduceSub, reduceIte, Nat.lt_irrefl, Nat.zero_ne_one, Nat.one_ne_zero, Nat.zero_add, List.nil_append, List.cons_append, Option.toList_some, Option.toList_none, forall_const, false_implies, true_implies, false_or, or_false, true_or, or_true, i_le, i_lt, i_eq, i_eq0, i_lt0, i_0le, i_0lt, i_le0, i_in1, i_cl, nI_add, pk_mul, pk_sub, i_div, i_rem, i_sh1, i_bit, i_or, i_and, i_andn, nt_le, nf_le, nt_lt, nf_lt, nt_eq, nf_eq, not_true_eq_false, and_self, and_false, false_and, eq_self, Bool.toNat_true, Bool.toNat_false, i_bool, i_bool1, Bool.false_eq_true, Bool.true_eq_false, reduceCtorEq, i_neg1, i_neg2, i_neg3, i_neg4, i_neg5, i_neg6, i_neg7, i_neg8, i_neg9, i_nega, i_negb, i_negc, i_max2, i_min2, hs, wi_nil]
      repeat (
        first
        | refine s_X9_keptBy_0 ?_
        | refine s_X9_keptBy_42 ?_
        | refine s_X9_keptBy_49 ?_
        | refine s_X9_keptBy_95 ?_
        | refine s_X9_keptBy_108 ?_
        | refine s_X9_keptBy_109 ?_
        | refine s_X9_keptBy_127 ?_
        | refine s_X9_keptBy_144 ?_
        | refine s_X9_keptBy_148 ?_
        | refine s_X9_keptBy_149 ?_
        | refine s_X9_keptBy_157 ?_
        simp (disch := omega) only [B_X9_keptBy_0, wi_iload_n, wi_istore_n, wi_iconst, wi_isub, wi_istore, B_X9_keptBy_7, wi_iload, wi_if_lt, wi_aload_n, wi_getfield, fldv_8_28, fds_8_28, cnt_8, fldv_8_10, fds_8_10, wi_ishl, wi_irem, wi_iastore, wi_idiv, wi_iinc, wi_goto, cnt_40, aTy_40, aLn_40, arr_40, cnt_41, aTy_41, aLn_41, arr_41, cnt_47, aTy_47, aLn_47, arr_47, B_X9_keptBy_42, wi_invokevirtual, B_X9_keptBy_49, B_X9_keptBy_52, wi_icmp_ge, wi_iaload, fldv_8_20, fds_8_20, wi_iand, wi_if_ne, fldv_8_21, fds_8_21, B_X9_keptBy_95, wi_icmp_gt, B_X9_keptBy_108, B_X9_keptBy_109, B_X9_keptBy_127, wi_if_eq, wi_invokestatic, B_X9_keptBy_144, wi_iadd, B_X9_keptBy_148, B_X9_keptBy_149, B_X9_keptBy_157, wi_ireturn, no0, no1, nz1, nz2, nz3, nz4, nz5, nz7, nz8, Classical.not_not, bz0, bz1, wi_nil, ld_0, ld_s, isIv_I, isLv_L, isRv_R, true_and, and_true, lset_0, lset_1, lset_s, avw_I, avw_L, avw_R, clr_cons, clr_nil, kst_0, kst_1, kstL_0, kstL_1, addk_I, pA_0, pA_s, pD_0, pD_s, wid_nil, wid_cons, rcv_c, putv_I, putv_L, List.length_cons, List.length_nil, List.set_cons_zero, List.set_cons_succ, not_false_eq_true, Nat.reduceMod, Nat.reduceDiv, Nat.reduceEqDiff, Nat.reduceLT, Nat.reduceLeDiff, Nat.reduceAdd, Nat.reduceSub, reduceIte, Nat.lt_irrefl, Nat.zero_ne_one, Nat.one_ne_zero, Nat.zero_add, List.nil_append, List.cons_append, Option.toList_some, Option.toList_none, forall_const, false_implies, true_implies, false_or, or_false, true_or, or_true, i_le, i_lt, i_eq, i_eq0, i_lt0, i_0le, i_0lt, i_le0, i_in1, i_cl, nI_add, pk_mul, pk_sub, i_div, i_rem, i_sh1, i_bit, i_or, i_and, i_andn, nt_le, nf_le, nt_lt, nf_lt, nt_eq, nf_eq, not_true_eq_false, and_self, and_false, false_and, eq_self, Bool.toNat_true, Bool.toNat_false, i_bool, i_bool1, Bool.false_eq_true, Bool.true_eq_false, reduceCtorEq, i_neg1, i_neg2, i_neg3, i_neg4, i_neg5, i_neg6, i_neg7, i_neg8, i_neg9, i_nega, i_negb, i_negc, i_max2, i_min2, hs])
      refine c_passes (s := q k) (o := 0) (Or.inr rfl) hy ho (by omega) (by omega) (by decide) (by omega) (fun S2 y2 f2 => ?_)
      try simp (disch := omega) only [no0, no1, nz1, nz2, nz3, nz4, nz5, nz7, nz8, Classical.not_not, bz0, bz1, wi_nil, ld_0, ld_s, isIv_I, isLv_L, isRv_R, true_and, and_true, lset_0, lset_1, lset_s, avw_I, avw_L, avw_R, clr_cons, clr_nil, kst_0, kst_1, kstL_0, kstL_1, addk_I, pA_0, pA_s, pD_0, pD_s, wid_nil, wid_cons, rcv_c, putv_I, putv_L, List.length_cons, List.length_nil, List.set_cons_zero, List.set_cons_succ, not_false_eq_true, Nat.reduceMod, Nat.reduceDiv, Nat.reduceEqDiff, Nat.reduceLT, Nat.reduceLeDiff, Nat.reduceAdd, Nat.reduceSub, reduceIte, Nat.lt_irrefl, Nat.zero_ne_one, Nat.one_ne_zero, Nat.zero_add, List.nil_append, List.cons_append, Option.toList_some, Option.toList_none, forall_const, false_implies, true_implies, false_or, or_false, true_or, or_true, i_le, i_lt, i_eq, i_eq0, i_lt0, i_0le, i_0lt, i_le0, i_in1, i_cl, nI_add, pk_mul, pk_sub, i_div, i_rem, i_sh1, i_bit, i_or, i_and, i_andn, nt_le, nf_le, nt_lt, nf_lt, nt_eq, nf_eq, not_true_eq_false, and_self, and_false, false_and, eq_self, Bool.toNat_true, Bool.toNat_false, i_bool, i_bool1, Bool.false_eq_true, Bool.true_eq_false, reduceCtorEq, i_neg1, i_neg2, i_neg3, i_neg4, i_neg5, i_neg6, i_neg7, i_neg8, i_neg9, i_nega, i_negb, i_negc, i_max2, i_min2, wi_nil]
      repeat (
        first
        | refine s_X9_keptBy_0 ?_
        | refine s_X9_keptBy_42 ?_
        | refine s_X9_keptBy_49 ?_
        | refine s_X9_keptBy_95 ?_
        | refine s_X9_keptBy_108 ?_
        | refine s_X9_keptBy_109 ?_
        | refine s_X9_keptBy_127 ?_
        | refine s_X9_keptBy_144 ?_
        | refine s_X9_keptBy_148 ?_
        | refine s_X9_keptBy_149 ?_
        | refine s_X9_keptBy_157 ?_
        simp (disch := omega) only [B_X9_keptBy_0, wi_iload_n, wi_istore_n, wi_iconst, wi_isub, wi_istore, B_X9_keptBy_7, wi_iload, wi_if_lt, wi_aload_n, wi_getfield, fldv_8_28, fds_8_28, cnt_8, fldv_8_10, fds_8_10, wi_ishl, wi_irem, wi_iastore, wi_idiv, wi_iinc, wi_goto, cnt_40, aTy_40, aLn_40, arr_40, cnt_41, aTy_41, aLn_41, arr_41, cnt_47, aTy_47, aLn_47, arr_47, B_X9_keptBy_42, wi_invokevirtual, B_X9_keptBy_49, B_X9_keptBy_52, wi_icmp_ge, wi_iaload, fldv_8_20, fds_8_20, wi_iand, wi_if_ne, fldv_8_21, fds_8_21, B_X9_keptBy_95, wi_icmp_gt, B_X9_keptBy_108, B_X9_keptBy_109, B_X9_keptBy_127, wi_if_eq, wi_invokestatic, B_X9_keptBy_144, wi_iadd, B_X9_keptBy_148, B_X9_keptBy_149, B_X9_keptBy_157, wi_ireturn, no0, no1, nz1, nz2, nz3, nz4, nz5, nz7, nz8, Classical.not_not, bz0, bz1, wi_nil, ld_0, ld_s, isIv_I, isLv_L, isRv_R, true_and, and_true, lset_0, lset_1, lset_s, avw_I, avw_L, avw_R, clr_cons, clr_nil, kst_0, kst_1, kstL_0, kstL_1, addk_I, pA_0, pA_s, pD_0, pD_s, wid_nil, wid_cons, rcv_c, putv_I, putv_L, List.length_cons, List.length_nil, List.set_cons_zero, List.set_cons_succ, not_false_eq_true, Nat.reduceMod, Nat.reduceDiv, Nat.reduceEqDiff, Nat.reduceLT, Nat.reduceLeDiff, Nat.reduceAdd, Nat.reduceSub, reduceIte, Nat.lt_irrefl, Nat.zero_ne_one, Nat.one_ne_zero, Nat.zero_add, List.nil_append, List.cons_append, Option.toList_some, Option.toList_none, forall_const, false_implies, true_implies, false_or, or_false, true_or, or_true, i_le, i_lt, i_eq, i_eq0, i_lt0, i_0le, i_0lt, i_le0, i_in1, i_cl, nI_add, pk_mul, pk_sub, i_div, i_rem, i_sh1, i_bit, i_or, i_and, i_andn, nt_le, nf_le, nt_lt, nf_lt, nt_eq, nf_eq, not_true_eq_false, and_self, and_false, false_and, eq_self, Bool.toNat_true, Bool.toNat_false, i_bool, i_bool1, Bool.false_eq_true, Bool.true_eq_false, reduceCtorEq, i_neg1, i_neg2, i_neg3, i_neg4, i_neg5, i_neg6, i_neg7, i_neg8, i_neg9, i_nega, i_negb, i_negc, i_max2, i_min2])
      refine s_X9_keptBy_52 ?_
      simp (disch := omega) only [B_X9_keptBy_52, wi_iload, wi_iload_n, wi_icmp_ge, wi_if_lt, wi_aload_n, wi_getfield, fldv_8_28, fds_8_28, cnt_8, wi_iaload, fldv_8_20, fds_8_20, wi_iconst, wi_iand, wi_if_ne, fldv_8_21, fds_8_21, wi_invokevirtual, cnt_40, aTy_40, aLn_40, arr_40, cnt_41, aTy_41, aLn_41, arr_41, cnt_47, aTy_47, aLn_47, arr_47, no0, no1, nz1, nz2, nz3, nz4, nz5, nz7, nz8, Classical.not_not, bz0, bz1, wi_nil, ld_0, ld_s, isIv_I, isLv_L, isRv_R, true_and, and_true, lset_0, lset_1, lset_s, avw_I, avw_L, avw_R, clr_cons, clr_nil, kst_0, kst_1, kstL_0, kstL_1, addk_I, pA_0, pA_s, pD_0, pD_s, wid_nil, wid_cons, rcv_c, putv_I, putv_L, List.length_cons, List.length_nil, List.set_cons_zero, List.set_cons_succ, not_false_eq_true, Nat.reduceMod, Nat.reduceDiv, Nat.reduceEqDiff, Nat.reduceLT, Nat.reduceLeDiff, Nat.reduceAdd, Nat.reduceSub, reduceIte, Nat.lt_irrefl, Nat.zero_ne_one, Nat.one_ne_zero, Nat.zero_add, List.nil_append, List.cons_append, Option.toList_some, Option.toList_none, forall_const, false_implies, true_implies, false_or, or_false, true_or, or_true, i_le, i_lt, i_eq, i_eq0, i_lt0, i_0le, i_0lt, i_le0, i_in1, i_cl, nI_add, pk_mul, pk_sub, i_div, i_rem, i_sh1, i_bit, i_or, i_and, i_andn, nt_le, nf_le, nt_lt, nf_lt, nt_eq, nf_eq, not_true_eq_false, and_self, and_false, false_and, eq_self, Bool.toNat_true, Bool.toNat_false, i_bool, i_bool1, Bool.false_eq_true, Bool.true_eq_false, reduceCtorEq, i_neg1, i_neg2, i_neg3, i_neg4, i_neg5, i_neg6, i_neg7, i_neg8, i_neg9, i_nega, i_negb, i_negc, i_max2, i_min2]
      have := fin S2 (hf.trans f2)
      rw [← hR] at this
      by_cases c : n ≤ k + 1
      · simp (disch := omega) only [no0, no1, nz1, nz2, nz3, nz4, nz5, nz7, nz8, Classical.not_not, bz0, bz1, wi_nil, ld_0, ld_s, isIv_I, isLv_L, isRv_R, true_and, and_true, lset_0, lset_1, lset_s, avw_I, avw_L, avw_R, clr_cons, clr_nil, kst_0, kst_1, kstL_0, kstL_1, addk_I, pA_0, pA_s, pD_0, pD_s, wid_nil, wid_cons, rcv_c, putv_I, putv_L, List.length_cons, List.length_nil, List.set_cons_zero, List.set_cons_succ, not_false_eq_true, Nat.reduceMod, Nat.reduceDiv, Nat.reduceEqDiff, Nat.reduceLT, Nat.reduceLeDiff, Nat.reduceAdd, Nat.reduceSub, reduceIte, Nat.lt_irrefl, Nat.zero_ne_one, Nat.one_ne_zero, Nat.zero_add, List.nil_append, List.cons_append, Option.toList_some, Option.toList_none, forall_const, false_implies, true_implies, false_or, or_false, true_or, or_true, i_le, i_lt, i_eq, i_eq0, i_lt0, i_0le, i_0lt, i_le0, i_in1, i_cl, nI_add, pk_mul, pk_sub, i_div, i_rem, i_sh1, i_bit, i_or, i_and, i_andn, nt_le, nf_le, nt_lt, nf_lt, nt_eq, nf_eq, not_true_eq_false, and_self, and_false, false_and, eq_self, Bool.toNat_true, Bool.toNat_false, i_bool, i_bool1, Bool.false_eq_true, Bool.true_eq_false, reduceCtorEq, i_neg1, i_neg2, i_neg3, i_neg4, i_neg5, i_neg6, i_neg7, i_neg8, i_neg9, i_nega, i_negb, i_negc, i_max2, i_min2]
        try simp (disch := omega) only [no0, no1, nz1, nz2, nz3, nz4, nz5, nz7, nz8, Classical.not_not, bz0, bz1, wi_nil, ld_0, ld_s, isIv_I, isLv_L, isRv_R, true_and, and_true, lset_0, lset_1, lset_s, avw_I, avw_L, avw_R, clr_cons, clr_nil, kst_0, kst_1, kstL_0, kstL_1, addk_I, pA_0, pA_s, pD_0, pD_s, wid_nil, wid_cons, rcv_c, putv_I, putv_L, List.length_cons, List.length_nil, List.set_cons_zero, List.set_cons_succ, not_false_eq_true, Nat.reduceMod, Nat.reduceDiv, Nat.reduceEqDiff, Nat.reduceLT, Nat.reduceLeDiff, Nat.reduceAdd, Nat.reduceSub, reduceIte, Nat.lt_irrefl, Nat.zero_ne_one, Nat.one_ne_zero, Nat.zero_add, List.nil_append, List.cons_append, Option.toList_some, Option.toList_none, forall_const, false_implies, true_implies, false_or, or_false, true_or, or_true, i_le, i_lt, i_eq, i_eq0, i_lt0, i_0le, i_0lt, i_le0, i_in1, i_cl, nI_add, pk_mul, pk_sub, i_div, i_rem, i_sh1, i_bit, i_or, i_and, i_andn, nt_le, nf_le, nt_lt, nf_lt, nt_eq, nf_eq, not_true_eq_false, and_self, and_false, false_and, eq_self, Bool.toNat_true, Bool.toNat_false, i_bool, i_bool1, Bool.false_eq_true, Bool.true_eq_false, reduceCtorEq, i_neg1, i_neg2, i_neg3, i_neg4, i_neg5, i_neg6, i_neg7, i_neg8, i_neg9, i_nega, i_negb, i_negc, i_max2, i_min2, wi_nil]
        repeat (
          first
          | refine s_X9_keptBy_0 ?_
          | refine s_X9_keptBy_42 ?_
          | refine s_X9_keptBy_49 ?_
          | refine s_X9_keptBy_95 ?_
          | refine s_X9_keptBy_108 ?_
          | refine s_X9_keptBy_109 ?_
          | refine s_X9_keptBy_127 ?_
          | refine s_X9_keptBy_144 ?_
          | refine s_X9_keptBy_148 ?_
          | refine s_X9_keptBy_149 ?_
          | refine s_X9_keptBy_157 ?_
          simp (disch := omega) only [B_X9_keptBy_0, wi_iload_n, wi_istore_n, wi_iconst, wi_isub, wi_istore, B_X9_keptBy_7, wi_iload, wi_if_lt, wi_aload_n, wi_getfield, fldv_8_28, fds_8_28, cnt_8, fldv_8_10, fds_8_10, wi_ishl, wi_irem, wi_iastore, wi_idiv, wi_iinc, wi_goto, cnt_40, aTy_40, aLn_40, arr_40, cnt_41, aTy_41, aLn_41, arr_41, cnt_47, aTy_47, aLn_47, arr_47, B_X9_keptBy_42, wi_invokevirtual, B_X9_keptBy_49, B_X9_keptBy_52, wi_icmp_ge, wi_iaload, fldv_8_20, fds_8_20, wi_iand, wi_if_ne, fldv_8_21, fds_8_21, B_X9_keptBy_95, wi_icmp_gt, B_X9_keptBy_108, B_X9_keptBy_109, B_X9_keptBy_127, wi_if_eq, wi_invokestatic, B_X9_keptBy_144, wi_iadd, B_X9_keptBy_148, B_X9_keptBy_149, B_X9_keptBy_157, wi_ireturn, no0, no1, nz1, nz2, nz3, nz4, nz5, nz7, nz8, Classical.not_not, bz0, bz1, wi_nil, ld_0, ld_s, isIv_I, isLv_L, isRv_R, true_and, and_true, lset_0, lset_1, lset_s, avw_I, avw_L, avw_R, clr_cons, clr_nil, kst_0, kst_1, kstL_0, kstL_1, addk_I, pA_0, pA_s, pD_0, pD_s, wid_nil, wid_cons, rcv_c, putv_I, putv_L, List.length_cons, List.length_nil, List.set_cons_zero, List.set_cons_succ, not_false_eq_true, Nat.reduceMod, Nat.reduceDiv, Nat.reduceEqDiff, Nat.reduceLT, Nat.reduceLeDiff, Nat.reduceAdd, Nat.reduceSub, reduceIte, Nat.lt_irrefl, Nat.zero_ne_one, Nat.one_ne_zero, Nat.zero_add, List.nil_append, List.cons_append, Option.toList_some, Option.toList_none, forall_const, false_implies, true_implies, false_or, or_false, true_or, or_true, i_le, i_lt, i_eq, i_eq0, i_lt0, i_0le, i_0lt, i_le0, i_in1, i_cl, nI_add, pk_mul, pk_sub, i_div, i_rem, i_sh1, i_bit, i_or, i_and, i_andn, nt_le, nf_le, nt_lt, nf_lt, nt_eq, nf_eq, not_true_eq_false, and_self, and_false, false_and, eq_self, Bool.toNat_true, Bool.toNat_false, i_bool, i_bool1, Bool.false_eq_true, Bool.true_eq_false, reduceCtorEq, i_neg1, i_neg2, i_neg3, i_neg4, i_neg5, i_neg6, i_neg7, i_neg8, i_neg9, i_nega, i_negb, i_negc, i_max2, i_min2])
        exact this
      · simp (disch := omega) only [no0, no1, nz1, nz2, nz3, nz4, nz5, nz7, nz8, Classical.not_not, bz0, bz1, wi_nil, ld_0, ld_s, isIv_I, isLv_L, isRv_R, true_and, and_true, lset_0, lset_1, lset_s, avw_I, avw_L, avw_R, clr_cons, clr_nil, kst_0, kst_1, kstL_0, kstL_1, addk_I, pA_0, pA_s, pD_0, pD_s, wid_nil, wid_cons, rcv_c, putv_I, putv_L, List.length_cons, List.length_nil, List.set_cons_zero, List.set_cons_succ, not_false_eq_true, Nat.reduceMod, Nat.reduceDiv, Nat.reduceEqDiff, Nat.reduceLT, Nat.reduceLeDiff, Nat.reduceAdd, Nat.reduceSub, reduceIte, Nat.lt_irrefl, Nat.zero_ne_one, Nat.one_ne_zero, Nat.zero_add, List.nil_append, List.cons_append, Option.toList_some, Option.toList_none, forall_const, false_implies, true_implies, false_or, or_false, true_or, or_true, i_le, i_lt, i_eq, i_eq0, i_lt0, i_0le, i_0lt, i_le0, i_in1, i_cl, nI_add, pk_mul, pk_sub, i_div, i_rem, i_sh1, i_bit, i_or, i_and, i_andn, nt_le, nf_le, nt_lt, nf_lt, nt_eq, nf_eq, not_true_eq_false, and_self, and_false, false_and, eq_self, Bool.toNat_true, Bool.toNat_false, i_bool, i_bool1, Bool.false_eq_true, Bool.true_eq_false, reduceCtorEq, i_neg1, i_neg2, i_neg3, i_neg4, i_neg5, i_neg6, i_neg7, i_neg8, i_neg9, i_nega, i_negb, i_negc, i_max2, i_min2]
        try simp (disch := omega) only [no0, no1, nz1, nz2, nz3, nz4, nz5, nz7, nz8, Classical.not_not, bz0, bz1, wi_nil, ld_0, ld_s, isIv_I, isLv_L, isRv_R, true_and, and_true, lset_0, lset_1, lset_s, avw_I, avw_L, avw_R, clr_cons, clr_nil, kst_0, kst_1, kstL_0, kstL_1, addk_I, pA_0, pA_s, pD_0, pD_s, wid_nil, wid_cons, rcv_c, putv_I, putv_L, List.length_cons, List.length_nil, List.set_cons_zero, List.set_cons_succ, not_false_eq_true, Nat.reduceMod, Nat.reduceDiv, Nat.reduceEqDiff, Nat.reduceLT, Nat.reduceLeDiff, Nat.reduceAdd, Nat.reduceSub, reduceIte, Nat.lt_irrefl, Nat.zero_ne_one, Nat.one_ne_zero, Nat.zero_add, List.nil_append, List.cons_append, Option.toList_some, Option.toList_none, forall_const, false_implies, true_implies, false_or, or_false, true_or, or_true, i_le, i_lt, i_eq, i_eq0, i_lt0, i_0le, i_0lt, i_le0, i_in1, i_cl, nI_add, pk_mul, pk_sub, i_div, i_rem, i_sh1, i_bit, i_or, i_and, i_andn, nt_le, nf_le, nt_lt, nf_lt, nt_eq, nf_eq, not_true_eq_false, and_self, and_false, false_and, eq_self, Bool.toNat_true, Bool.toNat_false, i_bool, i_bool1, Bool.false_eq_true, Bool.true_eq_false, reduceCtorEq, i_neg1, i_neg2, i_neg3, i_neg4, i_neg5, i_neg6, i_neg7, i_neg8, i_neg9, i_nega, i_negb, i_negc, i_max2, i_min2, wi_nil]
        repeat (
          first
          | refine s_X9_keptBy_0 ?_
          | refine s_X9_keptBy_42 ?_
          | refine s_X9_keptBy_49 ?_
          | refine s_X9_keptBy_95 ?_
          | refine s_X9_keptBy_108 ?_
          | refine s_X9_keptBy_109 ?_
          | refine s_X9_keptBy_127 ?_
          | refine s_X9_keptBy_144 ?_
          | refine s_X9_keptBy_148 ?_
          | refine s_X9_keptBy_149 ?_
          | refine s_X9_keptBy_157 ?_
          simp (disch := omega) only [B_X9_keptBy_0, wi_iload_n, wi_istore_n, wi_iconst, wi_isub, wi_istore, B_X9_keptBy_7, wi_iload, wi_if_lt, wi_aload_n, wi_getfield, fldv_8_28, fds_8_28, cnt_8, fldv_8_10, fds_8_10, wi_ishl, wi_irem, wi_iastore, wi_idiv, wi_iinc, wi_goto, cnt_40, aTy_40, aLn_40, arr_40, cnt_41, aTy_41, aLn_41, arr_41, cnt_47, aTy_47, aLn_47, arr_47, B_X9_keptBy_42, wi_invokevirtual, B_X9_keptBy_49, B_X9_keptBy_52, wi_icmp_ge, wi_iaload, fldv_8_20, fds_8_20, wi_iand, wi_if_ne, fldv_8_21, fds_8_21, B_X9_keptBy_95, wi_icmp_gt, B_X9_keptBy_108, B_X9_keptBy_109, B_X9_keptBy_127, wi_if_eq, wi_invokestatic, B_X9_keptBy_144, wi_iadd, B_X9_keptBy_148, B_X9_keptBy_149, B_X9_keptBy_157, wi_ireturn, no0, no1, nz1, nz2, nz3, nz4, nz5, nz7, nz8, Classical.not_not, bz0, bz1, wi_nil, ld_0, ld_s, isIv_I, isLv_L, isRv_R, true_and, and_true, lset_0, lset_1, lset_s, avw_I, avw_L, avw_R, clr_cons, clr_nil, kst_0, kst_1, kstL_0, kstL_1, addk_I, pA_0, pA_s, pD_0, pD_s, wid_nil, wid_cons, rcv_c, putv_I, putv_L, List.length_cons, List.length_nil, List.set_cons_zero, List.set_cons_succ, not_false_eq_true, Nat.reduceMod, Nat.reduceDiv, Nat.reduceEqDiff, Nat.reduceLT, Nat.reduceLeDiff, Nat.reduceAdd, Nat.reduceSub, reduceIte, Nat.lt_irrefl, Nat.zero_ne_one, Nat.one_ne_zero, Nat.zero_add, List.nil_append, List.cons_append, Option.toList_some, Option.toList_none, forall_const, false_implies, true_implies, false_or, or_false, true_or, or_true, i_le, i_lt, i_eq, i_eq0, i_lt0, i_0le, i_0lt, i_le0, i_in1, i_cl, nI_add, pk_mul, pk_sub, i_div, i_rem, i_sh1, i_bit, i_or, i_and, i_andn, nt_le, nf_le, nt_lt, nf_lt, nt_eq, nf_eq, not_true_eq_false, and_self, and_false, false_and, eq_self, Bool.toNat_true, Bool.toNat_false, i_bool, i_bool1, Bool.false_eq_true, Bool.true_eq_false, reduceCtorEq, i_neg1, i_neg2, i_neg3, i_neg4, i_neg5, i_neg6, i_neg7, i_neg8, i_neg9, i_nega, i_negb, i_negc, i_max2, i_min2])
        exact this
    refine s_X9_keptBy_52 ?_
    simp (disch := omega) only [B_X9_keptBy_52, wi_iload, wi_iload_n, wi_icmp_ge, wi_if_lt, wi_aload_n, wi_getfield, fldv_8_28, fds_8_28, cnt_8, wi_iaload, fldv_8_20, fds_8_20, wi_iconst, wi_iand, wi_if_ne, fldv_8_21, fds_8_21, wi_invokevirtual, cnt_40, aTy_40, aLn_40, arr_40, cnt_41, aTy_41, aLn_41, arr_41, cnt_47, aTy_47, aLn_47, arr_47, no0, no1, nz1, nz2, nz3, nz4, nz5, nz7, nz8, Classical.not_not, bz0, bz1, wi_nil, ld_0, ld_s, isIv_I, isLv_L, isRv_R, true_and, and_true, lset_0, lset_1, lset_s, avw_I, avw_L, avw_R, clr_cons, clr_nil, kst_0, kst_1, kstL_0, kstL_1, addk_I, pA_0, pA_s, pD_0, pD_s, wid_nil, wid_cons, rcv_c, putv_I, putv_L, List.length_cons, List.length_nil, List.set_cons_zero, List.set_cons_succ, not_false_eq_true, Nat.reduceMod, Nat.reduceDiv, Nat.reduceEqDiff, Nat.reduceLT, Nat.reduceLeDiff, Nat.reduceAdd, Nat.reduceSub, reduceIte, Nat.lt_irrefl, Nat.zero_ne_one, Nat.one_ne_zero, Nat.zero_add, List.nil_append, List.cons_append, Option.toList_some, Option.toList_none, forall_const, false_implies, true_implies, false_or, or_false, true_or, or_true, i_le, i_lt, i_eq, i_eq0, i_lt0, i_0le, i_0lt, i_le0, i_in1, i_cl, nI_add, pk_mul, pk_sub, i_div, i_rem, i_sh1, i_bit, i_or, i_and, i_andn, nt_le, nf_le, nt_lt, nf_lt, nt_eq, nf_eq, not_true_eq_false, and_self, and_false, false_and, eq_self, Bool.toNat_true, Bool.toNat_false, i_bool, i_bool1, Bool.false_eq_true, Bool.true_eq_false, reduceCtorEq, i_neg1, i_neg2, i_neg3, i_neg4, i_neg5, i_neg6, i_neg7, i_neg8, i_neg9, i_nega, i_negb, i_negc, i_max2, i_min2, hs, hg40]
    by_cases c1 : q k &&& Y 6 4 = 0
    · simp (disch := omega) only [no0, no1, nz1, nz2, nz3, nz4, nz5, nz7, nz8, Classical.not_not, bz0, bz1, wi_nil, ld_0, ld_s, isIv_I, isLv_L, isRv_R, true_and, and_true, lset_0, lset_1, lset_s, avw_I, avw_L, avw_R, clr_cons, clr_nil, kst_0, kst_1, kstL_0, kstL_1, addk_I, pA_0, pA_s, pD_0, pD_s, wid_nil, wid_cons, rcv_c, putv_I, putv_L, List.length_cons, List.length_nil, List.set_cons_zero, List.set_cons_succ, not_false_eq_true, Nat.reduceMod, Nat.reduceDiv, Nat.reduceEqDiff, Nat.reduceLT, Nat.reduceLeDiff, Nat.reduceAdd, Nat.reduceSub, reduceIte, Nat.lt_irrefl, Nat.zero_ne_one, Nat.one_ne_zero, Nat.zero_add, List.nil_append, List.cons_append, Option.toList_some, Option.toList_none, forall_const, false_implies, true_implies, false_or, or_false, true_or, or_true, i_le, i_lt, i_eq, i_eq0, i_lt0, i_0le, i_0lt, i_le0, i_in1, i_cl, nI_add, pk_mul, pk_sub, i_div, i_rem, i_sh1, i_bit, i_or, i_and, i_andn, nt_le, nf_le, nt_lt, nf_lt, nt_eq, nf_eq, not_true_eq_false, and_self, and_false, false_and, eq_self, Bool.toNat_true, Bool.toNat_false, i_bool, i_bool1, Bool.false_eq_true, Bool.true_eq_false, reduceCtorEq, i_neg1, i_neg2, i_neg3, i_neg4, i_neg5, i_neg6, i_neg7, i_neg8, i_neg9, i_nega, i_negb, i_negc, i_max2, i_min2]
      refine c_costsOf (Or.inr rfl) hy ho (by omega) (by omega) ?_
      by_cases c2 : csum (ycz Y) 5 (q k) ≤ Y 6 2
      · have hokt := hok.mpr ⟨⟨by rw [e0]; exact hqk, c1⟩, c2⟩
        rw [hokt, if_pos rfl] at hR
        try simp (disch := omega) only [no0, no1, nz1, nz2, nz3, nz4, nz5, nz7, nz8, Classical.not_not, bz0, bz1, wi_nil, ld_0, ld_s, isIv_I, isLv_L, isRv_R, true_and, and_true, lset_0, lset_1, lset_s, avw_I, avw_L, avw_R, clr_cons, clr_nil, kst_0, kst_1, kstL_0, kstL_1, addk_I, pA_0, pA_s, pD_0, pD_s, wid_nil, wid_cons, rcv_c, putv_I, putv_L, List.length_cons, List.length_nil, List.set_cons_zero, List.set_cons_succ, not_false_eq_true, Nat.reduceMod, Nat.reduceDiv, Nat.reduceEqDiff, Nat.reduceLT, Nat.reduceLeDiff, Nat.reduceAdd, Nat.reduceSub, reduceIte, Nat.lt_irrefl, Nat.zero_ne_one, Nat.one_ne_zero, Nat.zero_add, List.nil_append, List.cons_append, Option.toList_some, Option.toList_none, forall_const, false_implies, true_implies, false_or, or_false, true_or, or_true, i_le, i_lt, i_eq, i_eq0, i_lt0, i_0le, i_0lt, i_le0, i_in1, i_cl, nI_add, pk_mul, pk_sub, i_div, i_rem, i_sh1, i_bit, i_or, i_and, i_andn, nt_le, nf_le, nt_lt, nf_lt, nt_eq, nf_eq, not_true_eq_false, and_self, and_false, false_and, eq_self, Bool.toNat_true, Bool.toNat_false, i_bool, i_bool1, Bool.false_eq_true, Bool.true_eq_false, reduceCtorEq, i_neg1, i_neg2, i_neg3, i_neg4, i_neg5, i_neg6, i_neg7, i_neg8, i_neg9, i_nega, i_negb, i_negc, i_max2, i_min2, hw, hs, wi_nil]
        repeat (
          first
          | refine s_X9_keptBy_0 ?_
          | refine s_X9_keptBy_42 ?_
          | refine s_X9_keptBy_49 ?_
          | refine s_X9_keptBy_95 ?_
          | refine s_X9_keptBy_108 ?_
          | refine s_X9_keptBy_109 ?_
          | refine s_X9_keptBy_127 ?_
          | refine s_X9_keptBy_144 ?_
          | refine s_X9_keptBy_148 ?_
          | refine s_X9_keptBy_149 ?_
          | refine s_X9_keptBy_157 ?_
          simp (disch := omega) only [B_X9_keptBy_0, wi_iload_n, wi_istore_n, wi_iconst, wi_isub, wi_istore, B_X9_keptBy_7, wi_iload, wi_if_lt, wi_aload_n, wi_getfield, fldv_8_28, fds_8_28, cnt_8, fldv_8_10, fds_8_10, wi_ishl, wi_irem, wi_iastore, wi_idiv, wi_iinc, wi_goto, cnt_40, aTy_40, aLn_40, arr_40, cnt_41, aTy_41, aLn_41, arr_41, cnt_47, aTy_47, aLn_47, arr_47, B_X9_keptBy_42, wi_invokevirtual, B_X9_keptBy_49, B_X9_keptBy_52, wi_icmp_ge, wi_iaload, fldv_8_20, fds_8_20, wi_iand, wi_if_ne, fldv_8_21, fds_8_21, B_X9_keptBy_95, wi_icmp_gt, B_X9_keptBy_108, B_X9_keptBy_109, B_X9_keptBy_127, wi_if_eq, wi_invokestatic, B_X9_keptBy_144, wi_iadd, B_X9_keptBy_148, B_X9_keptBy_149, B_X9_keptBy_157, wi_ireturn, no0, no1, nz1, nz2, nz3, nz4, nz5, nz7, nz8, Classical.not_not, bz0, bz1, wi_nil, ld_0, ld_s, isIv_I, isLv_L, isRv_R, true_and, and_true, lset_0, lset_1, lset_s, avw_I, avw_L, avw_R, clr_cons, clr_nil, kst_0, kst_1, kstL_0, kstL_1, addk_I, pA_0, pA_s, pD_0, pD_s, wid_nil, wid_cons, rcv_c, putv_I, putv_L, List.length_cons, List.length_nil, List.set_cons_zero, List.set_cons_succ, not_false_eq_true, Nat.reduceMod, Nat.reduceDiv, Nat.reduceEqDiff, Nat.reduceLT, Nat.reduceLeDiff, Nat.reduceAdd, Nat.reduceSub, reduceIte, Nat.lt_irrefl, Nat.zero_ne_one, Nat.one_ne_zero, Nat.zero_add, List.nil_append, List.cons_append, Option.toList_some, Option.toList_none, forall_const, false_implies, true_implies, false_or, or_false, true_or, or_true, i_le, i_lt, i_eq, i_eq0, i_lt0, i_0le, i_0lt, i_le0, i_in1, i_cl, nI_add, pk_mul, pk_sub, i_div, i_rem, i_sh1, i_bit, i_or, i_and, i_andn, nt_le, nf_le, nt_lt, nf_lt, nt_eq, nf_eq, not_true_eq_false, and_self, and_false, false_and, eq_self, Bool.toNat_true, Bool.toNat_false, i_bool, i_bool1, Bool.false_eq_true, Bool.true_eq_false, reduceCtorEq, i_neg1, i_neg2, i_neg3, i_neg4, i_neg5, i_neg6, i_neg7, i_neg8, i_neg9, i_nega, i_negb, i_negc, i_max2, i_min2, hw, hs])
        refine c_passes (s := q k) (o := 0) (Or.inr rfl) hy ho (by omega) (by omega) (by decide) (by omega) (fun S2 y2 f2 => ?_)
        rw [psM_ok ho c1] at y2
        have hs2 : gA S2 47 0 k = nI (q k) := by rw [f2.2.2 47 0 (by decide)]; exact hs
        try simp (disch := omega) only [no0, no1, nz1, nz2, nz3, nz4, nz5, nz7, nz8, Classical.not_not, bz0, bz1, wi_nil, ld_0, ld_s, isIv_I, isLv_L, isRv_R, true_and, and_true, lset_0, lset_1, lset_s, avw_I, avw_L, avw_R, clr_cons, clr_nil, kst_0, kst_1, kstL_0, kstL_1, addk_I, pA_0, pA_s, pD_0, pD_s, wid_nil, wid_cons, rcv_c, putv_I, putv_L, List.length_cons, List.length_nil, List.set_cons_zero, List.set_cons_succ, not_false_eq_true, Nat.reduceMod, Nat.reduceDiv, Nat.reduceEqDiff, Nat.reduceLT, Nat.reduceLeDiff, Nat.reduceAdd, Nat.reduceSub, reduceIte, Nat.lt_irrefl, Nat.zero_ne_one, Nat.one_ne_zero, Nat.zero_add, List.nil_append, List.cons_append, Option.toList_some, Option.toList_none, forall_const, false_implies, true_implies, false_or, or_false, true_or, or_true, i_le, i_lt, i_eq, i_eq0, i_lt0, i_0le, i_0lt, i_le0, i_in1, i_cl, nI_add, pk_mul, pk_sub, i_div, i_rem, i_sh1, i_bit, i_or, i_and, i_andn, nt_le, nf_le, nt_lt, nf_lt, nt_eq, nf_eq, not_true_eq_false, and_self, and_false, false_and, eq_self, Bool.toNat_true, Bool.toNat_false, i_bool, i_bool1, Bool.false_eq_true, Bool.true_eq_false, reduceCtorEq, i_neg1, i_neg2, i_neg3, i_neg4, i_neg5, i_neg6, i_neg7, i_neg8, i_neg9, i_nega, i_negb, i_negc, i_max2, i_min2, hs2, wi_nil]
        repeat (
          first
          | refine s_X9_keptBy_0 ?_
          | refine s_X9_keptBy_42 ?_
          | refine s_X9_keptBy_49 ?_
          | refine s_X9_keptBy_95 ?_
          | refine s_X9_keptBy_108 ?_
          | refine s_X9_keptBy_109 ?_
          | refine s_X9_keptBy_127 ?_
          | refine s_X9_keptBy_144 ?_
          | refine s_X9_keptBy_148 ?_
          | refine s_X9_keptBy_149 ?_
          | refine s_X9_keptBy_157 ?_
          simp (disch := omega) only [B_X9_keptBy_0, wi_iload_n, wi_istore_n, wi_iconst, wi_isub, wi_istore, B_X9_keptBy_7, wi_iload, wi_if_lt, wi_aload_n, wi_getfield, fldv_8_28, fds_8_28, cnt_8, fldv_8_10, fds_8_10, wi_ishl, wi_irem, wi_iastore, wi_idiv, wi_iinc, wi_goto, cnt_40, aTy_40, aLn_40, arr_40, cnt_41, aTy_41, aLn_41, arr_41, cnt_47, aTy_47, aLn_47, arr_47, B_X9_keptBy_42, wi_invokevirtual, B_X9_keptBy_49, B_X9_keptBy_52, wi_icmp_ge, wi_iaload, fldv_8_20, fds_8_20, wi_iand, wi_if_ne, fldv_8_21, fds_8_21, B_X9_keptBy_95, wi_icmp_gt, B_X9_keptBy_108, B_X9_keptBy_109, B_X9_keptBy_127, wi_if_eq, wi_invokestatic, B_X9_keptBy_144, wi_iadd, B_X9_keptBy_148, B_X9_keptBy_149, B_X9_keptBy_157, wi_ireturn, no0, no1, nz1, nz2, nz3, nz4, nz5, nz7, nz8, Classical.not_not, bz0, bz1, wi_nil, ld_0, ld_s, isIv_I, isLv_L, isRv_R, true_and, and_true, lset_0, lset_1, lset_s, avw_I, avw_L, avw_R, clr_cons, clr_nil, kst_0, kst_1, kstL_0, kstL_1, addk_I, pA_0, pA_s, pD_0, pD_s, wid_nil, wid_cons, rcv_c, putv_I, putv_L, List.length_cons, List.length_nil, List.set_cons_zero, List.set_cons_succ, not_false_eq_true, Nat.reduceMod, Nat.reduceDiv, Nat.reduceEqDiff, Nat.reduceLT, Nat.reduceLeDiff, Nat.reduceAdd, Nat.reduceSub, reduceIte, Nat.lt_irrefl, Nat.zero_ne_one, Nat.one_ne_zero, Nat.zero_add, List.nil_append, List.cons_append, Option.toList_some, Option.toList_none, forall_const, false_implies, true_implies, false_or, or_false, true_or, or_true, i_le, i_lt, i_eq, i_eq0, i_lt0, i_0le, i_0lt, i_le0, i_in1, i_cl, nI_add, pk_mul, pk_sub, i_div, i_rem, i_sh1, i_bit, i_or, i_and, i_andn, nt_le, nf_le, nt_lt, nf_lt, nt_eq, nf_eq, not_true_eq_false, and_self, and_false, false_and, eq_self, Bool.toNat_true, Bool.toNat_false, i_bool, i_bool1, Bool.false_eq_true, Bool.true_eq_false, reduceCtorEq, i_neg1, i_neg2, i_neg3, i_neg4, i_neg5, i_neg6, i_neg7, i_neg8, i_neg9, i_nega, i_negb, i_negc, i_max2, i_min2, hs2])
        refine c_bits (by omega) ?_
        try simp (disch := omega) only [no0, no1, nz1, nz2, nz3, nz4, nz5, nz7, nz8, Classical.not_not, bz0, bz1, wi_nil, ld_0, ld_s, isIv_I, isLv_L, isRv_R, true_and, and_true, lset_0, lset_1, lset_s, avw_I, avw_L, avw_R, clr_cons, clr_nil, kst_0, kst_1, kstL_0, kstL_1, addk_I, pA_0, pA_s, pD_0, pD_s, wid_nil, wid_cons, rcv_c, putv_I, putv_L, List.length_cons, List.length_nil, List.set_cons_zero, List.set_cons_succ, not_false_eq_true, Nat.reduceMod, Nat.reduceDiv, Nat.reduceEqDiff, Nat.reduceLT, Nat.reduceLeDiff, Nat.reduceAdd, Nat.reduceSub, reduceIte, Nat.lt_irrefl, Nat.zero_ne_one, Nat.one_ne_zero, Nat.zero_add, List.nil_append, List.cons_append, Option.toList_some, Option.toList_none, forall_const, false_implies, true_implies, false_or, or_false, true_or, or_true, i_le, i_lt, i_eq, i_eq0, i_lt0, i_0le, i_0lt, i_le0, i_in1, i_cl, nI_add, pk_mul, pk_sub, i_div, i_rem, i_sh1, i_bit, i_or, i_and, i_andn, nt_le, nf_le, nt_lt, nf_lt, nt_eq, nf_eq, not_true_eq_false, and_self, and_false, false_and, eq_self, Bool.toNat_true, Bool.toNat_false, i_bool, i_bool1, Bool.false_eq_true, Bool.true_eq_false, reduceCtorEq, i_neg1, i_neg2, i_neg3, i_neg4, i_neg5, i_neg6, i_neg7, i_neg8, i_neg9, i_nega, i_negb, i_negc, i_max2, i_min2, wi_nil]
        repeat (
          first
          | refine s_X9_keptBy_0 ?_
          | refine s_X9_keptBy_42 ?_
          | refine s_X9_keptBy_49 ?_
          | refine s_X9_keptBy_95 ?_
          | refine s_X9_keptBy_108 ?_
          | refine s_X9_keptBy_109 ?_
          | refine s_X9_keptBy_127 ?_
          | refine s_X9_keptBy_144 ?_
          | refine s_X9_keptBy_148 ?_
          | refine s_X9_keptBy_149 ?_
          | refine s_X9_keptBy_157 ?_
          simp (disch := omega) only [B_X9_keptBy_0, wi_iload_n, wi_istore_n, wi_iconst, wi_isub, wi_istore, B_X9_keptBy_7, wi_iload, wi_if_lt, wi_aload_n, wi_getfield, fldv_8_28, fds_8_28, cnt_8, fldv_8_10, fds_8_10, wi_ishl, wi_irem, wi_iastore, wi_idiv, wi_iinc, wi_goto, cnt_40, aTy_40, aLn_40, arr_40, cnt_41, aTy_41, aLn_41, arr_41, cnt_47, aTy_47, aLn_47, arr_47, B_X9_keptBy_42, wi_invokevirtual, B_X9_keptBy_49, B_X9_keptBy_52, wi_icmp_ge, wi_iaload, fldv_8_20, fds_8_20, wi_iand, wi_if_ne, fldv_8_21, fds_8_21, B_X9_keptBy_95, wi_icmp_gt, B_X9_keptBy_108, B_X9_keptBy_109, B_X9_keptBy_127, wi_if_eq, wi_invokestatic, B_X9_keptBy_144, wi_iadd, B_X9_keptBy_148, B_X9_keptBy_149, B_X9_keptBy_157, wi_ireturn, no0, no1, nz1, nz2, nz3, nz4, nz5, nz7, nz8, Classical.not_not, bz0, bz1, wi_nil, ld_0, ld_s, isIv_I, isLv_L, isRv_R, true_and, and_true, lset_0, lset_1, lset_s, avw_I, avw_L, avw_R, clr_cons, clr_nil, kst_0, kst_1, kstL_0, kstL_1, addk_I, pA_0, pA_s, pD_0, pD_s, wid_nil, wid_cons, rcv_c, putv_I, putv_L, List.length_cons, List.length_nil, List.set_cons_zero, List.set_cons_succ, not_false_eq_true, Nat.reduceMod, Nat.reduceDiv, Nat.reduceEqDiff, Nat.reduceLT, Nat.reduceLeDiff, Nat.reduceAdd, Nat.reduceSub, reduceIte, Nat.lt_irrefl, Nat.zero_ne_one, Nat.one_ne_zero, Nat.zero_add, List.nil_append, List.cons_append, Option.toList_some, Option.toList_none, forall_const, false_implies, true_implies, false_or, or_false, true_or, or_true, i_le, i_lt, i_eq, i_eq0, i_lt0, i_0le, i_0lt, i_le0, i_in1, i_cl, nI_add, pk_mul, pk_sub, i_div, i_rem, i_sh1, i_bit, i_or, i_and, i_andn, nt_le, nf_le, nt_lt, nf_lt, nt_eq, nf_eq, not_true_eq_false, and_self, and_false, false_and, eq_self, Bool.toNat_true, Bool.toNat_false, i_bool, i_bool1, Bool.false_eq_true, Bool.true_eq_false, reduceCtorEq, i_neg1, i_neg2, i_neg3, i_neg4, i_neg5, i_neg6, i_neg7, i_neg8, i_neg9, i_nega, i_negb, i_negc, i_max2, i_min2])
        refine ih (k + 1) (t + bct (q k)) (psY Y (q k) 0) S2 (by omega) (by omega) y2 (psY_ok ho) (by rw [psY_sc.1]; exact e0) (by rw [psY_sc.2.2.2.2]; exact e4) ?_ (hf.trans f2)
        rw [← hR]
        cases Vv m (k + 1) (psY Y (q k) 0) q with
        | none => rfl
        | some v =>
          show some (t + bct (q k) + v) = some (t + (bct (q k) + v))
          rw [Nat.add_assoc]
      · try simp (disch := omega) only [no0, no1, nz1, nz2, nz3, nz4, nz5, nz7, nz8, Classical.not_not, bz0, bz1, wi_nil, ld_0, ld_s, isIv_I, isLv_L, isRv_R, true_and, and_true, lset_0, lset_1, lset_s, avw_I, avw_L, avw_R, clr_cons, clr_nil, kst_0, kst_1, kstL_0, kstL_1, addk_I, pA_0, pA_s, pD_0, pD_s, wid_nil, wid_cons, rcv_c, putv_I, putv_L, List.length_cons, List.length_nil, List.set_cons_zero, List.set_cons_succ, not_false_eq_true, Nat.reduceMod, Nat.reduceDiv, Nat.reduceEqDiff, Nat.reduceLT, Nat.reduceLeDiff, Nat.reduceAdd, Nat.reduceSub, reduceIte, Nat.lt_irrefl, Nat.zero_ne_one, Nat.one_ne_zero, Nat.zero_add, List.nil_append, List.cons_append, Option.toList_some, Option.toList_none, forall_const, false_implies, true_implies, false_or, or_false, true_or, or_true, i_le, i_lt, i_eq, i_eq0, i_lt0, i_0le, i_0lt, i_le0, i_in1, i_cl, nI_add, pk_mul, pk_sub, i_div, i_rem, i_sh1, i_bit, i_or, i_and, i_andn, nt_le, nf_le, nt_lt, nf_lt, nt_eq, nf_eq, not_true_eq_false, and_self, and_false, false_and, eq_self, Bool.toNat_true, Bool.toNat_false, i_bool, i_bool1, Bool.false_eq_true, Bool.true_eq_false, reduceCtorEq, i_neg1, i_neg2, i_neg3, i_neg4, i_neg5, i_neg6, i_neg7, i_neg8, i_neg9, i_nega, i_negb, i_negc, i_max2, i_min2, hw, wi_nil]
        repeat (
          first
          | refine s_X9_keptBy_0 ?_
          | refine s_X9_keptBy_42 ?_
          | refine s_X9_keptBy_49 ?_
          | refine s_X9_keptBy_95 ?_
          | refine s_X9_keptBy_109 ?_
          | refine s_X9_keptBy_127 ?_
          | refine s_X9_keptBy_144 ?_
          | refine s_X9_keptBy_148 ?_
          | refine s_X9_keptBy_149 ?_
          | refine s_X9_keptBy_157 ?_
          simp (disch := omega) only [B_X9_keptBy_0, wi_iload_n, wi_istore_n, wi_iconst, wi_isub, wi_istore, B_X9_keptBy_7, wi_iload, wi_if_lt, wi_aload_n, wi_getfield, fldv_8_28, fds_8_28, cnt_8, fldv_8_10, fds_8_10, wi_ishl, wi_irem, wi_iastore, wi_idiv, wi_iinc, wi_goto, cnt_40, aTy_40, aLn_40, arr_40, cnt_41, aTy_41, aLn_41, arr_41, cnt_47, aTy_47, aLn_47, arr_47, B_X9_keptBy_42, wi_invokevirtual, B_X9_keptBy_49, B_X9_keptBy_52, wi_icmp_ge, wi_iaload, fldv_8_20, fds_8_20, wi_iand, wi_if_ne, fldv_8_21, fds_8_21, B_X9_keptBy_95, wi_icmp_gt, B_X9_keptBy_108, B_X9_keptBy_109, B_X9_keptBy_127, wi_if_eq, wi_invokestatic, B_X9_keptBy_144, wi_iadd, B_X9_keptBy_148, B_X9_keptBy_149, B_X9_keptBy_157, wi_ireturn, no0, no1, nz1, nz2, nz3, nz4, nz5, nz7, nz8, Classical.not_not, bz0, bz1, wi_nil, ld_0, ld_s, isIv_I, isLv_L, isRv_R, true_and, and_true, lset_0, lset_1, lset_s, avw_I, avw_L, avw_R, clr_cons, clr_nil, kst_0, kst_1, kstL_0, kstL_1, addk_I, pA_0, pA_s, pD_0, pD_s, wid_nil, wid_cons, rcv_c, putv_I, putv_L, List.length_cons, List.length_nil, List.set_cons_zero, List.set_cons_succ, not_false_eq_true, Nat.reduceMod, Nat.reduceDiv, Nat.reduceEqDiff, Nat.reduceLT, Nat.reduceLeDiff, Nat.reduceAdd, Nat.reduceSub, reduceIte, Nat.lt_irrefl, Nat.zero_ne_one, Nat.one_ne_zero, Nat.zero_add, List.nil_append, List.cons_append, Option.toList_some, Option.toList_none, forall_const, false_implies, true_implies, false_or, or_false, true_or, or_true, i_le, i_lt, i_eq, i_eq0, i_lt0, i_0le, i_0lt, i_le0, i_in1, i_cl, nI_add, pk_mul, pk_sub, i_div, i_rem, i_sh1, i_bit, i_or, i_and, i_andn, nt_le, nf_le, nt_lt, nf_lt, nt_eq, nf_eq, not_true_eq_false, and_self, and_false, false_and, eq_self, Bool.toNat_true, Bool.toNat_false, i_bool, i_bool1, Bool.false_eq_true, Bool.true_eq_false, reduceCtorEq, i_neg1, i_neg2, i_neg3, i_neg4, i_neg5, i_neg6, i_neg7, i_neg8, i_neg9, i_nega, i_negb, i_negc, i_max2, i_min2, hw])
        refine bad ?_
        cases hb : okB Y (q k)
        · rfl
        · exact absurd (hok.mp hb).2 c2
    · simp (disch := omega) only [no0, no1, nz1, nz2, nz3, nz4, nz5, nz7, nz8, Classical.not_not, bz0, bz1, wi_nil, ld_0, ld_s, isIv_I, isLv_L, isRv_R, true_and, and_true, lset_0, lset_1, lset_s, avw_I, avw_L, avw_R, clr_cons, clr_nil, kst_0, kst_1, kstL_0, kstL_1, addk_I, pA_0, pA_s, pD_0, pD_s, wid_nil, wid_cons, rcv_c, putv_I, putv_L, List.length_cons, List.length_nil, List.set_cons_zero, List.set_cons_succ, not_false_eq_true, Nat.reduceMod, Nat.reduceDiv, Nat.reduceEqDiff, Nat.reduceLT, Nat.reduceLeDiff, Nat.reduceAdd, Nat.reduceSub, reduceIte, Nat.lt_irrefl, Nat.zero_ne_one, Nat.one_ne_zero, Nat.zero_add, List.nil_append, List.cons_append, Option.toList_some, Option.toList_none, forall_const, false_implies, true_implies, false_or, or_false, true_or, or_true, i_le, i_lt, i_eq, i_eq0, i_lt0, i_0le, i_0lt, i_le0, i_in1, i_cl, nI_add, pk_mul, pk_sub, i_div, i_rem, i_sh1, i_bit, i_or, i_and, i_andn, nt_le, nf_le, nt_lt, nf_lt, nt_eq, nf_eq, not_true_eq_false, and_self, and_false, false_and, eq_self, Bool.toNat_true, Bool.toNat_false, i_bool, i_bool1, Bool.false_eq_true, Bool.true_eq_false, reduceCtorEq, i_neg1, i_neg2, i_neg3, i_neg4, i_neg5, i_neg6, i_neg7, i_neg8, i_neg9, i_nega, i_negb, i_negc, i_max2, i_min2]
      refine bad ?_
      cases hb : okB Y (q k)
      · rfl
      · exact absurd (hok.mp hb).1.2 c1
theorem mb_le {N n : Nat} (hN : 0 < N) (h32 : N ≤ 32) : ∀ c, (mb N n Y c).1 ≤ 6 * n + 1 ∧ (mb N n Y c).2 ≤ c := by
  intro c
  induction c with
  | zero => exact ⟨Nat.zero_le _, Nat.le_refl _⟩
  | succ c ih =>
    rw [mb]
    cases hV : Vv n 0 Y (dgs N n c) with
    | none => exact ⟨ih.1, by have := ih.2; (try dsimp only); omega⟩
    | some v =>
      have := Vv_le n 0 Y (dgs N n c) v (fun t => by have := dgs_lt (N := N) (n := n) (c := c) (t := t) hN; omega) hV
      try dsimp only
      split
      · exact ⟨by (try dsimp only); omega, by (try dsimp only); omega⟩
      · exact ⟨ih.1, by have := ih.2; omega⟩
theorem okB_0 (ho : YOk B Y) : okB Y 0 = true := by
  rw [okB_iff ho (by decide)]
  exact ⟨⟨Nat.two_pow_pos _, Nat.zero_and _⟩, by rw [csum_high 5 0 0 (by decide) (by decide)]; exact Nat.zero_le _⟩
theorem Vv_0 : ∀ (k i B : Nat) (Y : Nat → Nat → Nat), YOk B Y → Vv k i Y (fun _ => 0) = some 0 := by
  intro k
  induction k with
  | zero => intro i B Y _; rfl
  | succ k ih =>
    intro i B Y ho
    rw [Vv, okB_0 ho, if_pos rfl, ih (i + 1) (B + 1) _ (psY_ok ho), bct_0]
    rfl
theorem mb_pos {N n : Nat} (ho : YOk B Y) : ∀ c, 1 ≤ (mb N n Y (c + 1)).1 := by
  intro c
  induction c with
  | zero =>
    rw [mb, dgs_0, Vv_0 n 0 B Y ho]
    exact Nat.le_refl 1
  | succ c ih =>
    rw [mb]
    cases Vv n 0 Y (dgs N n (c + 1)) with
    | none => exact ih
    | some v =>
      try dsimp only
      split
      · exact Nat.succ_le_succ (Nat.zero_le v)
      · exact ih
theorem tI_0 : tI 0 = -nI 1 := rfl
theorem tI_s {k : Nat} : tI (k + 1) = nI k := by unfold tI; rw [if_neg (by omega)]; rfl
theorem l_dig {n c : Nat} {S0 : MS} (hn : n ≤ 3) (hc : c < 40000) (hn5 : Y 6 0 ≤ 5) (hm : gI S0 8 0 10 = nI (Y 6 0)) (q : ∀ S2, (∀ t, t < n → gA S2 47 0 t = nI (dgs (2 ^ Y 6 0) n c t)) → Fs S0 S2 → wpX (d + 8) mX9_keptBy 42 [aR 8 0, aU, aI (nI n), aU, aU, aU, aU] [] S2 P) : ∀ (e : Nat) (S : MS), e ≤ n → (∀ t, e ≤ t → t < n → gA S 47 0 t = nI (dgs (2 ^ Y 6 0) n c t)) → Fs S0 S → wpX (d + 8) mX9_keptBy 7 [aR 8 0, aU, aI (nI n), aI (nI (c / (2 ^ Y 6 0) ^ (n - e))), aI (tI e), aU, aU] [] S P := by
  have h32 := p2_lt hn5
  have hN : 0 < 2 ^ Y 6 0 := Nat.two_pow_pos _
  intro e
  induction e with
  | zero =>
    intro S he hx hf
    rw [tI_0]
    refine s_X9_keptBy_7 ?_
    simp (disch := omega) only [B_X9_keptBy_7, wi_iload, wi_if_lt, wi_aload_n, wi_getfield, fldv_8_28, fds_8_28, cnt_8, wi_iload_n, wi_iconst, fldv_8_10, fds_8_10, wi_ishl, wi_irem, wi_iastore, wi_idiv, wi_istore_n, wi_iinc, wi_goto, cnt_40, aTy_40, aLn_40, arr_40, cnt_41, aTy_41, aLn_41, arr_41, cnt_47, aTy_47, aLn_47, arr_47, no0, no1, nz1, nz2, nz3, nz4, nz5, nz7, nz8, Classical.not_not, bz0, bz1, wi_nil, ld_0, ld_s, isIv_I, isLv_L, isRv_R, true_and, and_true, lset_0, lset_1, lset_s, avw_I, avw_L, avw_R, clr_cons, clr_nil, kst_0, kst_1, kstL_0, kstL_1, addk_I, pA_0, pA_s, pD_0, pD_s, wid_nil, wid_cons, rcv_c, putv_I, putv_L, List.length_cons, List.length_nil, List.set_cons_zero, List.set_cons_succ, not_false_eq_true, Nat.reduceMod, Nat.reduceDiv, Nat.reduceEqDiff, Nat.reduceLT, Nat.reduceLeDiff, Nat.reduceAdd, Nat.reduceSub, reduceIte, Nat.lt_irrefl, Nat.zero_ne_one, Nat.one_ne_zero, Nat.zero_add, List.nil_append, List.cons_append, Option.toList_some, Option.toList_none, forall_const, false_implies, true_implies, false_or, or_false, true_or, or_true, i_le, i_lt, i_eq, i_eq0, i_lt0, i_0le, i_0lt, i_le0, i_in1, i_cl, nI_add, pk_mul, pk_sub, i_div, i_rem, i_sh1, i_bit, i_or, i_and, i_andn, nt_le, nf_le, nt_lt, nf_lt, nt_eq, nf_eq, not_true_eq_false, and_self, and_false, false_and, eq_self, Bool.toNat_true, Bool.toNat_false, i_bool, i_bool1, Bool.false_eq_true, Bool.true_eq_false, reduceCtorEq, i_neg1, i_neg2, i_neg3, i_neg4, i_neg5, i_neg6, i_neg7, i_neg8, i_neg9, i_nega, i_negb, i_negc, i_max2, i_min2]
    exact q S (fun t ht => hx t (Nat.zero_le t) ht) hf
  | succ e ih =>
    intro S he hx hf
    have e2 := tI_dec (k := e) (by omega)
    have hn : gI S 8 0 10 = nI (Y 6 0) := (hf.1 8 0 10 rfl).trans hm
    obtain ⟨a, ha⟩ : ∃ a, c / (2 ^ Y 6 0) ^ (n - (e + 1)) = a := ⟨_, rfl⟩
    have hac : a ≤ c := by rw [← ha]; exact Nat.div_le_self _ _
    have d1 := Nat.div_mul_le_self a (2 ^ Y 6 0)
    have d2 := Nat.div_le_self a (2 ^ Y 6 0)
    have hnx : a / 2 ^ Y 6 0 = c / (2 ^ Y 6 0) ^ (n - e) := by
      rw [← ha, Nat.div_div_eq_div_mul, ← Nat.pow_succ, Nat.succ_eq_add_one, show n - (e + 1) + 1 = n - e by omega]
    rw [tI_s, ha]
    refine s_X9_keptBy_7 ?_
    simp (disch := omega) only [B_X9_keptBy_7, wi_iload, wi_if_lt, wi_aload_n, wi_getfield, fldv_8_28, fds_8_28, cnt_8, wi_iload_n, wi_iconst, fldv_8_10, fds_8_10, wi_ishl, wi_irem, wi_iastore, wi_idiv, wi_istore_n, wi_iinc, wi_goto, cnt_40, aTy_40, aLn_40, arr_40, cnt_41, aTy_41, aLn_41, arr_41, cnt_47, aTy_47, aLn_47, arr_47, no0, no1, nz1, nz2, nz3, nz4, nz5, nz7, nz8, Classical.not_not, bz0, bz1, wi_nil, ld_0, ld_s, isIv_I, isLv_L, isRv_R, true_and, and_true, lset_0, lset_1, lset_s, avw_I, avw_L, avw_R, clr_cons, clr_nil, kst_0, kst_1, kstL_0, kstL_1, addk_I, pA_0, pA_s, pD_0, pD_s, wid_nil, wid_cons, rcv_c, putv_I, putv_L, List.length_cons, List.length_nil, List.set_cons_zero, List.set_cons_succ, not_false_eq_true, Nat.reduceMod, Nat.reduceDiv, Nat.reduceEqDiff, Nat.reduceLT, Nat.reduceLeDiff, Nat.reduceAdd, Nat.reduceSub, reduceIte, Nat.lt_irrefl, Nat.zero_ne_one, Nat.one_ne_zero, Nat.zero_add, List.nil_append, List.cons_append, Option.toList_some, Option.toList_none, forall_const, false_implies, true_implies, false_or, or_false, true_or, or_true, i_le, i_lt, i_eq, i_eq0, i_lt0, i_0le, i_0lt, i_le0, i_in1, i_cl, nI_add, pk_mul, pk_sub, i_div, i_rem, i_sh1, i_bit, i_or, i_and, i_andn, nt_le, nf_le, nt_lt, nf_lt, nt_eq, nf_eq, not_true_eq_false, and_self, and_false, false_and, eq_self, Bool.toNat_true, Bool.toNat_false, i_bool, i_bool1, Bool.false_eq_true, Bool.true_eq_false, reduceCtorEq, i_neg1, i_neg2, i_neg3, i_neg4, i_neg5, i_neg6, i_neg7, i_neg8, i_neg9, i_nega, i_negb, i_negc, i_max2, i_min2, hn, e2, (mod_s a (2 ^ Y 6 0)), gI_sA]
    rw [hnx]
    refine ih _ (by omega) (fun t h1 h2 => ?_) (hf.trans (fr_sA rfl))
    rw [gA_same]
    by_cases et : t = e
    · subst et
      rw [pk_us, dgs_at h2, ← ha]
    · rw [pk_un et]
      exact hx t (by omega) h2
theorem c_mkeptBy {n c : Nat} (hn : n ≤ 3) (hc : c < 40000) (hm : YrM S 40 Y) (ho : YOk 40 Y) (q : ∀ S2, (∀ t, t < n → gA S2 47 0 t = nI (dgs (2 ^ Y 6 0) n c t)) → Fs S S2 → P (some (aI (mvI (Vv n 0 Y (dgs (2 ^ Y 6 0) n c))))) S2) : wpM (d + 9) mX9_keptBy [aR 8 0, aI (nI c), aI (nI n)] S P := by
  have hn5 := ho.1.1
  have hN : 0 < 2 ^ Y 6 0 := Nat.two_pow_pos _
  have e0 := tI_sub (k := n) (by omega)
  refine x_entry (ls2 := [aR 8 0, aI (nI c), aI (nI n), aU, aU, aU, aU]) (Nat.le_of_ble_eq_true rfl) pl_9 rfl (Nat.le_of_ble_eq_true rfl) ?_
  try simp (disch := omega) only [no0, no1, nz1, nz2, nz3, nz4, nz5, nz7, nz8, Classical.not_not, bz0, bz1, wi_nil, ld_0, ld_s, isIv_I, isLv_L, isRv_R, true_and, and_true, lset_0, lset_1, lset_s, avw_I, avw_L, avw_R, clr_cons, clr_nil, kst_0, kst_1, kstL_0, kstL_1, addk_I, pA_0, pA_s, pD_0, pD_s, wid_nil, wid_cons, rcv_c, putv_I, putv_L, List.length_cons, List.length_nil, List.set_cons_zero, List.set_cons_succ, not_false_eq_true, Nat.reduceMod, Nat.reduceDiv, Nat.reduceEqDiff, Nat.reduceLT, Nat.reduceLeDiff, Nat.reduceAdd, Nat.reduceSub, reduceIte, Nat.lt_irrefl, Nat.zero_ne_one, Nat.one_ne_zero, Nat.zero_add, List.nil_append, List.cons_append, Option.toList_some, Option.toList_none, forall_const, false_implies, true_implies, false_or, or_false, true_or, or_true, i_le, i_lt, i_eq, i_eq0, i_lt0, i_0le, i_0lt, i_le0, i_in1, i_cl, nI_add, pk_mul, pk_sub, i_div, i_rem, i_sh1, i_bit, i_or, i_and, i_andn, nt_le, nf_le, nt_lt, nf_lt, nt_eq, nf_eq, not_true_eq_false, and_self, and_false, false_and, eq_self, Bool.toNat_true, Bool.toNat_false, i_bool, i_bool1, Bool.false_eq_true, Bool.true_eq_false, reduceCtorEq, i_neg1, i_neg2, i_neg3, i_neg4, i_neg5, i_neg6, i_neg7, i_neg8, i_neg9, i_nega, i_negb, i_negc, i_max2, i_min2, e0, wi_nil]
  repeat (
    first
    | refine s_X9_keptBy_0 ?_
    | refine s_X9_keptBy_42 ?_
    | refine s_X9_keptBy_49 ?_
    | refine s_X9_keptBy_95 ?_
    | refine s_X9_keptBy_108 ?_
    | refine s_X9_keptBy_109 ?_
    | refine s_X9_keptBy_127 ?_
    | refine s_X9_keptBy_144 ?_
    | refine s_X9_keptBy_148 ?_
    | refine s_X9_keptBy_149 ?_
    | refine s_X9_keptBy_157 ?_
    simp (disch := omega) only [B_X9_keptBy_0, wi_iload_n, wi_istore_n, wi_iconst, wi_isub, wi_istore, B_X9_keptBy_7, wi_iload, wi_if_lt, wi_aload_n, wi_getfield, fldv_8_28, fds_8_28, cnt_8, fldv_8_10, fds_8_10, wi_ishl, wi_irem, wi_iastore, wi_idiv, wi_iinc, wi_goto, cnt_40, aTy_40, aLn_40, arr_40, cnt_41, aTy_41, aLn_41, arr_41, cnt_47, aTy_47, aLn_47, arr_47, B_X9_keptBy_42, wi_invokevirtual, B_X9_keptBy_49, B_X9_keptBy_52, wi_icmp_ge, wi_iaload, fldv_8_20, fds_8_20, wi_iand, wi_if_ne, fldv_8_21, fds_8_21, B_X9_keptBy_95, wi_icmp_gt, B_X9_keptBy_108, B_X9_keptBy_109, B_X9_keptBy_127, wi_if_eq, wi_invokestatic, B_X9_keptBy_144, wi_iadd, B_X9_keptBy_148, B_X9_keptBy_149, B_X9_keptBy_157, wi_ireturn, no0, no1, nz1, nz2, nz3, nz4, nz5, nz7, nz8, Classical.not_not, bz0, bz1, wi_nil, ld_0, ld_s, isIv_I, isLv_L, isRv_R, true_and, and_true, lset_0, lset_1, lset_s, avw_I, avw_L, avw_R, clr_cons, clr_nil, kst_0, kst_1, kstL_0, kstL_1, addk_I, pA_0, pA_s, pD_0, pD_s, wid_nil, wid_cons, rcv_c, putv_I, putv_L, List.length_cons, List.length_nil, List.set_cons_zero, List.set_cons_succ, not_false_eq_true, Nat.reduceMod, Nat.reduceDiv, Nat.reduceEqDiff, Nat.reduceLT, Nat.reduceLeDiff, Nat.reduceAdd, Nat.reduceSub, reduceIte, Nat.lt_irrefl, Nat.zero_ne_one, Nat.one_ne_zero, Nat.zero_add, List.nil_append, List.cons_append, Option.toList_some, Option.toList_none, forall_const, false_implies, true_implies, false_or, or_false, true_or, or_true, i_le, i_lt, i_eq, i_eq0, i_lt0, i_0le, i_0lt, i_le0, i_in1, i_cl, nI_add, pk_mul, pk_sub, i_div, i_rem, i_sh1, i_bit, i_or, i_and, i_andn, nt_le, nf_le, nt_lt, nf_lt, nt_eq, nf_eq, not_true_eq_false, and_self, and_false, false_and, eq_self, Bool.toNat_true, Bool.toNat_false, i_bool, i_bool1, Bool.false_eq_true, Bool.true_eq_false, reduceCtorEq, i_neg1, i_neg2, i_neg3, i_neg4, i_neg5, i_neg6, i_neg7, i_neg8, i_neg9, i_nega, i_negb, i_negc, i_max2, i_min2, e0])
  have h4 := l_dig (d := d) (P := P) (S0 := S) (Y := Y) (c := c) hn hc hn5 (m_n hm) (fun S2 g2 f2 => ?_) n S (Nat.le_refl n) (fun t h1 h2 => absurd h2 (by omega)) Fr.refl
  · rw [Nat.sub_self, Nat.pow_zero, Nat.div_one] at h4
    exact h4
  · have hm2 := yrm_fr hm f2 rfl rfl
    refine s_X9_keptBy_42 ?_
    simp (disch := omega) only [B_X9_keptBy_42, wi_iconst, wi_istore, wi_aload_n, wi_invokevirtual, cnt_8, no0, no1, nz1, nz2, nz3, nz4, nz5, nz7, nz8, Classical.not_not, bz0, bz1, wi_nil, ld_0, ld_s, isIv_I, isLv_L, isRv_R, true_and, and_true, lset_0, lset_1, lset_s, avw_I, avw_L, avw_R, clr_cons, clr_nil, kst_0, kst_1, kstL_0, kstL_1, addk_I, pA_0, pA_s, pD_0, pD_s, wid_nil, wid_cons, rcv_c, putv_I, putv_L, List.length_cons, List.length_nil, List.set_cons_zero, List.set_cons_succ, not_false_eq_true, Nat.reduceMod, Nat.reduceDiv, Nat.reduceEqDiff, Nat.reduceLT, Nat.reduceLeDiff, Nat.reduceAdd, Nat.reduceSub, reduceIte, Nat.lt_irrefl, Nat.zero_ne_one, Nat.one_ne_zero, Nat.zero_add, List.nil_append, List.cons_append, Option.toList_some, Option.toList_none, forall_const, false_implies, true_implies, false_or, or_false, true_or, or_true, i_le, i_lt, i_eq, i_eq0, i_lt0, i_0le, i_0lt, i_le0, i_in1, i_cl, nI_add, pk_mul, pk_sub, i_div, i_rem, i_sh1, i_bit, i_or, i_and, i_andn, nt_le, nf_le, nt_lt, nf_lt, nt_eq, nf_eq, not_true_eq_false, and_self, and_false, false_and, eq_self, Bool.toNat_true, Bool.toNat_false, i_bool, i_bool1, Bool.false_eq_true, Bool.true_eq_false, reduceCtorEq, i_neg1, i_neg2, i_neg3, i_neg4, i_neg5, i_neg6, i_neg7, i_neg8, i_neg9, i_nega, i_negb, i_negc, i_max2, i_min2]
    refine c_copyNow hm2 hn5 (fun S3 y3 f3 => ?_)
    try simp (disch := omega) only [no0, no1, nz1, nz2, nz3, nz4, nz5, nz7, nz8, Classical.not_not, bz0, bz1, wi_nil, ld_0, ld_s, isIv_I, isLv_L, isRv_R, true_and, and_true, lset_0, lset_1, lset_s, avw_I, avw_L, avw_R, clr_cons, clr_nil, kst_0, kst_1, kstL_0, kstL_1, addk_I, pA_0, pA_s, pD_0, pD_s, wid_nil, wid_cons, rcv_c, putv_I, putv_L, List.length_cons, List.length_nil, List.set_cons_zero, List.set_cons_succ, not_false_eq_true, Nat.reduceMod, Nat.reduceDiv, Nat.reduceEqDiff, Nat.reduceLT, Nat.reduceLeDiff, Nat.reduceAdd, Nat.reduceSub, reduceIte, Nat.lt_irrefl, Nat.zero_ne_one, Nat.one_ne_zero, Nat.zero_add, List.nil_append, List.cons_append, Option.toList_some, Option.toList_none, forall_const, false_implies, true_implies, false_or, or_false, true_or, or_true, i_le, i_lt, i_eq, i_eq0, i_lt0, i_0le, i_0lt, i_le0, i_in1, i_cl, nI_add, pk_mul, pk_sub, i_div, i_rem, i_sh1, i_bit, i_or, i_and, i_andn, nt_le, nf_le, nt_lt, nf_lt, nt_eq, nf_eq, not_true_eq_false, and_self, and_false, false_and, eq_self, Bool.toNat_true, Bool.toNat_false, i_bool, i_bool1, Bool.false_eq_true, Bool.true_eq_false, reduceCtorEq, i_neg1, i_neg2, i_neg3, i_neg4, i_neg5, i_neg6, i_neg7, i_neg8, i_neg9, i_nega, i_negb, i_negc, i_max2, i_min2, wi_nil]
    repeat (
      first
      | refine s_X9_keptBy_0 ?_
      | refine s_X9_keptBy_42 ?_
      | refine s_X9_keptBy_49 ?_
      | refine s_X9_keptBy_95 ?_
      | refine s_X9_keptBy_108 ?_
      | refine s_X9_keptBy_109 ?_
      | refine s_X9_keptBy_127 ?_
      | refine s_X9_keptBy_144 ?_
      | refine s_X9_keptBy_148 ?_
      | refine s_X9_keptBy_149 ?_
      | refine s_X9_keptBy_157 ?_
      simp (disch := omega) only [B_X9_keptBy_0, wi_iload_n, wi_istore_n, wi_iconst, wi_isub, wi_istore, B_X9_keptBy_7, wi_iload, wi_if_lt, wi_aload_n, wi_getfield, fldv_8_28, fds_8_28, cnt_8, fldv_8_10, fds_8_10, wi_ishl, wi_irem, wi_iastore, wi_idiv, wi_iinc, wi_goto, cnt_40, aTy_40, aLn_40, arr_40, cnt_41, aTy_41, aLn_41, arr_41, cnt_47, aTy_47, aLn_47, arr_47, B_X9_keptBy_42, wi_invokevirtual, B_X9_keptBy_49, B_X9_keptBy_52, wi_icmp_ge, wi_iaload, fldv_8_20, fds_8_20, wi_iand, wi_if_ne, fldv_8_21, fds_8_21, B_X9_keptBy_95, wi_icmp_gt, B_X9_keptBy_108, B_X9_keptBy_109, B_X9_keptBy_127, wi_if_eq, wi_invokestatic, B_X9_keptBy_144, wi_iadd, B_X9_keptBy_148, B_X9_keptBy_149, B_X9_keptBy_157, wi_ireturn, no0, no1, nz1, nz2, nz3, nz4, nz5, nz7, nz8, Classical.not_not, bz0, bz1, wi_nil, ld_0, ld_s, isIv_I, isLv_L, isRv_R, true_and, and_true, lset_0, lset_1, lset_s, avw_I, avw_L, avw_R, clr_cons, clr_nil, kst_0, kst_1, kstL_0, kstL_1, addk_I, pA_0, pA_s, pD_0, pD_s, wid_nil, wid_cons, rcv_c, putv_I, putv_L, List.length_cons, List.length_nil, List.set_cons_zero, List.set_cons_succ, not_false_eq_true, Nat.reduceMod, Nat.reduceDiv, Nat.reduceEqDiff, Nat.reduceLT, Nat.reduceLeDiff, Nat.reduceAdd, Nat.reduceSub, reduceIte, Nat.lt_irrefl, Nat.zero_ne_one, Nat.one_ne_zero, Nat.zero_add, List.nil_append, List.cons_append, Option.toList_some, Option.toList_none, forall_const, false_implies, true_implies, false_or, or_false, true_or, or_true, i_le, i_lt, i_eq, i_eq0, i_lt0, i_0le, i_0lt, i_le0, i_in1, i_cl, nI_add, pk_mul, pk_sub, i_div, i_rem, i_sh1, i_bit, i_or, i_and, i_andn, nt_le, nf_le, nt_lt, nf_lt, nt_eq, nf_eq, not_true_eq_false, and_self, and_false, false_and, eq_self, Bool.toNat_true, Bool.toNat_false, i_bool, i_bool1, Bool.false_eq_true, Bool.true_eq_false, reduceCtorEq, i_neg1, i_neg2, i_neg3, i_neg4, i_neg5, i_neg6, i_neg7, i_neg8, i_neg9, i_nega, i_negb, i_negc, i_max2, i_min2])
    have hm3 := yrm_fr hm2 (fs_fa f3) rfl rfl
    refine l_mk2 (Y0 := Y) (q := dgs (2 ^ Y 6 0) n c) (S0 := S3) (R := Vv n 0 Y (dgs (2 ^ Y 6 0) n c)) hn (fun t => dgs_lt hN) hn5 (yg_lt ho) hm3 (fun t ht => ?_) (fun S4 f4 => ?_) n 0 0 Y S3 (by omega) (by omega) y3 ho rfl rfl ?_ FA.refl
    · rw [f3.2.2 47 0 (by decide)]
      exact g2 t ht
    · refine q S4 (fun t ht => ?_) ((f2.trans (fs_fa f3)).trans (fs_fa f4))
      rw [f4.2.2 47 0 (by decide), f3.2.2 47 0 (by decide)]
      exact g2 t ht
    · cases Vv n 0 Y (dgs (2 ^ Y 6 0) n c) with
      | none => rfl
      | some v =>
        show some (0 + v) = some v
        rw [Nat.zero_add]
theorem l_pow {n r : Nat} (hn : n ≤ 3) (hn5 : Y 6 0 ≤ 5) (hm : gI S 8 0 10 = nI (Y 6 0)) (q : wpX (d + 9) mX9_plan 61 [aR 8 0, aI (nI n), aI (nI r), aU, aI (nI ((2 ^ Y 6 0) ^ n)), aU, aU, aU, aU] [] S P) : ∀ (m t : Nat), t + m = n → wpX (d + 9) mX9_plan 38 [aR 8 0, aI (nI n), aI (nI r), aU, aI (nI ((2 ^ Y 6 0) ^ t)), aI (nI t), aU, aU, aU] [] S P := by
  have h32 := p2_lt hn5
  intro m
  induction m with
  | zero =>
    intro t ht
    have e : t = n := by omega
    subst e
    refine s_X9_plan_38 ?_
    simp (disch := omega) only [B_X9_plan_38, wi_iload, wi_iload_n, wi_icmp_ge, wi_iconst, wi_aload_n, wi_getfield, fldv_8_10, fds_8_10, cnt_8, wi_ishl, wi_imul, wi_istore, wi_iinc, wi_goto, no0, no1, nz1, nz2, nz3, nz4, nz5, nz7, nz8, Classical.not_not, bz0, bz1, wi_nil, ld_0, ld_s, isIv_I, isLv_L, isRv_R, true_and, and_true, lset_0, lset_1, lset_s, avw_I, avw_L, avw_R, clr_cons, clr_nil, kst_0, kst_1, kstL_0, kstL_1, addk_I, pA_0, pA_s, pD_0, pD_s, wid_nil, wid_cons, rcv_c, putv_I, putv_L, List.length_cons, List.length_nil, List.set_cons_zero, List.set_cons_succ, not_false_eq_true, Nat.reduceMod, Nat.reduceDiv, Nat.reduceEqDiff, Nat.reduceLT, Nat.reduceLeDiff, Nat.reduceAdd, Nat.reduceSub, reduceIte, Nat.lt_irrefl, Nat.zero_ne_one, Nat.one_ne_zero, Nat.zero_add, List.nil_append, List.cons_append, Option.toList_some, Option.toList_none, forall_const, false_implies, true_implies, false_or, or_false, true_or, or_true, i_le, i_lt, i_eq, i_eq0, i_lt0, i_0le, i_0lt, i_le0, i_in1, i_cl, nI_add, pk_mul, pk_sub, i_div, i_rem, i_sh1, i_bit, i_or, i_and, i_andn, nt_le, nf_le, nt_lt, nf_lt, nt_eq, nf_eq, not_true_eq_false, and_self, and_false, false_and, eq_self, Bool.toNat_true, Bool.toNat_false, i_bool, i_bool1, Bool.false_eq_true, Bool.true_eq_false, reduceCtorEq, i_neg1, i_neg2, i_neg3, i_neg4, i_neg5, i_neg6, i_neg7, i_neg8, i_neg9, i_nega, i_negb, i_negc, i_max2, i_min2]
    exact q
  | succ m ih =>
    intro t ht
    have hnx := ih (t + 1) (by omega)
    rw [Nat.pow_succ] at hnx
    have h1 : (2 ^ Y 6 0) ^ t ≤ 32 ^ t := Nat.pow_le_pow_left (by omega) t
    have h2 : 32 ^ t ≤ 32 ^ 2 := Nat.pow_le_pow_right (by decide) (by omega)
    have h3 : (2 ^ Y 6 0) ^ t * 2 ^ Y 6 0 ≤ 1024 * 32 := Nat.mul_le_mul (by omega) (by omega)
    refine s_X9_plan_38 ?_
    simp (disch := omega) only [B_X9_plan_38, wi_iload, wi_iload_n, wi_icmp_ge, wi_iconst, wi_aload_n, wi_getfield, fldv_8_10, fds_8_10, cnt_8, wi_ishl, wi_imul, wi_istore, wi_iinc, wi_goto, no0, no1, nz1, nz2, nz3, nz4, nz5, nz7, nz8, Classical.not_not, bz0, bz1, wi_nil, ld_0, ld_s, isIv_I, isLv_L, isRv_R, true_and, and_true, lset_0, lset_1, lset_s, avw_I, avw_L, avw_R, clr_cons, clr_nil, kst_0, kst_1, kstL_0, kstL_1, addk_I, pA_0, pA_s, pD_0, pD_s, wid_nil, wid_cons, rcv_c, putv_I, putv_L, List.length_cons, List.length_nil, List.set_cons_zero, List.set_cons_succ, not_false_eq_true, Nat.reduceMod, Nat.reduceDiv, Nat.reduceEqDiff, Nat.reduceLT, Nat.reduceLeDiff, Nat.reduceAdd, Nat.reduceSub, reduceIte, Nat.lt_irrefl, Nat.zero_ne_one, Nat.one_ne_zero, Nat.zero_add, List.nil_append, List.cons_append, Option.toList_some, Option.toList_none, forall_const, false_implies, true_implies, false_or, or_false, true_or, or_true, i_le, i_lt, i_eq, i_eq0, i_lt0, i_0le, i_0lt, i_le0, i_in1, i_cl, nI_add, pk_mul, pk_sub, i_div, i_rem, i_sh1, i_bit, i_or, i_and, i_andn, nt_le, nf_le, nt_lt, nf_lt, nt_eq, nf_eq, not_true_eq_false, and_self, and_false, false_and, eq_self, Bool.toNat_true, Bool.toNat_false, i_bool, i_bool1, Bool.false_eq_true, Bool.true_eq_false, reduceCtorEq, i_neg1, i_neg2, i_neg3, i_neg4, i_neg5, i_neg6, i_neg7, i_neg8, i_neg9, i_nega, i_negb, i_negc, i_max2, i_min2, hm]
    exact hnx
theorem l_best {n r C : Nat} {S0 : MS} (hn : n ≤ 3) (hC : C < 40000) (hm0 : YrM S0 40 Y) (ho : YOk 40 Y) (q : ∀ S2, Fs S0 S2 → wpX (d + 9) mX9_plan 124 [aR 8 0, aI (nI n), aI (nI r), aU, aU, aI (nI (mb (2 ^ Y 6 0) n Y C).2), aI (tI (mb (2 ^ Y 6 0) n Y C).1), aU, aU] [] S2 P) : ∀ (m c : Nat) (S : MS), c + m = C → Fs S0 S → wpX (d + 9) mX9_plan 70 [aR 8 0, aI (nI n), aI (nI r), aU, aI (nI C), aI (nI (mb (2 ^ Y 6 0) n Y c).2), aI (tI (mb (2 ^ Y 6 0) n Y c).1), aI (nI c), aU] [] S P := by
  have h32 := p2_lt ho.1.1
  have hN : 0 < 2 ^ Y 6 0 := Nat.two_pow_pos _
  intro m
  induction m with
  | zero =>
    intro c S hc hf
    have e : c = C := by omega
    subst e
    refine s_X9_plan_70 ?_
    simp (disch := omega) only [B_X9_plan_70, wi_iload, wi_icmp_ge, wi_aload_n, wi_iload_n, wi_invokevirtual, cnt_8, no0, no1, nz1, nz2, nz3, nz4, nz5, nz7, nz8, Classical.not_not, bz0, bz1, wi_nil, ld_0, ld_s, isIv_I, isLv_L, isRv_R, true_and, and_true, lset_0, lset_1, lset_s, avw_I, avw_L, avw_R, clr_cons, clr_nil, kst_0, kst_1, kstL_0, kstL_1, addk_I, pA_0, pA_s, pD_0, pD_s, wid_nil, wid_cons, rcv_c, putv_I, putv_L, List.length_cons, List.length_nil, List.set_cons_zero, List.set_cons_succ, not_false_eq_true, Nat.reduceMod, Nat.reduceDiv, Nat.reduceEqDiff, Nat.reduceLT, Nat.reduceLeDiff, Nat.reduceAdd, Nat.reduceSub, reduceIte, Nat.lt_irrefl, Nat.zero_ne_one, Nat.one_ne_zero, Nat.zero_add, List.nil_append, List.cons_append, Option.toList_some, Option.toList_none, forall_const, false_implies, true_implies, false_or, or_false, true_or, or_true, i_le, i_lt, i_eq, i_eq0, i_lt0, i_0le, i_0lt, i_le0, i_in1, i_cl, nI_add, pk_mul, pk_sub, i_div, i_rem, i_sh1, i_bit, i_or, i_and, i_andn, nt_le, nf_le, nt_lt, nf_lt, nt_eq, nf_eq, not_true_eq_false, and_self, and_false, false_and, eq_self, Bool.toNat_true, Bool.toNat_false, i_bool, i_bool1, Bool.false_eq_true, Bool.true_eq_false, reduceCtorEq, i_neg1, i_neg2, i_neg3, i_neg4, i_neg5, i_neg6, i_neg7, i_neg8, i_neg9, i_nega, i_negb, i_negc, i_max2, i_min2]
    exact q S hf
  | succ m ih =>
    intro c S hc hf
    have hm := yrm_fr hm0 hf rfl rfl
    have hle := mb_le (Y := Y) (n := n) hN (by omega) c
    refine s_X9_plan_70 ?_
    simp (disch := omega) only [B_X9_plan_70, wi_iload, wi_icmp_ge, wi_aload_n, wi_iload_n, wi_invokevirtual, cnt_8, no0, no1, nz1, nz2, nz3, nz4, nz5, nz7, nz8, Classical.not_not, bz0, bz1, wi_nil, ld_0, ld_s, isIv_I, isLv_L, isRv_R, true_and, and_true, lset_0, lset_1, lset_s, avw_I, avw_L, avw_R, clr_cons, clr_nil, kst_0, kst_1, kstL_0, kstL_1, addk_I, pA_0, pA_s, pD_0, pD_s, wid_nil, wid_cons, rcv_c, putv_I, putv_L, List.length_cons, List.length_nil, List.set_cons_zero, List.set_cons_succ, not_false_eq_true, Nat.reduceMod, Nat.reduceDiv, Nat.reduceEqDiff, Nat.reduceLT, Nat.reduceLeDiff, Nat.reduceAdd, Nat.reduceSub, reduceIte, Nat.lt_irrefl, Nat.zero_ne_one, Nat.one_ne_zero, Nat.zero_add, List.nil_append, List.cons_append, Option.toList_some, Option.toList_none, forall_const, false_implies, true_implies, false_or, or_false, true_or, or_true, i_le, i_lt, i_eq, i_eq0, i_lt0, i_0le, i_0lt, i_le0, i_in1, i_cl, nI_add, pk_mul, pk_sub, i_div, i_rem, i_sh1, i_bit, i_or, i_and, i_andn, nt_le, nf_le, nt_lt, nf_lt, nt_eq, nf_eq, not_true_eq_false, and_self, and_false, false_and, eq_self, Bool.toNat_true, Bool.toNat_false, i_bool, i_bool1, Bool.false_eq_true, Bool.true_eq_false, reduceCtorEq, i_neg1, i_neg2, i_neg3, i_neg4, i_neg5, i_neg6, i_neg7, i_neg8, i_neg9, i_nega, i_negb, i_negc, i_max2, i_min2]
    refine c_mkeptBy hn (by omega) hm ho (fun S2 g2 f2 => ?_)
    have hnx := ih (c + 1) S2 (by omega) (hf.trans f2)
    rw [mb] at hnx
    have mI0 : mvI none = -nI 1 := rfl
    have mI1 : ∀ v, mvI (some v) = nI v := fun _ => rfl
    obtain ⟨⟨k, b⟩, hp⟩ : ∃ p, mb (2 ^ Y 6 0) n Y c = p := ⟨_, rfl⟩
    rw [hp] at hnx hle ⊢
    have hk : k ≤ 6 * n + 1 := hle.1
    have hb : b ≤ c := hle.2
    cases hV : Vv n 0 Y (dgs (2 ^ Y 6 0) n c) with
    | none =>
      rw [hV] at hnx
      cases k with
      | zero =>
        rw [tI_0] at hnx
        have nn : (-nI 1 ≤ -nI 1) = True := eq_true (Int32.le_refl _)
        try simp (disch := omega) only [no0, no1, nz1, nz2, nz3, nz4, nz5, nz7, nz8, Classical.not_not, bz0, bz1, wi_nil, ld_0, ld_s, isIv_I, isLv_L, isRv_R, true_and, and_true, lset_0, lset_1, lset_s, avw_I, avw_L, avw_R, clr_cons, clr_nil, kst_0, kst_1, kstL_0, kstL_1, addk_I, pA_0, pA_s, pD_0, pD_s, wid_nil, wid_cons, rcv_c, putv_I, putv_L, List.length_cons, List.length_nil, List.set_cons_zero, List.set_cons_succ, not_false_eq_true, Nat.reduceMod, Nat.reduceDiv, Nat.reduceEqDiff, Nat.reduceLT, Nat.reduceLeDiff, Nat.reduceAdd, Nat.reduceSub, reduceIte, Nat.lt_irrefl, Nat.zero_ne_one, Nat.one_ne_zero, Nat.zero_add, List.nil_append, List.cons_append, Option.toList_some, Option.toList_none, forall_const, false_implies, true_implies, false_or, or_false, true_or, or_true, i_le, i_lt, i_eq, i_eq0, i_lt0, i_0le, i_0lt, i_le0, i_in1, i_cl, nI_add, pk_mul, pk_sub, i_div, i_rem, i_sh1, i_bit, i_or, i_and, i_andn, nt_le, nf_le, nt_lt, nf_lt, nt_eq, nf_eq, not_true_eq_false, and_self, and_false, false_and, eq_self, Bool.toNat_true, Bool.toNat_false, i_bool, i_bool1, Bool.false_eq_true, Bool.true_eq_false, reduceCtorEq, i_neg1, i_neg2, i_neg3, i_neg4, i_neg5, i_neg6, i_neg7, i_neg8, i_neg9, i_nega, i_negb, i_negc, i_max2, i_min2, mI0, tI_0, nn, wi_nil]
        repeat (
          first
          | refine s_X9_plan_0 ?_
          | refine s_X9_plan_7 ?_
          | refine s_X9_plan_14 ?_
          | refine s_X9_plan_21 ?_
          | refine s_X9_plan_22 ?_
          | refine s_X9_plan_25 ?_
          | refine s_X9_plan_32 ?_
          | refine s_X9_plan_61 ?_
          | refine s_X9_plan_84 ?_
          | refine s_X9_plan_98 ?_
          | refine s_X9_plan_100 ?_
          | refine s_X9_plan_114 ?_
          | refine s_X9_plan_116 ?_
          | refine s_X9_plan_124 ?_
          | refine s_X9_plan_131 ?_
          | refine s_X9_plan_173 ?_
          simp (disch := omega) only [B_X9_plan_0, wi_aload_n, wi_iload_n, wi_iconst, wi_invokestatic, B_X9_plan_7, wi_if_eq, B_X9_plan_14, wi_goto, B_X9_plan_21, B_X9_plan_22, wi_invokevirtual, cnt_8, B_X9_plan_25, wi_istore_n, wi_if_ge, wi_ireturn, B_X9_plan_32, wi_istore, B_X9_plan_38, wi_iload, wi_icmp_ge, wi_getfield, fldv_8_10, fds_8_10, wi_ishl, wi_imul, wi_iinc, B_X9_plan_61, B_X9_plan_70, B_X9_plan_84, wi_icmp_le, B_X9_plan_98, B_X9_plan_100, B_X9_plan_114, B_X9_plan_116, B_X9_plan_124, B_X9_plan_131, wi_pop, fldv_8_5, fds_8_5, wi_iastore, cnt_31, aTy_31, aLn_31, arr_31, cnt_32, aTy_32, aLn_32, arr_32, cnt_47, aTy_47, aLn_47, arr_47, B_X9_plan_142, fldv_8_6, fds_8_6, wi_bipush, wi_iadd, fldv_8_28, fds_8_28, wi_iaload, B_X9_plan_173, no0, no1, nz1, nz2, nz3, nz4, nz5, nz7, nz8, Classical.not_not, bz0, bz1, wi_nil, ld_0, ld_s, isIv_I, isLv_L, isRv_R, true_and, and_true, lset_0, lset_1, lset_s, avw_I, avw_L, avw_R, clr_cons, clr_nil, kst_0, kst_1, kstL_0, kstL_1, addk_I, pA_0, pA_s, pD_0, pD_s, wid_nil, wid_cons, rcv_c, putv_I, putv_L, List.length_cons, List.length_nil, List.set_cons_zero, List.set_cons_succ, not_false_eq_true, Nat.reduceMod, Nat.reduceDiv, Nat.reduceEqDiff, Nat.reduceLT, Nat.reduceLeDiff, Nat.reduceAdd, Nat.reduceSub, reduceIte, Nat.lt_irrefl, Nat.zero_ne_one, Nat.one_ne_zero, Nat.zero_add, List.nil_append, List.cons_append, Option.toList_some, Option.toList_none, forall_const, false_implies, true_implies, false_or, or_false, true_or, or_true, i_le, i_lt, i_eq, i_eq0, i_lt0, i_0le, i_0lt, i_le0, i_in1, i_cl, nI_add, pk_mul, pk_sub, i_div, i_rem, i_sh1, i_bit, i_or, i_and, i_andn, nt_le, nf_le, nt_lt, nf_lt, nt_eq, nf_eq, not_true_eq_false, and_self, and_false, false_and, eq_self, Bool.toNat_true, Bool.toNat_false, i_bool, i_bool1, Bool.false_eq_true, Bool.true_eq_false, reduceCtorEq, i_neg1, i_neg2, i_neg3, i_neg4, i_neg5, i_neg6, i_neg7, i_neg8, i_neg9, i_nega, i_negb, i_negc, i_max2, i_min2, mI0, tI_0, nn])
        exact hnx
      | succ k =>
        rw [tI_s] at hnx
        try simp (disch := omega) only [no0, no1, nz1, nz2, nz3, nz4, nz5, nz7, nz8, Classical.not_not, bz0, bz1, wi_nil, ld_0, ld_s, isIv_I, isLv_L, isRv_R, true_and, and_true, lset_0, lset_1, lset_s, avw_I, avw_L, avw_R, clr_cons, clr_nil, kst_0, kst_1, kstL_0, kstL_1, addk_I, pA_0, pA_s, pD_0, pD_s, wid_nil, wid_cons, rcv_c, putv_I, putv_L, List.length_cons, List.length_nil, List.set_cons_zero, List.set_cons_succ, not_false_eq_true, Nat.reduceMod, Nat.reduceDiv, Nat.reduceEqDiff, Nat.reduceLT, Nat.reduceLeDiff, Nat.reduceAdd, Nat.reduceSub, reduceIte, Nat.lt_irrefl, Nat.zero_ne_one, Nat.one_ne_zero, Nat.zero_add, List.nil_append, List.cons_append, Option.toList_some, Option.toList_none, forall_const, false_implies, true_implies, false_or, or_false, true_or, or_true, i_le, i_lt, i_eq, i_eq0, i_lt0, i_0le, i_0lt, i_le0, i_in1, i_cl, nI_add, pk_mul, pk_sub, i_div, i_rem, i_sh1, i_bit, i_or, i_and, i_andn, nt_le, nf_le, nt_lt, nf_lt, nt_eq, nf_eq, not_true_eq_false, and_self, and_false, false_and, eq_self, Bool.toNat_true, Bool.toNat_false, i_bool, i_bool1, Bool.false_eq_true, Bool.true_eq_false, reduceCtorEq, i_neg1, i_neg2, i_neg3, i_neg4, i_neg5, i_neg6, i_neg7, i_neg8, i_neg9, i_nega, i_negb, i_negc, i_max2, i_min2, mI0, tI_s, wi_nil]
        repeat (
          first
          | refine s_X9_plan_0 ?_
          | refine s_X9_plan_7 ?_
          | refine s_X9_plan_14 ?_
          | refine s_X9_plan_21 ?_
          | refine s_X9_plan_22 ?_
          | refine s_X9_plan_25 ?_
          | refine s_X9_plan_32 ?_
          | refine s_X9_plan_61 ?_
          | refine s_X9_plan_84 ?_
          | refine s_X9_plan_98 ?_
          | refine s_X9_plan_100 ?_
          | refine s_X9_plan_114 ?_
          | refine s_X9_plan_116 ?_
          | refine s_X9_plan_124 ?_
          | refine s_X9_plan_131 ?_
          | refine s_X9_plan_173 ?_
          simp (disch := omega) only [B_X9_plan_0, wi_aload_n, wi_iload_n, wi_iconst, wi_invokestatic, B_X9_plan_7, wi_if_eq, B_X9_plan_14, wi_goto, B_X9_plan_21, B_X9_plan_22, wi_invokevirtual, cnt_8, B_X9_plan_25, wi_istore_n, wi_if_ge, wi_ireturn, B_X9_plan_32, wi_istore, B_X9_plan_38, wi_iload, wi_icmp_ge, wi_getfield, fldv_8_10, fds_8_10, wi_ishl, wi_imul, wi_iinc, B_X9_plan_61, B_X9_plan_70, B_X9_plan_84, wi_icmp_le, B_X9_plan_98, B_X9_plan_100, B_X9_plan_114, B_X9_plan_116, B_X9_plan_124, B_X9_plan_131, wi_pop, fldv_8_5, fds_8_5, wi_iastore, cnt_31, aTy_31, aLn_31, arr_31, cnt_32, aTy_32, aLn_32, arr_32, cnt_47, aTy_47, aLn_47, arr_47, B_X9_plan_142, fldv_8_6, fds_8_6, wi_bipush, wi_iadd, fldv_8_28, fds_8_28, wi_iaload, B_X9_plan_173, no0, no1, nz1, nz2, nz3, nz4, nz5, nz7, nz8, Classical.not_not, bz0, bz1, wi_nil, ld_0, ld_s, isIv_I, isLv_L, isRv_R, true_and, and_true, lset_0, lset_1, lset_s, avw_I, avw_L, avw_R, clr_cons, clr_nil, kst_0, kst_1, kstL_0, kstL_1, addk_I, pA_0, pA_s, pD_0, pD_s, wid_nil, wid_cons, rcv_c, putv_I, putv_L, List.length_cons, List.length_nil, List.set_cons_zero, List.set_cons_succ, not_false_eq_true, Nat.reduceMod, Nat.reduceDiv, Nat.reduceEqDiff, Nat.reduceLT, Nat.reduceLeDiff, Nat.reduceAdd, Nat.reduceSub, reduceIte, Nat.lt_irrefl, Nat.zero_ne_one, Nat.one_ne_zero, Nat.zero_add, List.nil_append, List.cons_append, Option.toList_some, Option.toList_none, forall_const, false_implies, true_implies, false_or, or_false, true_or, or_true, i_le, i_lt, i_eq, i_eq0, i_lt0, i_0le, i_0lt, i_le0, i_in1, i_cl, nI_add, pk_mul, pk_sub, i_div, i_rem, i_sh1, i_bit, i_or, i_and, i_andn, nt_le, nf_le, nt_lt, nf_lt, nt_eq, nf_eq, not_true_eq_false, and_self, and_false, false_and, eq_self, Bool.toNat_true, Bool.toNat_false, i_bool, i_bool1, Bool.false_eq_true, Bool.true_eq_false, reduceCtorEq, i_neg1, i_neg2, i_neg3, i_neg4, i_neg5, i_neg6, i_neg7, i_neg8, i_neg9, i_nega, i_negb, i_negc, i_max2, i_min2, mI0, tI_s])
        exact hnx
    | some v =>
      have hv := Vv_le n 0 Y _ v (fun t => by have := dgs_lt (N := 2 ^ Y 6 0) (n := n) (c := c) (t := t) hN; omega) hV
      rw [hV] at hnx
      try dsimp only at hnx
      cases k with
      | zero =>
        rw [if_pos (Nat.zero_le v)] at hnx
        try dsimp only at hnx
        rw [tI_s] at hnx
        try simp (disch := omega) only [no0, no1, nz1, nz2, nz3, nz4, nz5, nz7, nz8, Classical.not_not, bz0, bz1, wi_nil, ld_0, ld_s, isIv_I, isLv_L, isRv_R, true_and, and_true, lset_0, lset_1, lset_s, avw_I, avw_L, avw_R, clr_cons, clr_nil, kst_0, kst_1, kstL_0, kstL_1, addk_I, pA_0, pA_s, pD_0, pD_s, wid_nil, wid_cons, rcv_c, putv_I, putv_L, List.length_cons, List.length_nil, List.set_cons_zero, List.set_cons_succ, not_false_eq_true, Nat.reduceMod, Nat.reduceDiv, Nat.reduceEqDiff, Nat.reduceLT, Nat.reduceLeDiff, Nat.reduceAdd, Nat.reduceSub, reduceIte, Nat.lt_irrefl, Nat.zero_ne_one, Nat.one_ne_zero, Nat.zero_add, List.nil_append, List.cons_append, Option.toList_some, Option.toList_none, forall_const, false_implies, true_implies, false_or, or_false, true_or, or_true, i_le, i_lt, i_eq, i_eq0, i_lt0, i_0le, i_0lt, i_le0, i_in1, i_cl, nI_add, pk_mul, pk_sub, i_div, i_rem, i_sh1, i_bit, i_or, i_and, i_andn, nt_le, nf_le, nt_lt, nf_lt, nt_eq, nf_eq, not_true_eq_false, and_self, and_false, false_and, eq_self, Bool.toNat_true, Bool.toNat_false, i_bool, i_bool1, Bool.false_eq_true, Bool.true_eq_false, reduceCtorEq, i_neg1, i_neg2, i_neg3, i_neg4, i_neg5, i_neg6, i_neg7, i_neg8, i_neg9, i_nega, i_negb, i_negc, i_max2, i_min2, mI1, tI_0, wi_nil]
        repeat (
          first
          | refine s_X9_plan_0 ?_
          | refine s_X9_plan_7 ?_
          | refine s_X9_plan_14 ?_
          | refine s_X9_plan_21 ?_
          | refine s_X9_plan_22 ?_
          | refine s_X9_plan_25 ?_
          | refine s_X9_plan_32 ?_
          | refine s_X9_plan_61 ?_
          | refine s_X9_plan_84 ?_
          | refine s_X9_plan_98 ?_
          | refine s_X9_plan_100 ?_
          | refine s_X9_plan_114 ?_
          | refine s_X9_plan_116 ?_
          | refine s_X9_plan_124 ?_
          | refine s_X9_plan_131 ?_
          | refine s_X9_plan_173 ?_
          simp (disch := omega) only [B_X9_plan_0, wi_aload_n, wi_iload_n, wi_iconst, wi_invokestatic, B_X9_plan_7, wi_if_eq, B_X9_plan_14, wi_goto, B_X9_plan_21, B_X9_plan_22, wi_invokevirtual, cnt_8, B_X9_plan_25, wi_istore_n, wi_if_ge, wi_ireturn, B_X9_plan_32, wi_istore, B_X9_plan_38, wi_iload, wi_icmp_ge, wi_getfield, fldv_8_10, fds_8_10, wi_ishl, wi_imul, wi_iinc, B_X9_plan_61, B_X9_plan_70, B_X9_plan_84, wi_icmp_le, B_X9_plan_98, B_X9_plan_100, B_X9_plan_114, B_X9_plan_116, B_X9_plan_124, B_X9_plan_131, wi_pop, fldv_8_5, fds_8_5, wi_iastore, cnt_31, aTy_31, aLn_31, arr_31, cnt_32, aTy_32, aLn_32, arr_32, cnt_47, aTy_47, aLn_47, arr_47, B_X9_plan_142, fldv_8_6, fds_8_6, wi_bipush, wi_iadd, fldv_8_28, fds_8_28, wi_iaload, B_X9_plan_173, no0, no1, nz1, nz2, nz3, nz4, nz5, nz7, nz8, Classical.not_not, bz0, bz1, wi_nil, ld_0, ld_s, isIv_I, isLv_L, isRv_R, true_and, and_true, lset_0, lset_1, lset_s, avw_I, avw_L, avw_R, clr_cons, clr_nil, kst_0, kst_1, kstL_0, kstL_1, addk_I, pA_0, pA_s, pD_0, pD_s, wid_nil, wid_cons, rcv_c, putv_I, putv_L, List.length_cons, List.length_nil, List.set_cons_zero, List.set_cons_succ, not_false_eq_true, Nat.reduceMod, Nat.reduceDiv, Nat.reduceEqDiff, Nat.reduceLT, Nat.reduceLeDiff, Nat.reduceAdd, Nat.reduceSub, reduceIte, Nat.lt_irrefl, Nat.zero_ne_one, Nat.one_ne_zero, Nat.zero_add, List.nil_append, List.cons_append, Option.toList_some, Option.toList_none, forall_const, false_implies, true_implies, false_or, or_false, true_or, or_true, i_le, i_lt, i_eq, i_eq0, i_lt0, i_0le, i_0lt, i_le0, i_in1, i_cl, nI_add, pk_mul, pk_sub, i_div, i_rem, i_sh1, i_bit, i_or, i_and, i_andn, nt_le, nf_le, nt_lt, nf_lt, nt_eq, nf_eq, not_true_eq_false, and_self, and_false, false_and, eq_self, Bool.toNat_true, Bool.toNat_false, i_bool, i_bool1, Bool.false_eq_true, Bool.true_eq_false, reduceCtorEq, i_neg1, i_neg2, i_neg3, i_neg4, i_neg5, i_neg6, i_neg7, i_neg8, i_neg9, i_nega, i_negb, i_negc, i_max2, i_min2, mI1, tI_0])
        exact hnx
      | succ k =>
        by_cases hle2 : k + 1 ≤ v
        · rw [if_pos hle2] at hnx
          try dsimp only at hnx
          rw [tI_s] at hnx
          try simp (disch := omega) only [no0, no1, nz1, nz2, nz3, nz4, nz5, nz7, nz8, Classical.not_not, bz0, bz1, wi_nil, ld_0, ld_s, isIv_I, isLv_L, isRv_R, true_and, and_true, lset_0, lset_1, lset_s, avw_I, avw_L, avw_R, clr_cons, clr_nil, kst_0, kst_1, kstL_0, kstL_1, addk_I, pA_0, pA_s, pD_0, pD_s, wid_nil, wid_cons, rcv_c, putv_I, putv_L, List.length_cons, List.length_nil, List.set_cons_zero, List.set_cons_succ, not_false_eq_true, Nat.reduceMod, Nat.reduceDiv, Nat.reduceEqDiff, Nat.reduceLT, Nat.reduceLeDiff, Nat.reduceAdd, Nat.reduceSub, reduceIte, Nat.lt_irrefl, Nat.zero_ne_one, Nat.one_ne_zero, Nat.zero_add, List.nil_append, List.cons_append, Option.toList_some, Option.toList_none, forall_const, false_implies, true_implies, false_or, or_false, true_or, or_true, i_le, i_lt, i_eq, i_eq0, i_lt0, i_0le, i_0lt, i_le0, i_in1, i_cl, nI_add, pk_mul, pk_sub, i_div, i_rem, i_sh1, i_bit, i_or, i_and, i_andn, nt_le, nf_le, nt_lt, nf_lt, nt_eq, nf_eq, not_true_eq_false, and_self, and_false, false_and, eq_self, Bool.toNat_true, Bool.toNat_false, i_bool, i_bool1, Bool.false_eq_true, Bool.true_eq_false, reduceCtorEq, i_neg1, i_neg2, i_neg3, i_neg4, i_neg5, i_neg6, i_neg7, i_neg8, i_neg9, i_nega, i_negb, i_negc, i_max2, i_min2, mI1, tI_s, wi_nil]
          repeat (
            first
            | refine s_X9_plan_0 ?_
            | refine s_X9_plan_7 ?_
            | refine s_X9_plan_14 ?_
            | refine s_X9_plan_21 ?_
            | refine s_X9_plan_22 ?_
            | refine s_X9_plan_25 ?_
            | refine s_X9_plan_32 ?_
            | refine s_X9_plan_61 ?_
            | refine s_X9_plan_84 ?_
            | refine s_X9_plan_98 ?_
            | refine s_X9_plan_100 ?_
            | refine s_X9_plan_114 ?_
            | refine s_X9_plan_116 ?_
            | refine s_X9_plan_124 ?_
            | refine s_X9_plan_131 ?_
            | refine s_X9_plan_173 ?_
            simp (disch := omega) only [B_X9_plan_0, wi_aload_n, wi_iload_n, wi_iconst, wi_invokestatic, B_X9_plan_7, wi_if_eq, B_X9_plan_14, wi_goto, B_X9_plan_21, B_X9_plan_22, wi_invokevirtual, cnt_8, B_X9_plan_25, wi_istore_n, wi_if_ge, wi_ireturn, B_X9_plan_32, wi_istore, B_X9_plan_38, wi_iload, wi_icmp_ge, wi_getfield, fldv_8_10, fds_8_10, wi_ishl, wi_imul, wi_iinc, B_X9_plan_61, B_X9_plan_70, B_X9_plan_84, wi_icmp_le, B_X9_plan_98, B_X9_plan_100, B_X9_plan_114, B_X9_plan_116, B_X9_plan_124, B_X9_plan_131, wi_pop, fldv_8_5, fds_8_5, wi_iastore, cnt_31, aTy_31, aLn_31, arr_31, cnt_32, aTy_32, aLn_32, arr_32, cnt_47, aTy_47, aLn_47, arr_47, B_X9_plan_142, fldv_8_6, fds_8_6, wi_bipush, wi_iadd, fldv_8_28, fds_8_28, wi_iaload, B_X9_plan_173, no0, no1, nz1, nz2, nz3, nz4, nz5, nz7, nz8, Classical.not_not, bz0, bz1, wi_nil, ld_0, ld_s, isIv_I, isLv_L, isRv_R, true_and, and_true, lset_0, lset_1, lset_s, avw_I, avw_L, avw_R, clr_cons, clr_nil, kst_0, kst_1, kstL_0, kstL_1, addk_I, pA_0, pA_s, pD_0, pD_s, wid_nil, wid_cons, rcv_c, putv_I, putv_L, List.length_cons, List.length_nil, List.set_cons_zero, List.set_cons_succ, not_false_eq_true, Nat.reduceMod, Nat.reduceDiv, Nat.reduceEqDiff, Nat.reduceLT, Nat.reduceLeDiff, Nat.reduceAdd, Nat.reduceSub, reduceIte, Nat.lt_irrefl, Nat.zero_ne_one, Nat.one_ne_zero, Nat.zero_add, List.nil_append, List.cons_append, Option.toList_some, Option.toList_none, forall_const, false_implies, true_implies, false_or, or_false, true_or, or_true, i_le, i_lt, i_eq, i_eq0, i_lt0, i_0le, i_0lt, i_le0, i_in1, i_cl, nI_add, pk_mul, pk_sub, i_div, i_rem, i_sh1, i_bit, i_or, i_and, i_andn, nt_le, nf_le, nt_lt, nf_lt, nt_eq, nf_eq, not_true_eq_false, and_self, and_false, false_and, eq_self, Bool.toNat_true, Bool.toNat_false, i_bool, i_bool1, Bool.false_eq_true, Bool.true_eq_false, reduceCtorEq, i_neg1, i_neg2, i_neg3, i_neg4, i_neg5, i_neg6, i_neg7, i_neg8, i_neg9, i_nega, i_negb, i_negc, i_max2, i_min2, mI1, tI_s])
          exact hnx
        · rw [if_neg hle2] at hnx
          try dsimp only at hnx
          rw [tI_s] at hnx
          try simp (disch := omega) only [no0, no1, nz1, nz2, nz3, nz4, nz5, nz7, nz8, Classical.not_not, bz0, bz1, wi_nil, ld_0, ld_s, isIv_I, isLv_L, isRv_R, true_and, and_true, lset_0, lset_1, lset_s, avw_I, avw_L, avw_R, clr_cons, clr_nil, kst_0, kst_1, kstL_0, kstL_1, addk_I, pA_0, pA_s, pD_0, pD_s, wid_nil, wid_cons, rcv_c, putv_I, putv_L, List.length_cons, List.length_nil, List.set_cons_zero, List.set_cons_succ, not_false_eq_true, Nat.reduceMod, Nat.reduceDiv, Nat.reduceEqDiff, Nat.reduceLT, Nat.reduceLeDiff, Nat.reduceAdd, Nat.reduceSub, reduceIte, Nat.lt_irrefl, Nat.zero_ne_one, Nat.one_ne_zero, Nat.zero_add, List.nil_append, List.cons_append, Option.toList_some, Option.toList_none, forall_const, false_implies, true_implies, false_or, or_false, true_or, or_true, i_le, i_lt, i_eq, i_eq0, i_lt0, i_0le, i_0lt, i_le0, i_in1, i_cl, nI_add, pk_mul, pk_sub, i_div, i_rem, i_sh1, i_bit, i_or, i_and, i_andn, nt_le, nf_le, nt_lt, nf_lt, nt_eq, nf_eq, not_true_eq_false, and_self, and_false, false_and, eq_self, Bool.toNat_true, Bool.toNat_false, i_bool, i_bool1, Bool.false_eq_true, Bool.true_eq_false, reduceCtorEq, i_neg1, i_neg2, i_neg3, i_neg4, i_neg5, i_neg6, i_neg7, i_neg8, i_neg9, i_nega, i_negb, i_negc, i_max2, i_min2, mI1, tI_s, wi_nil]
          repeat (
            first
            | refine s_X9_plan_0 ?_
            | refine s_X9_plan_7 ?_
            | refine s_X9_plan_14 ?_
            | refine s_X9_plan_21 ?_
            | refine s_X9_plan_22 ?_
            | refine s_X9_plan_25 ?_
            | refine s_X9_plan_32 ?_
            | refine s_X9_plan_61 ?_
            | refine s_X9_plan_84 ?_
            | refine s_X9_plan_98 ?_
            | refine s_X9_plan_100 ?_
            | refine s_X9_plan_114 ?_
            | refine s_X9_plan_116 ?_
            | refine s_X9_plan_124 ?_
            | refine s_X9_plan_131 ?_
            | refine s_X9_plan_173 ?_
            simp (disch := omega) only [B_X9_plan_0, wi_aload_n, wi_iload_n, wi_iconst, wi_invokestatic, B_X9_plan_7, wi_if_eq, B_X9_plan_14, wi_goto, B_X9_plan_21, B_X9_plan_22, wi_invokevirtual, cnt_8, B_X9_plan_25, wi_istore_n, wi_if_ge, wi_ireturn, B_X9_plan_32, wi_istore, B_X9_plan_38, wi_iload, wi_icmp_ge, wi_getfield, fldv_8_10, fds_8_10, wi_ishl, wi_imul, wi_iinc, B_X9_plan_61, B_X9_plan_70, B_X9_plan_84, wi_icmp_le, B_X9_plan_98, B_X9_plan_100, B_X9_plan_114, B_X9_plan_116, B_X9_plan_124, B_X9_plan_131, wi_pop, fldv_8_5, fds_8_5, wi_iastore, cnt_31, aTy_31, aLn_31, arr_31, cnt_32, aTy_32, aLn_32, arr_32, cnt_47, aTy_47, aLn_47, arr_47, B_X9_plan_142, fldv_8_6, fds_8_6, wi_bipush, wi_iadd, fldv_8_28, fds_8_28, wi_iaload, B_X9_plan_173, no0, no1, nz1, nz2, nz3, nz4, nz5, nz7, nz8, Classical.not_not, bz0, bz1, wi_nil, ld_0, ld_s, isIv_I, isLv_L, isRv_R, true_and, and_true, lset_0, lset_1, lset_s, avw_I, avw_L, avw_R, clr_cons, clr_nil, kst_0, kst_1, kstL_0, kstL_1, addk_I, pA_0, pA_s, pD_0, pD_s, wid_nil, wid_cons, rcv_c, putv_I, putv_L, List.length_cons, List.length_nil, List.set_cons_zero, List.set_cons_succ, not_false_eq_true, Nat.reduceMod, Nat.reduceDiv, Nat.reduceEqDiff, Nat.reduceLT, Nat.reduceLeDiff, Nat.reduceAdd, Nat.reduceSub, reduceIte, Nat.lt_irrefl, Nat.zero_ne_one, Nat.one_ne_zero, Nat.zero_add, List.nil_append, List.cons_append, Option.toList_some, Option.toList_none, forall_const, false_implies, true_implies, false_or, or_false, true_or, or_true, i_le, i_lt, i_eq, i_eq0, i_lt0, i_0le, i_0lt, i_le0, i_in1, i_cl, nI_add, pk_mul, pk_sub, i_div, i_rem, i_sh1, i_bit, i_or, i_and, i_andn, nt_le, nf_le, nt_lt, nf_lt, nt_eq, nf_eq, not_true_eq_false, and_self, and_false, false_and, eq_self, Bool.toNat_true, Bool.toNat_false, i_bool, i_bool1, Bool.false_eq_true, Bool.true_eq_false, reduceCtorEq, i_neg1, i_neg2, i_neg3, i_neg4, i_neg5, i_neg6, i_neg7, i_neg8, i_neg9, i_nega, i_negb, i_negc, i_max2, i_min2, mI1, tI_s])
          exact hnx
theorem l_prow {n r : Nat} {z : Int32} {D : Nat → Nat} {S0 : MS} (hn : n ≤ 3) (hr : r < 6) (hD : ∀ i, i < n → gA S0 47 0 i = nI (D i)) (q : ∀ g, (∀ i, i < n → g (40 * r + i) = nI (D i)) → (∀ p, (p < 40 * r ∨ 40 * r + 40 ≤ p) → g p = gA S0 32 0 p) → P (some (aI z)) (sA S0 32 0 g)) : ∀ (m t : Nat) (g : Nat → Int32), t + m = n → (∀ i, i < t → g (40 * r + i) = nI (D i)) → (∀ p, (p < 40 * r ∨ 40 * r + 40 ≤ p) → g p = gA S0 32 0 p) → wpX (d + 9) mX9_plan 142 [aR 8 0, aI (nI n), aI (nI r), aU, aU, aU, aI z, aI (nI t), aU] [] (sA S0 32 0 g) P := by
  intro m
  induction m with
  | zero =>
    intro t g ht h1 h2
    have e : t = n := by omega
    subst e
    refine s_X9_plan_142 ?_
    simp (disch := omega) only [B_X9_plan_142, wi_iload, wi_iload_n, wi_icmp_ge, wi_aload_n, wi_getfield, fldv_8_6, fds_8_6, cnt_8, wi_bipush, wi_imul, wi_iadd, fldv_8_28, fds_8_28, wi_iaload, wi_iastore, wi_iinc, wi_goto, cnt_31, aTy_31, aLn_31, arr_31, cnt_32, aTy_32, aLn_32, arr_32, cnt_47, aTy_47, aLn_47, arr_47, no0, no1, nz1, nz2, nz3, nz4, nz5, nz7, nz8, Classical.not_not, bz0, bz1, wi_nil, ld_0, ld_s, isIv_I, isLv_L, isRv_R, true_and, and_true, lset_0, lset_1, lset_s, avw_I, avw_L, avw_R, clr_cons, clr_nil, kst_0, kst_1, kstL_0, kstL_1, addk_I, pA_0, pA_s, pD_0, pD_s, wid_nil, wid_cons, rcv_c, putv_I, putv_L, List.length_cons, List.length_nil, List.set_cons_zero, List.set_cons_succ, not_false_eq_true, Nat.reduceMod, Nat.reduceDiv, Nat.reduceEqDiff, Nat.reduceLT, Nat.reduceLeDiff, Nat.reduceAdd, Nat.reduceSub, reduceIte, Nat.lt_irrefl, Nat.zero_ne_one, Nat.one_ne_zero, Nat.zero_add, List.nil_append, List.cons_append, Option.toList_some, Option.toList_none, forall_const, false_implies, true_implies, false_or, or_false, true_or, or_true, i_le, i_lt, i_eq, i_eq0, i_lt0, i_0le, i_0lt, i_le0, i_in1, i_cl, nI_add, pk_mul, pk_sub, i_div, i_rem, i_sh1, i_bit, i_or, i_and, i_andn, nt_le, nf_le, nt_lt, nf_lt, nt_eq, nf_eq, not_true_eq_false, and_self, and_false, false_and, eq_self, Bool.toNat_true, Bool.toNat_false, i_bool, i_bool1, Bool.false_eq_true, Bool.true_eq_false, reduceCtorEq, i_neg1, i_neg2, i_neg3, i_neg4, i_neg5, i_neg6, i_neg7, i_neg8, i_neg9, i_nega, i_negb, i_negc, i_max2, i_min2]
    try simp (disch := omega) only [no0, no1, nz1, nz2, nz3, nz4, nz5, nz7, nz8, Classical.not_not, bz0, bz1, wi_nil, ld_0, ld_s, isIv_I, isLv_L, isRv_R, true_and, and_true, lset_0, lset_1, lset_s, avw_I, avw_L, avw_R, clr_cons, clr_nil, kst_0, kst_1, kstL_0, kstL_1, addk_I, pA_0, pA_s, pD_0, pD_s, wid_nil, wid_cons, rcv_c, putv_I, putv_L, List.length_cons, List.length_nil, List.set_cons_zero, List.set_cons_succ, not_false_eq_true, Nat.reduceMod, Nat.reduceDiv, Nat.reduceEqDiff, Nat.reduceLT, Nat.reduceLeDiff, Nat.reduceAdd, Nat.reduceSub, reduceIte, Nat.lt_irrefl, Nat.zero_ne_one, Nat.one_ne_zero, Nat.zero_add, List.nil_append, List.cons_append, Option.toList_some, Option.toList_none, forall_const, false_implies, true_implies, false_or, or_false, true_or, or_true, i_le, i_lt, i_eq, i_eq0, i_lt0, i_0le, i_0lt, i_le0, i_in1, i_cl, nI_add, pk_mul, pk_sub, i_div, i_rem, i_sh1, i_bit, i_or, i_and, i_andn, nt_le, nf_le, nt_lt, nf_lt, nt_eq, nf_eq, not_true_eq_false, and_self, and_false, false_and, eq_self, Bool.toNat_true, Bool.toNat_false, i_bool, i_bool1, Bool.false_eq_true, Bool.true_eq_false, reduceCtorEq, i_neg1, i_neg2, i_neg3, i_neg4, i_neg5, i_neg6, i_neg7, i_neg8, i_neg9, i_nega, i_negb, i_negc, i_max2, i_min2, wi_nil]
    repeat (
      first
      | refine s_X9_plan_0 ?_
      | refine s_X9_plan_7 ?_
      | refine s_X9_plan_14 ?_
      | refine s_X9_plan_21 ?_
      | refine s_X9_plan_22 ?_
      | refine s_X9_plan_25 ?_
      | refine s_X9_plan_32 ?_
      | refine s_X9_plan_61 ?_
      | refine s_X9_plan_84 ?_
      | refine s_X9_plan_98 ?_
      | refine s_X9_plan_100 ?_
      | refine s_X9_plan_114 ?_
      | refine s_X9_plan_116 ?_
      | refine s_X9_plan_124 ?_
      | refine s_X9_plan_131 ?_
      | refine s_X9_plan_173 ?_
      simp (disch := omega) only [B_X9_plan_0, wi_aload_n, wi_iload_n, wi_iconst, wi_invokestatic, B_X9_plan_7, wi_if_eq, B_X9_plan_14, wi_goto, B_X9_plan_21, B_X9_plan_22, wi_invokevirtual, cnt_8, B_X9_plan_25, wi_istore_n, wi_if_ge, wi_ireturn, B_X9_plan_32, wi_istore, B_X9_plan_38, wi_iload, wi_icmp_ge, wi_getfield, fldv_8_10, fds_8_10, wi_ishl, wi_imul, wi_iinc, B_X9_plan_61, B_X9_plan_70, B_X9_plan_84, wi_icmp_le, B_X9_plan_98, B_X9_plan_100, B_X9_plan_114, B_X9_plan_116, B_X9_plan_124, B_X9_plan_131, wi_pop, fldv_8_5, fds_8_5, wi_iastore, cnt_31, aTy_31, aLn_31, arr_31, cnt_32, aTy_32, aLn_32, arr_32, cnt_47, aTy_47, aLn_47, arr_47, B_X9_plan_142, fldv_8_6, fds_8_6, wi_bipush, wi_iadd, fldv_8_28, fds_8_28, wi_iaload, B_X9_plan_173, no0, no1, nz1, nz2, nz3, nz4, nz5, nz7, nz8, Classical.not_not, bz0, bz1, wi_nil, ld_0, ld_s, isIv_I, isLv_L, isRv_R, true_and, and_true, lset_0, lset_1, lset_s, avw_I, avw_L, avw_R, clr_cons, clr_nil, kst_0, kst_1, kstL_0, kstL_1, addk_I, pA_0, pA_s, pD_0, pD_s, wid_nil, wid_cons, rcv_c, putv_I, putv_L, List.length_cons, List.length_nil, List.set_cons_zero, List.set_cons_succ, not_false_eq_true, Nat.reduceMod, Nat.reduceDiv, Nat.reduceEqDiff, Nat.reduceLT, Nat.reduceLeDiff, Nat.reduceAdd, Nat.reduceSub, reduceIte, Nat.lt_irrefl, Nat.zero_ne_one, Nat.one_ne_zero, Nat.zero_add, List.nil_append, List.cons_append, Option.toList_some, Option.toList_none, forall_const, false_implies, true_implies, false_or, or_false, true_or, or_true, i_le, i_lt, i_eq, i_eq0, i_lt0, i_0le, i_0lt, i_le0, i_in1, i_cl, nI_add, pk_mul, pk_sub, i_div, i_rem, i_sh1, i_bit, i_or, i_and, i_andn, nt_le, nf_le, nt_lt, nf_lt, nt_eq, nf_eq, not_true_eq_false, and_self, and_false, false_and, eq_self, Bool.toNat_true, Bool.toNat_false, i_bool, i_bool1, Bool.false_eq_true, Bool.true_eq_false, reduceCtorEq, i_neg1, i_neg2, i_neg3, i_neg4, i_neg5, i_neg6, i_neg7, i_neg8, i_neg9, i_nega, i_negb, i_negc, i_max2, i_min2])
    exact q g h1 h2
  | succ m ih =>
    intro t g ht h1 h2
    have hd : gA (sA S0 32 0 g) 47 0 t = nI (D t) := hD t (by omega)
    refine s_X9_plan_142 ?_
    simp (disch := omega) only [B_X9_plan_142, wi_iload, wi_iload_n, wi_icmp_ge, wi_aload_n, wi_getfield, fldv_8_6, fds_8_6, cnt_8, wi_bipush, wi_imul, wi_iadd, fldv_8_28, fds_8_28, wi_iaload, wi_iastore, wi_iinc, wi_goto, cnt_31, aTy_31, aLn_31, arr_31, cnt_32, aTy_32, aLn_32, arr_32, cnt_47, aTy_47, aLn_47, arr_47, no0, no1, nz1, nz2, nz3, nz4, nz5, nz7, nz8, Classical.not_not, bz0, bz1, wi_nil, ld_0, ld_s, isIv_I, isLv_L, isRv_R, true_and, and_true, lset_0, lset_1, lset_s, avw_I, avw_L, avw_R, clr_cons, clr_nil, kst_0, kst_1, kstL_0, kstL_1, addk_I, pA_0, pA_s, pD_0, pD_s, wid_nil, wid_cons, rcv_c, putv_I, putv_L, List.length_cons, List.length_nil, List.set_cons_zero, List.set_cons_succ, not_false_eq_true, Nat.reduceMod, Nat.reduceDiv, Nat.reduceEqDiff, Nat.reduceLT, Nat.reduceLeDiff, Nat.reduceAdd, Nat.reduceSub, reduceIte, Nat.lt_irrefl, Nat.zero_ne_one, Nat.one_ne_zero, Nat.zero_add, List.nil_append, List.cons_append, Option.toList_some, Option.toList_none, forall_const, false_implies, true_implies, false_or, or_false, true_or, or_true, i_le, i_lt, i_eq, i_eq0, i_lt0, i_0le, i_0lt, i_le0, i_in1, i_cl, nI_add, pk_mul, pk_sub, i_div, i_rem, i_sh1, i_bit, i_or, i_and, i_andn, nt_le, nf_le, nt_lt, nf_lt, nt_eq, nf_eq, not_true_eq_false, and_self, and_false, false_and, eq_self, Bool.toNat_true, Bool.toNat_false, i_bool, i_bool1, Bool.false_eq_true, Bool.true_eq_false, reduceCtorEq, i_neg1, i_neg2, i_neg3, i_neg4, i_neg5, i_neg6, i_neg7, i_neg8, i_neg9, i_nega, i_negb, i_negc, i_max2, i_min2, hd]
    rw [gA_same, sA_sA]
    refine ih (t + 1) _ (by omega) (fun i hi => ?_) (fun p hp => ?_)
    · by_cases e : i = t
      · subst e; rw [pk_us]
      · rw [pk_un (by omega)]
        exact h1 i (by omega)
    · rw [pk_un (by omega)]
      exact h2 p hp
end
