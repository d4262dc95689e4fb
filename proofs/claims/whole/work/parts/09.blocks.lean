-- PART 09 (by gen_blk.py): a list of instructions is the code's; what wpI asks suffices
def inOk (u pc : Nat) (i : Jvm.ClassFile.Instr) (len a b c : Nat) : Bool := match i with
  | .iconst n => decide (len = 1) && decide (Int32.ofInt n = kst a b)
  | .bipush n => decide (len = 2) && decide ((Int8.ofInt n).toInt32 = kst a b)
  | .sipush n => decide (len = 3) && decide ((Int16.ofInt n).toInt32 = kst a b)
  | .ldc x => decide (len = 2) && cns.any (fun e => decide (e.1 = mO u ∧ e.2.1 = x ∧ e.2.2.1 = 0 ∧ Int32.ofInt e.2.2.2.2 = kst a b))
  | .ldc_w x => decide (len = 3) && cns.any (fun e => decide (e.1 = mO u ∧ e.2.1 = x ∧ e.2.2.1 = 0 ∧ Int32.ofInt e.2.2.2.2 = kst a b))
  | .lconst n => decide (len = 1) && decide (Int64.ofNat (n : Nat) = kstL a b)
  | .ldc2_w x => decide (len = 3) && cns.any (fun e => decide (e.1 = mO u ∧ e.2.1 = x ∧ e.2.2.1 = 1 ∧ Int64.ofInt e.2.2.2.2 = kstL a b))
  | .iload_n n => decide (len = 1) && decide ((n : Nat) = a)
  | .lload_n n => decide (len = 1) && decide ((n : Nat) = a)
  | .aload_n n => decide (len = 1) && decide ((n : Nat) = a)
  | .iload n => decide (len = 2) && decide (n = a)
  | .lload n => decide (len = 2) && decide (n = a)
  | .aload n => decide (len = 2) && decide (n = a)
  | .istore_n n => decide (len = 1) && decide ((n : Nat) = a) && decide (a < mL u)
  | .astore_n n => decide (len = 1) && decide ((n : Nat) = a) && decide (a < mL u)
  | .lstore_n n => decide (len = 1) && decide ((n : Nat) = a) && decide (a + 1 < mL u)
  | .istore n => decide (len = 2) && decide (n = a) && decide (a < mL u)
  | .astore n => decide (len = 2) && decide (n = a) && decide (a < mL u)
  | .lstore n => decide (len = 2) && decide (n = a) && decide (a + 1 < mL u)
  | .iinc j z => decide (len = 3) && decide (Int32.ofInt z = kst a b) && decide (j < mL u)
  | .getfield x => decide (len = 3) && lkOk (mO u) x b a
  | .putfield x => decide (len = 3) && lkOk (mO u) x b a
  | .getstatic x => decide (len = 3) && decide (mO u = 1) && decide ((x = 11 ∧ a = 60) ∨ (x = 15 ∧ a = 61))
  | .goto z => decide (len = 3) && decide ((pc : Int) + z = (a : Int))
  | .ifCond _ z => decide (len = 3) && decide ((pc : Int) + z = (a : Int))
  | .if_icmp _ z => decide (len = 3) && decide ((pc : Int) + z = (a : Int))
  | .tableswitch dd lo hi offs => decide (a = pc) && decide (0 ≤ (pc : Int) + dd) && offs.toList.all (fun o => decide (0 ≤ (pc : Int) + o)) && decide (hi - lo + 1 = (offs.size : Int))
  | .ireturn => decide (len = 1) && (decide (mR u = some .int) || (decide (mR u = some .boolean) && decide (a = 1)))
  | .lreturn => decide (len = 1) && decide (mR u = some .long)
  | .areturn => decide (len = 1) && (match mR u with
    | some (.object _) => true
    | some (.array _) => true
    | _ => false)
  | .return_ => decide (len = 1) && decide (mR u = none)
  | .invokevirtual x => decide (len = 3) && decide (a < nM) && cLk.any (fun e => decide (e.1 = mO u ∧ e.2.1 = x ∧ e.2.2.1 = a ∧ e.2.2.2.1 = 1)) && decide (¬ (mPl.getD a (1, 0, 0, 0, 0, 0, 0)).1 = 0) && decide ((mPl.getD a (1, 0, 0, 0, 0, 0, 0)).2.2.2.2.2.2 + 1 = b) && decide (c < 9) && decide ((mY a).cls = (clG c).1)
  | .invokestatic x => decide (len = 3) && (match c with
    | 0 => decide (a < nM) && cLk.any (fun e => decide (e.1 = mO u ∧ e.2.1 = x ∧ e.2.2.1 = a ∧ e.2.2.2.1 = 0)) && decide ((mPl.getD a (1, 0, 0, 0, 0, 0, 0)).1 = 0) && decide ((mPl.getD a (1, 0, 0, 0, 0, 0, 0)).2.2.2.2.2.2 = b)
    | 1 => aLk.any (fun e => decide (e.1 = mO u ∧ e.2.1 = x))
    | 2 => cLk.any (fun e => decide (e.1 = mO u ∧ e.2.1 = x ∧ e.2.2.1 = uMax ∧ e.2.2.2.1 = 0))
    | 3 => cLk.any (fun e => decide (e.1 = mO u ∧ e.2.1 = x ∧ e.2.2.1 = uMin ∧ e.2.2.2.1 = 0))
    | _ => false)
  | _ => decide (len = 1)
def blkOk (u nx : Nat) : Nat → List AIn → Bool
  | pc, [] => decide (pc = nx)
  | pc, (i, a, b, c) :: is => match decode (mC u) pc with
    | .ok (j, len) => decide (j = i) && inOk u pc i len a b c && blkOk u nx (pc + len) is
    | _ => false
theorem pA_eq : ∀ (n : Nat) (st acc : List AV), n ≤ st.length → (pA n st acc).length = n + acc.length ∧ ∃ as, pA n st acc = as ++ acc ∧ as.reverse ++ pD n st = st := by
  intro n
  induction n with
  | zero => intro st acc _; exact ⟨by rw [pA_0, Nat.zero_add], [], by rw [pA_0]; rfl, by rw [pD_0]; rfl⟩
  | succ n ih =>
    intro st acc h
    cases st with
    | nil => exact absurd h (Nat.not_succ_le_zero n)
    | cons v t =>
      obtain ⟨h1, as, h2, h3⟩ := ih t (v :: acc) (Nat.le_of_succ_le_succ h)
      rw [pA_s, pD_s]
      refine ⟨by rw [h1, List.length_cons]; omega, as ++ [v], by rw [h2, List.append_assoc]; rfl, ?_⟩
      rw [List.reverse_append, List.reverse_singleton, List.singleton_append, List.cons_append, h3]
theorem pA_nil {n : Nat} {st : List AV} (h : n ≤ st.length) : (pA n st []).reverse ++ pD n st = st ∧ (pA n st []).length = n := by
  obtain ⟨h1, as, h2, h3⟩ := pA_eq n st [] h
  rw [List.append_nil] at h2
  rw [h2]
  exact ⟨h3, by rw [← h2]; exact h1⟩
set_option maxHeartbeats 4000000 in
set_option maxRecDepth 100000 in
theorem wpI_sound {d u nx mk : Nat} {K : Nat → List AV → List AV → MS → Prop} {C : Nat → List AV → MS → (Option AV → MS → Prop) → Prop} {R : Option AV → MS → Prop} (hK : ∀ pc ls st S, K pc ls st S → wpX d u pc ls st S R) (hC : ∀ a as S P, C a as S P → wpM d a as S P) :
    ∀ (is : List AIn) (pc : Nat) (ls st : List AV) (S : MS), blkOk u nx pc is = true → wpI K C R nx mk is ls st S → wpX d u pc ls st S R := by
  intro is
  induction is with
  | nil =>
    intro pc ls st S hb h
    have e : pc = nx := of_decide_eq_true hb
    subst e
    exact x_clr mk (hK _ _ _ _ h)
  | cons q is ih =>
    intro pc ls st S hb0 h
    obtain ⟨i, a, b, c⟩ := q
    have hd : ∃ len, decode (mC u) pc = .ok (i, len) ∧ inOk u pc i len a b c = true ∧ blkOk u nx (pc + len) is = true := by
      unfold blkOk at hb0
      split at hb0
      · rename_i j len hdd
        obtain ⟨h1, h2⟩ := Bool.and_eq_true_iff.mp hb0
        obtain ⟨h3, h4⟩ := Bool.and_eq_true_iff.mp h1
        have e : j = i := of_decide_eq_true h3
        subst e
        exact ⟨len, hdd, h4, h2⟩
      · cases hb0
    obtain ⟨len, hdg, hin, hb⟩ := hd
    cases i
    case iconst n =>
      simp only [inOk, Bool.and_eq_true, decide_eq_true_eq] at hin
      obtain ⟨rfl, h1⟩ := hin
      exact x_iconst hdg h1 (ih _ _ _ _ hb h)
    case bipush n =>
      simp only [inOk, Bool.and_eq_true, decide_eq_true_eq] at hin
      obtain ⟨rfl, h1⟩ := hin
      exact x_bipush hdg h1 (ih _ _ _ _ hb h)
    case sipush n =>
      simp only [inOk, Bool.and_eq_true, decide_eq_true_eq] at hin
      obtain ⟨rfl, h1⟩ := hin
      exact x_sipush hdg h1 (ih _ _ _ _ hb h)
    case lconst n =>
      simp only [inOk, Bool.and_eq_true, decide_eq_true_eq] at hin
      obtain ⟨rfl, h1⟩ := hin
      exact x_lconst hdg h1 (ih _ _ _ _ hb h)
    case ldc n =>
      obtain ⟨h0, h1⟩ := Bool.and_eq_true_iff.mp hin
      have e : len = 2 := of_decide_eq_true h0
      subst e
      exact x_ldc hdg (cns_w h1) (ih _ _ _ _ hb h)
    case ldc_w n =>
      obtain ⟨h0, h1⟩ := Bool.and_eq_true_iff.mp hin
      have e : len = 3 := of_decide_eq_true h0
      subst e
      exact x_ldc_w hdg (cns_w h1) (ih _ _ _ _ hb h)
    case ldc2_w n =>
      obtain ⟨h0, h1⟩ := Bool.and_eq_true_iff.mp hin
      have e : len = 3 := of_decide_eq_true h0
      subst e
      exact x_ldc2_w hdg (cns_wL h1) (ih _ _ _ _ hb h)
    case iload_n n =>
      simp only [inOk, Bool.and_eq_true, decide_eq_true_eq] at hin
      obtain ⟨rfl, rfl⟩ := hin
      obtain ⟨h1, h2⟩ := (show isIv (ld ls (n : Nat)) ∧ wpI K C R nx mk is ls (ld ls (n : Nat) :: st) S from h)
      cases hx : ld ls (n : Nat) with
      | inl x => rw [hx] at h1 h2; first | exact x_iload_n hdg rfl hx (ih _ _ _ _ hb h2) | exact False.elim h1
      | inr x =>
        rw [hx] at h1 h2
        rcases x with x | ⟨x, y⟩
        · first | exact x_iload_n hdg rfl hx (ih _ _ _ _ hb h2) | exact False.elim h1
        · first | exact x_iload_n hdg rfl hx (ih _ _ _ _ hb h2) | exact False.elim h1
    case iload n =>
      simp only [inOk, Bool.and_eq_true, decide_eq_true_eq] at hin
      obtain ⟨rfl, rfl⟩ := hin
      obtain ⟨h1, h2⟩ := (show isIv (ld ls n) ∧ wpI K C R nx mk is ls (ld ls n :: st) S from h)
      cases hx : ld ls n with
      | inl x => rw [hx] at h1 h2; first | exact x_iload hdg hx (ih _ _ _ _ hb h2) | exact False.elim h1
      | inr x =>
        rw [hx] at h1 h2
        rcases x with x | ⟨x, y⟩
        · first | exact x_iload hdg hx (ih _ _ _ _ hb h2) | exact False.elim h1
        · first | exact x_iload hdg hx (ih _ _ _ _ hb h2) | exact False.elim h1
    case lload_n n =>
      simp only [inOk, Bool.and_eq_true, decide_eq_true_eq] at hin
      obtain ⟨rfl, rfl⟩ := hin
      obtain ⟨h1, h2⟩ := (show isLv (ld ls (n : Nat)) ∧ wpI K C R nx mk is ls (ld ls (n : Nat) :: st) S from h)
      cases hx : ld ls (n : Nat) with
      | inl x => rw [hx] at h1 h2; first | exact x_lload_n hdg rfl hx (ih _ _ _ _ hb h2) | exact False.elim h1
      | inr x =>
        rw [hx] at h1 h2
        rcases x with x | ⟨x, y⟩
        · first | exact x_lload_n hdg rfl hx (ih _ _ _ _ hb h2) | exact False.elim h1
        · first | exact x_lload_n hdg rfl hx (ih _ _ _ _ hb h2) | exact False.elim h1
    case lload n =>
      simp only [inOk, Bool.and_eq_true, decide_eq_true_eq] at hin
      obtain ⟨rfl, rfl⟩ := hin
      obtain ⟨h1, h2⟩ := (show isLv (ld ls n) ∧ wpI K C R nx mk is ls (ld ls n :: st) S from h)
      cases hx : ld ls n with
      | inl x => rw [hx] at h1 h2; first | exact x_lload hdg hx (ih _ _ _ _ hb h2) | exact False.elim h1
      | inr x =>
        rw [hx] at h1 h2
        rcases x with x | ⟨x, y⟩
        · first | exact x_lload hdg hx (ih _ _ _ _ hb h2) | exact False.elim h1
        · first | exact x_lload hdg hx (ih _ _ _ _ hb h2) | exact False.elim h1
    case aload_n n =>
      simp only [inOk, Bool.and_eq_true, decide_eq_true_eq] at hin
      obtain ⟨rfl, rfl⟩ := hin
      obtain ⟨h1, h2⟩ := (show isRv (ld ls (n : Nat)) ∧ wpI K C R nx mk is ls (ld ls (n : Nat) :: st) S from h)
      cases hx : ld ls (n : Nat) with
      | inl x => rw [hx] at h1 h2; first | exact x_aload_n hdg rfl hx h1 (ih _ _ _ _ hb h2) | exact False.elim h1
      | inr x =>
        rw [hx] at h1 h2
        rcases x with x | ⟨x, y⟩
        · first | exact x_aload_n hdg rfl hx h1 (ih _ _ _ _ hb h2) | exact False.elim h1
        · first | exact x_aload_n hdg rfl hx h1 (ih _ _ _ _ hb h2) | exact False.elim h1
    case aload n =>
      simp only [inOk, Bool.and_eq_true, decide_eq_true_eq] at hin
      obtain ⟨rfl, rfl⟩ := hin
      obtain ⟨h1, h2⟩ := (show isRv (ld ls n) ∧ wpI K C R nx mk is ls (ld ls n :: st) S from h)
      cases hx : ld ls n with
      | inl x => rw [hx] at h1 h2; first | exact x_aload hdg hx h1 (ih _ _ _ _ hb h2) | exact False.elim h1
      | inr x =>
        rw [hx] at h1 h2
        rcases x with x | ⟨x, y⟩
        · first | exact x_aload hdg hx h1 (ih _ _ _ _ hb h2) | exact False.elim h1
        · first | exact x_aload hdg hx h1 (ih _ _ _ _ hb h2) | exact False.elim h1
    case istore_n n =>
      simp only [inOk, Bool.and_eq_true, decide_eq_true_eq] at hin
      obtain ⟨⟨rfl, h3⟩, h4⟩ := hin
      rcases st with _ | ⟨v, r⟩
      · exact False.elim h
      · obtain ⟨h1, h2⟩ := (show isIv v ∧ wpI K C R nx mk is (lset ls a v) r S from h)
        rcases v with x | x | ⟨x, y⟩
        all_goals first | exact x_istore_n hdg h3 h4 (ih _ _ _ _ hb h2) | exact False.elim h1
    case istore n =>
      simp only [inOk, Bool.and_eq_true, decide_eq_true_eq] at hin
      obtain ⟨⟨rfl, rfl⟩, h4⟩ := hin
      rcases st with _ | ⟨v, r⟩
      · exact False.elim h
      · obtain ⟨h1, h2⟩ := (show isIv v ∧ wpI K C R nx mk is (lset ls n v) r S from h)
        rcases v with x | x | ⟨x, y⟩
        all_goals first | exact x_istore hdg h4 (ih _ _ _ _ hb h2) | exact False.elim h1
    case astore_n n =>
      simp only [inOk, Bool.and_eq_true, decide_eq_true_eq] at hin
      obtain ⟨⟨rfl, h3⟩, h4⟩ := hin
      rcases st with _ | ⟨v, r⟩
      · exact False.elim h
      · obtain ⟨h1, h2⟩ := (show isRv v ∧ wpI K C R nx mk is (lset ls a v) r S from h)
        rcases v with x | x | ⟨x, y⟩
        all_goals first | exact x_astore_n hdg h3 h4 (ih _ _ _ _ hb h2) | exact False.elim h1
    case astore n =>
      simp only [inOk, Bool.and_eq_true, decide_eq_true_eq] at hin
      obtain ⟨⟨rfl, rfl⟩, h4⟩ := hin
      rcases st with _ | ⟨v, r⟩
      · exact False.elim h
      · obtain ⟨h1, h2⟩ := (show isRv v ∧ wpI K C R nx mk is (lset ls n v) r S from h)
        rcases v with x | x | ⟨x, y⟩
        all_goals first | exact x_astore hdg h4 (ih _ _ _ _ hb h2) | exact False.elim h1
    case lstore_n n =>
      simp only [inOk, Bool.and_eq_true, decide_eq_true_eq] at hin
      obtain ⟨⟨rfl, h3⟩, h4⟩ := hin
      rcases st with _ | ⟨v, r⟩
      · exact False.elim h
      · obtain ⟨h1, h2⟩ := (show isLv v ∧ wpI K C R nx mk is ((lset ls a v).set (a + 1) aU) r S from h)
        rcases v with x | x | ⟨x, y⟩
        all_goals first | exact x_lstore_n hdg h3 h4 (ih _ _ _ _ hb h2) | exact False.elim h1
    case lstore n =>
      simp only [inOk, Bool.and_eq_true, decide_eq_true_eq] at hin
      obtain ⟨⟨rfl, rfl⟩, h4⟩ := hin
      rcases st with _ | ⟨v, r⟩
      · exact False.elim h
      · obtain ⟨h1, h2⟩ := (show isLv v ∧ wpI K C R nx mk is ((lset ls n v).set (n + 1) aU) r S from h)
        rcases v with x | x | ⟨x, y⟩
        all_goals first | exact x_lstore hdg h4 (ih _ _ _ _ hb h2) | exact False.elim h1
    case iinc j z =>
      simp only [inOk, Bool.and_eq_true, decide_eq_true_eq] at hin
      obtain ⟨⟨rfl, h3⟩, h4⟩ := hin
      obtain ⟨h1, h2⟩ := (show isIv (ld ls j) ∧ wpI K C R nx mk is (lset ls j (addk (ld ls j) (kst a b))) st S from h)
      rcases hx : ld ls j with x | x
      · rw [hx] at h2
        exact x_iinc hdg hx h3 h4 (ih _ _ _ _ hb h2)
      · rw [hx] at h1
        rcases x with x | x <;> exact False.elim h1
    case iadd  =>
      have e : len = 1 := of_decide_eq_true hin
      subst e
      rcases st with _ | ⟨y | y | y, _ | ⟨x | x | x, r⟩⟩
      all_goals first | exact x_iadd hdg (ih _ _ _ _ hb h) | exact False.elim h
    case isub  =>
      have e : len = 1 := of_decide_eq_true hin
      subst e
      rcases st with _ | ⟨y | y | y, _ | ⟨x | x | x, r⟩⟩
      all_goals first | exact x_isub hdg (ih _ _ _ _ hb h) | exact False.elim h
    case imul  =>
      have e : len = 1 := of_decide_eq_true hin
      subst e
      rcases st with _ | ⟨y | y | y, _ | ⟨x | x | x, r⟩⟩
      all_goals first | exact x_imul hdg (ih _ _ _ _ hb h) | exact False.elim h
    case iand  =>
      have e : len = 1 := of_decide_eq_true hin
      subst e
      rcases st with _ | ⟨y | y | y, _ | ⟨x | x | x, r⟩⟩
      all_goals first | exact x_iand hdg (ih _ _ _ _ hb h) | exact False.elim h
    case ior  =>
      have e : len = 1 := of_decide_eq_true hin
      subst e
      rcases st with _ | ⟨y | y | y, _ | ⟨x | x | x, r⟩⟩
      all_goals first | exact x_ior hdg (ih _ _ _ _ hb h) | exact False.elim h
    case ixor  =>
      have e : len = 1 := of_decide_eq_true hin
      subst e
      rcases st with _ | ⟨y | y | y, _ | ⟨x | x | x, r⟩⟩
      all_goals first | exact x_ixor hdg (ih _ _ _ _ hb h) | exact False.elim h
    case ishl  =>
      have e : len = 1 := of_decide_eq_true hin
      subst e
      rcases st with _ | ⟨y | y | y, _ | ⟨x | x | x, r⟩⟩
      all_goals first | exact x_ishl hdg (ih _ _ _ _ hb h) | exact False.elim h
    case ishr  =>
      have e : len = 1 := of_decide_eq_true hin
      subst e
      rcases st with _ | ⟨y | y | y, _ | ⟨x | x | x, r⟩⟩
      all_goals first | exact x_ishr hdg (ih _ _ _ _ hb h) | exact False.elim h
    case iushr  =>
      have e : len = 1 := of_decide_eq_true hin
      subst e
      rcases st with _ | ⟨y | y | y, _ | ⟨x | x | x, r⟩⟩
      all_goals first | exact x_iushr hdg (ih _ _ _ _ hb h) | exact False.elim h
    case ladd  =>
      have e : len = 1 := of_decide_eq_true hin
      subst e
      rcases st with _ | ⟨y | y | y, _ | ⟨x | x | x, r⟩⟩
      all_goals first | exact x_ladd hdg (ih _ _ _ _ hb h) | exact False.elim h
    case lmul  =>
      have e : len = 1 := of_decide_eq_true hin
      subst e
      rcases st with _ | ⟨y | y | y, _ | ⟨x | x | x, r⟩⟩
      all_goals first | exact x_lmul hdg (ih _ _ _ _ hb h) | exact False.elim h
    case lcmp  =>
      have e : len = 1 := of_decide_eq_true hin
      subst e
      rcases st with _ | ⟨y | y | y, _ | ⟨x | x | x, r⟩⟩
      all_goals first | exact x_lcmp hdg (ih _ _ _ _ hb h) | exact False.elim h
    case idiv  =>
      have e : len = 1 := of_decide_eq_true hin
      subst e
      rcases st with _ | ⟨y | y | y, _ | ⟨x | x | x, r⟩⟩
      all_goals first | exact x_idiv hdg h.1 (ih _ _ _ _ hb h.2) | exact False.elim h
    case irem  =>
      have e : len = 1 := of_decide_eq_true hin
      subst e
      rcases st with _ | ⟨y | y | y, _ | ⟨x | x | x, r⟩⟩
      all_goals first | exact x_irem hdg h.1 (ih _ _ _ _ hb h.2) | exact False.elim h
    case ldiv  =>
      have e : len = 1 := of_decide_eq_true hin
      subst e
      rcases st with _ | ⟨y | y | y, _ | ⟨x | x | x, r⟩⟩
      all_goals first | exact x_ldiv hdg h.1 (ih _ _ _ _ hb h.2) | exact False.elim h
    case lrem  =>
      have e : len = 1 := of_decide_eq_true hin
      subst e
      rcases st with _ | ⟨y | y | y, _ | ⟨x | x | x, r⟩⟩
      all_goals first | exact x_lrem hdg h.1 (ih _ _ _ _ hb h.2) | exact False.elim h
    case ineg  =>
      have e : len = 1 := of_decide_eq_true hin
      subst e
      rcases st with _ | ⟨x | x | x, r⟩
      all_goals first | exact x_ineg hdg (ih _ _ _ _ hb h) | exact False.elim h
    case i2l  =>
      have e : len = 1 := of_decide_eq_true hin
      subst e
      rcases st with _ | ⟨x | x | x, r⟩
      all_goals first | exact x_i2l hdg (ih _ _ _ _ hb h) | exact False.elim h
    case l2i  =>
      have e : len = 1 := of_decide_eq_true hin
      subst e
      rcases st with _ | ⟨x | x | x, r⟩
      all_goals first | exact x_l2i hdg (ih _ _ _ _ hb h) | exact False.elim h
    case i2b  =>
      have e : len = 1 := of_decide_eq_true hin
      subst e
      rcases st with _ | ⟨x | x | x, r⟩
      all_goals first | exact x_i2b hdg (ih _ _ _ _ hb h) | exact False.elim h
    case dup  =>
      have e : len = 1 := of_decide_eq_true hin
      subst e
      rcases st with _ | ⟨v, r⟩
      · exact False.elim h
      · exact x_dup hdg h.1 (ih _ _ _ _ hb h.2)
    case pop  =>
      have e : len = 1 := of_decide_eq_true hin
      subst e
      rcases st with _ | ⟨v, r⟩
      · exact False.elim h
      · exact x_pop hdg h.1 (ih _ _ _ _ hb h.2)
    case dup2  =>
      have e : len = 1 := of_decide_eq_true hin
      subst e
      rcases st with _ | ⟨v, _ | ⟨w, r⟩⟩
      · exact False.elim h
      · exact False.elim h
      · exact x_dup2 hdg h.1.1 h.1.2 (ih _ _ _ _ hb h.2)
    case getfield x =>
      obtain ⟨h0, hlk⟩ := Bool.and_eq_true_iff.mp hin
      have e : len = 3 := of_decide_eq_true h0
      subst e
      rcases st with _ | ⟨v | v | ⟨k, j⟩, r⟩
      · exact False.elim h
      · exact False.elim h
      · exact False.elim h
      · obtain ⟨⟨h1, h2⟩, h3, h4⟩ := (show (k = b ∧ j < cnt k) ∧ (fdK k a).isSome = true ∧ wpI K C R nx mk is ls (fldv S k j a :: r) S from h)
        subst h1
        exact x_getfield hdg hlk h2 h3 (ih _ _ _ _ hb h4)
    case putfield x =>
      obtain ⟨h0, hlk⟩ := Bool.and_eq_true_iff.mp hin
      have e : len = 3 := of_decide_eq_true h0
      subst e
      rcases st with _ | ⟨v, _ | ⟨w | w | ⟨k, j⟩, r⟩⟩
      · exact False.elim h
      · exact False.elim h
      · exact False.elim h
      · exact False.elim h
      · obtain ⟨⟨h1, h2⟩, h3, h4⟩ := (show (k = b ∧ j < cnt k) ∧ pOk k a v ∧ wpI K C R nx mk is ls r (putv S k j a v) from h)
        subst h1
        exact x_putfield hdg hlk h2 h3 (ih _ _ _ _ hb h4)
    case getstatic x =>
      simp only [inOk, Bool.and_eq_true, decide_eq_true_eq] at hin
      obtain ⟨⟨rfl, h3⟩, h4⟩ := hin
      exact x_getstatic hdg h3 h4 gs_1 gs_2 (ih _ _ _ _ hb h)
    case iaload  =>
      have e : len = 1 := of_decide_eq_true hin
      subst e
      rcases st with _ | ⟨x | x | x, _ | ⟨y | y | ⟨k, j⟩, r⟩⟩
      all_goals first | exact x_iaload hdg h.1.1 h.1.2 h.2.1 (ih _ _ _ _ hb h.2.2) | exact False.elim h
    case baload  =>
      have e : len = 1 := of_decide_eq_true hin
      subst e
      rcases st with _ | ⟨x | x | x, _ | ⟨y | y | ⟨k, j⟩, r⟩⟩
      all_goals first | exact x_baload hdg h.1.1 h.1.2 h.2.1 h.2.2.1 (ih _ _ _ _ hb h.2.2.2) | exact False.elim h
    case iastore  =>
      have e : len = 1 := of_decide_eq_true hin
      subst e
      rcases st with _ | ⟨v | v | v, _ | ⟨x | x | x, _ | ⟨y | y | ⟨k, j⟩, r⟩⟩⟩
      all_goals first | exact x_iastore hdg h.1.1 h.1.2 h.2.1 h.2.2.1 (ih _ _ _ _ hb h.2.2.2) | exact False.elim h
    case bastore  =>
      have e : len = 1 := of_decide_eq_true hin
      subst e
      rcases st with _ | ⟨v | v | v, _ | ⟨x | x | x, _ | ⟨y | y | ⟨k, j⟩, r⟩⟩⟩
      all_goals first | exact x_bastore hdg h.1.1 h.1.2 h.2.1 h.2.2.1 (ih _ _ _ _ hb h.2.2.2) | exact False.elim h
    case arraylength  =>
      have e : len = 1 := of_decide_eq_true hin
      subst e
      rcases st with _ | ⟨y | y | ⟨k, j⟩, r⟩
      all_goals first | exact x_arraylength hdg h.1.1 h.1.2 h.2.1 (ih _ _ _ _ hb h.2.2) | exact False.elim h
    case goto z =>
      simp only [inOk, Bool.and_eq_true, decide_eq_true_eq] at hin
      obtain ⟨rfl, h3⟩ := hin
      exact x_goto hdg h3 (x_clr b (hK _ _ _ _ h))
    case ifCond cc z =>
      simp only [inOk, Bool.and_eq_true, decide_eq_true_eq] at hin
      obtain ⟨rfl, h3⟩ := hin
      rcases st with _ | ⟨x | x | x, r⟩
      · exact False.elim h
      · cases cc
        · exact x_if_eq hdg h3 (fun q => x_clr b (hK _ _ _ _ (h.1 q))) (fun q => ih _ _ _ _ hb (h.2 q))
        · exact x_if_ne hdg h3 (fun q => x_clr b (hK _ _ _ _ (h.1 q))) (fun q => ih _ _ _ _ hb (h.2 q))
        · exact x_if_lt hdg h3 (fun q => x_clr b (hK _ _ _ _ (h.1 q))) (fun q => ih _ _ _ _ hb (h.2 q))
        · exact x_if_ge hdg h3 (fun q => x_clr b (hK _ _ _ _ (h.1 q))) (fun q => ih _ _ _ _ hb (h.2 q))
        · exact x_if_gt hdg h3 (fun q => x_clr b (hK _ _ _ _ (h.1 q))) (fun q => ih _ _ _ _ hb (h.2 q))
        · exact x_if_le hdg h3 (fun q => x_clr b (hK _ _ _ _ (h.1 q))) (fun q => ih _ _ _ _ hb (h.2 q))
      · exact False.elim h
      · exact False.elim h
    case if_icmp cc z =>
      simp only [inOk, Bool.and_eq_true, decide_eq_true_eq] at hin
      obtain ⟨rfl, h3⟩ := hin
      rcases st with _ | ⟨y | y | y, _ | ⟨x | x | x, r⟩⟩
      · exact False.elim h
      · exact False.elim h
      · cases cc
        · exact x_icmp_eq hdg h3 (fun q => x_clr b (hK _ _ _ _ (h.1 q))) (fun q => ih _ _ _ _ hb (h.2 q))
        · exact x_icmp_ne hdg h3 (fun q => x_clr b (hK _ _ _ _ (h.1 q))) (fun q => ih _ _ _ _ hb (h.2 q))
        · exact x_icmp_lt hdg h3 (fun q => x_clr b (hK _ _ _ _ (h.1 q))) (fun q => ih _ _ _ _ hb (h.2 q))
        · exact x_icmp_ge hdg h3 (fun q => x_clr b (hK _ _ _ _ (h.1 q))) (fun q => ih _ _ _ _ hb (h.2 q))
        · exact x_icmp_gt hdg h3 (fun q => x_clr b (hK _ _ _ _ (h.1 q))) (fun q => ih _ _ _ _ hb (h.2 q))
        · exact x_icmp_le hdg h3 (fun q => x_clr b (hK _ _ _ _ (h.1 q))) (fun q => ih _ _ _ _ hb (h.2 q))
      all_goals exact False.elim h
    case tableswitch dd lo hi offs =>
      simp only [inOk, Bool.and_eq_true, decide_eq_true_eq, List.all_eq_true] at hin
      obtain ⟨⟨⟨rfl, h3⟩, h4⟩, h5⟩ := hin
      rcases st with _ | ⟨x | x | x, r⟩
      · exact False.elim h
      · exact x_tsw hdg h3 h4 h5 (x_clr b (hK _ _ _ _ h))
      · exact False.elim h
      · exact False.elim h
    case ireturn  =>
      simp only [inOk, Bool.and_eq_true, Bool.or_eq_true, decide_eq_true_eq] at hin
      obtain ⟨rfl, h3⟩ := hin
      rcases st with _ | ⟨x | x | x, _ | ⟨y, r⟩⟩
      all_goals first | exact False.elim h | skip
      rcases h3 with h3 | ⟨h3, h4⟩
      · exact x_ireturn hdg h3 h.2
      · exact x_zreturn hdg h3 (h.1 h4) h.2
    case lreturn  =>
      simp only [inOk, Bool.and_eq_true, decide_eq_true_eq] at hin
      obtain ⟨rfl, h3⟩ := hin
      rcases st with _ | ⟨x | x | x, _ | ⟨y, r⟩⟩
      all_goals first | exact False.elim h | exact x_lreturn hdg h3 h
    case areturn  =>
      obtain ⟨h0, h3⟩ := Bool.and_eq_true_iff.mp hin
      have e : len = 1 := of_decide_eq_true h0
      subst e
      rcases st with _ | ⟨x | x | ⟨k, j⟩, _ | ⟨y, r⟩⟩
      all_goals first | exact False.elim h | skip
      split at h3
      · rename_i n hn
        exact x_areturn hdg hn (Or.inl ⟨n, rfl⟩) h.2
      · rename_i n hn
        exact x_areturn hdg hn (Or.inr ⟨n, rfl⟩) h.2
      · cases h3
    case return_  =>
      simp only [inOk, Bool.and_eq_true, decide_eq_true_eq] at hin
      obtain ⟨rfl, h3⟩ := hin
      rcases st with _ | ⟨x, r⟩
      · exact x_return (dummy := ()) hdg h3 h
      · exact False.elim h
    case invokevirtual x =>
      simp only [inOk, Bool.and_eq_true, decide_eq_true_eq] at hin
      obtain ⟨⟨⟨⟨⟨⟨rfl, g1⟩, g2⟩, g3⟩, g4⟩, g5⟩, g6⟩ := hin
      obtain ⟨h1, h2, h3, h4⟩ := (show b ≤ st.length ∧ wid (pD b st) ≤ 8 ∧ rcv c (pA b st []) ∧ C a (pA b st []) S (fun v S2 => wpI K C R nx mk is ls (v.toList ++ pD b st) S2) from h)
      obtain ⟨e1, e2⟩ := pA_nil h1
      rw [← e1]
      cases hp : pA b st [] with
      | nil => rw [hp] at h3; exact False.elim h3
      | cons v as =>
        rw [hp] at h3 h4 e2
        rcases v with v | v | ⟨k, j⟩
        · exact False.elim h3
        · exact False.elim h3
        · obtain ⟨rfl, hj⟩ := (show k = c ∧ j < cnt c from h3)
          rw [List.reverse_cons, List.append_assoc]
          exact x_callv hdg g1 g2 g3 (by rw [List.length_cons] at e2; omega) g5 hj g6 h2 (hC _ _ _ _ h4) (fun v S2 hq => ih _ _ _ _ hb hq)
    case invokestatic x =>
      obtain ⟨h0, h3⟩ := Bool.and_eq_true_iff.mp hin
      have e : len = 3 := of_decide_eq_true h0
      subst e
      match c, h3, h with
      | 0, h3, h =>
        simp only [Bool.and_eq_true, decide_eq_true_eq] at h3
        obtain ⟨⟨⟨g1, g2⟩, g3⟩, g4⟩ := h3
        obtain ⟨h1, h2, h4⟩ := (show b ≤ st.length ∧ wid (pD b st) ≤ 8 ∧ C a (pA b st []) S (fun v S2 => wpI K C R nx mk is ls (v.toList ++ pD b st) S2) from h)
        obtain ⟨e1, e2⟩ := pA_nil h1
        rw [← e1]
        exact x_call hdg g1 g2 g3 (by rw [e2]; exact g4) h2 (hC _ _ _ _ h4) (fun v S2 hq => ih _ _ _ _ hb hq)
      | 1, h3, h =>
        rcases st with _ | ⟨n | n | n, _ | ⟨dp | dp | dp, _ | ⟨k1 | k1 | ⟨k1, j1⟩, _ | ⟨sp | sp | sp, _ | ⟨k0 | k0 | ⟨k0, j0⟩, r⟩⟩⟩⟩⟩
        all_goals first | exact x_arraycopy hdg (aLk_w h3) h.1.1 h.1.2.1 h.1.2.2 h.2.1 (ih _ _ _ _ hb h.2.2) | exact False.elim h
      | 2, h3, h =>
        rcases st with _ | ⟨y | y | y, _ | ⟨x | x | x, r⟩⟩
        all_goals first | exact x_max hdg (by have := cLk_w h3; rw [mm_y_max] at this; exact this) mm_s_max mm_i mm_c_max h.1 (ih _ _ _ _ hb h.2) | exact False.elim h
      | 3, h3, h =>
        rcases st with _ | ⟨y | y | y, _ | ⟨x | x | x, r⟩⟩
        all_goals first | exact x_min hdg (by have := cLk_w h3; rw [mm_y_min] at this; exact this) mm_s_min mm_i mm_c_min h.1 (ih _ _ _ _ hb h.2) | exact False.elim h
      | c + 4, h3, h => exact False.elim h
    all_goals exact False.elim h
/-- one block: what it asks (wpI), its jumps being wpX again, its calls wpM -/
theorem x_step {d u nx mk pc : Nat} {is : List AIn} {ls st : List AV} {S : MS} {R : Option AV → MS → Prop} (hb : blkOk u nx pc is = true) (h : wpI (fun t l s S2 => wpX d u t l s S2 R) (wpM d) R nx mk is ls st S) : wpX d u pc ls st S R :=
  wpI_sound (fun _ _ _ _ h => h) (fun _ _ _ _ h => h) is pc ls st S hb h
