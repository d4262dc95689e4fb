-- PART 04 (by gen_machine.py): the abstract machine: values, states, what an instruction list needs (wpI)
abbrev AV : Type := Int32 ⊕ (Int64 ⊕ (Nat × Nat))
abbrev aI (x : Int32) : AV := Sum.inl x
abbrev aL (x : Int64) : AV := Sum.inr (Sum.inl x)
abbrev aR (k i : Nat) : AV := Sum.inr (Sum.inr (k, i))
abbrev aU : AV := Sum.inr (Sum.inr (99, 0))
/-- a state: ints of objects (kind, which of them, field), longs, arrays (kind, which of them, place) -/
abbrev MS : Type := (Nat → Nat → Nat → Int32) × ((Nat → Nat → Nat → Int64) × (Nat → Nat → Nat → Int32))
def gI (S : MS) (k i f : Nat) : Int32 := S.1 k i f
def gL (S : MS) (k i f : Nat) : Int64 := S.2.1 k i f
def gA (S : MS) (k i : Nat) : Nat → Int32 := S.2.2 k i
def sI (S : MS) (k i f : Nat) (v : Int32) : MS := (fun a b c => if a = k ∧ b = i ∧ c = f then v else S.1 a b c, S.2)
def sL (S : MS) (k i f : Nat) (v : Int64) : MS := (S.1, fun a b c => if a = k ∧ b = i ∧ c = f then v else S.2.1 a b c, S.2.2)
def sA (S : MS) (k i : Nat) (r : Nat → Int32) : MS := (S.1, S.2.1, fun a b => if a = k ∧ b = i then r else S.2.2 a b)
theorem gI_sI (S : MS) (k i f : Nat) (v : Int32) (a b c : Nat) : gI (sI S k i f v) a b c = if a = k ∧ b = i ∧ c = f then v else gI S a b c := rfl
theorem gI_sL (S : MS) (k i f : Nat) (v : Int64) (a b c : Nat) : gI (sL S k i f v) a b c = gI S a b c := rfl
theorem gI_sA (S : MS) (k i : Nat) (r : Nat → Int32) (a b c : Nat) : gI (sA S k i r) a b c = gI S a b c := rfl
theorem gL_sI (S : MS) (k i f : Nat) (v : Int32) (a b c : Nat) : gL (sI S k i f v) a b c = gL S a b c := rfl
theorem gL_sL (S : MS) (k i f : Nat) (v : Int64) (a b c : Nat) : gL (sL S k i f v) a b c = if a = k ∧ b = i ∧ c = f then v else gL S a b c := rfl
theorem gL_sA (S : MS) (k i : Nat) (r : Nat → Int32) (a b c : Nat) : gL (sA S k i r) a b c = gL S a b c := rfl
theorem gA_sI (S : MS) (k i f : Nat) (v : Int32) (a b : Nat) : gA (sI S k i f v) a b = gA S a b := rfl
theorem gA_sL (S : MS) (k i f : Nat) (v : Int64) (a b : Nat) : gA (sL S k i f v) a b = gA S a b := rfl
theorem gA_sA (S : MS) (k i : Nat) (r : Nat → Int32) (a b : Nat) : gA (sA S k i r) a b = if a = k ∧ b = i then r else gA S a b := rfl
def kst (a b : Nat) : Int32 := match b with
  | 0 => nI a
  | _ => - nI a
def kstL (a b : Nat) : Int64 := match b with
  | 0 => lN a
  | _ => - lN a
theorem kst_0 {a : Nat} : kst a 0 = nI a := rfl
theorem kst_1 {a : Nat} : kst a 1 = - nI a := rfl
theorem kstL_0 {a : Nat} : kstL a 0 = lN a := rfl
theorem kstL_1 {a : Nat} : kstL a 1 = - lN a := rfl
/-- which locals are cleared: a list of marks, a mark a place -/
def clr : Nat → List AV → List AV
  | _, [] => []
  | m, v :: t => (if m % 2 = 1 then aU else v) :: clr (m / 2) t
theorem clr_nil {m : Nat} : clr m [] = [] := by cases m <;> rfl
theorem clr_cons {m : Nat} {v : AV} {t : List AV} : clr m (v :: t) = (if m % 2 = 1 then aU else v) :: clr (m / 2) t := by cases m <;> rfl
def pA : Nat → List AV → List AV → List AV
  | 0, _, acc => acc
  | _ + 1, [], acc => acc
  | n + 1, v :: st, acc => pA n st (v :: acc)
theorem pA_0 {st acc : List AV} : pA 0 st acc = acc := by cases st <;> rfl
theorem pA_s {n : Nat} {v : AV} {st acc : List AV} : pA (n + 1) (v :: st) acc = pA n st (v :: acc) := rfl
def pD : Nat → List AV → List AV
  | 0, st => st
  | _ + 1, [] => []
  | n + 1, _ :: st => pD n st
theorem pD_0 {st : List AV} : pD 0 st = st := by cases st <;> rfl
theorem pD_s {n : Nat} {v : AV} {st : List AV} : pD (n + 1) (v :: st) = pD n st := rfl
def avw : AV → Nat
  | .inr (.inl _) => 2
  | _ => 1
theorem avw_I {x : Int32} : avw (aI x) = 1 := rfl
theorem avw_L {x : Int64} : avw (aL x) = 2 := rfl
theorem avw_R {k j : Nat} : avw (aR k j) = 1 := rfl
def wid : List AV → Nat
  | [] => 0
  | v :: t => avw v + wid t
theorem wid_nil : wid [] = 0 := rfl
theorem wid_cons {v : AV} {t : List AV} : wid (v :: t) = avw v + wid t := rfl
def isL : Option AV → Bool
  | some (.inr (.inl _)) => true
  | _ => false
def isIv : AV → Prop
  | .inl _ => True
  | _ => False
def isLv : AV → Prop
  | .inr (.inl _) => True
  | _ => False
def isRv : AV → Prop
  | .inr (.inr (k, _)) => ¬ k = 99
  | _ => False
theorem isIv_I {x : Int32} : isIv (aI x) = True := rfl
theorem isLv_L {x : Int64} : isLv (aL x) = True := rfl
theorem isRv_R {k j : Nat} : isRv (aR k j) = ¬ k = 99 := rfl
def addk : AV → Int32 → AV
  | .inl x, k => .inl (x + k)
  | v, _ => v
theorem addk_I {x k : Int32} : addk (aI x) k = aI (x + k) := rfl
def ld : List AV → Nat → AV
  | [], _ => aU
  | v :: _, 0 => v
  | _ :: t, n + 1 => ld t n
theorem ld_0 {v : AV} {t : List AV} : ld (v :: t) 0 = v := rfl
theorem ld_s {v : AV} {t : List AV} {n : Nat} : ld (v :: t) (n + 1) = ld t n := rfl
/-- a local is set; a long ahead of it is gone -/
def lset : List AV → Nat → AV → List AV
  | [], _, _ => []
  | _ :: t, 0, v => v :: t
  | x :: t, n + 1, v => (if n = 0 ∧ avw x = 2 then aU else x) :: lset t n v
theorem lset_0 {x v : AV} {t : List AV} : lset (x :: t) 0 v = v :: t := rfl
theorem lset_1 {x v : AV} {t : List AV} : lset (x :: t) 1 v = (if avw x = 2 then aU else x) :: lset t 0 v := by
  show (if 0 = 0 ∧ avw x = 2 then aU else x) :: _ = _
  simp only [true_and]
theorem lset_s {x v : AV} {t : List AV} {n : Nat} : lset (x :: t) (n + 2) v = x :: lset t (n + 1) v := by
  show (if n + 1 = 0 ∧ avw x = 2 then aU else x) :: _ = _
  rw [if_neg (fun h => absurd h.1 (Nat.succ_ne_zero n))]
def swt (pc : Nat) (d lo hi : Int) (offs : Array Int) (x : Int32) : Nat :=
  if x.toInt < lo ∨ hi < x.toInt then ((pc : Int) + d).toNat else ((pc : Int) + offs.toList.getD (x.toInt - lo).toNat 0).toNat
def cnd (c : Jvm.ClassFile.Cond) (x y : Int32) : Prop := match c with
  | .eq => x = y
  | .ne => ¬ x = y
  | .lt => x < y
  | .ge => y ≤ x
  | .gt => y < x
  | .le => x ≤ y
def rcv (c : Nat) : List AV → Prop
  | .inr (.inr (k, j)) :: _ => k = c ∧ j < cnt c
  | _ => False
theorem rcv_c {c k j : Nat} {t : List AV} : rcv c (aR k j :: t) = (k = c ∧ j < cnt c) := rfl
/-- reading an int array: a row of the state, or a constant table (kinds 60, 61) -/
def arr (S : MS) (k i j : Nat) : Int32 := if k < 60 then gA S k i j else stT k j
def fldv (S : MS) (k j f : Nat) : AV := match fdK k f with
  | some (.inl 1) => aL (gL S k j f)
  | some (.inl _) => aI (gI S k j f)
  | some (.inr (k2, j2)) => aR k2 (j + j2)
  | none => aU
def pOk (k f : Nat) (v : AV) : Prop := match fdK k f, v with
  | some (.inl 0), .inl _ => True
  | some (.inl 2), .inl x => x = 0 ∨ x = 1
  | some (.inl 1), .inr (.inl _) => True
  | _, _ => False
def putv (S : MS) (k j f : Nat) (v : AV) : MS := match v with
  | .inl x => sI S k j f x
  | .inr (.inl x) => sL S k j f x
  | _ => S
theorem putv_I {S : MS} {k j f : Nat} {x : Int32} : putv S k j f (aI x) = sI S k j f x := rfl
theorem putv_L {S : MS} {k j f : Nat} {x : Int64} : putv S k j f (aL x) = sL S k j f x := rfl
def bsv (k : Nat) (v : Int32) : Int32 := if aTy k = 1 then vp_nar .byte v else vp_nar .boolean v
abbrev AIn : Type := Jvm.ClassFile.Instr × Nat × Nat × Nat

def wpI (K : Nat → List AV → List AV → MS → Prop) (C : Nat → List AV → MS → (Option AV → MS → Prop) → Prop) (R : Option AV → MS → Prop) (nx mk : Nat) : List AIn → List AV → List AV → MS → Prop
  | [], ls, st, S => K nx (clr mk ls) st S
  | (i, a, b, c) :: is, ls, st, S => match i with
    | .iconst _ => wpI K C R nx mk is ls (aI (kst a b) :: st) S
    | .bipush _ => wpI K C R nx mk is ls (aI (kst a b) :: st) S
    | .sipush _ => wpI K C R nx mk is ls (aI (kst a b) :: st) S
    | .ldc _ => wpI K C R nx mk is ls (aI (kst a b) :: st) S
    | .ldc_w _ => wpI K C R nx mk is ls (aI (kst a b) :: st) S
    | .lconst _ => wpI K C R nx mk is ls (aL (kstL a b) :: st) S
    | .ldc2_w _ => wpI K C R nx mk is ls (aL (kstL a b) :: st) S
    | .iload_n _ => isIv (ld ls a) ∧ wpI K C R nx mk is ls (ld ls a :: st) S
    | .iload _ => isIv (ld ls a) ∧ wpI K C R nx mk is ls (ld ls a :: st) S
    | .lload_n _ => isLv (ld ls a) ∧ wpI K C R nx mk is ls (ld ls a :: st) S
    | .lload _ => isLv (ld ls a) ∧ wpI K C R nx mk is ls (ld ls a :: st) S
    | .aload_n _ => isRv (ld ls a) ∧ wpI K C R nx mk is ls (ld ls a :: st) S
    | .aload _ => isRv (ld ls a) ∧ wpI K C R nx mk is ls (ld ls a :: st) S
    | .istore_n _ => match st with
      | v :: r => isIv v ∧ wpI K C R nx mk is (lset ls a v) r S
      | _ => False
    | .istore _ => match st with
      | v :: r => isIv v ∧ wpI K C R nx mk is (lset ls a v) r S
      | _ => False
    | .astore_n _ => match st with
      | v :: r => isRv v ∧ wpI K C R nx mk is (lset ls a v) r S
      | _ => False
    | .astore _ => match st with
      | v :: r => isRv v ∧ wpI K C R nx mk is (lset ls a v) r S
      | _ => False
    | .lstore_n _ => match st with
      | v :: r => isLv v ∧ wpI K C R nx mk is ((lset ls a v).set (a + 1) aU) r S
      | _ => False
    | .lstore _ => match st with
      | v :: r => isLv v ∧ wpI K C R nx mk is ((lset ls a v).set (a + 1) aU) r S
      | _ => False
    | .iinc j _ => isIv (ld ls j) ∧ wpI K C R nx mk is (lset ls j (addk (ld ls j) (kst a b))) st S
    | .iadd => match st with
      | .inl y :: .inl x :: r => wpI K C R nx mk is ls (aI (x + y) :: r) S
      | _ => False
    | .isub => match st with
      | .inl y :: .inl x :: r => wpI K C R nx mk is ls (aI (x - y) :: r) S
      | _ => False
    | .imul => match st with
      | .inl y :: .inl x :: r => wpI K C R nx mk is ls (aI (x * y) :: r) S
      | _ => False
    | .iand => match st with
      | .inl y :: .inl x :: r => wpI K C R nx mk is ls (aI (x &&& y) :: r) S
      | _ => False
    | .ior => match st with
      | .inl y :: .inl x :: r => wpI K C R nx mk is ls (aI (x ||| y) :: r) S
      | _ => False
    | .ixor => match st with
      | .inl y :: .inl x :: r => wpI K C R nx mk is ls (aI (x ^^^ y) :: r) S
      | _ => False
    | .ishl => match st with
      | .inl y :: .inl x :: r => wpI K C R nx mk is ls (aI (x <<< (y &&& 31)) :: r) S
      | _ => False
    | .ishr => match st with
      | .inl y :: .inl x :: r => wpI K C R nx mk is ls (aI (x >>> (y &&& 31)) :: r) S
      | _ => False
    | .iushr => match st with
      | .inl y :: .inl x :: r => wpI K C R nx mk is ls (aI ((x.toUInt32 >>> (y.toUInt32 &&& Int32.toUInt32 31)).toInt32) :: r) S
      | _ => False
    | .idiv => match st with
      | .inl y :: .inl x :: r => ¬ y = 0 ∧ wpI K C R nx mk is ls (aI (x / y) :: r) S
      | _ => False
    | .irem => match st with
      | .inl y :: .inl x :: r => ¬ y = 0 ∧ wpI K C R nx mk is ls (aI (x - x / y * y) :: r) S
      | _ => False
    | .ladd => match st with
      | .inr (.inl y) :: .inr (.inl x) :: r => wpI K C R nx mk is ls (aL (x + y) :: r) S
      | _ => False
    | .lmul => match st with
      | .inr (.inl y) :: .inr (.inl x) :: r => wpI K C R nx mk is ls (aL (x * y) :: r) S
      | _ => False
    | .ldiv => match st with
      | .inr (.inl y) :: .inr (.inl x) :: r => ¬ y = 0 ∧ wpI K C R nx mk is ls (aL (x / y) :: r) S
      | _ => False
    | .lrem => match st with
      | .inr (.inl y) :: .inr (.inl x) :: r => ¬ y = 0 ∧ wpI K C R nx mk is ls (aL (x - x / y * y) :: r) S
      | _ => False
    | .lcmp => match st with
      | .inr (.inl y) :: .inr (.inl x) :: r => wpI K C R nx mk is ls (aI (lg_cmp x y) :: r) S
      | _ => False
    | .ineg => match st with
      | .inl x :: r => wpI K C R nx mk is ls (aI (-x) :: r) S
      | _ => False
    | .i2l => match st with
      | .inl x :: r => wpI K C R nx mk is ls (aL x.toInt64 :: r) S
      | _ => False
    | .l2i => match st with
      | .inr (.inl x) :: r => wpI K C R nx mk is ls (aI x.toInt32 :: r) S
      | _ => False
    | .i2b => match st with
      | .inl x :: r => wpI K C R nx mk is ls (aI x.toInt8.toInt32 :: r) S
      | _ => False
    | .dup => match st with
      | v :: r => avw v = 1 ∧ wpI K C R nx mk is ls (v :: v :: r) S
      | _ => False
    | .dup2 => match st with
      | v :: w :: r => (avw v = 1 ∧ avw w = 1) ∧ wpI K C R nx mk is ls (v :: w :: v :: w :: r) S
      | _ => False
    | .pop => match st with
      | v :: r => avw v = 1 ∧ wpI K C R nx mk is ls r S
      | _ => False
    | .getfield _ => match st with
      | .inr (.inr (k, j)) :: r => (k = b ∧ j < cnt k) ∧ (fdK k a).isSome = true ∧ wpI K C R nx mk is ls (fldv S k j a :: r) S
      | _ => False
    | .putfield _ => match st with
      | v :: .inr (.inr (k, j)) :: r => (k = b ∧ j < cnt k) ∧ pOk k a v ∧ wpI K C R nx mk is ls r (putv S k j a v)
      | _ => False
    | .getstatic _ => wpI K C R nx mk is ls (aR a 0 :: st) S
    | .iaload => match st with
      | .inl x :: .inr (.inr (k, j)) :: r => (j < cnt k ∧ aTy k = 0) ∧ vp_in x (aLn k) ∧ wpI K C R nx mk is ls (aI (arr S k j x.toNatClampNeg) :: r) S
      | _ => False
    | .baload => match st with
      | .inl x :: .inr (.inr (k, j)) :: r => (j < cnt k ∧ k < 60) ∧ (aTy k = 1 ∨ aTy k = 2) ∧ vp_in x (aLn k) ∧ wpI K C R nx mk is ls (aI (gA S k j x.toNatClampNeg) :: r) S
      | _ => False
    | .iastore => match st with
      | .inl v :: .inl x :: .inr (.inr (k, j)) :: r => (j < cnt k ∧ k < 60) ∧ aTy k = 0 ∧ vp_in x (aLn k) ∧ wpI K C R nx mk is ls r (sA S k j (upd (gA S k j) x.toNatClampNeg v))
      | _ => False
    | .bastore => match st with
      | .inl v :: .inl x :: .inr (.inr (k, j)) :: r => (j < cnt k ∧ k < 60) ∧ (aTy k = 1 ∨ aTy k = 2) ∧ vp_in x (aLn k) ∧ wpI K C R nx mk is ls r (sA S k j (upd (gA S k j) x.toNatClampNeg (bsv k v)))
      | _ => False
    | .arraylength => match st with
      | .inr (.inr (k, j)) :: r => (j < cnt k ∧ k < 60) ∧ aTy k < 3 ∧ wpI K C R nx mk is ls (aI (nI (aLn k)) :: r) S
      | _ => False
    | .goto _ => K a (clr b ls) st S
    | .ifCond cc _ => match st with
      | .inl x :: r => (cnd cc x 0 → K a (clr b ls) r S) ∧ (¬ cnd cc x 0 → wpI K C R nx mk is ls r S)
      | _ => False
    | .if_icmp cc _ => match st with
      | .inl y :: .inl x :: r => (cnd cc x y → K a (clr b ls) r S) ∧ (¬ cnd cc x y → wpI K C R nx mk is ls r S)
      | _ => False
    | .tableswitch d lo hi offs => match st with
      | .inl x :: r => K (swt a d lo hi offs x) (clr b ls) r S
      | _ => False
    | .ireturn => match st with
      | [.inl x] => (a = 1 → (x = 0 ∨ x = 1)) ∧ R (some (aI x)) S
      | _ => False
    | .lreturn => match st with
      | [.inr (.inl x)] => R (some (aL x)) S
      | _ => False
    | .areturn => match st with
      | [.inr (.inr (k, j))] => ¬ k = 99 ∧ R (some (aR k j)) S
      | _ => False
    | .return_ => match st with
      | [] => R none S
      | _ => False
    | .invokevirtual _ => b ≤ st.length ∧ wid (pD b st) ≤ 8 ∧ rcv c (pA b st []) ∧ C a (pA b st []) S (fun v S2 => wpI K C R nx mk is ls (v.toList ++ pD b st) S2)
    | .invokestatic _ => match c with
      | 0 => b ≤ st.length ∧ wid (pD b st) ≤ 8 ∧ C a (pA b st []) S (fun v S2 => wpI K C R nx mk is ls (v.toList ++ pD b st) S2)
      | 1 => match st with
        | .inl n :: .inl dp :: .inr (.inr (k1, j1)) :: .inl sp :: .inr (.inr (k0, j0)) :: r => ((j0 < cnt k0 ∧ k0 < 60 ∧ aTy k0 = 0) ∧ (j1 < cnt k1 ∧ k1 < 60 ∧ aTy k1 = 0) ∧ wid r ≤ 8) ∧ (¬ sp < 0 ∧ ¬ dp < 0 ∧ ¬ n < 0 ∧ sp.toNatClampNeg + n.toNatClampNeg ≤ aLn k0 ∧ dp.toNatClampNeg + n.toNatClampNeg ≤ aLn k1) ∧ wpI K C R nx mk is ls r (sA S k1 j1 (va_cpy (gA S k0 j0) (gA S k1 j1) sp.toNatClampNeg dp.toNatClampNeg n.toNatClampNeg))
        | _ => False
      | 2 => match st with
        | .inl y :: .inl x :: r => wid r ≤ 8 ∧ wpI K C R nx mk is ls (aI (if x < y then y else x) :: r) S
        | _ => False
      | 3 => match st with
        | .inl y :: .inl x :: r => wid r ≤ 8 ∧ wpI K C R nx mk is ls (aI (if y < x then y else x) :: r) S
        | _ => False
      | _ => False
    | _ => False
section
variable {K : Nat → List AV → List AV → MS → Prop} {C : Nat → List AV → MS → (Option AV → MS → Prop) → Prop} {R : Option AV → MS → Prop} {nx mk a b c : Nat} {is : List AIn} {ls : List AV} {S : MS}
theorem wi_nil {st : List AV} : wpI K C R nx mk [] ls st S = K nx (clr mk ls) st S := rfl
theorem wi_iconst {z : Int} {st : List AV} : wpI K C R nx mk ((.iconst z, a, b, c) :: is) ls st S = (wpI K C R nx mk is ls (aI (kst a b) :: st) S) := rfl
theorem wi_bipush {z : Int} {st : List AV} : wpI K C R nx mk ((.bipush z, a, b, c) :: is) ls st S = (wpI K C R nx mk is ls (aI (kst a b) :: st) S) := rfl
theorem wi_sipush {z : Int} {st : List AV} : wpI K C R nx mk ((.sipush z, a, b, c) :: is) ls st S = (wpI K C R nx mk is ls (aI (kst a b) :: st) S) := rfl
theorem wi_ldc {z : Nat} {st : List AV} : wpI K C R nx mk ((.ldc z, a, b, c) :: is) ls st S = (wpI K C R nx mk is ls (aI (kst a b) :: st) S) := rfl
theorem wi_ldc_w {z : Nat} {st : List AV} : wpI K C R nx mk ((.ldc_w z, a, b, c) :: is) ls st S = (wpI K C R nx mk is ls (aI (kst a b) :: st) S) := rfl
theorem wi_lconst {z : Fin 2} {st : List AV} : wpI K C R nx mk ((.lconst z, a, b, c) :: is) ls st S = (wpI K C R nx mk is ls (aL (kstL a b) :: st) S) := rfl
theorem wi_ldc2_w {z : Nat} {st : List AV} : wpI K C R nx mk ((.ldc2_w z, a, b, c) :: is) ls st S = (wpI K C R nx mk is ls (aL (kstL a b) :: st) S) := rfl
theorem wi_iload_n {z : Fin 4} {st : List AV} : wpI K C R nx mk ((.iload_n z, a, b, c) :: is) ls st S = (isIv (ld ls a) ∧ wpI K C R nx mk is ls (ld ls a :: st) S) := rfl
theorem wi_iload {z : Nat} {st : List AV} : wpI K C R nx mk ((.iload z, a, b, c) :: is) ls st S = (isIv (ld ls a) ∧ wpI K C R nx mk is ls (ld ls a :: st) S) := rfl
theorem wi_lload_n {z : Fin 4} {st : List AV} : wpI K C R nx mk ((.lload_n z, a, b, c) :: is) ls st S = (isLv (ld ls a) ∧ wpI K C R nx mk is ls (ld ls a :: st) S) := rfl
theorem wi_lload {z : Nat} {st : List AV} : wpI K C R nx mk ((.lload z, a, b, c) :: is) ls st S = (isLv (ld ls a) ∧ wpI K C R nx mk is ls (ld ls a :: st) S) := rfl
theorem wi_aload_n {z : Fin 4} {st : List AV} : wpI K C R nx mk ((.aload_n z, a, b, c) :: is) ls st S = (isRv (ld ls a) ∧ wpI K C R nx mk is ls (ld ls a :: st) S) := rfl
theorem wi_aload {z : Nat} {st : List AV} : wpI K C R nx mk ((.aload z, a, b, c) :: is) ls st S = (isRv (ld ls a) ∧ wpI K C R nx mk is ls (ld ls a :: st) S) := rfl
theorem wi_istore_n {z : Fin 4} {v : AV} {r : List AV} : wpI K C R nx mk ((.istore_n z, a, b, c) :: is) ls (v :: r) S = (isIv v ∧ wpI K C R nx mk is (lset ls a v) r S) := rfl
theorem wi_istore {z : Nat} {v : AV} {r : List AV} : wpI K C R nx mk ((.istore z, a, b, c) :: is) ls (v :: r) S = (isIv v ∧ wpI K C R nx mk is (lset ls a v) r S) := rfl
theorem wi_astore_n {z : Fin 4} {v : AV} {r : List AV} : wpI K C R nx mk ((.astore_n z, a, b, c) :: is) ls (v :: r) S = (isRv v ∧ wpI K C R nx mk is (lset ls a v) r S) := rfl
theorem wi_astore {z : Nat} {v : AV} {r : List AV} : wpI K C R nx mk ((.astore z, a, b, c) :: is) ls (v :: r) S = (isRv v ∧ wpI K C R nx mk is (lset ls a v) r S) := rfl
theorem wi_lstore_n {z : Fin 4} {v : AV} {r : List AV} : wpI K C R nx mk ((.lstore_n z, a, b, c) :: is) ls (v :: r) S = (isLv v ∧ wpI K C R nx mk is ((lset ls a v).set (a + 1) aU) r S) := rfl
theorem wi_lstore {z : Nat} {v : AV} {r : List AV} : wpI K C R nx mk ((.lstore z, a, b, c) :: is) ls (v :: r) S = (isLv v ∧ wpI K C R nx mk is ((lset ls a v).set (a + 1) aU) r S) := rfl
theorem wi_iinc {j : Nat} {z : Int} {st : List AV} : wpI K C R nx mk ((.iinc j z, a, b, c) :: is) ls st S = (isIv (ld ls j) ∧ wpI K C R nx mk is (lset ls j (addk (ld ls j) (kst a b))) st S) := rfl
theorem wi_iadd {x y : Int32} {r : List AV} : wpI K C R nx mk ((.iadd, a, b, c) :: is) ls (aI y :: aI x :: r) S = (wpI K C R nx mk is ls (aI (x + y) :: r) S) := rfl
theorem wi_isub {x y : Int32} {r : List AV} : wpI K C R nx mk ((.isub, a, b, c) :: is) ls (aI y :: aI x :: r) S = (wpI K C R nx mk is ls (aI (x - y) :: r) S) := rfl
theorem wi_imul {x y : Int32} {r : List AV} : wpI K C R nx mk ((.imul, a, b, c) :: is) ls (aI y :: aI x :: r) S = (wpI K C R nx mk is ls (aI (x * y) :: r) S) := rfl
theorem wi_iand {x y : Int32} {r : List AV} : wpI K C R nx mk ((.iand, a, b, c) :: is) ls (aI y :: aI x :: r) S = (wpI K C R nx mk is ls (aI (x &&& y) :: r) S) := rfl
theorem wi_ior {x y : Int32} {r : List AV} : wpI K C R nx mk ((.ior, a, b, c) :: is) ls (aI y :: aI x :: r) S = (wpI K C R nx mk is ls (aI (x ||| y) :: r) S) := rfl
theorem wi_ixor {x y : Int32} {r : List AV} : wpI K C R nx mk ((.ixor, a, b, c) :: is) ls (aI y :: aI x :: r) S = (wpI K C R nx mk is ls (aI (x ^^^ y) :: r) S) := rfl
theorem wi_ishl {x y : Int32} {r : List AV} : wpI K C R nx mk ((.ishl, a, b, c) :: is) ls (aI y :: aI x :: r) S = (wpI K C R nx mk is ls (aI (x <<< (y &&& 31)) :: r) S) := rfl
theorem wi_ishr {x y : Int32} {r : List AV} : wpI K C R nx mk ((.ishr, a, b, c) :: is) ls (aI y :: aI x :: r) S = (wpI K C R nx mk is ls (aI (x >>> (y &&& 31)) :: r) S) := rfl
theorem wi_iushr {x y : Int32} {r : List AV} : wpI K C R nx mk ((.iushr, a, b, c) :: is) ls (aI y :: aI x :: r) S = (wpI K C R nx mk is ls (aI ((x.toUInt32 >>> (y.toUInt32 &&& Int32.toUInt32 31)).toInt32) :: r) S) := rfl
theorem wi_idiv {x y : Int32} {r : List AV} : wpI K C R nx mk ((.idiv, a, b, c) :: is) ls (aI y :: aI x :: r) S = (¬ y = 0 ∧ wpI K C R nx mk is ls (aI (x / y) :: r) S) := rfl
theorem wi_irem {x y : Int32} {r : List AV} : wpI K C R nx mk ((.irem, a, b, c) :: is) ls (aI y :: aI x :: r) S = (¬ y = 0 ∧ wpI K C R nx mk is ls (aI (x - x / y * y) :: r) S) := rfl
theorem wi_ladd {x y : Int64} {r : List AV} : wpI K C R nx mk ((.ladd, a, b, c) :: is) ls (aL y :: aL x :: r) S = (wpI K C R nx mk is ls (aL (x + y) :: r) S) := rfl
theorem wi_lmul {x y : Int64} {r : List AV} : wpI K C R nx mk ((.lmul, a, b, c) :: is) ls (aL y :: aL x :: r) S = (wpI K C R nx mk is ls (aL (x * y) :: r) S) := rfl
theorem wi_ldiv {x y : Int64} {r : List AV} : wpI K C R nx mk ((.ldiv, a, b, c) :: is) ls (aL y :: aL x :: r) S = (¬ y = 0 ∧ wpI K C R nx mk is ls (aL (x / y) :: r) S) := rfl
theorem wi_lrem {x y : Int64} {r : List AV} : wpI K C R nx mk ((.lrem, a, b, c) :: is) ls (aL y :: aL x :: r) S = (¬ y = 0 ∧ wpI K C R nx mk is ls (aL (x - x / y * y) :: r) S) := rfl
theorem wi_lcmp {x y : Int64} {r : List AV} : wpI K C R nx mk ((.lcmp, a, b, c) :: is) ls (aL y :: aL x :: r) S = (wpI K C R nx mk is ls (aI (lg_cmp x y) :: r) S) := rfl
theorem wi_ineg {x : Int32} {r : List AV} : wpI K C R nx mk ((.ineg, a, b, c) :: is) ls (aI x :: r) S = (wpI K C R nx mk is ls (aI (-x) :: r) S) := rfl
theorem wi_i2l {x : Int32} {r : List AV} : wpI K C R nx mk ((.i2l, a, b, c) :: is) ls (aI x :: r) S = (wpI K C R nx mk is ls (aL x.toInt64 :: r) S) := rfl
theorem wi_l2i {x : Int64} {r : List AV} : wpI K C R nx mk ((.l2i, a, b, c) :: is) ls (aL x :: r) S = (wpI K C R nx mk is ls (aI x.toInt32 :: r) S) := rfl
theorem wi_i2b {x : Int32} {r : List AV} : wpI K C R nx mk ((.i2b, a, b, c) :: is) ls (aI x :: r) S = (wpI K C R nx mk is ls (aI x.toInt8.toInt32 :: r) S) := rfl
theorem wi_dup {v : AV} {r : List AV} : wpI K C R nx mk ((.dup, a, b, c) :: is) ls (v :: r) S = (avw v = 1 ∧ wpI K C R nx mk is ls (v :: v :: r) S) := rfl
theorem wi_dup2 {v w : AV} {r : List AV} : wpI K C R nx mk ((.dup2, a, b, c) :: is) ls (v :: w :: r) S = ((avw v = 1 ∧ avw w = 1) ∧ wpI K C R nx mk is ls (v :: w :: v :: w :: r) S) := rfl
theorem wi_pop {v : AV} {r : List AV} : wpI K C R nx mk ((.pop, a, b, c) :: is) ls (v :: r) S = (avw v = 1 ∧ wpI K C R nx mk is ls r S) := rfl
theorem wi_getfield {z k j : Nat} {r : List AV} : wpI K C R nx mk ((.getfield z, a, b, c) :: is) ls (aR k j :: r) S = ((k = b ∧ j < cnt k) ∧ (fdK k a).isSome = true ∧ wpI K C R nx mk is ls (fldv S k j a :: r) S) := rfl
theorem wi_putfield {z k j : Nat} {v : AV} {r : List AV} : wpI K C R nx mk ((.putfield z, a, b, c) :: is) ls (v :: aR k j :: r) S = ((k = b ∧ j < cnt k) ∧ pOk k a v ∧ wpI K C R nx mk is ls r (putv S k j a v)) := rfl
theorem wi_getstatic {z : Nat} {st : List AV} : wpI K C R nx mk ((.getstatic z, a, b, c) :: is) ls st S = (wpI K C R nx mk is ls (aR a 0 :: st) S) := rfl
theorem wi_iaload {x : Int32} {k j : Nat} {r : List AV} : wpI K C R nx mk ((.iaload, a, b, c) :: is) ls (aI x :: aR k j :: r) S = ((j < cnt k ∧ aTy k = 0) ∧ vp_in x (aLn k) ∧ wpI K C R nx mk is ls (aI (arr S k j x.toNatClampNeg) :: r) S) := rfl
theorem wi_baload {x : Int32} {k j : Nat} {r : List AV} : wpI K C R nx mk ((.baload, a, b, c) :: is) ls (aI x :: aR k j :: r) S = ((j < cnt k ∧ k < 60) ∧ (aTy k = 1 ∨ aTy k = 2) ∧ vp_in x (aLn k) ∧ wpI K C R nx mk is ls (aI (gA S k j x.toNatClampNeg) :: r) S) := rfl
theorem wi_iastore {x v : Int32} {k j : Nat} {r : List AV} : wpI K C R nx mk ((.iastore, a, b, c) :: is) ls (aI v :: aI x :: aR k j :: r) S = ((j < cnt k ∧ k < 60) ∧ aTy k = 0 ∧ vp_in x (aLn k) ∧ wpI K C R nx mk is ls r (sA S k j (upd (gA S k j) x.toNatClampNeg v))) := rfl
theorem wi_bastore {x v : Int32} {k j : Nat} {r : List AV} : wpI K C R nx mk ((.bastore, a, b, c) :: is) ls (aI v :: aI x :: aR k j :: r) S = ((j < cnt k ∧ k < 60) ∧ (aTy k = 1 ∨ aTy k = 2) ∧ vp_in x (aLn k) ∧ wpI K C R nx mk is ls r (sA S k j (upd (gA S k j) x.toNatClampNeg (bsv k v)))) := rfl
theorem wi_arraylength {k j : Nat} {r : List AV} : wpI K C R nx mk ((.arraylength, a, b, c) :: is) ls (aR k j :: r) S = ((j < cnt k ∧ k < 60) ∧ aTy k < 3 ∧ wpI K C R nx mk is ls (aI (nI (aLn k)) :: r) S) := rfl
theorem wi_goto {z : Int} {st : List AV} : wpI K C R nx mk ((.goto z, a, b, c) :: is) ls st S = (K a (clr b ls) st S) := rfl
theorem wi_if_eq {z : Int} {x : Int32} {r : List AV} : wpI K C R nx mk ((.ifCond .eq z, a, b, c) :: is) ls (aI x :: r) S = ((x = 0 → K a (clr b ls) r S) ∧ (¬ (x = 0) → wpI K C R nx mk is ls r S)) := rfl
theorem wi_icmp_eq {z : Int} {x y : Int32} {r : List AV} : wpI K C R nx mk ((.if_icmp .eq z, a, b, c) :: is) ls (aI y :: aI x :: r) S = ((x = y → K a (clr b ls) r S) ∧ (¬ (x = y) → wpI K C R nx mk is ls r S)) := rfl
theorem wi_if_ne {z : Int} {x : Int32} {r : List AV} : wpI K C R nx mk ((.ifCond .ne z, a, b, c) :: is) ls (aI x :: r) S = ((¬ x = 0 → K a (clr b ls) r S) ∧ (¬ (¬ x = 0) → wpI K C R nx mk is ls r S)) := rfl
theorem wi_icmp_ne {z : Int} {x y : Int32} {r : List AV} : wpI K C R nx mk ((.if_icmp .ne z, a, b, c) :: is) ls (aI y :: aI x :: r) S = ((¬ x = y → K a (clr b ls) r S) ∧ (¬ (¬ x = y) → wpI K C R nx mk is ls r S)) := rfl
theorem wi_if_lt {z : Int} {x : Int32} {r : List AV} : wpI K C R nx mk ((.ifCond .lt z, a, b, c) :: is) ls (aI x :: r) S = ((x < 0 → K a (clr b ls) r S) ∧ (¬ (x < 0) → wpI K C R nx mk is ls r S)) := rfl
theorem wi_icmp_lt {z : Int} {x y : Int32} {r : List AV} : wpI K C R nx mk ((.if_icmp .lt z, a, b, c) :: is) ls (aI y :: aI x :: r) S = ((x < y → K a (clr b ls) r S) ∧ (¬ (x < y) → wpI K C R nx mk is ls r S)) := rfl
theorem wi_if_ge {z : Int} {x : Int32} {r : List AV} : wpI K C R nx mk ((.ifCond .ge z, a, b, c) :: is) ls (aI x :: r) S = ((0 ≤ x → K a (clr b ls) r S) ∧ (¬ (0 ≤ x) → wpI K C R nx mk is ls r S)) := rfl
theorem wi_icmp_ge {z : Int} {x y : Int32} {r : List AV} : wpI K C R nx mk ((.if_icmp .ge z, a, b, c) :: is) ls (aI y :: aI x :: r) S = ((y ≤ x → K a (clr b ls) r S) ∧ (¬ (y ≤ x) → wpI K C R nx mk is ls r S)) := rfl
theorem wi_if_gt {z : Int} {x : Int32} {r : List AV} : wpI K C R nx mk ((.ifCond .gt z, a, b, c) :: is) ls (aI x :: r) S = ((0 < x → K a (clr b ls) r S) ∧ (¬ (0 < x) → wpI K C R nx mk is ls r S)) := rfl
theorem wi_icmp_gt {z : Int} {x y : Int32} {r : List AV} : wpI K C R nx mk ((.if_icmp .gt z, a, b, c) :: is) ls (aI y :: aI x :: r) S = ((y < x → K a (clr b ls) r S) ∧ (¬ (y < x) → wpI K C R nx mk is ls r S)) := rfl
theorem wi_if_le {z : Int} {x : Int32} {r : List AV} : wpI K C R nx mk ((.ifCond .le z, a, b, c) :: is) ls (aI x :: r) S = ((x ≤ 0 → K a (clr b ls) r S) ∧ (¬ (x ≤ 0) → wpI K C R nx mk is ls r S)) := rfl
theorem wi_icmp_le {z : Int} {x y : Int32} {r : List AV} : wpI K C R nx mk ((.if_icmp .le z, a, b, c) :: is) ls (aI y :: aI x :: r) S = ((x ≤ y → K a (clr b ls) r S) ∧ (¬ (x ≤ y) → wpI K C R nx mk is ls r S)) := rfl
theorem wi_tsw {d lo hi : Int} {offs : Array Int} {x : Int32} {r : List AV} : wpI K C R nx mk ((.tableswitch d lo hi offs, a, b, c) :: is) ls (aI x :: r) S = (K (swt a d lo hi offs x) (clr b ls) r S) := rfl
theorem wi_ireturn {x : Int32} : wpI K C R nx mk ((.ireturn, a, b, c) :: is) ls [aI x] S = ((a = 1 → (x = 0 ∨ x = 1)) ∧ R (some (aI x)) S) := rfl
theorem wi_lreturn {x : Int64} : wpI K C R nx mk ((.lreturn, a, b, c) :: is) ls [aL x] S = (R (some (aL x)) S) := rfl
theorem wi_areturn {k j : Nat} : wpI K C R nx mk ((.areturn, a, b, c) :: is) ls [aR k j] S = (¬ k = 99 ∧ R (some (aR k j)) S) := rfl
theorem wi_return_  : wpI K C R nx mk ((.return_, a, b, c) :: is) ls [] S = (R none S) := rfl
theorem wi_invokevirtual {z : Nat} {st : List AV} : wpI K C R nx mk ((.invokevirtual z, a, b, c) :: is) ls st S = (b ≤ st.length ∧ wid (pD b st) ≤ 8 ∧ rcv c (pA b st []) ∧ C a (pA b st []) S (fun v S2 => wpI K C R nx mk is ls (v.toList ++ pD b st) S2)) := rfl
theorem wi_invokestatic {z : Nat} {st : List AV} : wpI K C R nx mk ((.invokestatic z, a, b, 0) :: is) ls st S = (b ≤ st.length ∧ wid (pD b st) ≤ 8 ∧ C a (pA b st []) S (fun v S2 => wpI K C R nx mk is ls (v.toList ++ pD b st) S2)) := rfl
theorem wi_arraycopy {z k0 j0 k1 j1 : Nat} {n dp sp : Int32} {r : List AV} : wpI K C R nx mk ((.invokestatic z, a, b, 1) :: is) ls (aI n :: aI dp :: aR k1 j1 :: aI sp :: aR k0 j0 :: r) S = (((j0 < cnt k0 ∧ k0 < 60 ∧ aTy k0 = 0) ∧ (j1 < cnt k1 ∧ k1 < 60 ∧ aTy k1 = 0) ∧ wid r ≤ 8) ∧ (¬ sp < 0 ∧ ¬ dp < 0 ∧ ¬ n < 0 ∧ sp.toNatClampNeg + n.toNatClampNeg ≤ aLn k0 ∧ dp.toNatClampNeg + n.toNatClampNeg ≤ aLn k1) ∧ wpI K C R nx mk is ls r (sA S k1 j1 (va_cpy (gA S k0 j0) (gA S k1 j1) sp.toNatClampNeg dp.toNatClampNeg n.toNatClampNeg))) := rfl
theorem wi_max {z : Nat} {x y : Int32} {r : List AV} : wpI K C R nx mk ((.invokestatic z, a, b, 2) :: is) ls (aI y :: aI x :: r) S = (wid r ≤ 8 ∧ wpI K C R nx mk is ls (aI (if x < y then y else x) :: r) S) := rfl
theorem wi_min {z : Nat} {x y : Int32} {r : List AV} : wpI K C R nx mk ((.invokestatic z, a, b, 3) :: is) ls (aI y :: aI x :: r) S = (wid r ≤ 8 ∧ wpI K C R nx mk is ls (aI (if y < x then y else x) :: r) S) := rfl
end
theorem fldv_0_0 {S : MS} {j : Nat} : fldv S 0 j 0 = aR 10 j := rfl
theorem fds_0_0 : (fdK 0 0).isSome = true := rfl
theorem fldv_0_1 {S : MS} {j : Nat} : fldv S 0 j 1 = aR 11 j := rfl
theorem fds_0_1 : (fdK 0 1).isSome = true := rfl
theorem fldv_0_2 {S : MS} {j : Nat} : fldv S 0 j 2 = aR 12 j := rfl
theorem fds_0_2 : (fdK 0 2).isSome = true := rfl
theorem fldv_0_3 {S : MS} {j : Nat} : fldv S 0 j 3 = aI (gI S 0 j 3) := rfl
theorem fds_0_3 : (fdK 0 3).isSome = true := rfl
theorem pOk_0_3 {x : Int32} : pOk 0 3 (aI x) = True := rfl
theorem fldv_1_0 {S : MS} {j : Nat} : fldv S 1 j 0 = aR 6 (j + 3) := rfl
theorem fds_1_0 : (fdK 1 0).isSome = true := rfl
theorem fldv_1_1 {S : MS} {j : Nat} : fldv S 1 j 1 = aR 6 (j + 4) := rfl
theorem fds_1_1 : (fdK 1 1).isSome = true := rfl
theorem fldv_1_2 {S : MS} {j : Nat} : fldv S 1 j 2 = aR 13 j := rfl
theorem fds_1_2 : (fdK 1 2).isSome = true := rfl
theorem fldv_1_3 {S : MS} {j : Nat} : fldv S 1 j 3 = aR 14 j := rfl
theorem fds_1_3 : (fdK 1 3).isSome = true := rfl
theorem fldv_1_4 {S : MS} {j : Nat} : fldv S 1 j 4 = aI (gI S 1 j 4) := rfl
theorem fds_1_4 : (fdK 1 4).isSome = true := rfl
theorem pOk_1_4 {x : Int32} : pOk 1 4 (aI x) = True := rfl
theorem fldv_2_0 {S : MS} {j : Nat} : fldv S 2 j 0 = aR 5 j := rfl
theorem fds_2_0 : (fdK 2 0).isSome = true := rfl
theorem fldv_2_1 {S : MS} {j : Nat} : fldv S 2 j 1 = aI (gI S 2 j 1) := rfl
theorem fds_2_1 : (fdK 2 1).isSome = true := rfl
theorem pOk_2_1 {x : Int32} : pOk 2 1 (aI x) = True := rfl
theorem fldv_2_2 {S : MS} {j : Nat} : fldv S 2 j 2 = aI (gI S 2 j 2) := rfl
theorem fds_2_2 : (fdK 2 2).isSome = true := rfl
theorem pOk_2_2 {x : Int32} : pOk 2 2 (aI x) = True := rfl
theorem fldv_2_3 {S : MS} {j : Nat} : fldv S 2 j 3 = aI (gI S 2 j 3) := rfl
theorem fds_2_3 : (fdK 2 3).isSome = true := rfl
theorem pOk_2_3 {x : Int32} : pOk 2 3 (aI x) = True := rfl
theorem fldv_2_4 {S : MS} {j : Nat} : fldv S 2 j 4 = aI (gI S 2 j 4) := rfl
theorem fds_2_4 : (fdK 2 4).isSome = true := rfl
theorem pOk_2_4 {x : Int32} : pOk 2 4 (aI x) = True := rfl
theorem fldv_3_0 {S : MS} {j : Nat} : fldv S 3 j 0 = aR 15 j := rfl
theorem fds_3_0 : (fdK 3 0).isSome = true := rfl
theorem fldv_3_1 {S : MS} {j : Nat} : fldv S 3 j 1 = aR 16 j := rfl
theorem fds_3_1 : (fdK 3 1).isSome = true := rfl
theorem fldv_4_0 {S : MS} {j : Nat} : fldv S 4 j 0 = aL (gL S 4 j 0) := rfl
theorem fds_4_0 : (fdK 4 0).isSome = true := rfl
theorem pOk_4_0 {x : Int64} : pOk 4 0 (aL x) = True := rfl
theorem fldv_4_1 {S : MS} {j : Nat} : fldv S 4 j 1 = aL (gL S 4 j 1) := rfl
theorem fds_4_1 : (fdK 4 1).isSome = true := rfl
theorem pOk_4_1 {x : Int64} : pOk 4 1 (aL x) = True := rfl
theorem fldv_5_0 {S : MS} {j : Nat} : fldv S 5 j 0 = aR 17 j := rfl
theorem fds_5_0 : (fdK 5 0).isSome = true := rfl
theorem fldv_5_1 {S : MS} {j : Nat} : fldv S 5 j 1 = aR 18 j := rfl
theorem fds_5_1 : (fdK 5 1).isSome = true := rfl
theorem fldv_6_0 {S : MS} {j : Nat} : fldv S 6 j 0 = aR 20 j := rfl
theorem fds_6_0 : (fdK 6 0).isSome = true := rfl
theorem fldv_6_1 {S : MS} {j : Nat} : fldv S 6 j 1 = aR 21 j := rfl
theorem fds_6_1 : (fdK 6 1).isSome = true := rfl
theorem fldv_6_2 {S : MS} {j : Nat} : fldv S 6 j 2 = aR 22 j := rfl
theorem fds_6_2 : (fdK 6 2).isSome = true := rfl
theorem fldv_6_3 {S : MS} {j : Nat} : fldv S 6 j 3 = aR 23 j := rfl
theorem fds_6_3 : (fdK 6 3).isSome = true := rfl
theorem fldv_6_4 {S : MS} {j : Nat} : fldv S 6 j 4 = aR 24 j := rfl
theorem fds_6_4 : (fdK 6 4).isSome = true := rfl
theorem fldv_6_5 {S : MS} {j : Nat} : fldv S 6 j 5 = aR 25 j := rfl
theorem fds_6_5 : (fdK 6 5).isSome = true := rfl
theorem fldv_6_6 {S : MS} {j : Nat} : fldv S 6 j 6 = aR 26 j := rfl
theorem fds_6_6 : (fdK 6 6).isSome = true := rfl
theorem fldv_6_7 {S : MS} {j : Nat} : fldv S 6 j 7 = aI (gI S 6 j 7) := rfl
theorem fds_6_7 : (fdK 6 7).isSome = true := rfl
theorem pOk_6_7 {x : Int32} : pOk 6 7 (aI x) = True := rfl
theorem fldv_6_8 {S : MS} {j : Nat} : fldv S 6 j 8 = aI (gI S 6 j 8) := rfl
theorem fds_6_8 : (fdK 6 8).isSome = true := rfl
theorem pOk_6_8 {x : Int32} : pOk 6 8 (aI x) = True := rfl
theorem fldv_6_9 {S : MS} {j : Nat} : fldv S 6 j 9 = aI (gI S 6 j 9) := rfl
theorem fds_6_9 : (fdK 6 9).isSome = true := rfl
theorem pOk_6_9 {x : Int32} : pOk 6 9 (aI x) = True := rfl
theorem fldv_6_10 {S : MS} {j : Nat} : fldv S 6 j 10 = aI (gI S 6 j 10) := rfl
theorem fds_6_10 : (fdK 6 10).isSome = true := rfl
theorem pOk_6_10 {x : Int32} : pOk 6 10 (aI x) = True := rfl
theorem fldv_6_11 {S : MS} {j : Nat} : fldv S 6 j 11 = aI (gI S 6 j 11) := rfl
theorem fds_6_11 : (fdK 6 11).isSome = true := rfl
theorem pOk_6_11 {x : Int32} : pOk 6 11 (aI x) = True := rfl
theorem fldv_7_0 {S : MS} {j : Nat} : fldv S 7 j 0 = aR 3 j := rfl
theorem fds_7_0 : (fdK 7 0).isSome = true := rfl
theorem fldv_7_1 {S : MS} {j : Nat} : fldv S 7 j 1 = aR 5 j := rfl
theorem fds_7_1 : (fdK 7 1).isSome = true := rfl
theorem fldv_7_2 {S : MS} {j : Nat} : fldv S 7 j 2 = aR 6 j := rfl
theorem fds_7_2 : (fdK 7 2).isSome = true := rfl
theorem fldv_7_3 {S : MS} {j : Nat} : fldv S 7 j 3 = aR 6 (j + 1) := rfl
theorem fds_7_3 : (fdK 7 3).isSome = true := rfl
theorem fldv_7_4 {S : MS} {j : Nat} : fldv S 7 j 4 = aR 6 (j + 2) := rfl
theorem fds_7_4 : (fdK 7 4).isSome = true := rfl
theorem fldv_7_5 {S : MS} {j : Nat} : fldv S 7 j 5 = aR 2 j := rfl
theorem fds_7_5 : (fdK 7 5).isSome = true := rfl
theorem fldv_7_6 {S : MS} {j : Nat} : fldv S 7 j 6 = aR 0 j := rfl
theorem fds_7_6 : (fdK 7 6).isSome = true := rfl
theorem fldv_7_7 {S : MS} {j : Nat} : fldv S 7 j 7 = aR 1 j := rfl
theorem fds_7_7 : (fdK 7 7).isSome = true := rfl
theorem fldv_7_8 {S : MS} {j : Nat} : fldv S 7 j 8 = aR 4 j := rfl
theorem fds_7_8 : (fdK 7 8).isSome = true := rfl
theorem fldv_7_9 {S : MS} {j : Nat} : fldv S 7 j 9 = aR 27 j := rfl
theorem fds_7_9 : (fdK 7 9).isSome = true := rfl
theorem fldv_7_10 {S : MS} {j : Nat} : fldv S 7 j 10 = aI (gI S 7 j 10) := rfl
theorem fds_7_10 : (fdK 7 10).isSome = true := rfl
theorem pOk_7_10 {x : Int32} : pOk 7 10 (aI x) = True := rfl
theorem fldv_7_11 {S : MS} {j : Nat} : fldv S 7 j 11 = aI (gI S 7 j 11) := rfl
theorem fds_7_11 : (fdK 7 11).isSome = true := rfl
theorem pOk_7_11 {x : Int32} : pOk 7 11 (aI x) = True := rfl
theorem fldv_8_0 {S : MS} {j : Nat} : fldv S 8 j 0 = aI (gI S 8 j 0) := rfl
theorem fds_8_0 : (fdK 8 0).isSome = true := rfl
theorem pOk_8_0 {x : Int32} : pOk 8 0 (aI x) = True := rfl
theorem fldv_8_1 {S : MS} {j : Nat} : fldv S 8 j 1 = aR 30 j := rfl
theorem fds_8_1 : (fdK 8 1).isSome = true := rfl
theorem fldv_8_2 {S : MS} {j : Nat} : fldv S 8 j 2 = aI (gI S 8 j 2) := rfl
theorem fds_8_2 : (fdK 8 2).isSome = true := rfl
theorem pOk_8_2 {x : Int32} : pOk 8 2 (aI x) = True := rfl
theorem fldv_8_3 {S : MS} {j : Nat} : fldv S 8 j 3 = aL (gL S 8 j 3) := rfl
theorem fds_8_3 : (fdK 8 3).isSome = true := rfl
theorem pOk_8_3 {x : Int64} : pOk 8 3 (aL x) = True := rfl
theorem fldv_8_4 {S : MS} {j : Nat} : fldv S 8 j 4 = aL (gL S 8 j 4) := rfl
theorem fds_8_4 : (fdK 8 4).isSome = true := rfl
theorem pOk_8_4 {x : Int64} : pOk 8 4 (aL x) = True := rfl
theorem fldv_8_5 {S : MS} {j : Nat} : fldv S 8 j 5 = aR 31 j := rfl
theorem fds_8_5 : (fdK 8 5).isSome = true := rfl
theorem fldv_8_6 {S : MS} {j : Nat} : fldv S 8 j 6 = aR 32 j := rfl
theorem fds_8_6 : (fdK 8 6).isSome = true := rfl
theorem fldv_8_7 {S : MS} {j : Nat} : fldv S 8 j 7 = aR 33 j := rfl
theorem fds_8_7 : (fdK 8 7).isSome = true := rfl
theorem fldv_8_8 {S : MS} {j : Nat} : fldv S 8 j 8 = aR 34 j := rfl
theorem fds_8_8 : (fdK 8 8).isSome = true := rfl
theorem fldv_8_9 {S : MS} {j : Nat} : fldv S 8 j 9 = aR 35 j := rfl
theorem fds_8_9 : (fdK 8 9).isSome = true := rfl
theorem fldv_8_10 {S : MS} {j : Nat} : fldv S 8 j 10 = aI (gI S 8 j 10) := rfl
theorem fds_8_10 : (fdK 8 10).isSome = true := rfl
theorem pOk_8_10 {x : Int32} : pOk 8 10 (aI x) = True := rfl
theorem fldv_8_11 {S : MS} {j : Nat} : fldv S 8 j 11 = aR 36 j := rfl
theorem fds_8_11 : (fdK 8 11).isSome = true := rfl
theorem fldv_8_12 {S : MS} {j : Nat} : fldv S 8 j 12 = aR 37 j := rfl
theorem fds_8_12 : (fdK 8 12).isSome = true := rfl
theorem fldv_8_13 {S : MS} {j : Nat} : fldv S 8 j 13 = aR 38 j := rfl
theorem fds_8_13 : (fdK 8 13).isSome = true := rfl
theorem fldv_8_14 {S : MS} {j : Nat} : fldv S 8 j 14 = aI (gI S 8 j 14) := rfl
theorem fds_8_14 : (fdK 8 14).isSome = true := rfl
theorem pOk_8_14 {x : Int32} : pOk 8 14 (aI x) = True := rfl
theorem fldv_8_15 {S : MS} {j : Nat} : fldv S 8 j 15 = aI (gI S 8 j 15) := rfl
theorem fds_8_15 : (fdK 8 15).isSome = true := rfl
theorem pOk_8_15 {x : Int32} : pOk 8 15 (aI x) = True := rfl
theorem fldv_8_16 {S : MS} {j : Nat} : fldv S 8 j 16 = aI (gI S 8 j 16) := rfl
theorem fds_8_16 : (fdK 8 16).isSome = true := rfl
theorem pOk_8_16 {x : Int32} : pOk 8 16 (aI x) = True := rfl
theorem fldv_8_17 {S : MS} {j : Nat} : fldv S 8 j 17 = aI (gI S 8 j 17) := rfl
theorem fds_8_17 : (fdK 8 17).isSome = true := rfl
theorem pOk_8_17 {x : Int32} : pOk 8 17 (aI x) = True := rfl
theorem fldv_8_18 {S : MS} {j : Nat} : fldv S 8 j 18 = aI (gI S 8 j 18) := rfl
theorem fds_8_18 : (fdK 8 18).isSome = true := rfl
theorem pOk_8_18 {x : Int32} : pOk 8 18 (aI x) = (x = 0 ∨ x = 1) := rfl
theorem fldv_8_19 {S : MS} {j : Nat} : fldv S 8 j 19 = aR 39 j := rfl
theorem fds_8_19 : (fdK 8 19).isSome = true := rfl
theorem fldv_8_20 {S : MS} {j : Nat} : fldv S 8 j 20 = aR 40 j := rfl
theorem fds_8_20 : (fdK 8 20).isSome = true := rfl
theorem fldv_8_21 {S : MS} {j : Nat} : fldv S 8 j 21 = aR 41 j := rfl
theorem fds_8_21 : (fdK 8 21).isSome = true := rfl
theorem fldv_8_22 {S : MS} {j : Nat} : fldv S 8 j 22 = aI (gI S 8 j 22) := rfl
theorem fds_8_22 : (fdK 8 22).isSome = true := rfl
theorem pOk_8_22 {x : Int32} : pOk 8 22 (aI x) = True := rfl
theorem fldv_8_23 {S : MS} {j : Nat} : fldv S 8 j 23 = aR 42 j := rfl
theorem fds_8_23 : (fdK 8 23).isSome = true := rfl
theorem fldv_8_24 {S : MS} {j : Nat} : fldv S 8 j 24 = aR 43 j := rfl
theorem fds_8_24 : (fdK 8 24).isSome = true := rfl
theorem fldv_8_25 {S : MS} {j : Nat} : fldv S 8 j 25 = aR 44 j := rfl
theorem fds_8_25 : (fdK 8 25).isSome = true := rfl
theorem fldv_8_26 {S : MS} {j : Nat} : fldv S 8 j 26 = aR 45 j := rfl
theorem fds_8_26 : (fdK 8 26).isSome = true := rfl
theorem fldv_8_27 {S : MS} {j : Nat} : fldv S 8 j 27 = aR 46 j := rfl
theorem fds_8_27 : (fdK 8 27).isSome = true := rfl
theorem fldv_8_28 {S : MS} {j : Nat} : fldv S 8 j 28 = aR 47 j := rfl
theorem fds_8_28 : (fdK 8 28).isSome = true := rfl
theorem fldv_8_29 {S : MS} {j : Nat} : fldv S 8 j 29 = aI (gI S 8 j 29) := rfl
theorem fds_8_29 : (fdK 8 29).isSome = true := rfl
theorem pOk_8_29 {x : Int32} : pOk 8 29 (aI x) = True := rfl
theorem fldv_8_30 {S : MS} {j : Nat} : fldv S 8 j 30 = aI (gI S 8 j 30) := rfl
theorem fds_8_30 : (fdK 8 30).isSome = true := rfl
theorem pOk_8_30 {x : Int32} : pOk 8 30 (aI x) = True := rfl
theorem fldv_8_31 {S : MS} {j : Nat} : fldv S 8 j 31 = aI (gI S 8 j 31) := rfl
theorem fds_8_31 : (fdK 8 31).isSome = true := rfl
theorem pOk_8_31 {x : Int32} : pOk 8 31 (aI x) = True := rfl
theorem fldv_8_32 {S : MS} {j : Nat} : fldv S 8 j 32 = aI (gI S 8 j 32) := rfl
theorem fds_8_32 : (fdK 8 32).isSome = true := rfl
theorem pOk_8_32 {x : Int32} : pOk 8 32 (aI x) = True := rfl
theorem fldv_8_33 {S : MS} {j : Nat} : fldv S 8 j 33 = aR 48 j := rfl
theorem fds_8_33 : (fdK 8 33).isSome = true := rfl
theorem fldv_8_34 {S : MS} {j : Nat} : fldv S 8 j 34 = aR 49 j := rfl
theorem fds_8_34 : (fdK 8 34).isSome = true := rfl
theorem fldv_8_35 {S : MS} {j : Nat} : fldv S 8 j 35 = aR 50 j := rfl
theorem fds_8_35 : (fdK 8 35).isSome = true := rfl
theorem fldv_8_36 {S : MS} {j : Nat} : fldv S 8 j 36 = aL (gL S 8 j 36) := rfl
theorem fds_8_36 : (fdK 8 36).isSome = true := rfl
theorem pOk_8_36 {x : Int64} : pOk 8 36 (aL x) = True := rfl
theorem arr_10 {S : MS} {i j : Nat} : arr S 10 i j = gA S 10 i j := rfl
theorem arr_11 {S : MS} {i j : Nat} : arr S 11 i j = gA S 11 i j := rfl
theorem arr_12 {S : MS} {i j : Nat} : arr S 12 i j = gA S 12 i j := rfl
theorem arr_13 {S : MS} {i j : Nat} : arr S 13 i j = gA S 13 i j := rfl
theorem arr_14 {S : MS} {i j : Nat} : arr S 14 i j = gA S 14 i j := rfl
theorem arr_15 {S : MS} {i j : Nat} : arr S 15 i j = gA S 15 i j := rfl
theorem arr_16 {S : MS} {i j : Nat} : arr S 16 i j = gA S 16 i j := rfl
theorem arr_17 {S : MS} {i j : Nat} : arr S 17 i j = gA S 17 i j := rfl
theorem arr_18 {S : MS} {i j : Nat} : arr S 18 i j = gA S 18 i j := rfl
theorem bsv_18 {v : Int32} : bsv 18 v = vp_nar .byte v := rfl
theorem arr_20 {S : MS} {i j : Nat} : arr S 20 i j = gA S 20 i j := rfl
theorem arr_21 {S : MS} {i j : Nat} : arr S 21 i j = gA S 21 i j := rfl
theorem arr_22 {S : MS} {i j : Nat} : arr S 22 i j = gA S 22 i j := rfl
theorem arr_23 {S : MS} {i j : Nat} : arr S 23 i j = gA S 23 i j := rfl
theorem arr_24 {S : MS} {i j : Nat} : arr S 24 i j = gA S 24 i j := rfl
theorem arr_25 {S : MS} {i j : Nat} : arr S 25 i j = gA S 25 i j := rfl
theorem arr_26 {S : MS} {i j : Nat} : arr S 26 i j = gA S 26 i j := rfl
theorem arr_27 {S : MS} {i j : Nat} : arr S 27 i j = gA S 27 i j := rfl
theorem arr_30 {S : MS} {i j : Nat} : arr S 30 i j = gA S 30 i j := rfl
theorem arr_31 {S : MS} {i j : Nat} : arr S 31 i j = gA S 31 i j := rfl
theorem arr_32 {S : MS} {i j : Nat} : arr S 32 i j = gA S 32 i j := rfl
theorem arr_33 {S : MS} {i j : Nat} : arr S 33 i j = gA S 33 i j := rfl
theorem arr_34 {S : MS} {i j : Nat} : arr S 34 i j = gA S 34 i j := rfl
theorem arr_35 {S : MS} {i j : Nat} : arr S 35 i j = gA S 35 i j := rfl
theorem bsv_35 {v : Int32} : bsv 35 v = vp_nar .byte v := rfl
theorem arr_36 {S : MS} {i j : Nat} : arr S 36 i j = gA S 36 i j := rfl
theorem arr_37 {S : MS} {i j : Nat} : arr S 37 i j = gA S 37 i j := rfl
theorem arr_38 {S : MS} {i j : Nat} : arr S 38 i j = gA S 38 i j := rfl
theorem arr_39 {S : MS} {i j : Nat} : arr S 39 i j = gA S 39 i j := rfl
theorem arr_40 {S : MS} {i j : Nat} : arr S 40 i j = gA S 40 i j := rfl
theorem arr_41 {S : MS} {i j : Nat} : arr S 41 i j = gA S 41 i j := rfl
theorem arr_42 {S : MS} {i j : Nat} : arr S 42 i j = gA S 42 i j := rfl
theorem arr_43 {S : MS} {i j : Nat} : arr S 43 i j = gA S 43 i j := rfl
theorem bsv_43 {v : Int32} : bsv 43 v = vp_nar .boolean v := rfl
theorem arr_44 {S : MS} {i j : Nat} : arr S 44 i j = gA S 44 i j := rfl
theorem arr_45 {S : MS} {i j : Nat} : arr S 45 i j = gA S 45 i j := rfl
theorem arr_46 {S : MS} {i j : Nat} : arr S 46 i j = gA S 46 i j := rfl
theorem arr_47 {S : MS} {i j : Nat} : arr S 47 i j = gA S 47 i j := rfl
theorem arr_48 {S : MS} {i j : Nat} : arr S 48 i j = gA S 48 i j := rfl
theorem arr_49 {S : MS} {i j : Nat} : arr S 49 i j = gA S 49 i j := rfl
theorem arr_50 {S : MS} {i j : Nat} : arr S 50 i j = gA S 50 i j := rfl
theorem arr_60 {S : MS} {i j : Nat} : arr S 60 i j = stT 60 j := rfl
theorem arr_61 {S : MS} {i j : Nat} : arr S 61 i j = stT 61 j := rfl
