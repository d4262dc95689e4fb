-- (by gen_code.py) the code in blocks
-- NinthDay$Acts.pack(III)I
def B_X0_pack_0 : List AIn := [(.iload_n 0, 0, 0, 0), (.bipush 6, 6, 0, 0), (.ishl, 0, 0, 0), (.iload_n 1, 1, 0, 0), (.ior, 0, 0, 0), (.bipush 6, 6, 0, 0), (.ishl, 0, 0, 0), (.iload_n 2, 2, 0, 0), (.ior, 0, 0, 0), (.ireturn, 0, 0, 0)]
theorem s_X0_pack_0 {d : Nat} {ls st : List AV} {S : MS} {R : Option AV → MS → Prop} (h : wpI (fun t l s S2 => wpX d mX0_pack t l s S2 R) (wpM d) R 12 0 B_X0_pack_0 ls st S) : wpX d mX0_pack 0 ls st S R := x_step (by decide +kernel) h
-- NinthDay$Acts.whatOf(I)I
def B_X0_whatOf_0 : List AIn := [(.iload_n 0, 0, 0, 0), (.bipush 6, 6, 0, 0), (.ishr, 0, 0, 0), (.bipush 6, 6, 0, 0), (.ishr, 0, 0, 0), (.ireturn, 0, 0, 0)]
theorem s_X0_whatOf_0 {d : Nat} {ls st : List AV} {S : MS} {R : Option AV → MS → Prop} (h : wpI (fun t l s S2 => wpX d mX0_whatOf t l s S2 R) (wpM d) R 8 0 B_X0_whatOf_0 ls st S) : wpX d mX0_whatOf 0 ls st S R := x_step (by decide +kernel) h
-- NinthDay$Acts.firstOf(I)I
def B_X0_firstOf_0 : List AIn := [(.iload_n 0, 0, 0, 0), (.bipush 6, 6, 0, 0), (.ishr, 0, 0, 0), (.bipush 63, 63, 0, 0), (.iand, 0, 0, 0), (.ireturn, 0, 0, 0)]
theorem s_X0_firstOf_0 {d : Nat} {ls st : List AV} {S : MS} {R : Option AV → MS → Prop} (h : wpI (fun t l s S2 => wpX d mX0_firstOf t l s S2 R) (wpM d) R 8 0 B_X0_firstOf_0 ls st S) : wpX d mX0_firstOf 0 ls st S R := x_step (by decide +kernel) h
-- NinthDay$Acts.secondOf(I)I
def B_X0_secondOf_0 : List AIn := [(.iload_n 0, 0, 0, 0), (.bipush 63, 63, 0, 0), (.iand, 0, 0, 0), (.ireturn, 0, 0, 0)]
theorem s_X0_secondOf_0 {d : Nat} {ls st : List AV} {S : MS} {R : Option AV → MS → Prop} (h : wpI (fun t l s S2 => wpX d mX0_secondOf t l s S2 R) (wpM d) R 5 0 B_X0_secondOf_0 ls st S) : wpX d mX0_secondOf 0 ls st S R := x_step (by decide +kernel) h
-- NinthDay$Acts.haveRoom(I)Z
def B_X0_haveRoom_0 : List AIn := [(.aload_n 0, 0, 0, 0), (.getfield 27, 3, 0, 0), (.iload_n 1, 1, 0, 0), (.iadd, 0, 0, 0), (.bipush 40, 40, 0, 0), (.if_icmp .gt 7, 15, 3, 0), (.iconst 1, 1, 0, 0), (.goto 4, 16, 3, 0)]
theorem s_X0_haveRoom_0 {d : Nat} {ls st : List AV} {S : MS} {R : Option AV → MS → Prop} (h : wpI (fun t l s S2 => wpX d mX0_haveRoom t l s S2 R) (wpM d) R 15 0 B_X0_haveRoom_0 ls st S) : wpX d mX0_haveRoom 0 ls st S R := x_step (by decide +kernel) h
def B_X0_haveRoom_15 : List AIn := [(.iconst 0, 0, 0, 0)]
theorem s_X0_haveRoom_15 {d : Nat} {ls st : List AV} {S : MS} {R : Option AV → MS → Prop} (h : wpI (fun t l s S2 => wpX d mX0_haveRoom t l s S2 R) (wpM d) R 16 3 B_X0_haveRoom_15 ls st S) : wpX d mX0_haveRoom 15 ls st S R := x_step (by decide +kernel) h
def B_X0_haveRoom_16 : List AIn := [(.ireturn, 1, 0, 0)]
theorem s_X0_haveRoom_16 {d : Nat} {ls st : List AV} {S : MS} {R : Option AV → MS → Prop} (h : wpI (fun t l s S2 => wpX d mX0_haveRoom t l s S2 R) (wpM d) R 17 0 B_X0_haveRoom_16 ls st S) : wpX d mX0_haveRoom 16 ls st S R := x_step (by decide +kernel) h
-- NinthDay$Acts.add(I)V
def B_X0_add_0 : List AIn := [(.aload_n 0, 0, 0, 0), (.getfield 27, 3, 0, 0), (.bipush 40, 40, 0, 0), (.if_icmp .ge 23, 29, 3, 0), (.aload_n 0, 0, 0, 0), (.getfield 9, 0, 0, 0), (.aload_n 0, 0, 0, 0), (.getfield 27, 3, 0, 0), (.iload_n 1, 1, 0, 0), (.iastore, 0, 0, 0), (.aload_n 0, 0, 0, 0), (.dup, 0, 0, 0), (.getfield 27, 3, 0, 0), (.iconst 1, 1, 0, 0), (.iadd, 0, 0, 0), (.putfield 27, 3, 0, 0)]
theorem s_X0_add_0 {d : Nat} {ls st : List AV} {S : MS} {R : Option AV → MS → Prop} (h : wpI (fun t l s S2 => wpX d mX0_add t l s S2 R) (wpM d) R 29 3 B_X0_add_0 ls st S) : wpX d mX0_add 0 ls st S R := x_step (by decide +kernel) h
def B_X0_add_29 : List AIn := [(.return_, 0, 0, 0)]
theorem s_X0_add_29 {d : Nat} {ls st : List AV} {S : MS} {R : Option AV → MS → Prop} (h : wpI (fun t l s S2 => wpX d mX0_add t l s S2 R) (wpM d) R 30 0 B_X0_add_29 ls st S) : wpX d mX0_add 29 ls st S R := x_step (by decide +kernel) h
-- NinthDay$Acts.forget()V
def B_X0_forget_0 : List AIn := [(.aload_n 0, 0, 0, 0), (.iconst 0, 0, 0, 0), (.putfield 27, 3, 0, 0), (.aload_n 0, 0, 0, 0), (.getfield 18, 2, 0, 0), (.iconst (-1), 1, 1, 0), (.invokestatic 21, 227, 2, 0)]
theorem s_X0_forget_0 {d : Nat} {ls st : List AV} {S : MS} {R : Option AV → MS → Prop} (h : wpI (fun t l s S2 => wpX d mX0_forget t l s S2 R) (wpM d) R 13 1 B_X0_forget_0 ls st S) : wpX d mX0_forget 0 ls st S R := x_step (by decide +kernel) h
def B_X0_forget_13 : List AIn := [(.return_, 0, 0, 0)]
theorem s_X0_forget_13 {d : Nat} {ls st : List AV} {S : MS} {R : Option AV → MS → Prop} (h : wpI (fun t l s S2 => wpX d mX0_forget t l s S2 R) (wpM d) R 14 0 B_X0_forget_13 ls st S) : wpX d mX0_forget 13 ls st S R := x_step (by decide +kernel) h
-- NinthDay$Acts.storedSize(I)I
def B_X0_storedSize_0 : List AIn := [(.aload_n 0, 0, 0, 0), (.getfield 18, 2, 0, 0), (.iload_n 1, 1, 0, 0), (.iaload, 0, 0, 0), (.ireturn, 0, 0, 0)]
theorem s_X0_storedSize_0 {d : Nat} {ls st : List AV} {S : MS} {R : Option AV → MS → Prop} (h : wpI (fun t l s S2 => wpX d mX0_storedSize t l s S2 R) (wpM d) R 7 0 B_X0_storedSize_0 ls st S) : wpX d mX0_storedSize 0 ls st S R := x_step (by decide +kernel) h
-- NinthDay$Acts.howManyStored()I
def B_X0_howManyStored_0 : List AIn := [(.iconst 0, 0, 0, 0), (.istore_n 1, 1, 0, 0), (.iconst 0, 0, 0, 0), (.istore_n 2, 2, 0, 0)]
theorem s_X0_howManyStored_0 {d : Nat} {ls st : List AV} {S : MS} {R : Option AV → MS → Prop} (h : wpI (fun t l s S2 => wpX d mX0_howManyStored t l s S2 R) (wpM d) R 4 0 B_X0_howManyStored_0 ls st S) : wpX d mX0_howManyStored 0 ls st S R := x_step (by decide +kernel) h
def B_X0_howManyStored_4 : List AIn := [(.iload_n 2, 2, 0, 0), (.iconst 3, 3, 0, 0), (.if_icmp .ge 27, 33, 5, 0), (.iload_n 1, 1, 0, 0), (.aload_n 0, 0, 0, 0), (.getfield 18, 2, 0, 0), (.iload_n 2, 2, 0, 0), (.iaload, 0, 0, 0), (.iconst (-1), 1, 1, 0), (.if_icmp .eq 7, 24, 2, 0), (.iconst 1, 1, 0, 0), (.goto 4, 25, 2, 0)]
theorem s_X0_howManyStored_4 {d : Nat} {ls st : List AV} {S : MS} {R : Option AV → MS → Prop} (h : wpI (fun t l s S2 => wpX d mX0_howManyStored t l s S2 R) (wpM d) R 24 0 B_X0_howManyStored_4 ls st S) : wpX d mX0_howManyStored 4 ls st S R := x_step (by decide +kernel) h
def B_X0_howManyStored_24 : List AIn := [(.iconst 0, 0, 0, 0)]
theorem s_X0_howManyStored_24 {d : Nat} {ls st : List AV} {S : MS} {R : Option AV → MS → Prop} (h : wpI (fun t l s S2 => wpX d mX0_howManyStored t l s S2 R) (wpM d) R 25 2 B_X0_howManyStored_24 ls st S) : wpX d mX0_howManyStored 24 ls st S R := x_step (by decide +kernel) h
def B_X0_howManyStored_25 : List AIn := [(.iadd, 0, 0, 0), (.istore_n 1, 1, 0, 0), (.iinc 2 1, 1, 0, 0), (.goto (-26), 4, 0, 0)]
theorem s_X0_howManyStored_25 {d : Nat} {ls st : List AV} {S : MS} {R : Option AV → MS → Prop} (h : wpI (fun t l s S2 => wpX d mX0_howManyStored t l s S2 R) (wpM d) R 33 0 B_X0_howManyStored_25 ls st S) : wpX d mX0_howManyStored 25 ls st S R := x_step (by decide +kernel) h
def B_X0_howManyStored_33 : List AIn := [(.iload_n 1, 1, 0, 0), (.ireturn, 0, 0, 0)]
theorem s_X0_howManyStored_33 {d : Nat} {ls st : List AV} {S : MS} {R : Option AV → MS → Prop} (h : wpI (fun t l s S2 => wpX d mX0_howManyStored t l s S2 R) (wpM d) R 35 0 B_X0_howManyStored_33 ls st S) : wpX d mX0_howManyStored 33 ls st S R := x_step (by decide +kernel) h
-- NinthDay$Acts.store(I)V
def B_X0_store_0 : List AIn := [(.aload_n 0, 0, 0, 0), (.getfield 9, 0, 0, 0), (.iconst 0, 0, 0, 0), (.aload_n 0, 0, 0, 0), (.getfield 15, 1, 0, 0), (.iload_n 1, 1, 0, 0), (.bipush 40, 40, 0, 0), (.imul, 0, 0, 0), (.aload_n 0, 0, 0, 0), (.getfield 27, 3, 0, 0), (.invokestatic 31, 0, 0, 1), (.aload_n 0, 0, 0, 0), (.getfield 18, 2, 0, 0), (.iload_n 1, 1, 0, 0), (.aload_n 0, 0, 0, 0), (.getfield 27, 3, 0, 0), (.iastore, 0, 0, 0), (.return_, 0, 0, 0)]
theorem s_X0_store_0 {d : Nat} {ls st : List AV} {S : MS} {R : Option AV → MS → Prop} (h : wpI (fun t l s S2 => wpX d mX0_store t l s S2 R) (wpM d) R 31 0 B_X0_store_0 ls st S) : wpX d mX0_store 0 ls st S R := x_step (by decide +kernel) h
-- NinthDay$Acts.restore(I)V
def B_X0_restore_0 : List AIn := [(.aload_n 0, 0, 0, 0), (.aload_n 0, 0, 0, 0), (.getfield 18, 2, 0, 0), (.iload_n 1, 1, 0, 0), (.iaload, 0, 0, 0), (.putfield 27, 3, 0, 0), (.aload_n 0, 0, 0, 0), (.getfield 15, 1, 0, 0), (.iload_n 1, 1, 0, 0), (.bipush 40, 40, 0, 0), (.imul, 0, 0, 0), (.aload_n 0, 0, 0, 0), (.getfield 9, 0, 0, 0), (.iconst 0, 0, 0, 0), (.aload_n 0, 0, 0, 0), (.getfield 27, 3, 0, 0), (.invokestatic 31, 0, 0, 1), (.return_, 0, 0, 0)]
theorem s_X0_restore_0 {d : Nat} {ls st : List AV} {S : MS} {R : Option AV → MS → Prop} (h : wpI (fun t l s S2 => wpX d mX0_restore t l s S2 R) (wpM d) R 31 0 B_X0_restore_0 ls st S) : wpX d mX0_restore 0 ls st S R := x_step (by decide +kernel) h
-- NinthDay$Kinds.byLetter(I)I
def B_X1_byLetter_0 : List AIn := [(.iconst 0, 0, 0, 0), (.istore_n 1, 1, 0, 0)]
theorem s_X1_byLetter_0 {d : Nat} {ls st : List AV} {S : MS} {R : Option AV → MS → Prop} (h : wpI (fun t l s S2 => wpX d mX1_byLetter t l s S2 R) (wpM d) R 2 0 B_X1_byLetter_0 ls st S) : wpX d mX1_byLetter 0 ls st S R := x_step (by decide +kernel) h
def B_X1_byLetter_2 : List AIn := [(.iload_n 1, 1, 0, 0), (.bipush 6, 6, 0, 0), (.if_icmp .ge 20, 25, 3, 0), (.getstatic 11, 60, 0, 0), (.iload_n 1, 1, 0, 0), (.iaload, 0, 0, 0), (.iload_n 0, 0, 0, 0), (.if_icmp .ne 5, 19, 0, 0), (.iload_n 1, 1, 0, 0), (.ireturn, 0, 0, 0)]
theorem s_X1_byLetter_2 {d : Nat} {ls st : List AV} {S : MS} {R : Option AV → MS → Prop} (h : wpI (fun t l s S2 => wpX d mX1_byLetter t l s S2 R) (wpM d) R 19 0 B_X1_byLetter_2 ls st S) : wpX d mX1_byLetter 2 ls st S R := x_step (by decide +kernel) h
def B_X1_byLetter_19 : List AIn := [(.iinc 1 1, 1, 0, 0), (.goto (-20), 2, 0, 0)]
theorem s_X1_byLetter_19 {d : Nat} {ls st : List AV} {S : MS} {R : Option AV → MS → Prop} (h : wpI (fun t l s S2 => wpX d mX1_byLetter t l s S2 R) (wpM d) R 25 0 B_X1_byLetter_19 ls st S) : wpX d mX1_byLetter 19 ls st S R := x_step (by decide +kernel) h
def B_X1_byLetter_25 : List AIn := [(.bipush (-9), 9, 1, 0), (.ireturn, 0, 0, 0)]
theorem s_X1_byLetter_25 {d : Nat} {ls st : List AV} {S : MS} {R : Option AV → MS → Prop} (h : wpI (fun t l s S2 => wpX d mX1_byLetter t l s S2 R) (wpM d) R 28 0 B_X1_byLetter_25 ls st S) : wpX d mX1_byLetter 25 ls st S R := x_step (by decide +kernel) h
-- NinthDay$Kinds.isOf(II)Z
def B_X1_isOf_0 : List AIn := [(.iload_n 0, 0, 0, 0), (.iload_n 1, 1, 0, 0), (.if_icmp .eq 16, 18, 3, 0), (.getstatic 15, 61, 0, 0), (.iload_n 0, 0, 0, 0), (.iaload, 0, 0, 0), (.iload_n 1, 1, 0, 0), (.if_icmp .eq 7, 18, 3, 0), (.iload_n 1, 1, 0, 0), (.ifCond .ne 7, 22, 3, 0)]
theorem s_X1_isOf_0 {d : Nat} {ls st : List AV} {S : MS} {R : Option AV → MS → Prop} (h : wpI (fun t l s S2 => wpX d mX1_isOf t l s S2 R) (wpM d) R 18 3 B_X1_isOf_0 ls st S) : wpX d mX1_isOf 0 ls st S R := x_step (by decide +kernel) h
def B_X1_isOf_18 : List AIn := [(.iconst 1, 1, 0, 0), (.goto 4, 23, 3, 0)]
theorem s_X1_isOf_18 {d : Nat} {ls st : List AV} {S : MS} {R : Option AV → MS → Prop} (h : wpI (fun t l s S2 => wpX d mX1_isOf t l s S2 R) (wpM d) R 22 0 B_X1_isOf_18 ls st S) : wpX d mX1_isOf 18 ls st S R := x_step (by decide +kernel) h
def B_X1_isOf_22 : List AIn := [(.iconst 0, 0, 0, 0)]
theorem s_X1_isOf_22 {d : Nat} {ls st : List AV} {S : MS} {R : Option AV → MS → Prop} (h : wpI (fun t l s S2 => wpX d mX1_isOf t l s S2 R) (wpM d) R 23 3 B_X1_isOf_22 ls st S) : wpX d mX1_isOf 22 ls st S R := x_step (by decide +kernel) h
def B_X1_isOf_23 : List AIn := [(.ireturn, 1, 0, 0)]
theorem s_X1_isOf_23 {d : Nat} {ls st : List AV} {S : MS} {R : Option AV → MS → Prop} (h : wpI (fun t l s S2 => wpX d mX1_isOf t l s S2 R) (wpM d) R 24 0 B_X1_isOf_23 ls st S) : wpX d mX1_isOf 23 ls st S R := x_step (by decide +kernel) h
-- NinthDay$Kinds.price(IIIIII)I
def B_X1_price_0 : List AIn := [(.iconst 0, 0, 0, 0), (.iload_n 1, 1, 0, 0), (.iload_n 2, 2, 0, 0), (.isub, 0, 0, 0), (.invokestatic 18, 0, 0, 2), (.istore 6, 6, 0, 0), (.iload 6, 6, 0, 0), (.iload 5, 5, 0, 0), (.iconst 3, 3, 0, 0), (.irem, 0, 0, 0), (.ifCond .ne 7, 22, 134, 0), (.iconst 2, 2, 0, 0), (.goto 4, 23, 134, 0)]
theorem s_X1_price_0 {d : Nat} {ls st : List AV} {S : MS} {R : Option AV → MS → Prop} (h : wpI (fun t l s S2 => wpX d mX1_price t l s S2 R) (wpM d) R 22 0 B_X1_price_0 ls st S) : wpX d mX1_price 0 ls st S R := x_step (by decide +kernel) h
def B_X1_price_22 : List AIn := [(.iconst 0, 0, 0, 0)]
theorem s_X1_price_22 {d : Nat} {ls st : List AV} {S : MS} {R : Option AV → MS → Prop} (h : wpI (fun t l s S2 => wpX d mX1_price t l s S2 R) (wpM d) R 23 134 B_X1_price_22 ls st S) : wpX d mX1_price 22 ls st S R := x_step (by decide +kernel) h
def B_X1_price_23 : List AIn := [(.iadd, 0, 0, 0), (.istore 7, 7, 0, 0), (.iload_n 0, 0, 0, 0), (.tableswitch 85 1 5 #[33, 45, 64, 36, 69], 27, 7, 0)]
theorem s_X1_price_23 {d : Nat} {ls st : List AV} {S : MS} {R : Option AV → MS → Prop} (h : wpI (fun t l s S2 => wpX d mX1_price t l s S2 R) (wpM d) R 60 0 B_X1_price_23 ls st S) : wpX d mX1_price 23 ls st S R := x_step (by decide +kernel) h
def B_X1_price_60 : List AIn := [(.iload 7, 7, 0, 0), (.ireturn, 0, 0, 0)]
theorem s_X1_price_60 {d : Nat} {ls st : List AV} {S : MS} {R : Option AV → MS → Prop} (h : wpI (fun t l s S2 => wpX d mX1_price t l s S2 R) (wpM d) R 63 0 B_X1_price_60 ls st S) : wpX d mX1_price 60 ls st S R := x_step (by decide +kernel) h
def B_X1_price_63 : List AIn := [(.iconst 0, 0, 0, 0), (.iload 7, 7, 0, 0), (.iconst 1, 1, 0, 0), (.isub, 0, 0, 0), (.invokestatic 18, 0, 0, 2), (.ireturn, 0, 0, 0)]
theorem s_X1_price_63 {d : Nat} {ls st : List AV} {S : MS} {R : Option AV → MS → Prop} (h : wpI (fun t l s S2 => wpX d mX1_price t l s S2 R) (wpM d) R 72 0 B_X1_price_63 ls st S) : wpX d mX1_price 63 ls st S R := x_step (by decide +kernel) h
def B_X1_price_72 : List AIn := [(.iload 6, 6, 0, 0), (.iload 5, 5, 0, 0), (.bipush 7, 7, 0, 0), (.irem, 0, 0, 0), (.bipush 6, 6, 0, 0), (.if_icmp .ne 7, 88, 255, 0), (.iload_n 3, 3, 0, 0), (.goto 4, 89, 255, 0)]
theorem s_X1_price_72 {d : Nat} {ls st : List AV} {S : MS} {R : Option AV → MS → Prop} (h : wpI (fun t l s S2 => wpX d mX1_price t l s S2 R) (wpM d) R 88 0 B_X1_price_72 ls st S) : wpX d mX1_price 72 ls st S R := x_step (by decide +kernel) h
def B_X1_price_88 : List AIn := [(.iconst 0, 0, 0, 0)]
theorem s_X1_price_88 {d : Nat} {ls st : List AV} {S : MS} {R : Option AV → MS → Prop} (h : wpI (fun t l s S2 => wpX d mX1_price t l s S2 R) (wpM d) R 89 255 B_X1_price_88 ls st S) : wpX d mX1_price 88 ls st S R := x_step (by decide +kernel) h
def B_X1_price_89 : List AIn := [(.iadd, 0, 0, 0), (.ireturn, 0, 0, 0)]
theorem s_X1_price_89 {d : Nat} {ls st : List AV} {S : MS} {R : Option AV → MS → Prop} (h : wpI (fun t l s S2 => wpX d mX1_price t l s S2 R) (wpM d) R 91 0 B_X1_price_89 ls st S) : wpX d mX1_price 89 ls st S R := x_step (by decide +kernel) h
def B_X1_price_91 : List AIn := [(.iload 6, 6, 0, 0), (.iconst 2, 2, 0, 0), (.idiv, 0, 0, 0), (.ireturn, 0, 0, 0)]
theorem s_X1_price_91 {d : Nat} {ls st : List AV} {S : MS} {R : Option AV → MS → Prop} (h : wpI (fun t l s S2 => wpX d mX1_price t l s S2 R) (wpM d) R 96 0 B_X1_price_91 ls st S) : wpX d mX1_price 91 ls st S R := x_step (by decide +kernel) h
def B_X1_price_96 : List AIn := [(.iload 6, 6, 0, 0), (.iconst 2, 2, 0, 0), (.idiv, 0, 0, 0), (.iload 4, 4, 0, 0), (.ifCond .ne 7, 109, 255, 0), (.iconst 1, 1, 0, 0), (.goto 4, 110, 255, 0)]
theorem s_X1_price_96 {d : Nat} {ls st : List AV} {S : MS} {R : Option AV → MS → Prop} (h : wpI (fun t l s S2 => wpX d mX1_price t l s S2 R) (wpM d) R 109 0 B_X1_price_96 ls st S) : wpX d mX1_price 96 ls st S R := x_step (by decide +kernel) h
def B_X1_price_109 : List AIn := [(.iconst 0, 0, 0, 0)]
theorem s_X1_price_109 {d : Nat} {ls st : List AV} {S : MS} {R : Option AV → MS → Prop} (h : wpI (fun t l s S2 => wpX d mX1_price t l s S2 R) (wpM d) R 110 255 B_X1_price_109 ls st S) : wpX d mX1_price 109 ls st S R := x_step (by decide +kernel) h
def B_X1_price_110 : List AIn := [(.iadd, 0, 0, 0), (.ireturn, 0, 0, 0)]
theorem s_X1_price_110 {d : Nat} {ls st : List AV} {S : MS} {R : Option AV → MS → Prop} (h : wpI (fun t l s S2 => wpX d mX1_price t l s S2 R) (wpM d) R 112 0 B_X1_price_110 ls st S) : wpX d mX1_price 110 ls st S R := x_step (by decide +kernel) h
def B_X1_price_112 : List AIn := [(.iload 6, 6, 0, 0), (.ireturn, 0, 0, 0)]
theorem s_X1_price_112 {d : Nat} {ls st : List AV} {S : MS} {R : Option AV → MS → Prop} (h : wpI (fun t l s S2 => wpX d mX1_price t l s S2 R) (wpM d) R 115 0 B_X1_price_112 ls st S) : wpX d mX1_price 112 ls st S R := x_step (by decide +kernel) h
-- NinthDay$Kinds.grown(II)I
def B_X1_grown_0 : List AIn := [(.bipush 9, 9, 0, 0), (.iload_n 1, 1, 0, 0), (.iload_n 0, 0, 0, 0), (.iconst 3, 3, 0, 0), (.invokestatic 24, 12, 2, 0)]
theorem s_X1_grown_0 {d : Nat} {ls st : List AV} {S : MS} {R : Option AV → MS → Prop} (h : wpI (fun t l s S2 => wpX d mX1_grown t l s S2 R) (wpM d) R 8 3 B_X1_grown_0 ls st S) : wpX d mX1_grown 0 ls st S R := x_step (by decide +kernel) h
def B_X1_grown_8 : List AIn := [(.ifCond .eq 7, 15, 3, 0), (.iconst 2, 2, 0, 0), (.goto 4, 16, 3, 0)]
theorem s_X1_grown_8 {d : Nat} {ls st : List AV} {S : MS} {R : Option AV → MS → Prop} (h : wpI (fun t l s S2 => wpX d mX1_grown t l s S2 R) (wpM d) R 15 0 B_X1_grown_8 ls st S) : wpX d mX1_grown 8 ls st S R := x_step (by decide +kernel) h
def B_X1_grown_15 : List AIn := [(.iconst 1, 1, 0, 0)]
theorem s_X1_grown_15 {d : Nat} {ls st : List AV} {S : MS} {R : Option AV → MS → Prop} (h : wpI (fun t l s S2 => wpX d mX1_grown t l s S2 R) (wpM d) R 16 3 B_X1_grown_15 ls st S) : wpX d mX1_grown 15 ls st S R := x_step (by decide +kernel) h
def B_X1_grown_16 : List AIn := [(.iadd, 0, 0, 0), (.invokestatic 28, 0, 0, 3), (.ireturn, 0, 0, 0)]
theorem s_X1_grown_16 {d : Nat} {ls st : List AV} {S : MS} {R : Option AV → MS → Prop} (h : wpI (fun t l s S2 => wpX d mX1_grown t l s S2 R) (wpM d) R 21 0 B_X1_grown_16 ls st S) : wpX d mX1_grown 16 ls st S R := x_step (by decide +kernel) h
-- NinthDay$Kinds.shrunk(II)I
def B_X1_shrunk_0 : List AIn := [(.iconst 0, 0, 0, 0), (.iload_n 1, 1, 0, 0), (.iload_n 0, 0, 0, 0), (.iconst 2, 2, 0, 0), (.if_icmp .ne 7, 11, 3, 0), (.iconst 2, 2, 0, 0), (.goto 4, 12, 3, 0)]
theorem s_X1_shrunk_0 {d : Nat} {ls st : List AV} {S : MS} {R : Option AV → MS → Prop} (h : wpI (fun t l s S2 => wpX d mX1_shrunk t l s S2 R) (wpM d) R 11 0 B_X1_shrunk_0 ls st S) : wpX d mX1_shrunk 0 ls st S R := x_step (by decide +kernel) h
def B_X1_shrunk_11 : List AIn := [(.iconst 1, 1, 0, 0)]
theorem s_X1_shrunk_11 {d : Nat} {ls st : List AV} {S : MS} {R : Option AV → MS → Prop} (h : wpI (fun t l s S2 => wpX d mX1_shrunk t l s S2 R) (wpM d) R 12 3 B_X1_shrunk_11 ls st S) : wpX d mX1_shrunk 11 ls st S R := x_step (by decide +kernel) h
def B_X1_shrunk_12 : List AIn := [(.isub, 0, 0, 0), (.invokestatic 18, 0, 0, 2), (.ireturn, 0, 0, 0)]
theorem s_X1_shrunk_12 {d : Nat} {ls st : List AV} {S : MS} {R : Option AV → MS → Prop} (h : wpI (fun t l s S2 => wpX d mX1_shrunk t l s S2 R) (wpM d) R 17 0 B_X1_shrunk_12 ls st S) : wpX d mX1_shrunk 12 ls st S R := x_step (by decide +kernel) h
-- NinthDay$Planner.best(LNinthDay$Year;I)I
def B_X2_best_0 : List AIn := [(.aload_n 0, 0, 0, 0), (.iconst (-1), 1, 1, 0), (.putfield 28, 4, 1, 0), (.aload_n 0, 0, 0, 0), (.aload_n 1, 1, 0, 0), (.iconst 0, 0, 0, 0), (.iload_n 2, 2, 0, 0), (.iconst 0, 0, 0, 0), (.invokestatic 32, 17, 5, 0)]
theorem s_X2_best_0 {d : Nat} {ls st : List AV} {S : MS} {R : Option AV → MS → Prop} (h : wpI (fun t l s S2 => wpX d mX2_best t l s S2 R) (wpM d) R 13 6 B_X2_best_0 ls st S) : wpX d mX2_best 0 ls st S R := x_step (by decide +kernel) h
def B_X2_best_13 : List AIn := [(.aload_n 0, 0, 0, 0), (.getfield 28, 4, 1, 0), (.ireturn, 0, 0, 0)]
theorem s_X2_best_13 {d : Nat} {ls st : List AV} {S : MS} {R : Option AV → MS → Prop} (h : wpI (fun t l s S2 => wpX d mX2_best t l s S2 R) (wpM d) R 18 0 B_X2_best_13 ls st S) : wpX d mX2_best 13 ls st S R := x_step (by decide +kernel) h
-- NinthDay$Planner.seek(LNinthDay$Planner;LNinthDay$Year;III)V
def B_X2_seek_0 : List AIn := [(.iload_n 2, 2, 0, 0), (.iload_n 3, 3, 0, 0), (.if_icmp .ge 8, 10, 486, 0), (.iload_n 2, 2, 0, 0), (.iconst 3, 3, 0, 0), (.if_icmp .lt 11, 18, 480, 0)]
theorem s_X2_seek_0 {d : Nat} {ls st : List AV} {S : MS} {R : Option AV → MS → Prop} (h : wpI (fun t l s S2 => wpX d mX2_seek t l s S2 R) (wpM d) R 10 486 B_X2_seek_0 ls st S) : wpX d mX2_seek 0 ls st S R := x_step (by decide +kernel) h
def B_X2_seek_10 : List AIn := [(.aload_n 0, 0, 0, 0), (.iload_n 3, 3, 0, 0), (.iload 4, 4, 0, 0), (.invokevirtual 36, 19, 3, 1)]
theorem s_X2_seek_10 {d : Nat} {ls st : List AV} {S : MS} {R : Option AV → MS → Prop} (h : wpI (fun t l s S2 => wpX d mX2_seek t l s S2 R) (wpM d) R 17 511 B_X2_seek_10 ls st S) : wpX d mX2_seek 10 ls st S R := x_step (by decide +kernel) h
def B_X2_seek_17 : List AIn := [(.return_, 0, 0, 0)]
theorem s_X2_seek_17 {d : Nat} {ls st : List AV} {S : MS} {R : Option AV → MS → Prop} (h : wpI (fun t l s S2 => wpX d mX2_seek t l s S2 R) (wpM d) R 18 0 B_X2_seek_17 ls st S) : wpX d mX2_seek 17 ls st S R := x_step (by decide +kernel) h
def B_X2_seek_18 : List AIn := [(.aload_n 1, 1, 0, 0), (.invokevirtual 40, 48, 1, 6)]
theorem s_X2_seek_18 {d : Nat} {ls st : List AV} {S : MS} {R : Option AV → MS → Prop} (h : wpI (fun t l s S2 => wpX d mX2_seek t l s S2 R) (wpM d) R 22 480 B_X2_seek_18 ls st S) : wpX d mX2_seek 18 ls st S R := x_step (by decide +kernel) h
def B_X2_seek_22 : List AIn := [(.istore 5, 5, 0, 0), (.aload_n 1, 1, 0, 0), (.invokevirtual 44, 53, 1, 6)]
theorem s_X2_seek_22 {d : Nat} {ls st : List AV} {S : MS} {R : Option AV → MS → Prop} (h : wpI (fun t l s S2 => wpX d mX2_seek t l s S2 R) (wpM d) R 28 448 B_X2_seek_22 ls st S) : wpX d mX2_seek 22 ls st S R := x_step (by decide +kernel) h
def B_X2_seek_28 : List AIn := [(.astore 6, 6, 0, 0), (.iload 4, 4, 0, 0), (.iload_n 3, 3, 0, 0), (.iload_n 2, 2, 0, 0), (.isub, 0, 0, 0), (.iload 5, 5, 0, 0), (.invokestatic 48, 223, 1, 0)]
theorem s_X2_seek_28 {d : Nat} {ls st : List AV} {S : MS} {R : Option AV → MS → Prop} (h : wpI (fun t l s S2 => wpX d mX2_seek t l s S2 R) (wpM d) R 40 384 B_X2_seek_28 ls st S) : wpX d mX2_seek 28 ls st S R := x_step (by decide +kernel) h
def B_X2_seek_40 : List AIn := [(.imul, 0, 0, 0), (.iadd, 0, 0, 0), (.istore 7, 7, 0, 0), (.iconst 0, 0, 0, 0), (.istore 8, 8, 0, 0)]
theorem s_X2_seek_40 {d : Nat} {ls st : List AV} {S : MS} {R : Option AV → MS → Prop} (h : wpI (fun t l s S2 => wpX d mX2_seek t l s S2 R) (wpM d) R 47 0 B_X2_seek_40 ls st S) : wpX d mX2_seek 40 ls st S R := x_step (by decide +kernel) h
def B_X2_seek_47 : List AIn := [(.iload 8, 8, 0, 0), (.bipush 32, 32, 0, 0), (.if_icmp .ge 73, 124, 511, 0), (.iload 7, 7, 0, 0), (.aload_n 0, 0, 0, 0), (.getfield 28, 4, 1, 0), (.if_icmp .le 64, 124, 511, 0), (.iload 8, 8, 0, 0), (.iload 5, 5, 0, 0), (.iconst (-1), 1, 1, 0), (.ixor, 0, 0, 0), (.iand, 0, 0, 0), (.ifCond .ne 48, 118, 0, 0), (.aload 6, 6, 0, 0), (.iload 8, 8, 0, 0), (.iaload, 0, 0, 0), (.aload_n 1, 1, 0, 0), (.getfield 54, 9, 6, 0), (.if_icmp .gt 36, 118, 0, 0), (.aload_n 0, 0, 0, 0), (.getfield 21, 2, 1, 0), (.iload_n 2, 2, 0, 0), (.iload 8, 8, 0, 0), (.iastore, 0, 0, 0), (.aload_n 0, 0, 0, 0), (.aload_n 0, 0, 0, 0), (.aload_n 1, 1, 0, 0), (.iload_n 2, 2, 0, 0), (.iload_n 3, 3, 0, 0), (.iload 8, 8, 0, 0), (.invokevirtual 57, 18, 5, 1)]
theorem s_X2_seek_47 {d : Nat} {ls st : List AV} {S : MS} {R : Option AV → MS → Prop} (h : wpI (fun t l s S2 => wpX d mX2_seek t l s S2 R) (wpM d) R 103 0 B_X2_seek_47 ls st S) : wpX d mX2_seek 47 ls st S R := x_step (by decide +kernel) h
def B_X2_seek_103 : List AIn := [(.iload_n 2, 2, 0, 0), (.iconst 1, 1, 0, 0), (.iadd, 0, 0, 0), (.iload_n 3, 3, 0, 0), (.iload 4, 4, 0, 0), (.iload 8, 8, 0, 0), (.invokestatic 48, 223, 1, 0)]
theorem s_X2_seek_103 {d : Nat} {ls st : List AV} {S : MS} {R : Option AV → MS → Prop} (h : wpI (fun t l s S2 => wpX d mX2_seek t l s S2 R) (wpM d) R 114 0 B_X2_seek_103 ls st S) : wpX d mX2_seek 103 ls st S R := x_step (by decide +kernel) h
def B_X2_seek_114 : List AIn := [(.iadd, 0, 0, 0), (.invokestatic 32, 17, 5, 0)]
theorem s_X2_seek_114 {d : Nat} {ls st : List AV} {S : MS} {R : Option AV → MS → Prop} (h : wpI (fun t l s S2 => wpX d mX2_seek t l s S2 R) (wpM d) R 118 0 B_X2_seek_114 ls st S) : wpX d mX2_seek 114 ls st S R := x_step (by decide +kernel) h
def B_X2_seek_118 : List AIn := [(.iinc 8 1, 1, 0, 0), (.goto (-74), 47, 0, 0)]
theorem s_X2_seek_118 {d : Nat} {ls st : List AV} {S : MS} {R : Option AV → MS → Prop} (h : wpI (fun t l s S2 => wpX d mX2_seek t l s S2 R) (wpM d) R 124 0 B_X2_seek_118 ls st S) : wpX d mX2_seek 118 ls st S R := x_step (by decide +kernel) h
def B_X2_seek_124 : List AIn := [(.return_, 0, 0, 0)]
theorem s_X2_seek_124 {d : Nat} {ls st : List AV} {S : MS} {R : Option AV → MS → Prop} (h : wpI (fun t l s S2 => wpX d mX2_seek t l s S2 R) (wpM d) R 125 0 B_X2_seek_124 ls st S) : wpX d mX2_seek 124 ls st S R := x_step (by decide +kernel) h
-- NinthDay$Planner.behind(LNinthDay$Year;III)LNinthDay$Year;
def B_X2_behind_0 : List AIn := [(.iload_n 2, 2, 0, 0), (.iconst 1, 1, 0, 0), (.iadd, 0, 0, 0), (.iload_n 3, 3, 0, 0), (.if_icmp .lt 5, 9, 40, 0), (.aload_n 1, 1, 0, 0), (.areturn, 0, 0, 0)]
theorem s_X2_behind_0 {d : Nat} {ls st : List AV} {S : MS} {R : Option AV → MS → Prop} (h : wpI (fun t l s S2 => wpX d mX2_behind t l s S2 R) (wpM d) R 9 0 B_X2_behind_0 ls st S) : wpX d mX2_behind 0 ls st S R := x_step (by decide +kernel) h
def B_X2_behind_9 : List AIn := [(.iload_n 2, 2, 0, 0), (.ifCond .ne 10, 20, 44, 0), (.aload_n 0, 0, 0, 0), (.getfield 12, 0, 1, 0), (.goto 7, 24, 45, 0)]
theorem s_X2_behind_9 {d : Nat} {ls st : List AV} {S : MS} {R : Option AV → MS → Prop} (h : wpI (fun t l s S2 => wpX d mX2_behind t l s S2 R) (wpM d) R 20 0 B_X2_behind_9 ls st S) : wpX d mX2_behind 9 ls st S R := x_step (by decide +kernel) h
def B_X2_behind_20 : List AIn := [(.aload_n 0, 0, 0, 0), (.getfield 18, 1, 1, 0)]
theorem s_X2_behind_20 {d : Nat} {ls st : List AV} {S : MS} {R : Option AV → MS → Prop} (h : wpI (fun t l s S2 => wpX d mX2_behind t l s S2 R) (wpM d) R 24 45 B_X2_behind_20 ls st S) : wpX d mX2_behind 20 ls st S R := x_step (by decide +kernel) h
def B_X2_behind_24 : List AIn := [(.astore 5, 5, 0, 0), (.aload 5, 5, 0, 0), (.aload_n 1, 1, 0, 0), (.invokevirtual 61, 45, 2, 6)]
theorem s_X2_behind_24 {d : Nat} {ls st : List AV} {S : MS} {R : Option AV → MS → Prop} (h : wpI (fun t l s S2 => wpX d mX2_behind t l s S2 R) (wpM d) R 32 15 B_X2_behind_24 ls st S) : wpX d mX2_behind 24 ls st S R := x_step (by decide +kernel) h
def B_X2_behind_32 : List AIn := [(.aload 5, 5, 0, 0), (.iload 4, 4, 0, 0), (.iconst 0, 0, 0, 0), (.invokevirtual 65, 60, 3, 6)]
theorem s_X2_behind_32 {d : Nat} {ls st : List AV} {S : MS} {R : Option AV → MS → Prop} (h : wpI (fun t l s S2 => wpX d mX2_behind t l s S2 R) (wpM d) R 40 31 B_X2_behind_32 ls st S) : wpX d mX2_behind 32 ls st S R := x_step (by decide +kernel) h
def B_X2_behind_40 : List AIn := [(.aload 5, 5, 0, 0), (.areturn, 0, 0, 0)]
theorem s_X2_behind_40 {d : Nat} {ls st : List AV} {S : MS} {R : Option AV → MS → Prop} (h : wpI (fun t l s S2 => wpX d mX2_behind t l s S2 R) (wpM d) R 43 0 B_X2_behind_40 ls st S) : wpX d mX2_behind 40 ls st S R := x_step (by decide +kernel) h
-- NinthDay$Planner.note(II)V
def B_X2_note_0 : List AIn := [(.iload_n 2, 2, 0, 0), (.aload_n 0, 0, 0, 0), (.getfield 28, 4, 1, 0), (.if_icmp .le 38, 43, 15, 0), (.aload_n 0, 0, 0, 0), (.iload_n 2, 2, 0, 0), (.putfield 28, 4, 1, 0), (.iconst 0, 0, 0, 0), (.istore_n 3, 3, 0, 0)]
theorem s_X2_note_0 {d : Nat} {ls st : List AV} {S : MS} {R : Option AV → MS → Prop} (h : wpI (fun t l s S2 => wpX d mX2_note t l s S2 R) (wpM d) R 15 4 B_X2_note_0 ls st S) : wpX d mX2_note 0 ls st S R := x_step (by decide +kernel) h
def B_X2_note_15 : List AIn := [(.iload_n 3, 3, 0, 0), (.iload_n 1, 1, 0, 0), (.if_icmp .ge 26, 43, 15, 0), (.iload_n 3, 3, 0, 0), (.iconst 3, 3, 0, 0), (.if_icmp .ge 21, 43, 15, 0), (.aload_n 0, 0, 0, 0), (.getfield 25, 3, 1, 0), (.iload_n 3, 3, 0, 0), (.aload_n 0, 0, 0, 0), (.getfield 21, 2, 1, 0), (.iload_n 3, 3, 0, 0), (.iaload, 0, 0, 0), (.iastore, 0, 0, 0), (.iinc 3 1, 1, 0, 0), (.goto (-25), 15, 4, 0)]
theorem s_X2_note_15 {d : Nat} {ls st : List AV} {S : MS} {R : Option AV → MS → Prop} (h : wpI (fun t l s S2 => wpX d mX2_note t l s S2 R) (wpM d) R 43 0 B_X2_note_15 ls st S) : wpX d mX2_note 15 ls st S R := x_step (by decide +kernel) h
def B_X2_note_43 : List AIn := [(.return_, 0, 0, 0)]
theorem s_X2_note_43 {d : Nat} {ls st : List AV} {S : MS} {R : Option AV → MS → Prop} (h : wpI (fun t l s S2 => wpX d mX2_note t l s S2 R) (wpM d) R 44 0 B_X2_note_43 ls st S) : wpX d mX2_note 43 ls st S R := x_step (by decide +kernel) h
-- NinthDay$Reader.readYear(ILNinthDay$Year;)I
def B_X3_readYear_0 : List AIn := [(.aload_n 0, 0, 0, 0), (.iload_n 1, 1, 0, 0), (.putfield 15, 1, 2, 0), (.aload_n 0, 0, 0, 0), (.aload_n 0, 0, 0, 0), (.getfield 9, 0, 2, 0), (.iload_n 1, 1, 0, 0), (.invokevirtual 19, 37, 2, 5)]
theorem s_X3_readYear_0 {d : Nat} {ls st : List AV} {S : MS} {R : Option AV → MS → Prop} (h : wpI (fun t l s S2 => wpX d mX3_readYear t l s S2 R) (wpM d) R 14 10 B_X3_readYear_0 ls st S) : wpX d mX3_readYear 0 ls st S R := x_step (by decide +kernel) h
def B_X3_readYear_14 : List AIn := [(.putfield 25, 2, 2, 0), (.aload_n 0, 0, 0, 0), (.iconst 0, 0, 0, 0), (.putfield 28, 3, 2, 0), (.aload_n 0, 0, 0, 0), (.bipush (-9), 9, 1, 0), (.putfield 31, 4, 2, 0), (.aload_n 2, 2, 0, 0), (.invokevirtual 34, 43, 1, 6)]
theorem s_X3_readYear_14 {d : Nat} {ls st : List AV} {S : MS} {R : Option AV → MS → Prop} (h : wpI (fun t l s S2 => wpX d mX3_readYear t l s S2 R) (wpM d) R 32 10 B_X3_readYear_14 ls st S) : wpX d mX3_readYear 14 ls st S R := x_step (by decide +kernel) h
def B_X3_readYear_32 : List AIn := [(.aload_n 0, 0, 0, 0), (.aload_n 2, 2, 0, 0), (.invokevirtual 39, 22, 2, 2)]
theorem s_X3_readYear_32 {d : Nat} {ls st : List AV} {S : MS} {R : Option AV → MS → Prop} (h : wpI (fun t l s S2 => wpX d mX3_readYear t l s S2 R) (wpM d) R 37 10 B_X3_readYear_32 ls st S) : wpX d mX3_readYear 32 ls st S R := x_step (by decide +kernel) h
def B_X3_readYear_37 : List AIn := [(.aload_n 0, 0, 0, 0), (.invokevirtual 43, 21, 1, 2)]
theorem s_X3_readYear_37 {d : Nat} {ls st : List AV} {S : MS} {R : Option AV → MS → Prop} (h : wpI (fun t l s S2 => wpX d mX3_readYear t l s S2 R) (wpM d) R 41 10 B_X3_readYear_37 ls st S) : wpX d mX3_readYear 37 ls st S R := x_step (by decide +kernel) h
def B_X3_readYear_41 : List AIn := [(.iconst 0, 0, 0, 0), (.istore_n 3, 3, 0, 0)]
theorem s_X3_readYear_41 {d : Nat} {ls st : List AV} {S : MS} {R : Option AV → MS → Prop} (h : wpI (fun t l s S2 => wpX d mX3_readYear t l s S2 R) (wpM d) R 43 2 B_X3_readYear_41 ls st S) : wpX d mX3_readYear 41 ls st S R := x_step (by decide +kernel) h
def B_X3_readYear_43 : List AIn := [(.iload_n 3, 3, 0, 0), (.bipush 60, 60, 0, 0), (.if_icmp .ge 38, 84, 10, 0), (.aload_n 0, 0, 0, 0), (.getfield 31, 4, 2, 0), (.bipush (-9), 9, 1, 0), (.if_icmp .ne 29, 84, 10, 0), (.aload_n 0, 0, 0, 0), (.getfield 28, 3, 2, 0), (.aload_n 0, 0, 0, 0), (.getfield 25, 2, 2, 0), (.if_icmp .ge 18, 84, 10, 0), (.aload_n 0, 0, 0, 0), (.aload_n 2, 2, 0, 0), (.invokevirtual 46, 23, 2, 2)]
theorem s_X3_readYear_43 {d : Nat} {ls st : List AV} {S : MS} {R : Option AV → MS → Prop} (h : wpI (fun t l s S2 => wpX d mX3_readYear t l s S2 R) (wpM d) R 74 2 B_X3_readYear_43 ls st S) : wpX d mX3_readYear 43 ls st S R := x_step (by decide +kernel) h
def B_X3_readYear_74 : List AIn := [(.aload_n 0, 0, 0, 0), (.invokevirtual 43, 21, 1, 2)]
theorem s_X3_readYear_74 {d : Nat} {ls st : List AV} {S : MS} {R : Option AV → MS → Prop} (h : wpI (fun t l s S2 => wpX d mX3_readYear t l s S2 R) (wpM d) R 78 2 B_X3_readYear_74 ls st S) : wpX d mX3_readYear 74 ls st S R := x_step (by decide +kernel) h
def B_X3_readYear_78 : List AIn := [(.iinc 3 1, 1, 0, 0), (.goto (-38), 43, 2, 0)]
theorem s_X3_readYear_78 {d : Nat} {ls st : List AV} {S : MS} {R : Option AV → MS → Prop} (h : wpI (fun t l s S2 => wpX d mX3_readYear t l s S2 R) (wpM d) R 84 0 B_X3_readYear_78 ls st S) : wpX d mX3_readYear 78 ls st S R := x_step (by decide +kernel) h
def B_X3_readYear_84 : List AIn := [(.aload_n 0, 0, 0, 0), (.getfield 31, 4, 2, 0), (.bipush (-9), 9, 1, 0), (.if_icmp .ne 18, 108, 14, 0), (.aload_n 2, 2, 0, 0), (.getfield 49, 7, 6, 0), (.ifCond .ne 11, 108, 14, 0), (.aload_n 0, 0, 0, 0), (.aload_n 0, 0, 0, 0), (.getfield 25, 2, 2, 0), (.putfield 31, 4, 2, 0)]
theorem s_X3_readYear_84 {d : Nat} {ls st : List AV} {S : MS} {R : Option AV → MS → Prop} (h : wpI (fun t l s S2 => wpX d mX3_readYear t l s S2 R) (wpM d) R 108 14 B_X3_readYear_84 ls st S) : wpX d mX3_readYear 84 ls st S R := x_step (by decide +kernel) h
def B_X3_readYear_108 : List AIn := [(.aload_n 0, 0, 0, 0), (.getfield 31, 4, 2, 0), (.ireturn, 0, 0, 0)]
theorem s_X3_readYear_108 {d : Nat} {ls st : List AV} {S : MS} {R : Option AV → MS → Prop} (h : wpI (fun t l s S2 => wpX d mX3_readYear t l s S2 R) (wpM d) R 113 0 B_X3_readYear_108 ls st S) : wpX d mX3_readYear 108 ls st S R := x_step (by decide +kernel) h
-- NinthDay$Reader.passBlanks()V
def B_X3_passBlanks_0 : List AIn := [(.aload_n 0, 0, 0, 0), (.getfield 28, 3, 2, 0), (.aload_n 0, 0, 0, 0), (.getfield 25, 2, 2, 0), (.if_icmp .ge 36, 44, 1, 0), (.aload_n 0, 0, 0, 0), (.getfield 9, 0, 2, 0), (.aload_n 0, 0, 0, 0), (.getfield 15, 1, 2, 0), (.aload_n 0, 0, 0, 0), (.getfield 28, 3, 2, 0), (.invokevirtual 50, 39, 3, 5)]
theorem s_X3_passBlanks_0 {d : Nat} {ls st : List AV} {S : MS} {R : Option AV → MS → Prop} (h : wpI (fun t l s S2 => wpX d mX3_passBlanks t l s S2 R) (wpM d) R 26 0 B_X3_passBlanks_0 ls st S) : wpX d mX3_passBlanks 0 ls st S R := x_step (by decide +kernel) h
def B_X3_passBlanks_26 : List AIn := [(.bipush 32, 32, 0, 0), (.if_icmp .ne 16, 44, 1, 0), (.aload_n 0, 0, 0, 0), (.dup, 0, 0, 0), (.getfield 28, 3, 2, 0), (.iconst 1, 1, 0, 0), (.iadd, 0, 0, 0), (.putfield 28, 3, 2, 0), (.goto (-41), 0, 0, 0)]
theorem s_X3_passBlanks_26 {d : Nat} {ls st : List AV} {S : MS} {R : Option AV → MS → Prop} (h : wpI (fun t l s S2 => wpX d mX3_passBlanks t l s S2 R) (wpM d) R 44 0 B_X3_passBlanks_26 ls st S) : wpX d mX3_passBlanks 26 ls st S R := x_step (by decide +kernel) h
def B_X3_passBlanks_44 : List AIn := [(.return_, 0, 0, 0)]
theorem s_X3_passBlanks_44 {d : Nat} {ls st : List AV} {S : MS} {R : Option AV → MS → Prop} (h : wpI (fun t l s S2 => wpX d mX3_passBlanks t l s S2 R) (wpM d) R 45 0 B_X3_passBlanks_44 ls st S) : wpX d mX3_passBlanks 44 ls st S R := x_step (by decide +kernel) h
-- NinthDay$Reader.readHead(LNinthDay$Year;)V
def B_X3_readHead_0 : List AIn := [(.aload_n 0, 0, 0, 0), (.invokevirtual 43, 21, 1, 2)]
theorem s_X3_readHead_0 {d : Nat} {ls st : List AV} {S : MS} {R : Option AV → MS → Prop} (h : wpI (fun t l s S2 => wpX d mX3_readHead t l s S2 R) (wpM d) R 4 4 B_X3_readHead_0 ls st S) : wpX d mX3_readHead 0 ls st S R := x_step (by decide +kernel) h
def B_X3_readHead_4 : List AIn := [(.aload_n 0, 0, 0, 0), (.getfield 28, 3, 2, 0), (.aload_n 0, 0, 0, 0), (.getfield 25, 2, 2, 0), (.if_icmp .ge 23, 35, 6, 0), (.aload_n 0, 0, 0, 0), (.getfield 9, 0, 2, 0), (.aload_n 0, 0, 0, 0), (.getfield 15, 1, 2, 0), (.aload_n 0, 0, 0, 0), (.getfield 28, 3, 2, 0), (.invokevirtual 50, 39, 3, 5)]
theorem s_X3_readHead_4 {d : Nat} {ls st : List AV} {S : MS} {R : Option AV → MS → Prop} (h : wpI (fun t l s S2 => wpX d mX3_readHead t l s S2 R) (wpM d) R 30 4 B_X3_readHead_4 ls st S) : wpX d mX3_readHead 4 ls st S R := x_step (by decide +kernel) h
def B_X3_readHead_30 : List AIn := [(.bipush 119, 119, 0, 0), (.if_icmp .eq 12, 44, 4, 0)]
theorem s_X3_readHead_30 {d : Nat} {ls st : List AV} {S : MS} {R : Option AV → MS → Prop} (h : wpI (fun t l s S2 => wpX d mX3_readHead t l s S2 R) (wpM d) R 35 6 B_X3_readHead_30 ls st S) : wpX d mX3_readHead 30 ls st S R := x_step (by decide +kernel) h
def B_X3_readHead_35 : List AIn := [(.aload_n 0, 0, 0, 0), (.aload_n 0, 0, 0, 0), (.getfield 28, 3, 2, 0), (.putfield 31, 4, 2, 0), (.return_, 0, 0, 0)]
theorem s_X3_readHead_35 {d : Nat} {ls st : List AV} {S : MS} {R : Option AV → MS → Prop} (h : wpI (fun t l s S2 => wpX d mX3_readHead t l s S2 R) (wpM d) R 44 0 B_X3_readHead_35 ls st S) : wpX d mX3_readHead 35 ls st S R := x_step (by decide +kernel) h
def B_X3_readHead_44 : List AIn := [(.aload_n 0, 0, 0, 0), (.dup, 0, 0, 0), (.getfield 28, 3, 2, 0), (.iconst 1, 1, 0, 0), (.iadd, 0, 0, 0), (.putfield 28, 3, 2, 0), (.aload_n 0, 0, 0, 0), (.getfield 28, 3, 2, 0), (.istore_n 2, 2, 0, 0), (.aload_n 1, 1, 0, 0), (.bipush 10, 10, 0, 0), (.aload_n 0, 0, 0, 0), (.invokevirtual 56, 24, 1, 2)]
theorem s_X3_readHead_44 {d : Nat} {ls st : List AV} {S : MS} {R : Option AV → MS → Prop} (h : wpI (fun t l s S2 => wpX d mX3_readHead t l s S2 R) (wpM d) R 66 0 B_X3_readHead_44 ls st S) : wpX d mX3_readHead 44 ls st S R := x_step (by decide +kernel) h
def B_X3_readHead_66 : List AIn := [(.imul, 0, 0, 0), (.putfield 60, 9, 6, 0), (.aload_n 1, 1, 0, 0), (.dup, 0, 0, 0), (.getfield 60, 9, 6, 0), (.aload_n 0, 0, 0, 0), (.invokevirtual 56, 24, 1, 2)]
theorem s_X3_readHead_66 {d : Nat} {ls st : List AV} {S : MS} {R : Option AV → MS → Prop} (h : wpI (fun t l s S2 => wpX d mX3_readHead t l s S2 R) (wpM d) R 79 0 B_X3_readHead_66 ls st S) : wpX d mX3_readHead 66 ls st S R := x_step (by decide +kernel) h
def B_X3_readHead_79 : List AIn := [(.iadd, 0, 0, 0), (.putfield 60, 9, 6, 0), (.aload_n 0, 0, 0, 0), (.getfield 31, 4, 2, 0), (.bipush (-9), 9, 1, 0), (.if_icmp .ne 17, 106, 4, 0), (.aload_n 1, 1, 0, 0), (.getfield 60, 9, 6, 0), (.bipush 40, 40, 0, 0), (.if_icmp .le 8, 106, 4, 0), (.aload_n 0, 0, 0, 0), (.iload_n 2, 2, 0, 0), (.putfield 31, 4, 2, 0)]
theorem s_X3_readHead_79 {d : Nat} {ls st : List AV} {S : MS} {R : Option AV → MS → Prop} (h : wpI (fun t l s S2 => wpX d mX3_readHead t l s S2 R) (wpM d) R 106 4 B_X3_readHead_79 ls st S) : wpX d mX3_readHead 79 ls st S R := x_step (by decide +kernel) h
def B_X3_readHead_106 : List AIn := [(.aload_n 1, 1, 0, 0), (.aload_n 0, 0, 0, 0), (.invokevirtual 56, 24, 1, 2)]
theorem s_X3_readHead_106 {d : Nat} {ls st : List AV} {S : MS} {R : Option AV → MS → Prop} (h : wpI (fun t l s S2 => wpX d mX3_readHead t l s S2 R) (wpM d) R 111 7 B_X3_readHead_106 ls st S) : wpX d mX3_readHead 106 ls st S R := x_step (by decide +kernel) h
def B_X3_readHead_111 : List AIn := [(.putfield 63, 10, 6, 0), (.return_, 0, 0, 0)]
theorem s_X3_readHead_111 {d : Nat} {ls st : List AV} {S : MS} {R : Option AV → MS → Prop} (h : wpI (fun t l s S2 => wpX d mX3_readHead t l s S2 R) (wpM d) R 115 0 B_X3_readHead_111 ls st S) : wpX d mX3_readHead 111 ls st S R := x_step (by decide +kernel) h
-- NinthDay$Reader.readDeed(LNinthDay$Year;)V
def B_X3_readDeed_0 : List AIn := [(.aload_n 0, 0, 0, 0), (.getfield 9, 0, 2, 0), (.aload_n 0, 0, 0, 0), (.getfield 15, 1, 2, 0), (.aload_n 0, 0, 0, 0), (.getfield 28, 3, 2, 0), (.invokevirtual 50, 39, 3, 5)]
theorem s_X3_readDeed_0 {d : Nat} {ls st : List AV} {S : MS} {R : Option AV → MS → Prop} (h : wpI (fun t l s S2 => wpX d mX3_readDeed t l s S2 R) (wpM d) R 15 60 B_X3_readDeed_0 ls st S) : wpX d mX3_readDeed 0 ls st S R := x_step (by decide +kernel) h
def B_X3_readDeed_15 : List AIn := [(.invokestatic 66, 11, 1, 0)]
theorem s_X3_readDeed_15 {d : Nat} {ls st : List AV} {S : MS} {R : Option AV → MS → Prop} (h : wpI (fun t l s S2 => wpX d mX3_readDeed t l s S2 R) (wpM d) R 18 60 B_X3_readDeed_15 ls st S) : wpX d mX3_readDeed 15 ls st S R := x_step (by decide +kernel) h
def B_X3_readDeed_18 : List AIn := [(.istore_n 2, 2, 0, 0), (.iload_n 2, 2, 0, 0), (.bipush (-9), 9, 1, 0), (.if_icmp .eq 11, 33, 62, 0), (.aload_n 1, 1, 0, 0), (.getfield 49, 7, 6, 0), (.iconst 5, 5, 0, 0), (.if_icmp .lt 12, 42, 56, 0)]
theorem s_X3_readDeed_18 {d : Nat} {ls st : List AV} {S : MS} {R : Option AV → MS → Prop} (h : wpI (fun t l s S2 => wpX d mX3_readDeed t l s S2 R) (wpM d) R 33 62 B_X3_readDeed_18 ls st S) : wpX d mX3_readDeed 18 ls st S R := x_step (by decide +kernel) h
def B_X3_readDeed_33 : List AIn := [(.aload_n 0, 0, 0, 0), (.aload_n 0, 0, 0, 0), (.getfield 28, 3, 2, 0), (.putfield 31, 4, 2, 0), (.return_, 0, 0, 0)]
theorem s_X3_readDeed_33 {d : Nat} {ls st : List AV} {S : MS} {R : Option AV → MS → Prop} (h : wpI (fun t l s S2 => wpX d mX3_readDeed t l s S2 R) (wpM d) R 42 0 B_X3_readDeed_33 ls st S) : wpX d mX3_readDeed 33 ls st S R := x_step (by decide +kernel) h
def B_X3_readDeed_42 : List AIn := [(.aload_n 0, 0, 0, 0), (.dup, 0, 0, 0), (.getfield 28, 3, 2, 0), (.iconst 1, 1, 0, 0), (.iadd, 0, 0, 0), (.putfield 28, 3, 2, 0), (.aload_n 0, 0, 0, 0), (.invokevirtual 56, 24, 1, 2)]
theorem s_X3_readDeed_42 {d : Nat} {ls st : List AV} {S : MS} {R : Option AV → MS → Prop} (h : wpI (fun t l s S2 => wpX d mX3_readDeed t l s S2 R) (wpM d) R 56 56 B_X3_readDeed_42 ls st S) : wpX d mX3_readDeed 42 ls st S R := x_step (by decide +kernel) h
def B_X3_readDeed_56 : List AIn := [(.istore_n 3, 3, 0, 0), (.aload_n 0, 0, 0, 0), (.invokevirtual 56, 24, 1, 2)]
theorem s_X3_readDeed_56 {d : Nat} {ls st : List AV} {S : MS} {R : Option AV → MS → Prop} (h : wpI (fun t l s S2 => wpX d mX3_readDeed t l s S2 R) (wpM d) R 61 48 B_X3_readDeed_56 ls st S) : wpX d mX3_readDeed 56 ls st S R := x_step (by decide +kernel) h
def B_X3_readDeed_61 : List AIn := [(.istore 4, 4, 0, 0), (.aload_n 0, 0, 0, 0), (.invokevirtual 56, 24, 1, 2)]
theorem s_X3_readDeed_61 {d : Nat} {ls st : List AV} {S : MS} {R : Option AV → MS → Prop} (h : wpI (fun t l s S2 => wpX d mX3_readDeed t l s S2 R) (wpM d) R 67 33 B_X3_readDeed_61 ls st S) : wpX d mX3_readDeed 61 ls st S R := x_step (by decide +kernel) h
def B_X3_readDeed_67 : List AIn := [(.istore 5, 5, 0, 0), (.aload_n 1, 1, 0, 0), (.iload_n 2, 2, 0, 0), (.iload_n 3, 3, 0, 0), (.iload 4, 4, 0, 0), (.iload 5, 5, 0, 0), (.invokevirtual 69, 44, 5, 6)]
theorem s_X3_readDeed_67 {d : Nat} {ls st : List AV} {S : MS} {R : Option AV → MS → Prop} (h : wpI (fun t l s S2 => wpX d mX3_readDeed t l s S2 R) (wpM d) R 79 63 B_X3_readDeed_67 ls st S) : wpX d mX3_readDeed 67 ls st S R := x_step (by decide +kernel) h
def B_X3_readDeed_79 : List AIn := [(.return_, 0, 0, 0)]
theorem s_X3_readDeed_79 {d : Nat} {ls st : List AV} {S : MS} {R : Option AV → MS → Prop} (h : wpI (fun t l s S2 => wpX d mX3_readDeed t l s S2 R) (wpM d) R 80 0 B_X3_readDeed_79 ls st S) : wpX d mX3_readDeed 79 ls st S R := x_step (by decide +kernel) h
-- NinthDay$Reader.readFigure()I
def B_X3_readFigure_0 : List AIn := [(.aload_n 0, 0, 0, 0), (.getfield 31, 4, 2, 0), (.bipush (-9), 9, 1, 0), (.if_icmp .eq 5, 11, 2, 0), (.iconst 0, 0, 0, 0), (.ireturn, 0, 0, 0)]
theorem s_X3_readFigure_0 {d : Nat} {ls st : List AV} {S : MS} {R : Option AV → MS → Prop} (h : wpI (fun t l s S2 => wpX d mX3_readFigure t l s S2 R) (wpM d) R 11 0 B_X3_readFigure_0 ls st S) : wpX d mX3_readFigure 0 ls st S R := x_step (by decide +kernel) h
def B_X3_readFigure_11 : List AIn := [(.aload_n 0, 0, 0, 0), (.getfield 28, 3, 2, 0), (.aload_n 0, 0, 0, 0), (.getfield 25, 2, 2, 0), (.if_icmp .ge 24, 43, 2, 0), (.aload_n 0, 0, 0, 0), (.getfield 9, 0, 2, 0), (.aload_n 0, 0, 0, 0), (.getfield 15, 1, 2, 0), (.aload_n 0, 0, 0, 0), (.getfield 28, 3, 2, 0), (.invokevirtual 50, 39, 3, 5)]
theorem s_X3_readFigure_11 {d : Nat} {ls st : List AV} {S : MS} {R : Option AV → MS → Prop} (h : wpI (fun t l s S2 => wpX d mX3_readFigure t l s S2 R) (wpM d) R 37 2 B_X3_readFigure_11 ls st S) : wpX d mX3_readFigure 11 ls st S R := x_step (by decide +kernel) h
def B_X3_readFigure_37 : List AIn := [(.bipush 48, 48, 0, 0), (.isub, 0, 0, 0), (.goto 5, 45, 2, 0)]
theorem s_X3_readFigure_37 {d : Nat} {ls st : List AV} {S : MS} {R : Option AV → MS → Prop} (h : wpI (fun t l s S2 => wpX d mX3_readFigure t l s S2 R) (wpM d) R 43 0 B_X3_readFigure_37 ls st S) : wpX d mX3_readFigure 37 ls st S R := x_step (by decide +kernel) h
def B_X3_readFigure_43 : List AIn := [(.bipush (-9), 9, 1, 0)]
theorem s_X3_readFigure_43 {d : Nat} {ls st : List AV} {S : MS} {R : Option AV → MS → Prop} (h : wpI (fun t l s S2 => wpX d mX3_readFigure t l s S2 R) (wpM d) R 45 2 B_X3_readFigure_43 ls st S) : wpX d mX3_readFigure 43 ls st S R := x_step (by decide +kernel) h
def B_X3_readFigure_45 : List AIn := [(.istore_n 1, 1, 0, 0), (.iload_n 1, 1, 0, 0), (.ifCond .lt 9, 56, 2, 0), (.iload_n 1, 1, 0, 0), (.bipush 9, 9, 0, 0), (.if_icmp .le 13, 66, 0, 0)]
theorem s_X3_readFigure_45 {d : Nat} {ls st : List AV} {S : MS} {R : Option AV → MS → Prop} (h : wpI (fun t l s S2 => wpX d mX3_readFigure t l s S2 R) (wpM d) R 56 2 B_X3_readFigure_45 ls st S) : wpX d mX3_readFigure 45 ls st S R := x_step (by decide +kernel) h
def B_X3_readFigure_56 : List AIn := [(.aload_n 0, 0, 0, 0), (.aload_n 0, 0, 0, 0), (.getfield 28, 3, 2, 0), (.putfield 31, 4, 2, 0), (.iconst 0, 0, 0, 0), (.ireturn, 0, 0, 0)]
theorem s_X3_readFigure_56 {d : Nat} {ls st : List AV} {S : MS} {R : Option AV → MS → Prop} (h : wpI (fun t l s S2 => wpX d mX3_readFigure t l s S2 R) (wpM d) R 66 0 B_X3_readFigure_56 ls st S) : wpX d mX3_readFigure 56 ls st S R := x_step (by decide +kernel) h
def B_X3_readFigure_66 : List AIn := [(.aload_n 0, 0, 0, 0), (.dup, 0, 0, 0), (.getfield 28, 3, 2, 0), (.iconst 1, 1, 0, 0), (.iadd, 0, 0, 0), (.putfield 28, 3, 2, 0), (.iload_n 1, 1, 0, 0), (.ireturn, 0, 0, 0)]
theorem s_X3_readFigure_66 {d : Nat} {ls st : List AV} {S : MS} {R : Option AV → MS → Prop} (h : wpI (fun t l s S2 => wpX d mX3_readFigure t l s S2 R) (wpM d) R 78 0 B_X3_readFigure_66 ls st S) : wpX d mX3_readFigure 66 ls st S R := x_step (by decide +kernel) h
-- NinthDay$Rows.isThere(I)Z
def B_X4_isThere_0 : List AIn := [(.aload_n 0, 0, 0, 0), (.getfield 9, 0, 3, 0), (.iload_n 1, 1, 0, 0), (.iaload, 0, 0, 0), (.iconst (-1), 1, 1, 0), (.if_icmp .eq 7, 14, 3, 0), (.iconst 1, 1, 0, 0), (.goto 4, 15, 3, 0)]
theorem s_X4_isThere_0 {d : Nat} {ls st : List AV} {S : MS} {R : Option AV → MS → Prop} (h : wpI (fun t l s S2 => wpX d mX4_isThere t l s S2 R) (wpM d) R 14 0 B_X4_isThere_0 ls st S) : wpX d mX4_isThere 0 ls st S R := x_step (by decide +kernel) h
def B_X4_isThere_14 : List AIn := [(.iconst 0, 0, 0, 0)]
theorem s_X4_isThere_14 {d : Nat} {ls st : List AV} {S : MS} {R : Option AV → MS → Prop} (h : wpI (fun t l s S2 => wpX d mX4_isThere t l s S2 R) (wpM d) R 15 3 B_X4_isThere_14 ls st S) : wpX d mX4_isThere 14 ls st S R := x_step (by decide +kernel) h
def B_X4_isThere_15 : List AIn := [(.ireturn, 1, 0, 0)]
theorem s_X4_isThere_15 {d : Nat} {ls st : List AV} {S : MS} {R : Option AV → MS → Prop} (h : wpI (fun t l s S2 => wpX d mX4_isThere t l s S2 R) (wpM d) R 16 0 B_X4_isThere_15 ls st S) : wpX d mX4_isThere 15 ls st S R := x_step (by decide +kernel) h
-- NinthDay$Rows.length(I)I
def B_X4_length_0 : List AIn := [(.aload_n 0, 0, 0, 0), (.getfield 9, 0, 3, 0), (.iload_n 1, 1, 0, 0), (.iaload, 0, 0, 0), (.ireturn, 0, 0, 0)]
theorem s_X4_length_0 {d : Nat} {ls st : List AV} {S : MS} {R : Option AV → MS → Prop} (h : wpI (fun t l s S2 => wpX d mX4_length t l s S2 R) (wpM d) R 7 0 B_X4_length_0 ls st S) : wpX d mX4_length 0 ls st S R := x_step (by decide +kernel) h
-- NinthDay$Rows.hasPart(III)Z
def B_X4_hasPart_0 : List AIn := [(.iload_n 2, 2, 0, 0), (.ifCond .lt 29, 30, 15, 0), (.iload_n 2, 2, 0, 0), (.aload_n 0, 0, 0, 0), (.getfield 9, 0, 3, 0), (.iload_n 1, 1, 0, 0), (.iaload, 0, 0, 0), (.if_icmp .gt 19, 30, 15, 0), (.iload_n 3, 3, 0, 0), (.aload_n 0, 0, 0, 0), (.getfield 9, 0, 3, 0), (.iload_n 1, 1, 0, 0), (.iaload, 0, 0, 0), (.iload_n 2, 2, 0, 0), (.isub, 0, 0, 0), (.if_icmp .gt 7, 30, 15, 0), (.iconst 1, 1, 0, 0), (.goto 4, 31, 15, 0)]
theorem s_X4_hasPart_0 {d : Nat} {ls st : List AV} {S : MS} {R : Option AV → MS → Prop} (h : wpI (fun t l s S2 => wpX d mX4_hasPart t l s S2 R) (wpM d) R 30 0 B_X4_hasPart_0 ls st S) : wpX d mX4_hasPart 0 ls st S R := x_step (by decide +kernel) h
def B_X4_hasPart_30 : List AIn := [(.iconst 0, 0, 0, 0)]
theorem s_X4_hasPart_30 {d : Nat} {ls st : List AV} {S : MS} {R : Option AV → MS → Prop} (h : wpI (fun t l s S2 => wpX d mX4_hasPart t l s S2 R) (wpM d) R 31 15 B_X4_hasPart_30 ls st S) : wpX d mX4_hasPart 30 ls st S R := x_step (by decide +kernel) h
def B_X4_hasPart_31 : List AIn := [(.ireturn, 1, 0, 0)]
theorem s_X4_hasPart_31 {d : Nat} {ls st : List AV} {S : MS} {R : Option AV → MS → Prop} (h : wpI (fun t l s S2 => wpX d mX4_hasPart t l s S2 R) (wpM d) R 32 0 B_X4_hasPart_31 ls st S) : wpX d mX4_hasPart 31 ls st S R := x_step (by decide +kernel) h
-- NinthDay$Rows.make(II)V
def B_X4_make_0 : List AIn := [(.aload_n 0, 0, 0, 0), (.getfield 9, 0, 3, 0), (.iload_n 1, 1, 0, 0), (.iload_n 2, 2, 0, 0), (.iastore, 0, 0, 0), (.aload_n 0, 0, 0, 0), (.getfield 21, 1, 3, 0), (.iload_n 1, 1, 0, 0), (.bipush 40, 40, 0, 0), (.imul, 0, 0, 0), (.iload_n 1, 1, 0, 0), (.bipush 40, 40, 0, 0), (.imul, 0, 0, 0), (.iload_n 2, 2, 0, 0), (.iadd, 0, 0, 0), (.iconst 0, 0, 0, 0), (.invokestatic 24, 228, 4, 0)]
theorem s_X4_make_0 {d : Nat} {ls st : List AV} {S : MS} {R : Option AV → MS → Prop} (h : wpI (fun t l s S2 => wpX d mX4_make t l s S2 R) (wpM d) R 25 7 B_X4_make_0 ls st S) : wpX d mX4_make 0 ls st S R := x_step (by decide +kernel) h
def B_X4_make_25 : List AIn := [(.return_, 0, 0, 0)]
theorem s_X4_make_25 {d : Nat} {ls st : List AV} {S : MS} {R : Option AV → MS → Prop} (h : wpI (fun t l s S2 => wpX d mX4_make t l s S2 R) (wpM d) R 26 0 B_X4_make_25 ls st S) : wpX d mX4_make 25 ls st S R := x_step (by decide +kernel) h
-- NinthDay$Rows.remove(I)V
def B_X4_remove_0 : List AIn := [(.aload_n 0, 0, 0, 0), (.getfield 9, 0, 3, 0), (.iload_n 1, 1, 0, 0), (.iconst (-1), 1, 1, 0), (.iastore, 0, 0, 0), (.return_, 0, 0, 0)]
theorem s_X4_remove_0 {d : Nat} {ls st : List AV} {S : MS} {R : Option AV → MS → Prop} (h : wpI (fun t l s S2 => wpX d mX4_remove t l s S2 R) (wpM d) R 8 0 B_X4_remove_0 ls st S) : wpX d mX4_remove 0 ls st S R := x_step (by decide +kernel) h
-- NinthDay$Rows.read(II)I
def B_X4_read_0 : List AIn := [(.aload_n 0, 0, 0, 0), (.getfield 21, 1, 3, 0), (.iload_n 1, 1, 0, 0), (.bipush 40, 40, 0, 0), (.imul, 0, 0, 0), (.iload_n 2, 2, 0, 0), (.iadd, 0, 0, 0), (.iaload, 0, 0, 0), (.ireturn, 0, 0, 0)]
theorem s_X4_read_0 {d : Nat} {ls st : List AV} {S : MS} {R : Option AV → MS → Prop} (h : wpI (fun t l s S2 => wpX d mX4_read t l s S2 R) (wpM d) R 12 0 B_X4_read_0 ls st S) : wpX d mX4_read 0 ls st S R := x_step (by decide +kernel) h
-- NinthDay$Rows.write(III)V
def B_X4_write_0 : List AIn := [(.aload_n 0, 0, 0, 0), (.getfield 21, 1, 3, 0), (.iload_n 1, 1, 0, 0), (.bipush 40, 40, 0, 0), (.imul, 0, 0, 0), (.iload_n 2, 2, 0, 0), (.iadd, 0, 0, 0), (.iload_n 3, 3, 0, 0), (.iastore, 0, 0, 0), (.return_, 0, 0, 0)]
theorem s_X4_write_0 {d : Nat} {ls st : List AV} {S : MS} {R : Option AV → MS → Prop} (h : wpI (fun t l s S2 => wpX d mX4_write t l s S2 R) (wpM d) R 13 0 B_X4_write_0 ls st S) : wpX d mX4_write 0 ls st S R := x_step (by decide +kernel) h
-- NinthDay$Rows.move(IIIII)V
def B_X4_move_0 : List AIn := [(.aload_n 0, 0, 0, 0), (.getfield 21, 1, 3, 0), (.iload_n 1, 1, 0, 0), (.bipush 40, 40, 0, 0), (.imul, 0, 0, 0), (.iload_n 2, 2, 0, 0), (.iadd, 0, 0, 0), (.aload_n 0, 0, 0, 0), (.getfield 21, 1, 3, 0), (.iload_n 3, 3, 0, 0), (.bipush 40, 40, 0, 0), (.imul, 0, 0, 0), (.iload 4, 4, 0, 0), (.iadd, 0, 0, 0), (.iload 5, 5, 0, 0), (.invokestatic 27, 0, 0, 1), (.return_, 0, 0, 0)]
theorem s_X4_move_0 {d : Nat} {ls st : List AV} {S : MS} {R : Option AV → MS → Prop} (h : wpI (fun t l s S2 => wpX d mX4_move t l s S2 R) (wpM d) R 27 0 B_X4_move_0 ls st S) : wpX d mX4_move 0 ls st S R := x_step (by decide +kernel) h
-- NinthDay$Rows.howMany()I
def B_X4_howMany_0 : List AIn := [(.iconst 0, 0, 0, 0), (.istore_n 1, 1, 0, 0), (.iconst 0, 0, 0, 0), (.istore_n 2, 2, 0, 0)]
theorem s_X4_howMany_0 {d : Nat} {ls st : List AV} {S : MS} {R : Option AV → MS → Prop} (h : wpI (fun t l s S2 => wpX d mX4_howMany t l s S2 R) (wpM d) R 4 0 B_X4_howMany_0 ls st S) : wpX d mX4_howMany 0 ls st S R := x_step (by decide +kernel) h
def B_X4_howMany_4 : List AIn := [(.iload_n 2, 2, 0, 0), (.bipush 6, 6, 0, 0), (.if_icmp .ge 25, 32, 5, 0), (.iload_n 1, 1, 0, 0), (.aload_n 0, 0, 0, 0), (.iload_n 2, 2, 0, 0), (.invokevirtual 33, 25, 2, 3)]
theorem s_X4_howMany_4 {d : Nat} {ls st : List AV} {S : MS} {R : Option AV → MS → Prop} (h : wpI (fun t l s S2 => wpX d mX4_howMany t l s S2 R) (wpM d) R 16 2 B_X4_howMany_4 ls st S) : wpX d mX4_howMany 4 ls st S R := x_step (by decide +kernel) h
def B_X4_howMany_16 : List AIn := [(.ifCond .eq 7, 23, 2, 0), (.iconst 1, 1, 0, 0), (.goto 4, 24, 2, 0)]
theorem s_X4_howMany_16 {d : Nat} {ls st : List AV} {S : MS} {R : Option AV → MS → Prop} (h : wpI (fun t l s S2 => wpX d mX4_howMany t l s S2 R) (wpM d) R 23 0 B_X4_howMany_16 ls st S) : wpX d mX4_howMany 16 ls st S R := x_step (by decide +kernel) h
def B_X4_howMany_23 : List AIn := [(.iconst 0, 0, 0, 0)]
theorem s_X4_howMany_23 {d : Nat} {ls st : List AV} {S : MS} {R : Option AV → MS → Prop} (h : wpI (fun t l s S2 => wpX d mX4_howMany t l s S2 R) (wpM d) R 24 2 B_X4_howMany_23 ls st S) : wpX d mX4_howMany 23 ls st S R := x_step (by decide +kernel) h
def B_X4_howMany_24 : List AIn := [(.iadd, 0, 0, 0), (.istore_n 1, 1, 0, 0), (.iinc 2 1, 1, 0, 0), (.goto (-25), 4, 0, 0)]
theorem s_X4_howMany_24 {d : Nat} {ls st : List AV} {S : MS} {R : Option AV → MS → Prop} (h : wpI (fun t l s S2 => wpX d mX4_howMany t l s S2 R) (wpM d) R 32 0 B_X4_howMany_24 ls st S) : wpX d mX4_howMany 24 ls st S R := x_step (by decide +kernel) h
def B_X4_howMany_32 : List AIn := [(.iload_n 1, 1, 0, 0), (.ireturn, 0, 0, 0)]
theorem s_X4_howMany_32 {d : Nat} {ls st : List AV} {S : MS} {R : Option AV → MS → Prop} (h : wpI (fun t l s S2 => wpX d mX4_howMany t l s S2 R) (wpM d) R 34 0 B_X4_howMany_32 ls st S) : wpX d mX4_howMany 32 ls st S R := x_step (by decide +kernel) h
-- NinthDay$Rows.digestOn(J)J
def B_X4_digestOn_0 : List AIn := [(.lload_n 1, 1, 0, 0), (.lstore_n 3, 3, 0, 0), (.iconst 0, 0, 0, 0), (.istore 5, 5, 0, 0)]
theorem s_X4_digestOn_0 {d : Nat} {ls st : List AV} {S : MS} {R : Option AV → MS → Prop} (h : wpI (fun t l s S2 => wpX d mX4_digestOn t l s S2 R) (wpM d) R 5 86 B_X4_digestOn_0 ls st S) : wpX d mX4_digestOn 0 ls st S R := x_step (by decide +kernel) h
def B_X4_digestOn_5 : List AIn := [(.iload 5, 5, 0, 0), (.bipush 6, 6, 0, 0), (.if_icmp .ge 61, 70, 119, 0), (.ldc2_w 37, 31, 0, 0), (.lload_n 3, 3, 0, 0), (.lmul, 0, 0, 0), (.aload_n 0, 0, 0, 0), (.getfield 9, 0, 3, 0), (.iload 5, 5, 0, 0), (.iaload, 0, 0, 0), (.i2l, 0, 0, 0), (.ladd, 0, 0, 0), (.lstore_n 3, 3, 0, 0), (.iconst 0, 0, 0, 0), (.istore 6, 6, 0, 0)]
theorem s_X4_digestOn_5 {d : Nat} {ls st : List AV} {S : MS} {R : Option AV → MS → Prop} (h : wpI (fun t l s S2 => wpX d mX4_digestOn t l s S2 R) (wpM d) R 30 22 B_X4_digestOn_5 ls st S) : wpX d mX4_digestOn 5 ls st S R := x_step (by decide +kernel) h
def B_X4_digestOn_30 : List AIn := [(.iload 6, 6, 0, 0), (.aload_n 0, 0, 0, 0), (.getfield 9, 0, 3, 0), (.iload 5, 5, 0, 0), (.iaload, 0, 0, 0), (.if_icmp .ge 25, 64, 86, 0), (.ldc2_w 37, 31, 0, 0), (.lload_n 3, 3, 0, 0), (.lmul, 0, 0, 0), (.aload_n 0, 0, 0, 0), (.iload 5, 5, 0, 0), (.iload 6, 6, 0, 0), (.invokevirtual 39, 30, 3, 3)]
theorem s_X4_digestOn_30 {d : Nat} {ls st : List AV} {S : MS} {R : Option AV → MS → Prop} (h : wpI (fun t l s S2 => wpX d mX4_digestOn t l s S2 R) (wpM d) R 55 30 B_X4_digestOn_30 ls st S) : wpX d mX4_digestOn 30 ls st S R := x_step (by decide +kernel) h
def B_X4_digestOn_55 : List AIn := [(.i2l, 0, 0, 0), (.ladd, 0, 0, 0), (.lstore_n 3, 3, 0, 0), (.iinc 6 1, 1, 0, 0), (.goto (-31), 30, 22, 0)]
theorem s_X4_digestOn_55 {d : Nat} {ls st : List AV} {S : MS} {R : Option AV → MS → Prop} (h : wpI (fun t l s S2 => wpX d mX4_digestOn t l s S2 R) (wpM d) R 64 0 B_X4_digestOn_55 ls st S) : wpX d mX4_digestOn 55 ls st S R := x_step (by decide +kernel) h
def B_X4_digestOn_64 : List AIn := [(.iinc 5 1, 1, 0, 0), (.goto (-62), 5, 86, 0)]
theorem s_X4_digestOn_64 {d : Nat} {ls st : List AV} {S : MS} {R : Option AV → MS → Prop} (h : wpI (fun t l s S2 => wpX d mX4_digestOn t l s S2 R) (wpM d) R 70 0 B_X4_digestOn_64 ls st S) : wpX d mX4_digestOn 64 ls st S R := x_step (by decide +kernel) h
def B_X4_digestOn_70 : List AIn := [(.lload_n 3, 3, 0, 0), (.lreturn, 0, 0, 0)]
theorem s_X4_digestOn_70 {d : Nat} {ls st : List AV} {S : MS} {R : Option AV → MS → Prop} (h : wpI (fun t l s S2 => wpX d mX4_digestOn t l s S2 R) (wpM d) R 72 0 B_X4_digestOn_70 ls st S) : wpX d mX4_digestOn 70 ls st S R := x_step (by decide +kernel) h
-- NinthDay$Share.reduce(JJ)V
def B_X5_reduce_0 : List AIn := [(.lload_n 3, 3, 0, 0), (.lstore 5, 5, 0, 0), (.lload_n 1, 1, 0, 0), (.lstore 7, 7, 0, 0), (.iconst 0, 0, 0, 0), (.istore 9, 9, 0, 0)]
theorem s_X5_reduce_0 {d : Nat} {ls st : List AV} {S : MS} {R : Option AV → MS → Prop} (h : wpI (fun t l s S2 => wpX d mX5_reduce t l s S2 R) (wpM d) R 9 3412 B_X5_reduce_0 ls st S) : wpX d mX5_reduce 0 ls st S R := x_step (by decide +kernel) h
def B_X5_reduce_9 : List AIn := [(.iload 9, 9, 0, 0), (.bipush 100, 100, 0, 0), (.if_icmp .ge 31, 44, 4052, 0), (.lload 7, 7, 0, 0), (.lconst 0, 0, 0, 0), (.lcmp, 0, 0, 0), (.ifCond .le 24, 44, 4052, 0), (.lload 5, 5, 0, 0), (.lload 7, 7, 0, 0), (.lrem, 0, 0, 0), (.lstore 10, 10, 0, 0), (.lload 7, 7, 0, 0), (.lstore 5, 5, 0, 0), (.lload 10, 10, 0, 0), (.lstore 7, 7, 0, 0), (.iinc 9 1, 1, 0, 0), (.goto (-32), 9, 3412, 0)]
theorem s_X5_reduce_9 {d : Nat} {ls st : List AV} {S : MS} {R : Option AV → MS → Prop} (h : wpI (fun t l s S2 => wpX d mX5_reduce t l s S2 R) (wpM d) R 44 0 B_X5_reduce_9 ls st S) : wpX d mX5_reduce 9 ls st S R := x_step (by decide +kernel) h
def B_X5_reduce_44 : List AIn := [(.lload 5, 5, 0, 0), (.lconst 0, 0, 0, 0), (.lcmp, 0, 0, 0), (.ifCond .le 19, 67, 4095, 0), (.aload_n 0, 0, 0, 0), (.lload_n 1, 1, 0, 0), (.lload 5, 5, 0, 0), (.ldiv, 0, 0, 0), (.putfield 7, 0, 4, 0), (.aload_n 0, 0, 0, 0), (.lload_n 3, 3, 0, 0), (.lload 5, 5, 0, 0), (.ldiv, 0, 0, 0), (.putfield 13, 1, 4, 0)]
theorem s_X5_reduce_44 {d : Nat} {ls st : List AV} {S : MS} {R : Option AV → MS → Prop} (h : wpI (fun t l s S2 => wpX d mX5_reduce t l s S2 R) (wpM d) R 67 4095 B_X5_reduce_44 ls st S) : wpX d mX5_reduce 44 ls st S R := x_step (by decide +kernel) h
def B_X5_reduce_67 : List AIn := [(.return_, 0, 0, 0)]
theorem s_X5_reduce_67 {d : Nat} {ls st : List AV} {S : MS} {R : Option AV → MS → Prop} (h : wpI (fun t l s S2 => wpX d mX5_reduce t l s S2 R) (wpM d) R 68 0 B_X5_reduce_67 ls st S) : wpX d mX5_reduce 67 ls st S R := x_step (by decide +kernel) h
-- NinthDay$Texts.isThere(I)Z
def B_X6_isThere_0 : List AIn := [(.aload_n 0, 0, 0, 0), (.getfield 9, 0, 5, 0), (.iload_n 1, 1, 0, 0), (.iaload, 0, 0, 0), (.iconst (-1), 1, 1, 0), (.if_icmp .eq 7, 14, 3, 0), (.iconst 1, 1, 0, 0), (.goto 4, 15, 3, 0)]
theorem s_X6_isThere_0 {d : Nat} {ls st : List AV} {S : MS} {R : Option AV → MS → Prop} (h : wpI (fun t l s S2 => wpX d mX6_isThere t l s S2 R) (wpM d) R 14 0 B_X6_isThere_0 ls st S) : wpX d mX6_isThere 0 ls st S R := x_step (by decide +kernel) h
def B_X6_isThere_14 : List AIn := [(.iconst 0, 0, 0, 0)]
theorem s_X6_isThere_14 {d : Nat} {ls st : List AV} {S : MS} {R : Option AV → MS → Prop} (h : wpI (fun t l s S2 => wpX d mX6_isThere t l s S2 R) (wpM d) R 15 3 B_X6_isThere_14 ls st S) : wpX d mX6_isThere 14 ls st S R := x_step (by decide +kernel) h
def B_X6_isThere_15 : List AIn := [(.ireturn, 1, 0, 0)]
theorem s_X6_isThere_15 {d : Nat} {ls st : List AV} {S : MS} {R : Option AV → MS → Prop} (h : wpI (fun t l s S2 => wpX d mX6_isThere t l s S2 R) (wpM d) R 16 0 B_X6_isThere_15 ls st S) : wpX d mX6_isThere 15 ls st S R := x_step (by decide +kernel) h
-- NinthDay$Texts.length(I)I
def B_X6_length_0 : List AIn := [(.aload_n 0, 0, 0, 0), (.getfield 9, 0, 5, 0), (.iload_n 1, 1, 0, 0), (.iaload, 0, 0, 0), (.ireturn, 0, 0, 0)]
theorem s_X6_length_0 {d : Nat} {ls st : List AV} {S : MS} {R : Option AV → MS → Prop} (h : wpI (fun t l s S2 => wpX d mX6_length t l s S2 R) (wpM d) R 7 0 B_X6_length_0 ls st S) : wpX d mX6_length 0 ls st S R := x_step (by decide +kernel) h
-- NinthDay$Texts.make(II)V
def B_X6_make_0 : List AIn := [(.aload_n 0, 0, 0, 0), (.getfield 9, 0, 5, 0), (.iload_n 1, 1, 0, 0), (.iload_n 2, 2, 0, 0), (.iastore, 0, 0, 0), (.aload_n 0, 0, 0, 0), (.getfield 21, 1, 5, 0), (.iload_n 1, 1, 0, 0), (.bipush 60, 60, 0, 0), (.imul, 0, 0, 0), (.iload_n 1, 1, 0, 0), (.bipush 60, 60, 0, 0), (.imul, 0, 0, 0), (.iload_n 2, 2, 0, 0), (.iadd, 0, 0, 0), (.bipush 32, 32, 0, 0), (.invokestatic 25, 229, 4, 0)]
theorem s_X6_make_0 {d : Nat} {ls st : List AV} {S : MS} {R : Option AV → MS → Prop} (h : wpI (fun t l s S2 => wpX d mX6_make t l s S2 R) (wpM d) R 26 7 B_X6_make_0 ls st S) : wpX d mX6_make 0 ls st S R := x_step (by decide +kernel) h
def B_X6_make_26 : List AIn := [(.return_, 0, 0, 0)]
theorem s_X6_make_26 {d : Nat} {ls st : List AV} {S : MS} {R : Option AV → MS → Prop} (h : wpI (fun t l s S2 => wpX d mX6_make t l s S2 R) (wpM d) R 27 0 B_X6_make_26 ls st S) : wpX d mX6_make 26 ls st S R := x_step (by decide +kernel) h
-- NinthDay$Texts.read(II)I
def B_X6_read_0 : List AIn := [(.aload_n 0, 0, 0, 0), (.getfield 21, 1, 5, 0), (.iload_n 1, 1, 0, 0), (.bipush 60, 60, 0, 0), (.imul, 0, 0, 0), (.iload_n 2, 2, 0, 0), (.iadd, 0, 0, 0), (.baload, 0, 0, 0), (.ireturn, 0, 0, 0)]
theorem s_X6_read_0 {d : Nat} {ls st : List AV} {S : MS} {R : Option AV → MS → Prop} (h : wpI (fun t l s S2 => wpX d mX6_read t l s S2 R) (wpM d) R 12 0 B_X6_read_0 ls st S) : wpX d mX6_read 0 ls st S R := x_step (by decide +kernel) h
-- NinthDay$Texts.write(III)V
def B_X6_write_0 : List AIn := [(.aload_n 0, 0, 0, 0), (.getfield 21, 1, 5, 0), (.iload_n 1, 1, 0, 0), (.bipush 60, 60, 0, 0), (.imul, 0, 0, 0), (.iload_n 2, 2, 0, 0), (.iadd, 0, 0, 0), (.iload_n 3, 3, 0, 0), (.i2b, 0, 0, 0), (.bastore, 0, 0, 0), (.return_, 0, 0, 0)]
theorem s_X6_write_0 {d : Nat} {ls st : List AV} {S : MS} {R : Option AV → MS → Prop} (h : wpI (fun t l s S2 => wpX d mX6_write t l s S2 R) (wpM d) R 14 0 B_X6_write_0 ls st S) : wpX d mX6_write 0 ls st S R := x_step (by decide +kernel) h
-- NinthDay$Texts.howMany()I
def B_X6_howMany_0 : List AIn := [(.iconst 0, 0, 0, 0), (.istore_n 1, 1, 0, 0), (.iconst 0, 0, 0, 0), (.istore_n 2, 2, 0, 0)]
theorem s_X6_howMany_0 {d : Nat} {ls st : List AV} {S : MS} {R : Option AV → MS → Prop} (h : wpI (fun t l s S2 => wpX d mX6_howMany t l s S2 R) (wpM d) R 4 0 B_X6_howMany_0 ls st S) : wpX d mX6_howMany 0 ls st S R := x_step (by decide +kernel) h
def B_X6_howMany_4 : List AIn := [(.iload_n 2, 2, 0, 0), (.iconst 4, 4, 0, 0), (.if_icmp .ge 25, 31, 5, 0), (.iload_n 1, 1, 0, 0), (.aload_n 0, 0, 0, 0), (.iload_n 2, 2, 0, 0), (.invokevirtual 28, 36, 2, 5)]
theorem s_X6_howMany_4 {d : Nat} {ls st : List AV} {S : MS} {R : Option AV → MS → Prop} (h : wpI (fun t l s S2 => wpX d mX6_howMany t l s S2 R) (wpM d) R 15 2 B_X6_howMany_4 ls st S) : wpX d mX6_howMany 4 ls st S R := x_step (by decide +kernel) h
def B_X6_howMany_15 : List AIn := [(.ifCond .eq 7, 22, 2, 0), (.iconst 1, 1, 0, 0), (.goto 4, 23, 2, 0)]
theorem s_X6_howMany_15 {d : Nat} {ls st : List AV} {S : MS} {R : Option AV → MS → Prop} (h : wpI (fun t l s S2 => wpX d mX6_howMany t l s S2 R) (wpM d) R 22 0 B_X6_howMany_15 ls st S) : wpX d mX6_howMany 15 ls st S R := x_step (by decide +kernel) h
def B_X6_howMany_22 : List AIn := [(.iconst 0, 0, 0, 0)]
theorem s_X6_howMany_22 {d : Nat} {ls st : List AV} {S : MS} {R : Option AV → MS → Prop} (h : wpI (fun t l s S2 => wpX d mX6_howMany t l s S2 R) (wpM d) R 23 2 B_X6_howMany_22 ls st S) : wpX d mX6_howMany 22 ls st S R := x_step (by decide +kernel) h
def B_X6_howMany_23 : List AIn := [(.iadd, 0, 0, 0), (.istore_n 1, 1, 0, 0), (.iinc 2 1, 1, 0, 0), (.goto (-24), 4, 0, 0)]
theorem s_X6_howMany_23 {d : Nat} {ls st : List AV} {S : MS} {R : Option AV → MS → Prop} (h : wpI (fun t l s S2 => wpX d mX6_howMany t l s S2 R) (wpM d) R 31 0 B_X6_howMany_23 ls st S) : wpX d mX6_howMany 23 ls st S R := x_step (by decide +kernel) h
def B_X6_howMany_31 : List AIn := [(.iload_n 1, 1, 0, 0), (.ireturn, 0, 0, 0)]
theorem s_X6_howMany_31 {d : Nat} {ls st : List AV} {S : MS} {R : Option AV → MS → Prop} (h : wpI (fun t l s S2 => wpX d mX6_howMany t l s S2 R) (wpM d) R 33 0 B_X6_howMany_31 ls st S) : wpX d mX6_howMany 31 ls st S R := x_step (by decide +kernel) h
-- NinthDay$Texts.digestOn(J)J
def B_X6_digestOn_0 : List AIn := [(.lload_n 1, 1, 0, 0), (.lstore_n 3, 3, 0, 0), (.iconst 0, 0, 0, 0), (.istore 5, 5, 0, 0)]
theorem s_X6_digestOn_0 {d : Nat} {ls st : List AV} {S : MS} {R : Option AV → MS → Prop} (h : wpI (fun t l s S2 => wpX d mX6_digestOn t l s S2 R) (wpM d) R 5 86 B_X6_digestOn_0 ls st S) : wpX d mX6_digestOn 0 ls st S R := x_step (by decide +kernel) h
def B_X6_digestOn_5 : List AIn := [(.iload 5, 5, 0, 0), (.iconst 4, 4, 0, 0), (.if_icmp .ge 61, 69, 119, 0), (.ldc2_w 32, 31, 0, 0), (.lload_n 3, 3, 0, 0), (.lmul, 0, 0, 0), (.aload_n 0, 0, 0, 0), (.getfield 9, 0, 5, 0), (.iload 5, 5, 0, 0), (.iaload, 0, 0, 0), (.i2l, 0, 0, 0), (.ladd, 0, 0, 0), (.lstore_n 3, 3, 0, 0), (.iconst 0, 0, 0, 0), (.istore 6, 6, 0, 0)]
theorem s_X6_digestOn_5 {d : Nat} {ls st : List AV} {S : MS} {R : Option AV → MS → Prop} (h : wpI (fun t l s S2 => wpX d mX6_digestOn t l s S2 R) (wpM d) R 29 22 B_X6_digestOn_5 ls st S) : wpX d mX6_digestOn 5 ls st S R := x_step (by decide +kernel) h
def B_X6_digestOn_29 : List AIn := [(.iload 6, 6, 0, 0), (.aload_n 0, 0, 0, 0), (.getfield 9, 0, 5, 0), (.iload 5, 5, 0, 0), (.iaload, 0, 0, 0), (.if_icmp .ge 25, 63, 86, 0), (.ldc2_w 32, 31, 0, 0), (.lload_n 3, 3, 0, 0), (.lmul, 0, 0, 0), (.aload_n 0, 0, 0, 0), (.iload 5, 5, 0, 0), (.iload 6, 6, 0, 0), (.invokevirtual 34, 39, 3, 5)]
theorem s_X6_digestOn_29 {d : Nat} {ls st : List AV} {S : MS} {R : Option AV → MS → Prop} (h : wpI (fun t l s S2 => wpX d mX6_digestOn t l s S2 R) (wpM d) R 54 30 B_X6_digestOn_29 ls st S) : wpX d mX6_digestOn 29 ls st S R := x_step (by decide +kernel) h
def B_X6_digestOn_54 : List AIn := [(.i2l, 0, 0, 0), (.ladd, 0, 0, 0), (.lstore_n 3, 3, 0, 0), (.iinc 6 1, 1, 0, 0), (.goto (-31), 29, 22, 0)]
theorem s_X6_digestOn_54 {d : Nat} {ls st : List AV} {S : MS} {R : Option AV → MS → Prop} (h : wpI (fun t l s S2 => wpX d mX6_digestOn t l s S2 R) (wpM d) R 63 0 B_X6_digestOn_54 ls st S) : wpX d mX6_digestOn 54 ls st S R := x_step (by decide +kernel) h
def B_X6_digestOn_63 : List AIn := [(.iinc 5 1, 1, 0, 0), (.goto (-61), 5, 86, 0)]
theorem s_X6_digestOn_63 {d : Nat} {ls st : List AV} {S : MS} {R : Option AV → MS → Prop} (h : wpI (fun t l s S2 => wpX d mX6_digestOn t l s S2 R) (wpM d) R 69 0 B_X6_digestOn_63 ls st S) : wpX d mX6_digestOn 63 ls st S R := x_step (by decide +kernel) h
def B_X6_digestOn_69 : List AIn := [(.lload_n 3, 3, 0, 0), (.lreturn, 0, 0, 0)]
theorem s_X6_digestOn_69 {d : Nat} {ls st : List AV} {S : MS} {R : Option AV → MS → Prop} (h : wpI (fun t l s S2 => wpX d mX6_digestOn t l s S2 R) (wpM d) R 71 0 B_X6_digestOn_69 ls st S) : wpX d mX6_digestOn 69 ls st S R := x_step (by decide +kernel) h
-- NinthDay$Year.clear()V
def B_X7_clear_0 : List AIn := [(.aload_n 0, 0, 0, 0), (.iconst 0, 0, 0, 0), (.putfield 37, 7, 6, 0), (.aload_n 0, 0, 0, 0), (.iconst 1, 1, 0, 0), (.putfield 33, 8, 6, 0), (.aload_n 0, 0, 0, 0), (.iconst 0, 0, 0, 0), (.putfield 40, 9, 6, 0), (.aload_n 0, 0, 0, 0), (.iconst 0, 0, 0, 0), (.putfield 43, 10, 6, 0), (.aload_n 0, 0, 0, 0), (.iconst 0, 0, 0, 0), (.putfield 46, 11, 6, 0), (.return_, 0, 0, 0)]
theorem s_X7_clear_0 {d : Nat} {ls st : List AV} {S : MS} {R : Option AV → MS → Prop} (h : wpI (fun t l s S2 => wpX d mX7_clear t l s S2 R) (wpM d) R 26 0 B_X7_clear_0 ls st S) : wpX d mX7_clear 0 ls st S R := x_step (by decide +kernel) h
-- NinthDay$Year.addDeed(IIII)V
def B_X7_addDeed_0 : List AIn := [(.aload_n 0, 0, 0, 0), (.getfield 37, 7, 6, 0), (.iconst 5, 5, 0, 0), (.if_icmp .lt 4, 9, 0, 0), (.return_, 0, 0, 0)]
theorem s_X7_addDeed_0 {d : Nat} {ls st : List AV} {S : MS} {R : Option AV → MS → Prop} (h : wpI (fun t l s S2 => wpX d mX7_addDeed t l s S2 R) (wpM d) R 9 0 B_X7_addDeed_0 ls st S) : wpX d mX7_addDeed 0 ls st S R := x_step (by decide +kernel) h
def B_X7_addDeed_9 : List AIn := [(.aload_n 0, 0, 0, 0), (.getfield 9, 0, 6, 0), (.aload_n 0, 0, 0, 0), (.getfield 37, 7, 6, 0), (.iload_n 1, 1, 0, 0), (.iastore, 0, 0, 0), (.aload_n 0, 0, 0, 0), (.getfield 15, 1, 6, 0), (.aload_n 0, 0, 0, 0), (.getfield 37, 7, 6, 0), (.iload_n 2, 2, 0, 0), (.iastore, 0, 0, 0), (.aload_n 0, 0, 0, 0), (.getfield 18, 2, 6, 0), (.aload_n 0, 0, 0, 0), (.getfield 37, 7, 6, 0), (.iload_n 3, 3, 0, 0), (.iastore, 0, 0, 0), (.aload_n 0, 0, 0, 0), (.getfield 21, 3, 6, 0), (.aload_n 0, 0, 0, 0), (.getfield 37, 7, 6, 0), (.iload 4, 4, 0, 0), (.iastore, 0, 0, 0), (.aload_n 0, 0, 0, 0), (.getfield 24, 4, 6, 0), (.aload_n 0, 0, 0, 0), (.getfield 37, 7, 6, 0), (.iconst 0, 0, 0, 0), (.iastore, 0, 0, 0), (.aload_n 0, 0, 0, 0), (.getfield 27, 5, 6, 0), (.aload_n 0, 0, 0, 0), (.getfield 37, 7, 6, 0), (.iconst 0, 0, 0, 0), (.iastore, 0, 0, 0), (.aload_n 0, 0, 0, 0), (.dup, 0, 0, 0), (.getfield 37, 7, 6, 0), (.iconst 1, 1, 0, 0), (.iadd, 0, 0, 0), (.putfield 37, 7, 6, 0), (.return_, 0, 0, 0)]
theorem s_X7_addDeed_9 {d : Nat} {ls st : List AV} {S : MS} {R : Option AV → MS → Prop} (h : wpI (fun t l s S2 => wpX d mX7_addDeed t l s S2 R) (wpM d) R 81 0 B_X7_addDeed_9 ls st S) : wpX d mX7_addDeed 9 ls st S R := x_step (by decide +kernel) h
-- NinthDay$Year.become(LNinthDay$Year;)V
def B_X7_become_0 : List AIn := [(.aload_n 1, 1, 0, 0), (.getfield 9, 0, 6, 0), (.iconst 0, 0, 0, 0), (.aload_n 0, 0, 0, 0), (.getfield 9, 0, 6, 0), (.iconst 0, 0, 0, 0), (.iconst 5, 5, 0, 0), (.invokestatic 49, 0, 0, 1), (.aload_n 1, 1, 0, 0), (.getfield 15, 1, 6, 0), (.iconst 0, 0, 0, 0), (.aload_n 0, 0, 0, 0), (.getfield 15, 1, 6, 0), (.iconst 0, 0, 0, 0), (.iconst 5, 5, 0, 0), (.invokestatic 49, 0, 0, 1), (.aload_n 1, 1, 0, 0), (.getfield 18, 2, 6, 0), (.iconst 0, 0, 0, 0), (.aload_n 0, 0, 0, 0), (.getfield 18, 2, 6, 0), (.iconst 0, 0, 0, 0), (.iconst 5, 5, 0, 0), (.invokestatic 49, 0, 0, 1), (.aload_n 1, 1, 0, 0), (.getfield 21, 3, 6, 0), (.iconst 0, 0, 0, 0), (.aload_n 0, 0, 0, 0), (.getfield 21, 3, 6, 0), (.iconst 0, 0, 0, 0), (.iconst 5, 5, 0, 0), (.invokestatic 49, 0, 0, 1), (.aload_n 1, 1, 0, 0), (.getfield 24, 4, 6, 0), (.iconst 0, 0, 0, 0), (.aload_n 0, 0, 0, 0), (.getfield 24, 4, 6, 0), (.iconst 0, 0, 0, 0), (.iconst 5, 5, 0, 0), (.invokestatic 49, 0, 0, 1), (.aload_n 1, 1, 0, 0), (.getfield 27, 5, 6, 0), (.iconst 0, 0, 0, 0), (.aload_n 0, 0, 0, 0), (.getfield 27, 5, 6, 0), (.iconst 0, 0, 0, 0), (.iconst 5, 5, 0, 0), (.invokestatic 49, 0, 0, 1), (.aload_n 0, 0, 0, 0), (.aload_n 1, 1, 0, 0), (.getfield 37, 7, 6, 0), (.putfield 37, 7, 6, 0), (.aload_n 0, 0, 0, 0), (.aload_n 1, 1, 0, 0), (.getfield 33, 8, 6, 0), (.putfield 33, 8, 6, 0), (.aload_n 0, 0, 0, 0), (.aload_n 1, 1, 0, 0), (.getfield 40, 9, 6, 0), (.putfield 40, 9, 6, 0), (.aload_n 0, 0, 0, 0), (.aload_n 1, 1, 0, 0), (.getfield 43, 10, 6, 0), (.putfield 43, 10, 6, 0), (.aload_n 0, 0, 0, 0), (.aload_n 1, 1, 0, 0), (.getfield 46, 11, 6, 0), (.putfield 46, 11, 6, 0), (.return_, 0, 0, 0)]
theorem s_X7_become_0 {d : Nat} {ls st : List AV} {S : MS} {R : Option AV → MS → Prop} (h : wpI (fun t l s S2 => wpX d mX7_become t l s S2 R) (wpM d) R 125 0 B_X7_become_0 ls st S) : wpX d mX7_become 0 ls st S R := x_step (by decide +kernel) h
-- NinthDay$Year.trait(II)I
def B_X7_trait_0 : List AIn := [(.iload_n 2, 2, 0, 0), (.tableswitch 98 0 6 #[43, 50, 57, 64, 71, 77, 84], 1, 4, 0)]
theorem s_X7_trait_0 {d : Nat} {ls st : List AV} {S : MS} {R : Option AV → MS → Prop} (h : wpI (fun t l s S2 => wpX d mX7_trait t l s S2 R) (wpM d) R 44 0 B_X7_trait_0 ls st S) : wpX d mX7_trait 0 ls st S R := x_step (by decide +kernel) h
def B_X7_trait_44 : List AIn := [(.aload_n 0, 0, 0, 0), (.getfield 9, 0, 6, 0), (.iload_n 1, 1, 0, 0), (.iaload, 0, 0, 0), (.ireturn, 0, 0, 0)]
theorem s_X7_trait_44 {d : Nat} {ls st : List AV} {S : MS} {R : Option AV → MS → Prop} (h : wpI (fun t l s S2 => wpX d mX7_trait t l s S2 R) (wpM d) R 51 0 B_X7_trait_44 ls st S) : wpX d mX7_trait 44 ls st S R := x_step (by decide +kernel) h
def B_X7_trait_51 : List AIn := [(.aload_n 0, 0, 0, 0), (.getfield 15, 1, 6, 0), (.iload_n 1, 1, 0, 0), (.iaload, 0, 0, 0), (.ireturn, 0, 0, 0)]
theorem s_X7_trait_51 {d : Nat} {ls st : List AV} {S : MS} {R : Option AV → MS → Prop} (h : wpI (fun t l s S2 => wpX d mX7_trait t l s S2 R) (wpM d) R 58 0 B_X7_trait_51 ls st S) : wpX d mX7_trait 51 ls st S R := x_step (by decide +kernel) h
def B_X7_trait_58 : List AIn := [(.aload_n 0, 0, 0, 0), (.getfield 18, 2, 6, 0), (.iload_n 1, 1, 0, 0), (.iaload, 0, 0, 0), (.ireturn, 0, 0, 0)]
theorem s_X7_trait_58 {d : Nat} {ls st : List AV} {S : MS} {R : Option AV → MS → Prop} (h : wpI (fun t l s S2 => wpX d mX7_trait t l s S2 R) (wpM d) R 65 0 B_X7_trait_58 ls st S) : wpX d mX7_trait 58 ls st S R := x_step (by decide +kernel) h
def B_X7_trait_65 : List AIn := [(.aload_n 0, 0, 0, 0), (.getfield 21, 3, 6, 0), (.iload_n 1, 1, 0, 0), (.iaload, 0, 0, 0), (.ireturn, 0, 0, 0)]
theorem s_X7_trait_65 {d : Nat} {ls st : List AV} {S : MS} {R : Option AV → MS → Prop} (h : wpI (fun t l s S2 => wpX d mX7_trait t l s S2 R) (wpM d) R 72 0 B_X7_trait_65 ls st S) : wpX d mX7_trait 65 ls st S R := x_step (by decide +kernel) h
def B_X7_trait_72 : List AIn := [(.aload_n 0, 0, 0, 0), (.iload_n 1, 1, 0, 0), (.invokevirtual 55, 51, 2, 6)]
theorem s_X7_trait_72 {d : Nat} {ls st : List AV} {S : MS} {R : Option AV → MS → Prop} (h : wpI (fun t l s S2 => wpX d mX7_trait t l s S2 R) (wpM d) R 77 7 B_X7_trait_72 ls st S) : wpX d mX7_trait 72 ls st S R := x_step (by decide +kernel) h
def B_X7_trait_77 : List AIn := [(.ireturn, 0, 0, 0)]
theorem s_X7_trait_77 {d : Nat} {ls st : List AV} {S : MS} {R : Option AV → MS → Prop} (h : wpI (fun t l s S2 => wpX d mX7_trait t l s S2 R) (wpM d) R 78 0 B_X7_trait_77 ls st S) : wpX d mX7_trait 77 ls st S R := x_step (by decide +kernel) h
def B_X7_trait_78 : List AIn := [(.aload_n 0, 0, 0, 0), (.getfield 24, 4, 6, 0), (.iload_n 1, 1, 0, 0), (.iaload, 0, 0, 0), (.ireturn, 0, 0, 0)]
theorem s_X7_trait_78 {d : Nat} {ls st : List AV} {S : MS} {R : Option AV → MS → Prop} (h : wpI (fun t l s S2 => wpX d mX7_trait t l s S2 R) (wpM d) R 85 0 B_X7_trait_78 ls st S) : wpX d mX7_trait 78 ls st S R := x_step (by decide +kernel) h
def B_X7_trait_85 : List AIn := [(.aload_n 0, 0, 0, 0), (.iload_n 1, 1, 0, 0), (.invokevirtual 59, 47, 2, 6)]
theorem s_X7_trait_85 {d : Nat} {ls st : List AV} {S : MS} {R : Option AV → MS → Prop} (h : wpI (fun t l s S2 => wpX d mX7_trait t l s S2 R) (wpM d) R 90 7 B_X7_trait_85 ls st S) : wpX d mX7_trait 85 ls st S R := x_step (by decide +kernel) h
def B_X7_trait_90 : List AIn := [(.ifCond .eq 7, 97, 7, 0), (.iconst 1, 1, 0, 0), (.goto 4, 98, 7, 0)]
theorem s_X7_trait_90 {d : Nat} {ls st : List AV} {S : MS} {R : Option AV → MS → Prop} (h : wpI (fun t l s S2 => wpX d mX7_trait t l s S2 R) (wpM d) R 97 0 B_X7_trait_90 ls st S) : wpX d mX7_trait 90 ls st S R := x_step (by decide +kernel) h
def B_X7_trait_97 : List AIn := [(.iconst 0, 0, 0, 0)]
theorem s_X7_trait_97 {d : Nat} {ls st : List AV} {S : MS} {R : Option AV → MS → Prop} (h : wpI (fun t l s S2 => wpX d mX7_trait t l s S2 R) (wpM d) R 98 7 B_X7_trait_97 ls st S) : wpX d mX7_trait 97 ls st S R := x_step (by decide +kernel) h
def B_X7_trait_98 : List AIn := [(.ireturn, 0, 0, 0)]
theorem s_X7_trait_98 {d : Nat} {ls st : List AV} {S : MS} {R : Option AV → MS → Prop} (h : wpI (fun t l s S2 => wpX d mX7_trait t l s S2 R) (wpM d) R 99 0 B_X7_trait_98 ls st S) : wpX d mX7_trait 98 ls st S R := x_step (by decide +kernel) h
def B_X7_trait_99 : List AIn := [(.aload_n 0, 0, 0, 0), (.getfield 27, 5, 6, 0), (.iload_n 1, 1, 0, 0), (.iaload, 0, 0, 0), (.ireturn, 0, 0, 0)]
theorem s_X7_trait_99 {d : Nat} {ls st : List AV} {S : MS} {R : Option AV → MS → Prop} (h : wpI (fun t l s S2 => wpX d mX7_trait t l s S2 R) (wpM d) R 106 0 B_X7_trait_99 ls st S) : wpX d mX7_trait 99 ls st S R := x_step (by decide +kernel) h
-- NinthDay$Year.isGivenUp(I)Z
def B_X7_isGivenUp_0 : List AIn := [(.aload_n 0, 0, 0, 0), (.getfield 46, 11, 6, 0), (.iload_n 1, 1, 0, 0), (.ishr, 0, 0, 0), (.iconst 1, 1, 0, 0), (.iand, 0, 0, 0), (.iconst 1, 1, 0, 0), (.if_icmp .ne 7, 16, 3, 0), (.iconst 1, 1, 0, 0), (.goto 4, 17, 3, 0)]
theorem s_X7_isGivenUp_0 {d : Nat} {ls st : List AV} {S : MS} {R : Option AV → MS → Prop} (h : wpI (fun t l s S2 => wpX d mX7_isGivenUp t l s S2 R) (wpM d) R 16 0 B_X7_isGivenUp_0 ls st S) : wpX d mX7_isGivenUp 0 ls st S R := x_step (by decide +kernel) h
def B_X7_isGivenUp_16 : List AIn := [(.iconst 0, 0, 0, 0)]
theorem s_X7_isGivenUp_16 {d : Nat} {ls st : List AV} {S : MS} {R : Option AV → MS → Prop} (h : wpI (fun t l s S2 => wpX d mX7_isGivenUp t l s S2 R) (wpM d) R 17 3 B_X7_isGivenUp_16 ls st S) : wpX d mX7_isGivenUp 16 ls st S R := x_step (by decide +kernel) h
def B_X7_isGivenUp_17 : List AIn := [(.ireturn, 1, 0, 0)]
theorem s_X7_isGivenUp_17 {d : Nat} {ls st : List AV} {S : MS} {R : Option AV → MS → Prop} (h : wpI (fun t l s S2 => wpX d mX7_isGivenUp t l s S2 R) (wpM d) R 18 0 B_X7_isGivenUp_17 ls st S) : wpX d mX7_isGivenUp 17 ls st S R := x_step (by decide +kernel) h
-- NinthDay$Year.notGivenUp()I
def B_X7_notGivenUp_0 : List AIn := [(.iconst 1, 1, 0, 0), (.aload_n 0, 0, 0, 0), (.getfield 37, 7, 6, 0), (.ishl, 0, 0, 0), (.iconst 1, 1, 0, 0), (.isub, 0, 0, 0), (.aload_n 0, 0, 0, 0), (.getfield 46, 11, 6, 0), (.iconst (-1), 1, 1, 0), (.ixor, 0, 0, 0), (.iand, 0, 0, 0), (.ireturn, 0, 0, 0)]
theorem s_X7_notGivenUp_0 {d : Nat} {ls st : List AV} {S : MS} {R : Option AV → MS → Prop} (h : wpI (fun t l s S2 => wpX d mX7_notGivenUp t l s S2 R) (wpM d) R 16 0 B_X7_notGivenUp_0 ls st S) : wpX d mX7_notGivenUp 0 ls st S R := x_step (by decide +kernel) h
-- NinthDay$Year.openHabits()I
def B_X7_openHabits_0 : List AIn := [(.iconst 0, 0, 0, 0), (.istore_n 1, 1, 0, 0), (.iconst 0, 0, 0, 0), (.istore_n 2, 2, 0, 0)]
theorem s_X7_openHabits_0 {d : Nat} {ls st : List AV} {S : MS} {R : Option AV → MS → Prop} (h : wpI (fun t l s S2 => wpX d mX7_openHabits t l s S2 R) (wpM d) R 4 0 B_X7_openHabits_0 ls st S) : wpX d mX7_openHabits 0 ls st S R := x_step (by decide +kernel) h
def B_X7_openHabits_4 : List AIn := [(.iload_n 2, 2, 0, 0), (.aload_n 0, 0, 0, 0), (.getfield 37, 7, 6, 0), (.if_icmp .ge 30, 39, 5, 0), (.iload_n 1, 1, 0, 0), (.aload_n 0, 0, 0, 0), (.iload_n 2, 2, 0, 0), (.invokevirtual 59, 47, 2, 6)]
theorem s_X7_openHabits_4 {d : Nat} {ls st : List AV} {S : MS} {R : Option AV → MS → Prop} (h : wpI (fun t l s S2 => wpX d mX7_openHabits t l s S2 R) (wpM d) R 18 2 B_X7_openHabits_4 ls st S) : wpX d mX7_openHabits 4 ls st S R := x_step (by decide +kernel) h
def B_X7_openHabits_18 : List AIn := [(.ifCond .eq 7, 25, 2, 0), (.iconst 0, 0, 0, 0), (.goto 9, 31, 2, 0)]
theorem s_X7_openHabits_18 {d : Nat} {ls st : List AV} {S : MS} {R : Option AV → MS → Prop} (h : wpI (fun t l s S2 => wpX d mX7_openHabits t l s S2 R) (wpM d) R 25 0 B_X7_openHabits_18 ls st S) : wpX d mX7_openHabits 18 ls st S R := x_step (by decide +kernel) h
def B_X7_openHabits_25 : List AIn := [(.aload_n 0, 0, 0, 0), (.getfield 18, 2, 6, 0), (.iload_n 2, 2, 0, 0), (.iaload, 0, 0, 0)]
theorem s_X7_openHabits_25 {d : Nat} {ls st : List AV} {S : MS} {R : Option AV → MS → Prop} (h : wpI (fun t l s S2 => wpX d mX7_openHabits t l s S2 R) (wpM d) R 31 2 B_X7_openHabits_25 ls st S) : wpX d mX7_openHabits 25 ls st S R := x_step (by decide +kernel) h
def B_X7_openHabits_31 : List AIn := [(.iadd, 0, 0, 0), (.istore_n 1, 1, 0, 0), (.iinc 2 1, 1, 0, 0), (.goto (-32), 4, 0, 0)]
theorem s_X7_openHabits_31 {d : Nat} {ls st : List AV} {S : MS} {R : Option AV → MS → Prop} (h : wpI (fun t l s S2 => wpX d mX7_openHabits t l s S2 R) (wpM d) R 39 0 B_X7_openHabits_31 ls st S) : wpX d mX7_openHabits 31 ls st S R := x_step (by decide +kernel) h
def B_X7_openHabits_39 : List AIn := [(.iload_n 1, 1, 0, 0), (.ireturn, 0, 0, 0)]
theorem s_X7_openHabits_39 {d : Nat} {ls st : List AV} {S : MS} {R : Option AV → MS → Prop} (h : wpI (fun t l s S2 => wpX d mX7_openHabits t l s S2 R) (wpM d) R 41 0 B_X7_openHabits_39 ls st S) : wpX d mX7_openHabits 39 ls st S R := x_step (by decide +kernel) h
-- NinthDay$Year.runs()I
def B_X7_runs_0 : List AIn := [(.iconst 0, 0, 0, 0), (.istore_n 1, 1, 0, 0), (.iconst 0, 0, 0, 0), (.istore_n 2, 2, 0, 0)]
theorem s_X7_runs_0 {d : Nat} {ls st : List AV} {S : MS} {R : Option AV → MS → Prop} (h : wpI (fun t l s S2 => wpX d mX7_runs t l s S2 R) (wpM d) R 4 0 B_X7_runs_0 ls st S) : wpX d mX7_runs 0 ls st S R := x_step (by decide +kernel) h
def B_X7_runs_4 : List AIn := [(.iload_n 2, 2, 0, 0), (.aload_n 0, 0, 0, 0), (.getfield 37, 7, 6, 0), (.if_icmp .ge 30, 39, 5, 0), (.iload_n 1, 1, 0, 0), (.aload_n 0, 0, 0, 0), (.getfield 9, 0, 6, 0), (.iload_n 2, 2, 0, 0), (.iaload, 0, 0, 0), (.iconst 1, 1, 0, 0), (.invokestatic 65, 12, 2, 0)]
theorem s_X7_runs_4 {d : Nat} {ls st : List AV} {S : MS} {R : Option AV → MS → Prop} (h : wpI (fun t l s S2 => wpX d mX7_runs t l s S2 R) (wpM d) R 23 2 B_X7_runs_4 ls st S) : wpX d mX7_runs 4 ls st S R := x_step (by decide +kernel) h
def B_X7_runs_23 : List AIn := [(.ifCond .eq 7, 30, 2, 0), (.iconst 1, 1, 0, 0), (.goto 4, 31, 2, 0)]
theorem s_X7_runs_23 {d : Nat} {ls st : List AV} {S : MS} {R : Option AV → MS → Prop} (h : wpI (fun t l s S2 => wpX d mX7_runs t l s S2 R) (wpM d) R 30 0 B_X7_runs_23 ls st S) : wpX d mX7_runs 23 ls st S R := x_step (by decide +kernel) h
def B_X7_runs_30 : List AIn := [(.iconst 0, 0, 0, 0)]
theorem s_X7_runs_30 {d : Nat} {ls st : List AV} {S : MS} {R : Option AV → MS → Prop} (h : wpI (fun t l s S2 => wpX d mX7_runs t l s S2 R) (wpM d) R 31 2 B_X7_runs_30 ls st S) : wpX d mX7_runs 30 ls st S R := x_step (by decide +kernel) h
def B_X7_runs_31 : List AIn := [(.iadd, 0, 0, 0), (.istore_n 1, 1, 0, 0), (.iinc 2 1, 1, 0, 0), (.goto (-32), 4, 0, 0)]
theorem s_X7_runs_31 {d : Nat} {ls st : List AV} {S : MS} {R : Option AV → MS → Prop} (h : wpI (fun t l s S2 => wpX d mX7_runs t l s S2 R) (wpM d) R 39 0 B_X7_runs_31 ls st S) : wpX d mX7_runs 31 ls st S R := x_step (by decide +kernel) h
def B_X7_runs_39 : List AIn := [(.iload_n 1, 1, 0, 0), (.ireturn, 0, 0, 0)]
theorem s_X7_runs_39 {d : Nat} {ls st : List AV} {S : MS} {R : Option AV → MS → Prop} (h : wpI (fun t l s S2 => wpX d mX7_runs t l s S2 R) (wpM d) R 41 0 B_X7_runs_39 ls st S) : wpX d mX7_runs 39 ls st S R := x_step (by decide +kernel) h
-- NinthDay$Year.price(I)I
def B_X7_price_0 : List AIn := [(.aload_n 0, 0, 0, 0), (.iload_n 1, 1, 0, 0), (.aload_n 0, 0, 0, 0), (.getfield 9, 0, 6, 0), (.iload_n 1, 1, 0, 0), (.iaload, 0, 0, 0), (.aload_n 0, 0, 0, 0), (.getfield 33, 8, 6, 0), (.invokevirtual 69, 52, 4, 6)]
theorem s_X7_price_0 {d : Nat} {ls st : List AV} {S : MS} {R : Option AV → MS → Prop} (h : wpI (fun t l s S2 => wpX d mX7_price t l s S2 R) (wpM d) R 15 3 B_X7_price_0 ls st S) : wpX d mX7_price 0 ls st S R := x_step (by decide +kernel) h
def B_X7_price_15 : List AIn := [(.ireturn, 0, 0, 0)]
theorem s_X7_price_15 {d : Nat} {ls st : List AV} {S : MS} {R : Option AV → MS → Prop} (h : wpI (fun t l s S2 => wpX d mX7_price t l s S2 R) (wpM d) R 16 0 B_X7_price_15 ls st S) : wpX d mX7_price 15 ls st S R := x_step (by decide +kernel) h
-- NinthDay$Year.priceAs(III)I
def B_X7_priceAs_0 : List AIn := [(.iload_n 2, 2, 0, 0), (.aload_n 0, 0, 0, 0), (.getfield 15, 1, 6, 0), (.iload_n 1, 1, 0, 0), (.iaload, 0, 0, 0), (.aload_n 0, 0, 0, 0), (.getfield 18, 2, 6, 0), (.iload_n 1, 1, 0, 0), (.iaload, 0, 0, 0), (.aload_n 0, 0, 0, 0), (.getfield 21, 3, 6, 0), (.iload_n 1, 1, 0, 0), (.iaload, 0, 0, 0), (.aload_n 0, 0, 0, 0), (.getfield 24, 4, 6, 0), (.iload_n 1, 1, 0, 0), (.iaload, 0, 0, 0), (.iload_n 3, 3, 0, 0), (.invokestatic 73, 13, 6, 0)]
theorem s_X7_priceAs_0 {d : Nat} {ls st : List AV} {S : MS} {R : Option AV → MS → Prop} (h : wpI (fun t l s S2 => wpX d mX7_priceAs t l s S2 R) (wpM d) R 29 15 B_X7_priceAs_0 ls st S) : wpX d mX7_priceAs 0 ls st S R := x_step (by decide +kernel) h
def B_X7_priceAs_29 : List AIn := [(.ireturn, 0, 0, 0)]
theorem s_X7_priceAs_29 {d : Nat} {ls st : List AV} {S : MS} {R : Option AV → MS → Prop} (h : wpI (fun t l s S2 => wpX d mX7_priceAs t l s S2 R) (wpM d) R 30 0 B_X7_priceAs_29 ls st S) : wpX d mX7_priceAs 29 ls st S R := x_step (by decide +kernel) h
-- NinthDay$Year.weighed()[I
def B_X7_weighed_0 : List AIn := [(.aload_n 0, 0, 0, 0), (.getfield 30, 6, 6, 0), (.iconst 0, 0, 0, 0), (.iconst 0, 0, 0, 0), (.iastore, 0, 0, 0), (.iconst 0, 0, 0, 0), (.istore_n 1, 1, 0, 0)]
theorem s_X7_weighed_0 {d : Nat} {ls st : List AV} {S : MS} {R : Option AV → MS → Prop} (h : wpI (fun t l s S2 => wpX d mX7_weighed t l s S2 R) (wpM d) R 9 28 B_X7_weighed_0 ls st S) : wpX d mX7_weighed 0 ls st S R := x_step (by decide +kernel) h
def B_X7_weighed_9 : List AIn := [(.iload_n 1, 1, 0, 0), (.iconst 5, 5, 0, 0), (.if_icmp .ge 96, 107, 30, 0), (.iconst 1, 1, 0, 0), (.iload_n 1, 1, 0, 0), (.ishl, 0, 0, 0), (.istore_n 2, 2, 0, 0), (.iload_n 1, 1, 0, 0), (.aload_n 0, 0, 0, 0), (.getfield 37, 7, 6, 0), (.if_icmp .ge 43, 66, 24, 0), (.aload_n 0, 0, 0, 0), (.getfield 9, 0, 6, 0), (.iload_n 1, 1, 0, 0), (.iaload, 0, 0, 0), (.aload_n 0, 0, 0, 0), (.getfield 15, 1, 6, 0), (.iload_n 1, 1, 0, 0), (.iaload, 0, 0, 0), (.aload_n 0, 0, 0, 0), (.getfield 18, 2, 6, 0), (.iload_n 1, 1, 0, 0), (.iaload, 0, 0, 0), (.aload_n 0, 0, 0, 0), (.getfield 21, 3, 6, 0), (.iload_n 1, 1, 0, 0), (.iaload, 0, 0, 0), (.aload_n 0, 0, 0, 0), (.getfield 24, 4, 6, 0), (.iload_n 1, 1, 0, 0), (.iaload, 0, 0, 0), (.aload_n 0, 0, 0, 0), (.getfield 33, 8, 6, 0), (.invokestatic 73, 13, 6, 0)]
theorem s_X7_weighed_9 {d : Nat} {ls st : List AV} {S : MS} {R : Option AV → MS → Prop} (h : wpI (fun t l s S2 => wpX d mX7_weighed t l s S2 R) (wpM d) R 63 24 B_X7_weighed_9 ls st S) : wpX d mX7_weighed 9 ls st S R := x_step (by decide +kernel) h
def B_X7_weighed_63 : List AIn := [(.goto 4, 67, 24, 0)]
theorem s_X7_weighed_63 {d : Nat} {ls st : List AV} {S : MS} {R : Option AV → MS → Prop} (h : wpI (fun t l s S2 => wpX d mX7_weighed t l s S2 R) (wpM d) R 66 0 B_X7_weighed_63 ls st S) : wpX d mX7_weighed 63 ls st S R := x_step (by decide +kernel) h
def B_X7_weighed_66 : List AIn := [(.iconst 0, 0, 0, 0)]
theorem s_X7_weighed_66 {d : Nat} {ls st : List AV} {S : MS} {R : Option AV → MS → Prop} (h : wpI (fun t l s S2 => wpX d mX7_weighed t l s S2 R) (wpM d) R 67 24 B_X7_weighed_66 ls st S) : wpX d mX7_weighed 66 ls st S R := x_step (by decide +kernel) h
def B_X7_weighed_67 : List AIn := [(.istore_n 3, 3, 0, 0), (.iconst 0, 0, 0, 0), (.istore 4, 4, 0, 0)]
theorem s_X7_weighed_67 {d : Nat} {ls st : List AV} {S : MS} {R : Option AV → MS → Prop} (h : wpI (fun t l s S2 => wpX d mX7_weighed t l s S2 R) (wpM d) R 71 0 B_X7_weighed_67 ls st S) : wpX d mX7_weighed 67 ls st S R := x_step (by decide +kernel) h
def B_X7_weighed_71 : List AIn := [(.iload 4, 4, 0, 0), (.iload_n 2, 2, 0, 0), (.if_icmp .ge 27, 101, 28, 0), (.aload_n 0, 0, 0, 0), (.getfield 30, 6, 6, 0), (.iload_n 2, 2, 0, 0), (.iload 4, 4, 0, 0), (.ior, 0, 0, 0), (.aload_n 0, 0, 0, 0), (.getfield 30, 6, 6, 0), (.iload 4, 4, 0, 0), (.iaload, 0, 0, 0), (.iload_n 3, 3, 0, 0), (.iadd, 0, 0, 0), (.iastore, 0, 0, 0), (.iinc 4 1, 1, 0, 0), (.goto (-27), 71, 0, 0)]
theorem s_X7_weighed_71 {d : Nat} {ls st : List AV} {S : MS} {R : Option AV → MS → Prop} (h : wpI (fun t l s S2 => wpX d mX7_weighed t l s S2 R) (wpM d) R 101 0 B_X7_weighed_71 ls st S) : wpX d mX7_weighed 71 ls st S R := x_step (by decide +kernel) h
def B_X7_weighed_101 : List AIn := [(.iinc 1 1, 1, 0, 0), (.goto (-95), 9, 28, 0)]
theorem s_X7_weighed_101 {d : Nat} {ls st : List AV} {S : MS} {R : Option AV → MS → Prop} (h : wpI (fun t l s S2 => wpX d mX7_weighed t l s S2 R) (wpM d) R 107 0 B_X7_weighed_101 ls st S) : wpX d mX7_weighed 101 ls st S R := x_step (by decide +kernel) h
def B_X7_weighed_107 : List AIn := [(.aload_n 0, 0, 0, 0), (.getfield 30, 6, 6, 0), (.areturn, 0, 0, 0)]
theorem s_X7_weighed_107 {d : Nat} {ls st : List AV} {S : MS} {R : Option AV → MS → Prop} (h : wpI (fun t l s S2 => wpX d mX7_weighed t l s S2 R) (wpM d) R 112 0 B_X7_weighed_107 ls st S) : wpX d mX7_weighed 107 ls st S R := x_step (by decide +kernel) h
-- NinthDay$Year.lossOf(I)I
def B_X7_lossOf_0 : List AIn := [(.iconst 0, 0, 0, 0), (.istore_n 2, 2, 0, 0), (.iconst 0, 0, 0, 0), (.istore_n 3, 3, 0, 0)]
theorem s_X7_lossOf_0 {d : Nat} {ls st : List AV} {S : MS} {R : Option AV → MS → Prop} (h : wpI (fun t l s S2 => wpX d mX7_lossOf t l s S2 R) (wpM d) R 4 0 B_X7_lossOf_0 ls st S) : wpX d mX7_lossOf 0 ls st S R := x_step (by decide +kernel) h
def B_X7_lossOf_4 : List AIn := [(.iload_n 3, 3, 0, 0), (.aload_n 0, 0, 0, 0), (.getfield 37, 7, 6, 0), (.if_icmp .ge 43, 52, 11, 0), (.iload_n 1, 1, 0, 0), (.iload_n 3, 3, 0, 0), (.ishr, 0, 0, 0), (.iconst 1, 1, 0, 0), (.iand, 0, 0, 0), (.iconst 1, 1, 0, 0), (.if_icmp .ne 28, 46, 0, 0), (.iload_n 2, 2, 0, 0), (.aload_n 0, 0, 0, 0), (.getfield 18, 2, 6, 0), (.iload_n 3, 3, 0, 0), (.iaload, 0, 0, 0), (.aload_n 0, 0, 0, 0), (.getfield 9, 0, 6, 0), (.iload_n 3, 3, 0, 0), (.iaload, 0, 0, 0), (.aload_n 0, 0, 0, 0), (.getfield 18, 2, 6, 0), (.iload_n 3, 3, 0, 0), (.iaload, 0, 0, 0), (.invokestatic 76, 15, 2, 0)]
theorem s_X7_lossOf_4 {d : Nat} {ls st : List AV} {S : MS} {R : Option AV → MS → Prop} (h : wpI (fun t l s S2 => wpX d mX7_lossOf t l s S2 R) (wpM d) R 43 4 B_X7_lossOf_4 ls st S) : wpX d mX7_lossOf 4 ls st S R := x_step (by decide +kernel) h
def B_X7_lossOf_43 : List AIn := [(.isub, 0, 0, 0), (.iadd, 0, 0, 0), (.istore_n 2, 2, 0, 0)]
theorem s_X7_lossOf_43 {d : Nat} {ls st : List AV} {S : MS} {R : Option AV → MS → Prop} (h : wpI (fun t l s S2 => wpX d mX7_lossOf t l s S2 R) (wpM d) R 46 0 B_X7_lossOf_43 ls st S) : wpX d mX7_lossOf 43 ls st S R := x_step (by decide +kernel) h
def B_X7_lossOf_46 : List AIn := [(.iinc 3 1, 1, 0, 0), (.goto (-45), 4, 0, 0)]
theorem s_X7_lossOf_46 {d : Nat} {ls st : List AV} {S : MS} {R : Option AV → MS → Prop} (h : wpI (fun t l s S2 => wpX d mX7_lossOf t l s S2 R) (wpM d) R 52 0 B_X7_lossOf_46 ls st S) : wpX d mX7_lossOf 46 ls st S R := x_step (by decide +kernel) h
def B_X7_lossOf_52 : List AIn := [(.iload_n 2, 2, 0, 0), (.ireturn, 0, 0, 0)]
theorem s_X7_lossOf_52 {d : Nat} {ls st : List AV} {S : MS} {R : Option AV → MS → Prop} (h : wpI (fun t l s S2 => wpX d mX7_lossOf t l s S2 R) (wpM d) R 54 0 B_X7_lossOf_52 ls st S) : wpX d mX7_lossOf 52 ls st S R := x_step (by decide +kernel) h
-- NinthDay$Year.goesByItself()Z
def B_X7_goesByItself_0 : List AIn := [(.iconst 0, 0, 0, 0), (.istore_n 1, 1, 0, 0)]
theorem s_X7_goesByItself_0 {d : Nat} {ls st : List AV} {S : MS} {R : Option AV → MS → Prop} (h : wpI (fun t l s S2 => wpX d mX7_goesByItself t l s S2 R) (wpM d) R 2 0 B_X7_goesByItself_0 ls st S) : wpX d mX7_goesByItself 0 ls st S R := x_step (by decide +kernel) h
def B_X7_goesByItself_2 : List AIn := [(.iload_n 1, 1, 0, 0), (.aload_n 0, 0, 0, 0), (.getfield 37, 7, 6, 0), (.if_icmp .ge 34, 41, 3, 0), (.aload_n 0, 0, 0, 0), (.iload_n 1, 1, 0, 0), (.invokevirtual 59, 47, 2, 6)]
theorem s_X7_goesByItself_2 {d : Nat} {ls st : List AV} {S : MS} {R : Option AV → MS → Prop} (h : wpI (fun t l s S2 => wpX d mX7_goesByItself t l s S2 R) (wpM d) R 15 0 B_X7_goesByItself_2 ls st S) : wpX d mX7_goesByItself 2 ls st S R := x_step (by decide +kernel) h
def B_X7_goesByItself_15 : List AIn := [(.ifCond .ne 20, 35, 0, 0), (.aload_n 0, 0, 0, 0), (.getfield 18, 2, 6, 0), (.iload_n 1, 1, 0, 0), (.iaload, 0, 0, 0), (.aload_n 0, 0, 0, 0), (.getfield 15, 1, 6, 0), (.iload_n 1, 1, 0, 0), (.iaload, 0, 0, 0), (.if_icmp .ge 5, 35, 0, 0), (.iconst 0, 0, 0, 0), (.ireturn, 1, 0, 0)]
theorem s_X7_goesByItself_15 {d : Nat} {ls st : List AV} {S : MS} {R : Option AV → MS → Prop} (h : wpI (fun t l s S2 => wpX d mX7_goesByItself t l s S2 R) (wpM d) R 35 0 B_X7_goesByItself_15 ls st S) : wpX d mX7_goesByItself 15 ls st S R := x_step (by decide +kernel) h
def B_X7_goesByItself_35 : List AIn := [(.iinc 1 1, 1, 0, 0), (.goto (-36), 2, 0, 0)]
theorem s_X7_goesByItself_35 {d : Nat} {ls st : List AV} {S : MS} {R : Option AV → MS → Prop} (h : wpI (fun t l s S2 => wpX d mX7_goesByItself t l s S2 R) (wpM d) R 41 0 B_X7_goesByItself_35 ls st S) : wpX d mX7_goesByItself 35 ls st S R := x_step (by decide +kernel) h
def B_X7_goesByItself_41 : List AIn := [(.iconst 1, 1, 0, 0), (.ireturn, 1, 0, 0)]
theorem s_X7_goesByItself_41 {d : Nat} {ls st : List AV} {S : MS} {R : Option AV → MS → Prop} (h : wpI (fun t l s S2 => wpX d mX7_goesByItself t l s S2 R) (wpM d) R 43 0 B_X7_goesByItself_41 ls st S) : wpX d mX7_goesByItself 41 ls st S R := x_step (by decide +kernel) h
-- NinthDay$Year.choice(I)I
def B_X7_choice_0 : List AIn := [(.aload_n 0, 0, 0, 0), (.invokevirtual 80, 53, 1, 6)]
theorem s_X7_choice_0 {d : Nat} {ls st : List AV} {S : MS} {R : Option AV → MS → Prop} (h : wpI (fun t l s S2 => wpX d mX7_choice t l s S2 R) (wpM d) R 4 124 B_X7_choice_0 ls st S) : wpX d mX7_choice 0 ls st S R := x_step (by decide +kernel) h
def B_X7_choice_4 : List AIn := [(.astore_n 2, 2, 0, 0), (.iconst 0, 0, 0, 0), (.istore_n 3, 3, 0, 0), (.aload_n 0, 0, 0, 0), (.invokevirtual 84, 48, 1, 6)]
theorem s_X7_choice_4 {d : Nat} {ls st : List AV} {S : MS} {R : Option AV → MS → Prop} (h : wpI (fun t l s S2 => wpX d mX7_choice t l s S2 R) (wpM d) R 11 112 B_X7_choice_4 ls st S) : wpX d mX7_choice 4 ls st S R := x_step (by decide +kernel) h
def B_X7_choice_11 : List AIn := [(.istore 4, 4, 0, 0), (.iconst 0, 0, 0, 0), (.istore 5, 5, 0, 0)]
theorem s_X7_choice_11 {d : Nat} {ls st : List AV} {S : MS} {R : Option AV → MS → Prop} (h : wpI (fun t l s S2 => wpX d mX7_choice t l s S2 R) (wpM d) R 16 64 B_X7_choice_11 ls st S) : wpX d mX7_choice 11 ls st S R := x_step (by decide +kernel) h
def B_X7_choice_16 : List AIn := [(.iload 5, 5, 0, 0), (.aload_n 0, 0, 0, 0), (.getfield 37, 7, 6, 0), (.if_icmp .ge 51, 73, 119, 0), (.iload 4, 4, 0, 0), (.ifCond .eq 46, 73, 119, 0), (.aload_n 0, 0, 0, 0), (.iload_n 1, 1, 0, 0), (.iload 4, 4, 0, 0), (.aload_n 2, 2, 0, 0), (.invokevirtual 88, 57, 4, 6)]
theorem s_X7_choice_16 {d : Nat} {ls st : List AV} {S : MS} {R : Option AV → MS → Prop} (h : wpI (fun t l s S2 => wpX d mX7_choice t l s S2 R) (wpM d) R 38 64 B_X7_choice_16 ls st S) : wpX d mX7_choice 16 ls st S R := x_step (by decide +kernel) h
def B_X7_choice_38 : List AIn := [(.istore 6, 6, 0, 0), (.iload 4, 4, 0, 0), (.iload 6, 6, 0, 0), (.iconst (-1), 1, 1, 0), (.ixor, 0, 0, 0), (.iand, 0, 0, 0), (.istore 4, 4, 0, 0), (.aload_n 2, 2, 0, 0), (.iload_n 3, 3, 0, 0), (.iload 6, 6, 0, 0), (.ior, 0, 0, 0), (.iaload, 0, 0, 0), (.aload_n 0, 0, 0, 0), (.getfield 40, 9, 6, 0), (.if_icmp .gt 8, 67, 64, 0), (.iload_n 3, 3, 0, 0), (.iload 6, 6, 0, 0), (.ior, 0, 0, 0), (.istore_n 3, 3, 0, 0)]
theorem s_X7_choice_38 {d : Nat} {ls st : List AV} {S : MS} {R : Option AV → MS → Prop} (h : wpI (fun t l s S2 => wpX d mX7_choice t l s S2 R) (wpM d) R 67 64 B_X7_choice_38 ls st S) : wpX d mX7_choice 38 ls st S R := x_step (by decide +kernel) h
def B_X7_choice_67 : List AIn := [(.iinc 5 1, 1, 0, 0), (.goto (-54), 16, 64, 0)]
theorem s_X7_choice_67 {d : Nat} {ls st : List AV} {S : MS} {R : Option AV → MS → Prop} (h : wpI (fun t l s S2 => wpX d mX7_choice t l s S2 R) (wpM d) R 73 0 B_X7_choice_67 ls st S) : wpX d mX7_choice 67 ls st S R := x_step (by decide +kernel) h
def B_X7_choice_73 : List AIn := [(.iload_n 3, 3, 0, 0), (.ireturn, 0, 0, 0)]
theorem s_X7_choice_73 {d : Nat} {ls st : List AV} {S : MS} {R : Option AV → MS → Prop} (h : wpI (fun t l s S2 => wpX d mX7_choice t l s S2 R) (wpM d) R 75 0 B_X7_choice_73 ls st S) : wpX d mX7_choice 73 ls st S R := x_step (by decide +kernel) h
-- NinthDay$Year.foremost(II[I)I
def B_X7_foremost_0 : List AIn := [(.iconst 0, 0, 0, 0), (.istore 4, 4, 0, 0), (.iconst 0, 0, 0, 0), (.istore 5, 5, 0, 0), (.iconst 0, 0, 0, 0), (.istore 6, 6, 0, 0)]
theorem s_X7_foremost_0 {d : Nat} {ls st : List AV} {S : MS} {R : Option AV → MS → Prop} (h : wpI (fun t l s S2 => wpX d mX7_foremost t l s S2 R) (wpM d) R 9 384 B_X7_foremost_0 ls st S) : wpX d mX7_foremost 0 ls st S R := x_step (by decide +kernel) h
def B_X7_foremost_9 : List AIn := [(.iload 6, 6, 0, 0), (.aload_n 0, 0, 0, 0), (.getfield 37, 7, 6, 0), (.if_icmp .ge 52, 67, 495, 0), (.iconst 1, 1, 0, 0), (.iload 6, 6, 0, 0), (.ishl, 0, 0, 0), (.istore 7, 7, 0, 0), (.aload_n 0, 0, 0, 0), (.iload_n 1, 1, 0, 0), (.iload 6, 6, 0, 0), (.aload_n 3, 3, 0, 0), (.invokevirtual 92, 58, 4, 6)]
theorem s_X7_foremost_9 {d : Nat} {ls st : List AV} {S : MS} {R : Option AV → MS → Prop} (h : wpI (fun t l s S2 => wpX d mX7_foremost t l s S2 R) (wpM d) R 32 256 B_X7_foremost_9 ls st S) : wpX d mX7_foremost 9 ls st S R := x_step (by decide +kernel) h
def B_X7_foremost_32 : List AIn := [(.istore 8, 8, 0, 0), (.iload_n 2, 2, 0, 0), (.iload 7, 7, 0, 0), (.iand, 0, 0, 0), (.ifCond .eq 23, 61, 384, 0), (.iload 4, 4, 0, 0), (.ifCond .eq 10, 53, 48, 0), (.iload 8, 8, 0, 0), (.iload 5, 5, 0, 0), (.if_icmp .ge 11, 61, 384, 0)]
theorem s_X7_foremost_32 {d : Nat} {ls st : List AV} {S : MS} {R : Option AV → MS → Prop} (h : wpI (fun t l s S2 => wpX d mX7_foremost t l s S2 R) (wpM d) R 53 48 B_X7_foremost_32 ls st S) : wpX d mX7_foremost 32 ls st S R := x_step (by decide +kernel) h
def B_X7_foremost_53 : List AIn := [(.iload 7, 7, 0, 0), (.istore 4, 4, 0, 0), (.iload 8, 8, 0, 0), (.istore 5, 5, 0, 0)]
theorem s_X7_foremost_53 {d : Nat} {ls st : List AV} {S : MS} {R : Option AV → MS → Prop} (h : wpI (fun t l s S2 => wpX d mX7_foremost t l s S2 R) (wpM d) R 61 384 B_X7_foremost_53 ls st S) : wpX d mX7_foremost 53 ls st S R := x_step (by decide +kernel) h
def B_X7_foremost_61 : List AIn := [(.iinc 6 1, 1, 0, 0), (.goto (-55), 9, 384, 0)]
theorem s_X7_foremost_61 {d : Nat} {ls st : List AV} {S : MS} {R : Option AV → MS → Prop} (h : wpI (fun t l s S2 => wpX d mX7_foremost t l s S2 R) (wpM d) R 67 0 B_X7_foremost_61 ls st S) : wpX d mX7_foremost 61 ls st S R := x_step (by decide +kernel) h
def B_X7_foremost_67 : List AIn := [(.iload 4, 4, 0, 0), (.ireturn, 0, 0, 0)]
theorem s_X7_foremost_67 {d : Nat} {ls st : List AV} {S : MS} {R : Option AV → MS → Prop} (h : wpI (fun t l s S2 => wpX d mX7_foremost t l s S2 R) (wpM d) R 70 0 B_X7_foremost_67 ls st S) : wpX d mX7_foremost 67 ls st S R := x_step (by decide +kernel) h
-- NinthDay$Year.rank(II[I)I
def B_X7_rank_0 : List AIn := [(.iload_n 1, 1, 0, 0), (.tableswitch 43 0 2 #[27, 33, 35], 1, 2, 0)]
theorem s_X7_rank_0 {d : Nat} {ls st : List AV} {S : MS} {R : Option AV → MS → Prop} (h : wpI (fun t l s S2 => wpX d mX7_rank t l s S2 R) (wpM d) R 28 0 B_X7_rank_0 ls st S) : wpX d mX7_rank 0 ls st S R := x_step (by decide +kernel) h
def B_X7_rank_28 : List AIn := [(.aload_n 3, 3, 0, 0), (.iconst 1, 1, 0, 0), (.iload_n 2, 2, 0, 0), (.ishl, 0, 0, 0), (.iaload, 0, 0, 0), (.ireturn, 0, 0, 0)]
theorem s_X7_rank_28 {d : Nat} {ls st : List AV} {S : MS} {R : Option AV → MS → Prop} (h : wpI (fun t l s S2 => wpX d mX7_rank t l s S2 R) (wpM d) R 34 0 B_X7_rank_28 ls st S) : wpX d mX7_rank 28 ls st S R := x_step (by decide +kernel) h
def B_X7_rank_34 : List AIn := [(.iload_n 2, 2, 0, 0), (.ireturn, 0, 0, 0)]
theorem s_X7_rank_34 {d : Nat} {ls st : List AV} {S : MS} {R : Option AV → MS → Prop} (h : wpI (fun t l s S2 => wpX d mX7_rank t l s S2 R) (wpM d) R 36 0 B_X7_rank_34 ls st S) : wpX d mX7_rank 34 ls st S R := x_step (by decide +kernel) h
def B_X7_rank_36 : List AIn := [(.aload_n 0, 0, 0, 0), (.getfield 24, 4, 6, 0), (.iload_n 2, 2, 0, 0), (.iaload, 0, 0, 0), (.ineg, 0, 0, 0), (.ireturn, 0, 0, 0)]
theorem s_X7_rank_36 {d : Nat} {ls st : List AV} {S : MS} {R : Option AV → MS → Prop} (h : wpI (fun t l s S2 => wpX d mX7_rank t l s S2 R) (wpM d) R 44 0 B_X7_rank_36 ls st S) : wpX d mX7_rank 36 ls st S R := x_step (by decide +kernel) h
def B_X7_rank_44 : List AIn := [(.aload_n 0, 0, 0, 0), (.getfield 18, 2, 6, 0), (.iload_n 2, 2, 0, 0), (.iaload, 0, 0, 0), (.ireturn, 0, 0, 0)]
theorem s_X7_rank_44 {d : Nat} {ls st : List AV} {S : MS} {R : Option AV → MS → Prop} (h : wpI (fun t l s S2 => wpX d mX7_rank t l s S2 R) (wpM d) R 51 0 B_X7_rank_44 ls st S) : wpX d mX7_rank 44 ls st S R := x_step (by decide +kernel) h
-- NinthDay$Year.passBy(I)I
def B_X7_passBy_0 : List AIn := [(.aload_n 0, 0, 0, 0), (.iload_n 1, 1, 0, 0), (.invokevirtual 95, 56, 2, 6)]
theorem s_X7_passBy_0 {d : Nat} {ls st : List AV} {S : MS} {R : Option AV → MS → Prop} (h : wpI (fun t l s S2 => wpX d mX7_passBy t l s S2 R) (wpM d) R 5 6 B_X7_passBy_0 ls st S) : wpX d mX7_passBy 0 ls st S R := x_step (by decide +kernel) h
def B_X7_passBy_5 : List AIn := [(.istore_n 2, 2, 0, 0), (.aload_n 0, 0, 0, 0), (.iload_n 2, 2, 0, 0), (.iconst 0, 0, 0, 0), (.invokevirtual 98, 60, 3, 6)]
theorem s_X7_passBy_5 {d : Nat} {ls st : List AV} {S : MS} {R : Option AV → MS → Prop} (h : wpI (fun t l s S2 => wpX d mX7_passBy t l s S2 R) (wpM d) R 12 3 B_X7_passBy_5 ls st S) : wpX d mX7_passBy 5 ls st S R := x_step (by decide +kernel) h
def B_X7_passBy_12 : List AIn := [(.iload_n 2, 2, 0, 0), (.ireturn, 0, 0, 0)]
theorem s_X7_passBy_12 {d : Nat} {ls st : List AV} {S : MS} {R : Option AV → MS → Prop} (h : wpI (fun t l s S2 => wpX d mX7_passBy t l s S2 R) (wpM d) R 14 0 B_X7_passBy_12 ls st S) : wpX d mX7_passBy 12 ls st S R := x_step (by decide +kernel) h
-- NinthDay$Year.pass(II)V
def B_X7_pass_0 : List AIn := [(.iconst 0, 0, 0, 0), (.istore_n 3, 3, 0, 0)]
theorem s_X7_pass_0 {d : Nat} {ls st : List AV} {S : MS} {R : Option AV → MS → Prop} (h : wpI (fun t l s S2 => wpX d mX7_pass t l s S2 R) (wpM d) R 2 0 B_X7_pass_0 ls st S) : wpX d mX7_pass 0 ls st S R := x_step (by decide +kernel) h
def B_X7_pass_2 : List AIn := [(.iload_n 3, 3, 0, 0), (.aload_n 0, 0, 0, 0), (.getfield 37, 7, 6, 0), (.if_icmp .ge 123, 130, 14, 0), (.aload_n 0, 0, 0, 0), (.iload_n 3, 3, 0, 0), (.invokevirtual 59, 47, 2, 6)]
theorem s_X7_pass_2 {d : Nat} {ls st : List AV} {S : MS} {R : Option AV → MS → Prop} (h : wpI (fun t l s S2 => wpX d mX7_pass t l s S2 R) (wpM d) R 15 0 B_X7_pass_2 ls st S) : wpX d mX7_pass 2 ls st S R := x_step (by decide +kernel) h
def B_X7_pass_15 : List AIn := [(.ifCond .eq 6, 21, 0, 0), (.goto 106, 124, 0, 0)]
theorem s_X7_pass_15 {d : Nat} {ls st : List AV} {S : MS} {R : Option AV → MS → Prop} (h : wpI (fun t l s S2 => wpX d mX7_pass t l s S2 R) (wpM d) R 21 0 B_X7_pass_15 ls st S) : wpX d mX7_pass 15 ls st S R := x_step (by decide +kernel) h
def B_X7_pass_21 : List AIn := [(.iload_n 1, 1, 0, 0), (.iload_n 3, 3, 0, 0), (.ishr, 0, 0, 0), (.iconst 1, 1, 0, 0), (.iand, 0, 0, 0), (.iconst 1, 1, 0, 0), (.if_icmp .ne 47, 74, 0, 0), (.aload_n 0, 0, 0, 0), (.getfield 18, 2, 6, 0), (.iload_n 3, 3, 0, 0), (.aload_n 0, 0, 0, 0), (.getfield 9, 0, 6, 0), (.iload_n 3, 3, 0, 0), (.iaload, 0, 0, 0), (.aload_n 0, 0, 0, 0), (.getfield 18, 2, 6, 0), (.iload_n 3, 3, 0, 0), (.iaload, 0, 0, 0), (.invokestatic 102, 14, 2, 0)]
theorem s_X7_pass_21 {d : Nat} {ls st : List AV} {S : MS} {R : Option AV → MS → Prop} (h : wpI (fun t l s S2 => wpX d mX7_pass t l s S2 R) (wpM d) R 50 0 B_X7_pass_21 ls st S) : wpX d mX7_pass 21 ls st S R := x_step (by decide +kernel) h
def B_X7_pass_50 : List AIn := [(.iastore, 0, 0, 0), (.aload_n 0, 0, 0, 0), (.getfield 24, 4, 6, 0), (.iload_n 3, 3, 0, 0), (.dup2, 0, 0, 0), (.iaload, 0, 0, 0), (.iconst 1, 1, 0, 0), (.iadd, 0, 0, 0), (.iastore, 0, 0, 0), (.aload_n 0, 0, 0, 0), (.getfield 27, 5, 6, 0), (.iload_n 3, 3, 0, 0), (.dup2, 0, 0, 0), (.iaload, 0, 0, 0), (.iconst 1, 1, 0, 0), (.iadd, 0, 0, 0), (.iastore, 0, 0, 0), (.goto 53, 124, 0, 0)]
theorem s_X7_pass_50 {d : Nat} {ls st : List AV} {S : MS} {R : Option AV → MS → Prop} (h : wpI (fun t l s S2 => wpX d mX7_pass t l s S2 R) (wpM d) R 74 0 B_X7_pass_50 ls st S) : wpX d mX7_pass 50 ls st S R := x_step (by decide +kernel) h
def B_X7_pass_74 : List AIn := [(.iload_n 2, 2, 0, 0), (.iload_n 3, 3, 0, 0), (.ishr, 0, 0, 0), (.iconst 1, 1, 0, 0), (.iand, 0, 0, 0), (.iconst 1, 1, 0, 0), (.if_icmp .ne 16, 96, 0, 0), (.aload_n 0, 0, 0, 0), (.dup, 0, 0, 0), (.getfield 43, 10, 6, 0), (.iconst 1, 1, 0, 0), (.isub, 0, 0, 0), (.putfield 43, 10, 6, 0), (.goto 31, 124, 0, 0)]
theorem s_X7_pass_74 {d : Nat} {ls st : List AV} {S : MS} {R : Option AV → MS → Prop} (h : wpI (fun t l s S2 => wpX d mX7_pass t l s S2 R) (wpM d) R 96 0 B_X7_pass_74 ls st S) : wpX d mX7_pass 74 ls st S R := x_step (by decide +kernel) h
def B_X7_pass_96 : List AIn := [(.aload_n 0, 0, 0, 0), (.getfield 18, 2, 6, 0), (.iload_n 3, 3, 0, 0), (.aload_n 0, 0, 0, 0), (.getfield 9, 0, 6, 0), (.iload_n 3, 3, 0, 0), (.iaload, 0, 0, 0), (.aload_n 0, 0, 0, 0), (.getfield 18, 2, 6, 0), (.iload_n 3, 3, 0, 0), (.iaload, 0, 0, 0), (.invokestatic 76, 15, 2, 0)]
theorem s_X7_pass_96 {d : Nat} {ls st : List AV} {S : MS} {R : Option AV → MS → Prop} (h : wpI (fun t l s S2 => wpX d mX7_pass t l s S2 R) (wpM d) R 116 0 B_X7_pass_96 ls st S) : wpX d mX7_pass 96 ls st S R := x_step (by decide +kernel) h
def B_X7_pass_116 : List AIn := [(.iastore, 0, 0, 0), (.aload_n 0, 0, 0, 0), (.getfield 24, 4, 6, 0), (.iload_n 3, 3, 0, 0), (.iconst 0, 0, 0, 0), (.iastore, 0, 0, 0)]
theorem s_X7_pass_116 {d : Nat} {ls st : List AV} {S : MS} {R : Option AV → MS → Prop} (h : wpI (fun t l s S2 => wpX d mX7_pass t l s S2 R) (wpM d) R 124 0 B_X7_pass_116 ls st S) : wpX d mX7_pass 116 ls st S R := x_step (by decide +kernel) h
def B_X7_pass_124 : List AIn := [(.iinc 3 1, 1, 0, 0), (.goto (-125), 2, 0, 0)]
theorem s_X7_pass_124 {d : Nat} {ls st : List AV} {S : MS} {R : Option AV → MS → Prop} (h : wpI (fun t l s S2 => wpX d mX7_pass t l s S2 R) (wpM d) R 130 0 B_X7_pass_124 ls st S) : wpX d mX7_pass 124 ls st S R := x_step (by decide +kernel) h
def B_X7_pass_130 : List AIn := [(.aload_n 0, 0, 0, 0), (.dup, 0, 0, 0), (.getfield 33, 8, 6, 0), (.iconst 1, 1, 0, 0), (.iadd, 0, 0, 0), (.putfield 33, 8, 6, 0), (.return_, 0, 0, 0)]
theorem s_X7_pass_130 {d : Nat} {ls st : List AV} {S : MS} {R : Option AV → MS → Prop} (h : wpI (fun t l s S2 => wpX d mX7_pass t l s S2 R) (wpM d) R 141 0 B_X7_pass_130 ls st S) : wpX d mX7_pass 130 ls st S R := x_step (by decide +kernel) h
-- NinthDay$Year.follow(I)V
def B_X7_follow_0 : List AIn := [(.iload_n 1, 1, 0, 0), (.invokestatic 105, 2, 1, 0)]
theorem s_X7_follow_0 {d : Nat} {ls st : List AV} {S : MS} {R : Option AV → MS → Prop} (h : wpI (fun t l s S2 => wpX d mX7_follow t l s S2 R) (wpM d) R 4 4 B_X7_follow_0 ls st S) : wpX d mX7_follow 0 ls st S R := x_step (by decide +kernel) h
def B_X7_follow_4 : List AIn := [(.istore_n 2, 2, 0, 0), (.iload_n 1, 1, 0, 0), (.invokestatic 110, 1, 1, 0)]
theorem s_X7_follow_4 {d : Nat} {ls st : List AV} {S : MS} {R : Option AV → MS → Prop} (h : wpI (fun t l s S2 => wpX d mX7_follow t l s S2 R) (wpM d) R 9 0 B_X7_follow_4 ls st S) : wpX d mX7_follow 4 ls st S R := x_step (by decide +kernel) h
def B_X7_follow_9 : List AIn := [(.tableswitch 83 0 2 #[27, 39, 54], 9, 0, 0)]
theorem s_X7_follow_9 {d : Nat} {ls st : List AV} {S : MS} {R : Option AV → MS → Prop} (h : wpI (fun t l s S2 => wpX d mX7_follow t l s S2 R) (wpM d) R 36 0 B_X7_follow_9 ls st S) : wpX d mX7_follow 9 ls st S R := x_step (by decide +kernel) h
def B_X7_follow_36 : List AIn := [(.aload_n 0, 0, 0, 0), (.iload_n 2, 2, 0, 0), (.iload_n 1, 1, 0, 0), (.invokestatic 113, 3, 1, 0)]
theorem s_X7_follow_36 {d : Nat} {ls st : List AV} {S : MS} {R : Option AV → MS → Prop} (h : wpI (fun t l s S2 => wpX d mX7_follow t l s S2 R) (wpM d) R 42 7 B_X7_follow_36 ls st S) : wpX d mX7_follow 36 ls st S R := x_step (by decide +kernel) h
def B_X7_follow_42 : List AIn := [(.invokevirtual 98, 60, 3, 6)]
theorem s_X7_follow_42 {d : Nat} {ls st : List AV} {S : MS} {R : Option AV → MS → Prop} (h : wpI (fun t l s S2 => wpX d mX7_follow t l s S2 R) (wpM d) R 45 7 B_X7_follow_42 ls st S) : wpX d mX7_follow 42 ls st S R := x_step (by decide +kernel) h
def B_X7_follow_45 : List AIn := [(.goto 52, 97, 7, 0)]
theorem s_X7_follow_45 {d : Nat} {ls st : List AV} {S : MS} {R : Option AV → MS → Prop} (h : wpI (fun t l s S2 => wpX d mX7_follow t l s S2 R) (wpM d) R 48 0 B_X7_follow_45 ls st S) : wpX d mX7_follow 45 ls st S R := x_step (by decide +kernel) h
def B_X7_follow_48 : List AIn := [(.aload_n 0, 0, 0, 0), (.dup, 0, 0, 0), (.getfield 46, 11, 6, 0), (.iconst 1, 1, 0, 0), (.iload_n 2, 2, 0, 0), (.ishl, 0, 0, 0), (.ior, 0, 0, 0), (.putfield 46, 11, 6, 0), (.goto 37, 97, 7, 0)]
theorem s_X7_follow_48 {d : Nat} {ls st : List AV} {S : MS} {R : Option AV → MS → Prop} (h : wpI (fun t l s S2 => wpX d mX7_follow t l s S2 R) (wpM d) R 63 0 B_X7_follow_48 ls st S) : wpX d mX7_follow 48 ls st S R := x_step (by decide +kernel) h
def B_X7_follow_63 : List AIn := [(.aload_n 0, 0, 0, 0), (.dup, 0, 0, 0), (.getfield 46, 11, 6, 0), (.iconst 1, 1, 0, 0), (.iload_n 2, 2, 0, 0), (.ishl, 0, 0, 0), (.iconst (-1), 1, 1, 0), (.ixor, 0, 0, 0), (.iand, 0, 0, 0), (.putfield 46, 11, 6, 0), (.iload_n 2, 2, 0, 0), (.iconst 5, 5, 0, 0), (.if_icmp .ge 18, 97, 7, 0), (.aload_n 0, 0, 0, 0), (.getfield 24, 4, 6, 0), (.iload_n 2, 2, 0, 0), (.iconst 0, 0, 0, 0), (.iastore, 0, 0, 0), (.goto 8, 97, 7, 0)]
theorem s_X7_follow_63 {d : Nat} {ls st : List AV} {S : MS} {R : Option AV → MS → Prop} (h : wpI (fun t l s S2 => wpX d mX7_follow t l s S2 R) (wpM d) R 92 0 B_X7_follow_63 ls st S) : wpX d mX7_follow 63 ls st S R := x_step (by decide +kernel) h
def B_X7_follow_92 : List AIn := [(.aload_n 0, 0, 0, 0), (.iload_n 2, 2, 0, 0), (.putfield 40, 9, 6, 0)]
theorem s_X7_follow_92 {d : Nat} {ls st : List AV} {S : MS} {R : Option AV → MS → Prop} (h : wpI (fun t l s S2 => wpX d mX7_follow t l s S2 R) (wpM d) R 97 7 B_X7_follow_92 ls st S) : wpX d mX7_follow 92 ls st S R := x_step (by decide +kernel) h
def B_X7_follow_97 : List AIn := [(.return_, 0, 0, 0)]
theorem s_X7_follow_97 {d : Nat} {ls st : List AV} {S : MS} {R : Option AV → MS → Prop} (h : wpI (fun t l s S2 => wpX d mX7_follow t l s S2 R) (wpM d) R 98 0 B_X7_follow_97 ls st S) : wpX d mX7_follow 97 ls st S R := x_step (by decide +kernel) h
-- java/lang/Integer.bitCount(I)I
def B_J6_bitCount_0f7a4_0 : List AIn := [(.iload_n 0, 0, 0, 0), (.iload_n 0, 0, 0, 0), (.iconst 1, 1, 0, 0), (.iushr, 0, 0, 0), (.ldc_w 265, 1431655765, 0, 0), (.iand, 0, 0, 0), (.isub, 0, 0, 0), (.istore_n 0, 0, 0, 0), (.iload_n 0, 0, 0, 0), (.ldc_w 266, 858993459, 0, 0), (.iand, 0, 0, 0), (.iload_n 0, 0, 0, 0), (.iconst 2, 2, 0, 0), (.iushr, 0, 0, 0), (.ldc_w 266, 858993459, 0, 0), (.iand, 0, 0, 0), (.iadd, 0, 0, 0), (.istore_n 0, 0, 0, 0), (.iload_n 0, 0, 0, 0), (.iload_n 0, 0, 0, 0), (.iconst 4, 4, 0, 0), (.iushr, 0, 0, 0), (.iadd, 0, 0, 0), (.ldc_w 267, 252645135, 0, 0), (.iand, 0, 0, 0), (.istore_n 0, 0, 0, 0), (.iload_n 0, 0, 0, 0), (.iload_n 0, 0, 0, 0), (.bipush 8, 8, 0, 0), (.iushr, 0, 0, 0), (.iadd, 0, 0, 0), (.istore_n 0, 0, 0, 0), (.iload_n 0, 0, 0, 0), (.iload_n 0, 0, 0, 0), (.bipush 16, 16, 0, 0), (.iushr, 0, 0, 0), (.iadd, 0, 0, 0), (.istore_n 0, 0, 0, 0), (.iload_n 0, 0, 0, 0), (.bipush 63, 63, 0, 0), (.iand, 0, 0, 0), (.ireturn, 0, 0, 0)]
theorem s_J6_bitCount_0f7a4_0 {d : Nat} {ls st : List AV} {S : MS} {R : Option AV → MS → Prop} (h : wpI (fun t l s S2 => wpX d mJ6_bitCount_0f7a4 t l s S2 R) (wpM d) R 53 0 B_J6_bitCount_0f7a4_0 ls st S) : wpX d mJ6_bitCount_0f7a4 0 ls st S R := x_step (by decide +kernel) h
-- java/util/Arrays.rangeCheck(III)V
def B_J7_rangeCheck_23922_0 : List AIn := [(.iload_n 1, 1, 0, 0), (.iload_n 2, 2, 0, 0), (.if_icmp .le 44, 46, 0, 0)]
theorem s_J7_rangeCheck_23922_0 {d : Nat} {ls st : List AV} {S : MS} {R : Option AV → MS → Prop} (h : wpI (fun t l s S2 => wpX d mJ7_rangeCheck_23922 t l s S2 R) (wpM d) R 5 1 B_J7_rangeCheck_23922_0 ls st S) : wpX d mJ7_rangeCheck_23922 0 ls st S R := x_step (by decide +kernel) h
def B_J7_rangeCheck_23922_21 : List AIn := [(.iload_n 1, 1, 0, 0)]
theorem s_J7_rangeCheck_23922_21 {d : Nat} {ls st : List AV} {S : MS} {R : Option AV → MS → Prop} (h : wpI (fun t l s S2 => wpX d mJ7_rangeCheck_23922 t l s S2 R) (wpM d) R 22 3 B_J7_rangeCheck_23922_21 ls st S) : wpX d mJ7_rangeCheck_23922 21 ls st S R := x_step (by decide +kernel) h
def B_J7_rangeCheck_23922_30 : List AIn := [(.iload_n 2, 2, 0, 0)]
theorem s_J7_rangeCheck_23922_30 {d : Nat} {ls st : List AV} {S : MS} {R : Option AV → MS → Prop} (h : wpI (fun t l s S2 => wpX d mJ7_rangeCheck_23922 t l s S2 R) (wpM d) R 31 7 B_J7_rangeCheck_23922_30 ls st S) : wpX d mJ7_rangeCheck_23922 30 ls st S R := x_step (by decide +kernel) h
def B_J7_rangeCheck_23922_46 : List AIn := [(.iload_n 1, 1, 0, 0), (.ifCond .ge 12, 59, 2, 0)]
theorem s_J7_rangeCheck_23922_46 {d : Nat} {ls st : List AV} {S : MS} {R : Option AV → MS → Prop} (h : wpI (fun t l s S2 => wpX d mJ7_rangeCheck_23922 t l s S2 R) (wpM d) R 50 5 B_J7_rangeCheck_23922_46 ls st S) : wpX d mJ7_rangeCheck_23922 46 ls st S R := x_step (by decide +kernel) h
def B_J7_rangeCheck_23922_59 : List AIn := [(.iload_n 2, 2, 0, 0), (.iload_n 0, 0, 0, 0), (.if_icmp .le 12, 73, 7, 0)]
theorem s_J7_rangeCheck_23922_59 {d : Nat} {ls st : List AV} {S : MS} {R : Option AV → MS → Prop} (h : wpI (fun t l s S2 => wpX d mJ7_rangeCheck_23922 t l s S2 R) (wpM d) R 64 3 B_J7_rangeCheck_23922_59 ls st S) : wpX d mJ7_rangeCheck_23922 59 ls st S R := x_step (by decide +kernel) h
def B_J7_rangeCheck_23922_73 : List AIn := [(.return_, 0, 0, 0)]
theorem s_J7_rangeCheck_23922_73 {d : Nat} {ls st : List AV} {S : MS} {R : Option AV → MS → Prop} (h : wpI (fun t l s S2 => wpX d mJ7_rangeCheck_23922 t l s S2 R) (wpM d) R 74 0 B_J7_rangeCheck_23922_73 ls st S) : wpX d mJ7_rangeCheck_23922 73 ls st S R := x_step (by decide +kernel) h
-- java/util/Arrays.fill([II)V
def B_J7_fill_53178_0 : List AIn := [(.iconst 0, 0, 0, 0), (.istore_n 2, 2, 0, 0), (.aload_n 0, 0, 0, 0), (.arraylength, 0, 0, 0), (.istore_n 3, 3, 0, 0)]
theorem s_J7_fill_53178_0 {d : Nat} {ls st : List AV} {S : MS} {R : Option AV → MS → Prop} (h : wpI (fun t l s S2 => wpX d mJ7_fill_53178 t l s S2 R) (wpM d) R 5 0 B_J7_fill_53178_0 ls st S) : wpX d mJ7_fill_53178 0 ls st S R := x_step (by decide +kernel) h
def B_J7_fill_53178_5 : List AIn := [(.iload_n 2, 2, 0, 0), (.iload_n 3, 3, 0, 0), (.if_icmp .ge 13, 20, 15, 0), (.aload_n 0, 0, 0, 0), (.iload_n 2, 2, 0, 0), (.iload_n 1, 1, 0, 0), (.iastore, 0, 0, 0), (.iinc 2 1, 1, 0, 0), (.goto (-12), 5, 0, 0)]
theorem s_J7_fill_53178_5 {d : Nat} {ls st : List AV} {S : MS} {R : Option AV → MS → Prop} (h : wpI (fun t l s S2 => wpX d mJ7_fill_53178 t l s S2 R) (wpM d) R 20 0 B_J7_fill_53178_5 ls st S) : wpX d mJ7_fill_53178 5 ls st S R := x_step (by decide +kernel) h
def B_J7_fill_53178_20 : List AIn := [(.return_, 0, 0, 0)]
theorem s_J7_fill_53178_20 {d : Nat} {ls st : List AV} {S : MS} {R : Option AV → MS → Prop} (h : wpI (fun t l s S2 => wpX d mJ7_fill_53178 t l s S2 R) (wpM d) R 21 0 B_J7_fill_53178_20 ls st S) : wpX d mJ7_fill_53178 20 ls st S R := x_step (by decide +kernel) h
-- java/util/Arrays.fill([IIII)V
def B_J7_fill_fda19_0 : List AIn := [(.aload_n 0, 0, 0, 0), (.arraylength, 0, 0, 0), (.iload_n 1, 1, 0, 0), (.iload_n 2, 2, 0, 0), (.invokestatic 13, 226, 3, 0)]
theorem s_J7_fill_fda19_0 {d : Nat} {ls st : List AV} {S : MS} {R : Option AV → MS → Prop} (h : wpI (fun t l s S2 => wpX d mJ7_fill_fda19 t l s S2 R) (wpM d) R 7 16 B_J7_fill_fda19_0 ls st S) : wpX d mJ7_fill_fda19 0 ls st S R := x_step (by decide +kernel) h
def B_J7_fill_fda19_7 : List AIn := [(.iload_n 1, 1, 0, 0), (.istore 4, 4, 0, 0)]
theorem s_J7_fill_fda19_7 {d : Nat} {ls st : List AV} {S : MS} {R : Option AV → MS → Prop} (h : wpI (fun t l s S2 => wpX d mJ7_fill_fda19 t l s S2 R) (wpM d) R 10 2 B_J7_fill_fda19_7 ls st S) : wpX d mJ7_fill_fda19 7 ls st S R := x_step (by decide +kernel) h
def B_J7_fill_fda19_10 : List AIn := [(.iload 4, 4, 0, 0), (.iload_n 2, 2, 0, 0), (.if_icmp .ge 14, 27, 31, 0), (.aload_n 0, 0, 0, 0), (.iload 4, 4, 0, 0), (.iload_n 3, 3, 0, 0), (.iastore, 0, 0, 0), (.iinc 4 1, 1, 0, 0), (.goto (-14), 10, 2, 0)]
theorem s_J7_fill_fda19_10 {d : Nat} {ls st : List AV} {S : MS} {R : Option AV → MS → Prop} (h : wpI (fun t l s S2 => wpX d mJ7_fill_fda19 t l s S2 R) (wpM d) R 27 0 B_J7_fill_fda19_10 ls st S) : wpX d mJ7_fill_fda19 10 ls st S R := x_step (by decide +kernel) h
def B_J7_fill_fda19_27 : List AIn := [(.return_, 0, 0, 0)]
theorem s_J7_fill_fda19_27 {d : Nat} {ls st : List AV} {S : MS} {R : Option AV → MS → Prop} (h : wpI (fun t l s S2 => wpX d mJ7_fill_fda19 t l s S2 R) (wpM d) R 28 0 B_J7_fill_fda19_27 ls st S) : wpX d mJ7_fill_fda19 27 ls st S R := x_step (by decide +kernel) h
-- java/util/Arrays.fill([BIIB)V
def B_J7_fill_eb02e_0 : List AIn := [(.aload_n 0, 0, 0, 0), (.arraylength, 0, 0, 0), (.iload_n 1, 1, 0, 0), (.iload_n 2, 2, 0, 0), (.invokestatic 13, 226, 3, 0)]
theorem s_J7_fill_eb02e_0 {d : Nat} {ls st : List AV} {S : MS} {R : Option AV → MS → Prop} (h : wpI (fun t l s S2 => wpX d mJ7_fill_eb02e t l s S2 R) (wpM d) R 7 16 B_J7_fill_eb02e_0 ls st S) : wpX d mJ7_fill_eb02e 0 ls st S R := x_step (by decide +kernel) h
def B_J7_fill_eb02e_7 : List AIn := [(.iload_n 1, 1, 0, 0), (.istore 4, 4, 0, 0)]
theorem s_J7_fill_eb02e_7 {d : Nat} {ls st : List AV} {S : MS} {R : Option AV → MS → Prop} (h : wpI (fun t l s S2 => wpX d mJ7_fill_eb02e t l s S2 R) (wpM d) R 10 2 B_J7_fill_eb02e_7 ls st S) : wpX d mJ7_fill_eb02e 7 ls st S R := x_step (by decide +kernel) h
def B_J7_fill_eb02e_10 : List AIn := [(.iload 4, 4, 0, 0), (.iload_n 2, 2, 0, 0), (.if_icmp .ge 14, 27, 31, 0), (.aload_n 0, 0, 0, 0), (.iload 4, 4, 0, 0), (.iload_n 3, 3, 0, 0), (.bastore, 0, 0, 0), (.iinc 4 1, 1, 0, 0), (.goto (-14), 10, 2, 0)]
theorem s_J7_fill_eb02e_10 {d : Nat} {ls st : List AV} {S : MS} {R : Option AV → MS → Prop} (h : wpI (fun t l s S2 => wpX d mJ7_fill_eb02e t l s S2 R) (wpM d) R 27 0 B_J7_fill_eb02e_10 ls st S) : wpX d mJ7_fill_eb02e 10 ls st S R := x_step (by decide +kernel) h
def B_J7_fill_eb02e_27 : List AIn := [(.return_, 0, 0, 0)]
theorem s_J7_fill_eb02e_27 {d : Nat} {ls st : List AV} {S : MS} {R : Option AV → MS → Prop} (h : wpI (fun t l s S2 => wpX d mJ7_fill_eb02e t l s S2 R) (wpM d) R 28 0 B_J7_fill_eb02e_27 ls st S) : wpX d mJ7_fill_eb02e 27 ls st S R := x_step (by decide +kernel) h
