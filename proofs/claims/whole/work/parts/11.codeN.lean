-- (by gen_code.py) the code in blocks
-- NinthDay.row(II)I
def B_X8_row_0 : List AIn := [(.iload_n 1, 1, 0, 0), (.invokestatic 77, 111, 1, 0)]
theorem s_X8_row_0 {d : Nat} {ls st : List AV} {S : MS} {R : Option AV → MS → Prop} (h : wpI (fun t l s S2 => wpX d mX8_row t l s S2 R) (wpM d) R 4 0 B_X8_row_0 ls st S) : wpX d mX8_row 0 ls st S R := x_step (by decide +kernel) h
def B_X8_row_4 : List AIn := [(.ifCond .eq 9, 13, 7, 0), (.iload_n 2, 2, 0, 0), (.bipush 40, 40, 0, 0), (.if_icmp .le 5, 15, 0, 0)]
theorem s_X8_row_4 {d : Nat} {ls st : List AV} {S : MS} {R : Option AV → MS → Prop} (h : wpI (fun t l s S2 => wpX d mX8_row t l s S2 R) (wpM d) R 13 7 B_X8_row_4 ls st S) : wpX d mX8_row 4 ls st S R := x_step (by decide +kernel) h
def B_X8_row_13 : List AIn := [(.iconst (-1), 1, 1, 0), (.ireturn, 0, 0, 0)]
theorem s_X8_row_13 {d : Nat} {ls st : List AV} {S : MS} {R : Option AV → MS → Prop} (h : wpI (fun t l s S2 => wpX d mX8_row t l s S2 R) (wpM d) R 15 0 B_X8_row_13 ls st S) : wpX d mX8_row 13 ls st S R := x_step (by decide +kernel) h
def B_X8_row_15 : List AIn := [(.iload_n 2, 2, 0, 0), (.ifCond .ge 9, 25, 0, 0), (.aload_n 0, 0, 0, 0), (.iconst 5, 5, 0, 0), (.invokevirtual 81, 107, 2, 7)]
theorem s_X8_row_15 {d : Nat} {ls st : List AV} {S : MS} {R : Option AV → MS → Prop} (h : wpI (fun t l s S2 => wpX d mX8_row t l s S2 R) (wpM d) R 24 7 B_X8_row_15 ls st S) : wpX d mX8_row 15 ls st S R := x_step (by decide +kernel) h
def B_X8_row_24 : List AIn := [(.ireturn, 0, 0, 0)]
theorem s_X8_row_24 {d : Nat} {ls st : List AV} {S : MS} {R : Option AV → MS → Prop} (h : wpI (fun t l s S2 => wpX d mX8_row t l s S2 R) (wpM d) R 25 0 B_X8_row_24 ls st S) : wpX d mX8_row 24 ls st S R := x_step (by decide +kernel) h
def B_X8_row_25 : List AIn := [(.aload_n 0, 0, 0, 0), (.getfield 10, 0, 7, 0), (.iload_n 1, 1, 0, 0), (.iload_n 2, 2, 0, 0), (.invokevirtual 85, 28, 3, 3)]
theorem s_X8_row_25 {d : Nat} {ls st : List AV} {S : MS} {R : Option AV → MS → Prop} (h : wpI (fun t l s S2 => wpX d mX8_row t l s S2 R) (wpM d) R 34 3 B_X8_row_25 ls st S) : wpX d mX8_row 25 ls st S R := x_step (by decide +kernel) h
def B_X8_row_34 : List AIn := [(.iload_n 2, 2, 0, 0), (.ireturn, 0, 0, 0)]
theorem s_X8_row_34 {d : Nat} {ls st : List AV} {S : MS} {R : Option AV → MS → Prop} (h : wpI (fun t l s S2 => wpX d mX8_row t l s S2 R) (wpM d) R 36 0 B_X8_row_34 ls st S) : wpX d mX8_row 34 ls st S R := x_step (by decide +kernel) h
-- NinthDay.lay(III)I
def B_X8_lay_0 : List AIn := [(.aload_n 0, 0, 0, 0), (.iload_n 1, 1, 0, 0), (.iload_n 2, 2, 0, 0), (.invokevirtual 89, 118, 3, 7)]
theorem s_X8_lay_0 {d : Nat} {ls st : List AV} {S : MS} {R : Option AV → MS → Prop} (h : wpI (fun t l s S2 => wpX d mX8_lay t l s S2 R) (wpM d) R 6 48 B_X8_lay_0 ls st S) : wpX d mX8_lay 0 ls st S R := x_step (by decide +kernel) h
def B_X8_lay_6 : List AIn := [(.istore 4, 4, 0, 0), (.iload 4, 4, 0, 0), (.ifCond .eq 6, 16, 48, 0), (.iload 4, 4, 0, 0), (.ireturn, 0, 0, 0)]
theorem s_X8_lay_6 {d : Nat} {ls st : List AV} {S : MS} {R : Option AV → MS → Prop} (h : wpI (fun t l s S2 => wpX d mX8_lay t l s S2 R) (wpM d) R 16 0 B_X8_lay_6 ls st S) : wpX d mX8_lay 6 ls st S R := x_step (by decide +kernel) h
def B_X8_lay_16 : List AIn := [(.aload_n 0, 0, 0, 0), (.getfield 10, 0, 7, 0), (.iload_n 1, 1, 0, 0), (.iload_n 2, 2, 0, 0), (.invokevirtual 93, 30, 3, 3)]
theorem s_X8_lay_16 {d : Nat} {ls st : List AV} {S : MS} {R : Option AV → MS → Prop} (h : wpI (fun t l s S2 => wpX d mX8_lay t l s S2 R) (wpM d) R 25 48 B_X8_lay_16 ls st S) : wpX d mX8_lay 16 ls st S R := x_step (by decide +kernel) h
def B_X8_lay_25 : List AIn := [(.istore 5, 5, 0, 0), (.aload_n 0, 0, 0, 0), (.getfield 10, 0, 7, 0), (.iload_n 1, 1, 0, 0), (.iload_n 2, 2, 0, 0), (.iload_n 3, 3, 0, 0), (.invokevirtual 96, 31, 4, 3)]
theorem s_X8_lay_25 {d : Nat} {ls st : List AV} {S : MS} {R : Option AV → MS → Prop} (h : wpI (fun t l s S2 => wpX d mX8_lay t l s S2 R) (wpM d) R 37 30 B_X8_lay_25 ls st S) : wpX d mX8_lay 25 ls st S R := x_step (by decide +kernel) h
def B_X8_lay_37 : List AIn := [(.aload_n 0, 0, 0, 0), (.iload 5, 5, 0, 0), (.invokevirtual 100, 108, 2, 7)]
theorem s_X8_lay_37 {d : Nat} {ls st : List AV} {S : MS} {R : Option AV → MS → Prop} (h : wpI (fun t l s S2 => wpX d mX8_lay t l s S2 R) (wpM d) R 43 63 B_X8_lay_37 ls st S) : wpX d mX8_lay 37 ls st S R := x_step (by decide +kernel) h
def B_X8_lay_43 : List AIn := [(.ireturn, 0, 0, 0)]
theorem s_X8_lay_43 {d : Nat} {ls st : List AV} {S : MS} {R : Option AV → MS → Prop} (h : wpI (fun t l s S2 => wpX d mX8_lay t l s S2 R) (wpM d) R 44 0 B_X8_lay_43 ls st S) : wpX d mX8_lay 43 ls st S R := x_step (by decide +kernel) h
-- NinthDay.at(II)I
def B_X8_at_0 : List AIn := [(.aload_n 0, 0, 0, 0), (.iload_n 1, 1, 0, 0), (.iload_n 2, 2, 0, 0), (.invokevirtual 89, 118, 3, 7)]
theorem s_X8_at_0 {d : Nat} {ls st : List AV} {S : MS} {R : Option AV → MS → Prop} (h : wpI (fun t l s S2 => wpX d mX8_at t l s S2 R) (wpM d) R 6 8 B_X8_at_0 ls st S) : wpX d mX8_at 0 ls st S R := x_step (by decide +kernel) h
def B_X8_at_6 : List AIn := [(.istore_n 3, 3, 0, 0), (.iload_n 3, 3, 0, 0), (.ifCond .eq 5, 13, 8, 0), (.iload_n 3, 3, 0, 0), (.ireturn, 0, 0, 0)]
theorem s_X8_at_6 {d : Nat} {ls st : List AV} {S : MS} {R : Option AV → MS → Prop} (h : wpI (fun t l s S2 => wpX d mX8_at t l s S2 R) (wpM d) R 13 0 B_X8_at_6 ls st S) : wpX d mX8_at 6 ls st S R := x_step (by decide +kernel) h
def B_X8_at_13 : List AIn := [(.aload_n 0, 0, 0, 0), (.aload_n 0, 0, 0, 0), (.getfield 10, 0, 7, 0), (.iload_n 1, 1, 0, 0), (.iload_n 2, 2, 0, 0), (.invokevirtual 93, 30, 3, 3)]
theorem s_X8_at_13 {d : Nat} {ls st : List AV} {S : MS} {R : Option AV → MS → Prop} (h : wpI (fun t l s S2 => wpX d mX8_at t l s S2 R) (wpM d) R 23 15 B_X8_at_13 ls st S) : wpX d mX8_at 13 ls st S R := x_step (by decide +kernel) h
def B_X8_at_23 : List AIn := [(.invokevirtual 100, 108, 2, 7)]
theorem s_X8_at_23 {d : Nat} {ls st : List AV} {S : MS} {R : Option AV → MS → Prop} (h : wpI (fun t l s S2 => wpX d mX8_at t l s S2 R) (wpM d) R 26 15 B_X8_at_23 ls st S) : wpX d mX8_at 23 ls st S R := x_step (by decide +kernel) h
def B_X8_at_26 : List AIn := [(.ireturn, 0, 0, 0)]
theorem s_X8_at_26 {d : Nat} {ls st : List AV} {S : MS} {R : Option AV → MS → Prop} (h : wpI (fun t l s S2 => wpX d mX8_at t l s S2 R) (wpM d) R 27 0 B_X8_at_26 ls st S) : wpX d mX8_at 26 ls st S R := x_step (by decide +kernel) h
-- NinthDay.tear(I)I
def B_X8_tear_0 : List AIn := [(.iload_n 1, 1, 0, 0), (.invokestatic 77, 111, 1, 0)]
theorem s_X8_tear_0 {d : Nat} {ls st : List AV} {S : MS} {R : Option AV → MS → Prop} (h : wpI (fun t l s S2 => wpX d mX8_tear t l s S2 R) (wpM d) R 4 0 B_X8_tear_0 ls st S) : wpX d mX8_tear 0 ls st S R := x_step (by decide +kernel) h
def B_X8_tear_4 : List AIn := [(.ifCond .ne 5, 9, 0, 0), (.iconst (-1), 1, 1, 0), (.ireturn, 0, 0, 0)]
theorem s_X8_tear_4 {d : Nat} {ls st : List AV} {S : MS} {R : Option AV → MS → Prop} (h : wpI (fun t l s S2 => wpX d mX8_tear t l s S2 R) (wpM d) R 9 0 B_X8_tear_4 ls st S) : wpX d mX8_tear 4 ls st S R := x_step (by decide +kernel) h
def B_X8_tear_9 : List AIn := [(.aload_n 0, 0, 0, 0), (.getfield 10, 0, 7, 0), (.iload_n 1, 1, 0, 0), (.invokevirtual 103, 25, 2, 3)]
theorem s_X8_tear_9 {d : Nat} {ls st : List AV} {S : MS} {R : Option AV → MS → Prop} (h : wpI (fun t l s S2 => wpX d mX8_tear t l s S2 R) (wpM d) R 17 0 B_X8_tear_9 ls st S) : wpX d mX8_tear 9 ls st S R := x_step (by decide +kernel) h
def B_X8_tear_17 : List AIn := [(.ifCond .ne 9, 26, 0, 0), (.aload_n 0, 0, 0, 0), (.iconst 1, 1, 0, 0), (.invokevirtual 81, 107, 2, 7)]
theorem s_X8_tear_17 {d : Nat} {ls st : List AV} {S : MS} {R : Option AV → MS → Prop} (h : wpI (fun t l s S2 => wpX d mX8_tear t l s S2 R) (wpM d) R 25 3 B_X8_tear_17 ls st S) : wpX d mX8_tear 17 ls st S R := x_step (by decide +kernel) h
def B_X8_tear_25 : List AIn := [(.ireturn, 0, 0, 0)]
theorem s_X8_tear_25 {d : Nat} {ls st : List AV} {S : MS} {R : Option AV → MS → Prop} (h : wpI (fun t l s S2 => wpX d mX8_tear t l s S2 R) (wpM d) R 26 0 B_X8_tear_25 ls st S) : wpX d mX8_tear 25 ls st S R := x_step (by decide +kernel) h
def B_X8_tear_26 : List AIn := [(.aload_n 0, 0, 0, 0), (.getfield 10, 0, 7, 0), (.iload_n 1, 1, 0, 0), (.invokevirtual 106, 29, 2, 3)]
theorem s_X8_tear_26 {d : Nat} {ls st : List AV} {S : MS} {R : Option AV → MS → Prop} (h : wpI (fun t l s S2 => wpX d mX8_tear t l s S2 R) (wpM d) R 34 3 B_X8_tear_26 ls st S) : wpX d mX8_tear 26 ls st S R := x_step (by decide +kernel) h
def B_X8_tear_34 : List AIn := [(.iconst 1, 1, 0, 0), (.ireturn, 0, 0, 0)]
theorem s_X8_tear_34 {d : Nat} {ls st : List AV} {S : MS} {R : Option AV → MS → Prop} (h : wpI (fun t l s S2 => wpX d mX8_tear t l s S2 R) (wpM d) R 36 0 B_X8_tear_34 ls st S) : wpX d mX8_tear 34 ls st S R := x_step (by decide +kernel) h
-- NinthDay.copy(IIIII)I
def B_X8_copy_0 : List AIn := [(.iload_n 1, 1, 0, 0), (.invokestatic 77, 111, 1, 0)]
theorem s_X8_copy_0 {d : Nat} {ls st : List AV} {S : MS} {R : Option AV → MS → Prop} (h : wpI (fun t l s S2 => wpX d mX8_copy t l s S2 R) (wpM d) R 4 0 B_X8_copy_0 ls st S) : wpX d mX8_copy 0 ls st S R := x_step (by decide +kernel) h
def B_X8_copy_4 : List AIn := [(.ifCond .eq 10, 14, 63, 0), (.iload_n 3, 3, 0, 0), (.invokestatic 77, 111, 1, 0)]
theorem s_X8_copy_4 {d : Nat} {ls st : List AV} {S : MS} {R : Option AV → MS → Prop} (h : wpI (fun t l s S2 => wpX d mX8_copy t l s S2 R) (wpM d) R 11 0 B_X8_copy_4 ls st S) : wpX d mX8_copy 4 ls st S R := x_step (by decide +kernel) h
def B_X8_copy_11 : List AIn := [(.ifCond .ne 5, 16, 0, 0)]
theorem s_X8_copy_11 {d : Nat} {ls st : List AV} {S : MS} {R : Option AV → MS → Prop} (h : wpI (fun t l s S2 => wpX d mX8_copy t l s S2 R) (wpM d) R 14 63 B_X8_copy_11 ls st S) : wpX d mX8_copy 11 ls st S R := x_step (by decide +kernel) h
def B_X8_copy_14 : List AIn := [(.iconst (-1), 1, 1, 0), (.ireturn, 0, 0, 0)]
theorem s_X8_copy_14 {d : Nat} {ls st : List AV} {S : MS} {R : Option AV → MS → Prop} (h : wpI (fun t l s S2 => wpX d mX8_copy t l s S2 R) (wpM d) R 16 0 B_X8_copy_14 ls st S) : wpX d mX8_copy 14 ls st S R := x_step (by decide +kernel) h
def B_X8_copy_16 : List AIn := [(.iload 5, 5, 0, 0), (.ifCond .ge 9, 27, 0, 0), (.aload_n 0, 0, 0, 0), (.iconst 5, 5, 0, 0), (.invokevirtual 81, 107, 2, 7)]
theorem s_X8_copy_16 {d : Nat} {ls st : List AV} {S : MS} {R : Option AV → MS → Prop} (h : wpI (fun t l s S2 => wpX d mX8_copy t l s S2 R) (wpM d) R 26 63 B_X8_copy_16 ls st S) : wpX d mX8_copy 16 ls st S R := x_step (by decide +kernel) h
def B_X8_copy_26 : List AIn := [(.ireturn, 0, 0, 0)]
theorem s_X8_copy_26 {d : Nat} {ls st : List AV} {S : MS} {R : Option AV → MS → Prop} (h : wpI (fun t l s S2 => wpX d mX8_copy t l s S2 R) (wpM d) R 27 0 B_X8_copy_26 ls st S) : wpX d mX8_copy 26 ls st S R := x_step (by decide +kernel) h
def B_X8_copy_27 : List AIn := [(.aload_n 0, 0, 0, 0), (.getfield 10, 0, 7, 0), (.iload_n 1, 1, 0, 0), (.invokevirtual 103, 25, 2, 3)]
theorem s_X8_copy_27 {d : Nat} {ls st : List AV} {S : MS} {R : Option AV → MS → Prop} (h : wpI (fun t l s S2 => wpX d mX8_copy t l s S2 R) (wpM d) R 35 0 B_X8_copy_27 ls st S) : wpX d mX8_copy 27 ls st S R := x_step (by decide +kernel) h
def B_X8_copy_35 : List AIn := [(.ifCond .eq 14, 49, 62, 0), (.aload_n 0, 0, 0, 0), (.getfield 10, 0, 7, 0), (.iload_n 3, 3, 0, 0), (.invokevirtual 103, 25, 2, 3)]
theorem s_X8_copy_35 {d : Nat} {ls st : List AV} {S : MS} {R : Option AV → MS → Prop} (h : wpI (fun t l s S2 => wpX d mX8_copy t l s S2 R) (wpM d) R 46 0 B_X8_copy_35 ls st S) : wpX d mX8_copy 35 ls st S R := x_step (by decide +kernel) h
def B_X8_copy_46 : List AIn := [(.ifCond .ne 9, 55, 0, 0)]
theorem s_X8_copy_46 {d : Nat} {ls st : List AV} {S : MS} {R : Option AV → MS → Prop} (h : wpI (fun t l s S2 => wpX d mX8_copy t l s S2 R) (wpM d) R 49 62 B_X8_copy_46 ls st S) : wpX d mX8_copy 46 ls st S R := x_step (by decide +kernel) h
def B_X8_copy_49 : List AIn := [(.aload_n 0, 0, 0, 0), (.iconst 1, 1, 0, 0), (.invokevirtual 81, 107, 2, 7)]
theorem s_X8_copy_49 {d : Nat} {ls st : List AV} {S : MS} {R : Option AV → MS → Prop} (h : wpI (fun t l s S2 => wpX d mX8_copy t l s S2 R) (wpM d) R 54 63 B_X8_copy_49 ls st S) : wpX d mX8_copy 49 ls st S R := x_step (by decide +kernel) h
def B_X8_copy_54 : List AIn := [(.ireturn, 0, 0, 0)]
theorem s_X8_copy_54 {d : Nat} {ls st : List AV} {S : MS} {R : Option AV → MS → Prop} (h : wpI (fun t l s S2 => wpX d mX8_copy t l s S2 R) (wpM d) R 55 0 B_X8_copy_54 ls st S) : wpX d mX8_copy 54 ls st S R := x_step (by decide +kernel) h
def B_X8_copy_55 : List AIn := [(.aload_n 0, 0, 0, 0), (.getfield 10, 0, 7, 0), (.iload_n 1, 1, 0, 0), (.iload_n 2, 2, 0, 0), (.iload 5, 5, 0, 0), (.invokevirtual 110, 27, 4, 3)]
theorem s_X8_copy_55 {d : Nat} {ls st : List AV} {S : MS} {R : Option AV → MS → Prop} (h : wpI (fun t l s S2 => wpX d mX8_copy t l s S2 R) (wpM d) R 66 0 B_X8_copy_55 ls st S) : wpX d mX8_copy 55 ls st S R := x_step (by decide +kernel) h
def B_X8_copy_66 : List AIn := [(.ifCond .eq 18, 84, 62, 0), (.aload_n 0, 0, 0, 0), (.getfield 10, 0, 7, 0), (.iload_n 3, 3, 0, 0), (.iload 4, 4, 0, 0), (.iload 5, 5, 0, 0), (.invokevirtual 110, 27, 4, 3)]
theorem s_X8_copy_66 {d : Nat} {ls st : List AV} {S : MS} {R : Option AV → MS → Prop} (h : wpI (fun t l s S2 => wpX d mX8_copy t l s S2 R) (wpM d) R 81 0 B_X8_copy_66 ls st S) : wpX d mX8_copy 66 ls st S R := x_step (by decide +kernel) h
def B_X8_copy_81 : List AIn := [(.ifCond .ne 9, 90, 0, 0)]
theorem s_X8_copy_81 {d : Nat} {ls st : List AV} {S : MS} {R : Option AV → MS → Prop} (h : wpI (fun t l s S2 => wpX d mX8_copy t l s S2 R) (wpM d) R 84 62 B_X8_copy_81 ls st S) : wpX d mX8_copy 81 ls st S R := x_step (by decide +kernel) h
def B_X8_copy_84 : List AIn := [(.aload_n 0, 0, 0, 0), (.iconst 2, 2, 0, 0), (.invokevirtual 81, 107, 2, 7)]
theorem s_X8_copy_84 {d : Nat} {ls st : List AV} {S : MS} {R : Option AV → MS → Prop} (h : wpI (fun t l s S2 => wpX d mX8_copy t l s S2 R) (wpM d) R 89 63 B_X8_copy_84 ls st S) : wpX d mX8_copy 84 ls st S R := x_step (by decide +kernel) h
def B_X8_copy_89 : List AIn := [(.ireturn, 0, 0, 0)]
theorem s_X8_copy_89 {d : Nat} {ls st : List AV} {S : MS} {R : Option AV → MS → Prop} (h : wpI (fun t l s S2 => wpX d mX8_copy t l s S2 R) (wpM d) R 90 0 B_X8_copy_89 ls st S) : wpX d mX8_copy 89 ls st S R := x_step (by decide +kernel) h
def B_X8_copy_90 : List AIn := [(.aload_n 0, 0, 0, 0), (.getfield 10, 0, 7, 0), (.iload_n 1, 1, 0, 0), (.iload_n 2, 2, 0, 0), (.iload_n 3, 3, 0, 0), (.iload 4, 4, 0, 0), (.iload 5, 5, 0, 0), (.invokevirtual 114, 32, 6, 3)]
theorem s_X8_copy_90 {d : Nat} {ls st : List AV} {S : MS} {R : Option AV → MS → Prop} (h : wpI (fun t l s S2 => wpX d mX8_copy t l s S2 R) (wpM d) R 104 63 B_X8_copy_90 ls st S) : wpX d mX8_copy 90 ls st S R := x_step (by decide +kernel) h
def B_X8_copy_104 : List AIn := [(.iconst 1, 1, 0, 0), (.ireturn, 0, 0, 0)]
theorem s_X8_copy_104 {d : Nat} {ls st : List AV} {S : MS} {R : Option AV → MS → Prop} (h : wpI (fun t l s S2 => wpX d mX8_copy t l s S2 R) (wpM d) R 106 0 B_X8_copy_104 ls st S) : wpX d mX8_copy 104 ls st S R := x_step (by decide +kernel) h
-- NinthDay.mean(I)I
def B_X8_mean_0 : List AIn := [(.iload_n 1, 1, 0, 0), (.invokestatic 77, 111, 1, 0)]
theorem s_X8_mean_0 {d : Nat} {ls st : List AV} {S : MS} {R : Option AV → MS → Prop} (h : wpI (fun t l s S2 => wpX d mX8_mean t l s S2 R) (wpM d) R 4 60 B_X8_mean_0 ls st S) : wpX d mX8_mean 0 ls st S R := x_step (by decide +kernel) h
def B_X8_mean_4 : List AIn := [(.ifCond .ne 5, 9, 60, 0), (.iconst (-1), 1, 1, 0), (.ireturn, 0, 0, 0)]
theorem s_X8_mean_4 {d : Nat} {ls st : List AV} {S : MS} {R : Option AV → MS → Prop} (h : wpI (fun t l s S2 => wpX d mX8_mean t l s S2 R) (wpM d) R 9 0 B_X8_mean_4 ls st S) : wpX d mX8_mean 4 ls st S R := x_step (by decide +kernel) h
def B_X8_mean_9 : List AIn := [(.aload_n 0, 0, 0, 0), (.getfield 10, 0, 7, 0), (.iload_n 1, 1, 0, 0), (.invokevirtual 103, 25, 2, 3)]
theorem s_X8_mean_9 {d : Nat} {ls st : List AV} {S : MS} {R : Option AV → MS → Prop} (h : wpI (fun t l s S2 => wpX d mX8_mean t l s S2 R) (wpM d) R 17 60 B_X8_mean_9 ls st S) : wpX d mX8_mean 9 ls st S R := x_step (by decide +kernel) h
def B_X8_mean_17 : List AIn := [(.ifCond .ne 9, 26, 60, 0), (.aload_n 0, 0, 0, 0), (.iconst 1, 1, 0, 0), (.invokevirtual 81, 107, 2, 7)]
theorem s_X8_mean_17 {d : Nat} {ls st : List AV} {S : MS} {R : Option AV → MS → Prop} (h : wpI (fun t l s S2 => wpX d mX8_mean t l s S2 R) (wpM d) R 25 63 B_X8_mean_17 ls st S) : wpX d mX8_mean 17 ls st S R := x_step (by decide +kernel) h
def B_X8_mean_25 : List AIn := [(.ireturn, 0, 0, 0)]
theorem s_X8_mean_25 {d : Nat} {ls st : List AV} {S : MS} {R : Option AV → MS → Prop} (h : wpI (fun t l s S2 => wpX d mX8_mean t l s S2 R) (wpM d) R 26 0 B_X8_mean_25 ls st S) : wpX d mX8_mean 25 ls st S R := x_step (by decide +kernel) h
def B_X8_mean_26 : List AIn := [(.aload_n 0, 0, 0, 0), (.getfield 10, 0, 7, 0), (.iload_n 1, 1, 0, 0), (.invokevirtual 118, 26, 2, 3)]
theorem s_X8_mean_26 {d : Nat} {ls st : List AV} {S : MS} {R : Option AV → MS → Prop} (h : wpI (fun t l s S2 => wpX d mX8_mean t l s S2 R) (wpM d) R 34 60 B_X8_mean_26 ls st S) : wpX d mX8_mean 26 ls st S R := x_step (by decide +kernel) h
def B_X8_mean_34 : List AIn := [(.istore_n 2, 2, 0, 0), (.iload_n 2, 2, 0, 0), (.ifCond .gt 9, 45, 56, 0), (.aload_n 0, 0, 0, 0), (.iconst 4, 4, 0, 0), (.invokevirtual 81, 107, 2, 7)]
theorem s_X8_mean_34 {d : Nat} {ls st : List AV} {S : MS} {R : Option AV → MS → Prop} (h : wpI (fun t l s S2 => wpX d mX8_mean t l s S2 R) (wpM d) R 44 63 B_X8_mean_34 ls st S) : wpX d mX8_mean 34 ls st S R := x_step (by decide +kernel) h
def B_X8_mean_44 : List AIn := [(.ireturn, 0, 0, 0)]
theorem s_X8_mean_44 {d : Nat} {ls st : List AV} {S : MS} {R : Option AV → MS → Prop} (h : wpI (fun t l s S2 => wpX d mX8_mean t l s S2 R) (wpM d) R 45 0 B_X8_mean_44 ls st S) : wpX d mX8_mean 44 ls st S R := x_step (by decide +kernel) h
def B_X8_mean_45 : List AIn := [(.lconst 0, 0, 0, 0), (.lstore_n 3, 3, 0, 0), (.iconst 0, 0, 0, 0), (.istore 5, 5, 0, 0)]
theorem s_X8_mean_45 {d : Nat} {ls st : List AV} {S : MS} {R : Option AV → MS → Prop} (h : wpI (fun t l s S2 => wpX d mX8_mean t l s S2 R) (wpM d) R 50 16 B_X8_mean_45 ls st S) : wpX d mX8_mean 45 ls st S R := x_step (by decide +kernel) h
def B_X8_mean_50 : List AIn := [(.iload 5, 5, 0, 0), (.iload_n 2, 2, 0, 0), (.if_icmp .ge 23, 76, 50, 0), (.lload_n 3, 3, 0, 0), (.aload_n 0, 0, 0, 0), (.getfield 10, 0, 7, 0), (.iload_n 1, 1, 0, 0), (.iload 5, 5, 0, 0), (.invokevirtual 93, 30, 3, 3)]
theorem s_X8_mean_50 {d : Nat} {ls st : List AV} {S : MS} {R : Option AV → MS → Prop} (h : wpI (fun t l s S2 => wpX d mX8_mean t l s S2 R) (wpM d) R 67 24 B_X8_mean_50 ls st S) : wpX d mX8_mean 50 ls st S R := x_step (by decide +kernel) h
def B_X8_mean_67 : List AIn := [(.i2l, 0, 0, 0), (.ladd, 0, 0, 0), (.lstore_n 3, 3, 0, 0), (.iinc 5 1, 1, 0, 0), (.goto (-23), 50, 16, 0)]
theorem s_X8_mean_67 {d : Nat} {ls st : List AV} {S : MS} {R : Option AV → MS → Prop} (h : wpI (fun t l s S2 => wpX d mX8_mean t l s S2 R) (wpM d) R 76 0 B_X8_mean_67 ls st S) : wpX d mX8_mean 67 ls st S R := x_step (by decide +kernel) h
def B_X8_mean_76 : List AIn := [(.aload_n 0, 0, 0, 0), (.lload_n 3, 3, 0, 0), (.iload_n 2, 2, 0, 0), (.i2l, 0, 0, 0), (.ldiv, 0, 0, 0), (.l2i, 0, 0, 0), (.invokevirtual 100, 108, 2, 7)]
theorem s_X8_mean_76 {d : Nat} {ls st : List AV} {S : MS} {R : Option AV → MS → Prop} (h : wpI (fun t l s S2 => wpX d mX8_mean t l s S2 R) (wpM d) R 85 63 B_X8_mean_76 ls st S) : wpX d mX8_mean 76 ls st S R := x_step (by decide +kernel) h
def B_X8_mean_85 : List AIn := [(.ireturn, 0, 0, 0)]
theorem s_X8_mean_85 {d : Nat} {ls st : List AV} {S : MS} {R : Option AV → MS → Prop} (h : wpI (fun t l s S2 => wpX d mX8_mean t l s S2 R) (wpM d) R 86 0 B_X8_mean_85 ls st S) : wpX d mX8_mean 85 ls st S R := x_step (by decide +kernel) h
-- NinthDay.text(II)I
def B_X8_text_0 : List AIn := [(.iload_n 1, 1, 0, 0), (.invokestatic 121, 112, 1, 0)]
theorem s_X8_text_0 {d : Nat} {ls st : List AV} {S : MS} {R : Option AV → MS → Prop} (h : wpI (fun t l s S2 => wpX d mX8_text t l s S2 R) (wpM d) R 4 0 B_X8_text_0 ls st S) : wpX d mX8_text 0 ls st S R := x_step (by decide +kernel) h
def B_X8_text_4 : List AIn := [(.ifCond .eq 9, 13, 7, 0), (.iload_n 2, 2, 0, 0), (.bipush 60, 60, 0, 0), (.if_icmp .le 5, 15, 0, 0)]
theorem s_X8_text_4 {d : Nat} {ls st : List AV} {S : MS} {R : Option AV → MS → Prop} (h : wpI (fun t l s S2 => wpX d mX8_text t l s S2 R) (wpM d) R 13 7 B_X8_text_4 ls st S) : wpX d mX8_text 4 ls st S R := x_step (by decide +kernel) h
def B_X8_text_13 : List AIn := [(.iconst (-1), 1, 1, 0), (.ireturn, 0, 0, 0)]
theorem s_X8_text_13 {d : Nat} {ls st : List AV} {S : MS} {R : Option AV → MS → Prop} (h : wpI (fun t l s S2 => wpX d mX8_text t l s S2 R) (wpM d) R 15 0 B_X8_text_13 ls st S) : wpX d mX8_text 13 ls st S R := x_step (by decide +kernel) h
def B_X8_text_15 : List AIn := [(.iload_n 2, 2, 0, 0), (.ifCond .ge 9, 25, 0, 0), (.aload_n 0, 0, 0, 0), (.iconst 5, 5, 0, 0), (.invokevirtual 81, 107, 2, 7)]
theorem s_X8_text_15 {d : Nat} {ls st : List AV} {S : MS} {R : Option AV → MS → Prop} (h : wpI (fun t l s S2 => wpX d mX8_text t l s S2 R) (wpM d) R 24 7 B_X8_text_15 ls st S) : wpX d mX8_text 15 ls st S R := x_step (by decide +kernel) h
def B_X8_text_24 : List AIn := [(.ireturn, 0, 0, 0)]
theorem s_X8_text_24 {d : Nat} {ls st : List AV} {S : MS} {R : Option AV → MS → Prop} (h : wpI (fun t l s S2 => wpX d mX8_text t l s S2 R) (wpM d) R 25 0 B_X8_text_24 ls st S) : wpX d mX8_text 24 ls st S R := x_step (by decide +kernel) h
def B_X8_text_25 : List AIn := [(.aload_n 0, 0, 0, 0), (.getfield 19, 1, 7, 0), (.iload_n 1, 1, 0, 0), (.iload_n 2, 2, 0, 0), (.invokevirtual 124, 38, 3, 5)]
theorem s_X8_text_25 {d : Nat} {ls st : List AV} {S : MS} {R : Option AV → MS → Prop} (h : wpI (fun t l s S2 => wpX d mX8_text t l s S2 R) (wpM d) R 34 3 B_X8_text_25 ls st S) : wpX d mX8_text 25 ls st S R := x_step (by decide +kernel) h
def B_X8_text_34 : List AIn := [(.iload_n 2, 2, 0, 0), (.ireturn, 0, 0, 0)]
theorem s_X8_text_34 {d : Nat} {ls st : List AV} {S : MS} {R : Option AV → MS → Prop} (h : wpI (fun t l s S2 => wpX d mX8_text t l s S2 R) (wpM d) R 36 0 B_X8_text_34 ls st S) : wpX d mX8_text 34 ls st S R := x_step (by decide +kernel) h
-- NinthDay.put(III)I
def B_X8_put_0 : List AIn := [(.iload_n 1, 1, 0, 0), (.invokestatic 121, 112, 1, 0)]
theorem s_X8_put_0 {d : Nat} {ls st : List AV} {S : MS} {R : Option AV → MS → Prop} (h : wpI (fun t l s S2 => wpX d mX8_put t l s S2 R) (wpM d) R 4 16 B_X8_put_0 ls st S) : wpX d mX8_put 0 ls st S R := x_step (by decide +kernel) h
def B_X8_put_4 : List AIn := [(.ifCond .ne 5, 9, 16, 0), (.iconst (-1), 1, 1, 0), (.ireturn, 0, 0, 0)]
theorem s_X8_put_4 {d : Nat} {ls st : List AV} {S : MS} {R : Option AV → MS → Prop} (h : wpI (fun t l s S2 => wpX d mX8_put t l s S2 R) (wpM d) R 9 0 B_X8_put_4 ls st S) : wpX d mX8_put 4 ls st S R := x_step (by decide +kernel) h
def B_X8_put_9 : List AIn := [(.aload_n 0, 0, 0, 0), (.getfield 19, 1, 7, 0), (.iload_n 1, 1, 0, 0), (.invokevirtual 125, 36, 2, 5)]
theorem s_X8_put_9 {d : Nat} {ls st : List AV} {S : MS} {R : Option AV → MS → Prop} (h : wpI (fun t l s S2 => wpX d mX8_put t l s S2 R) (wpM d) R 17 16 B_X8_put_9 ls st S) : wpX d mX8_put 9 ls st S R := x_step (by decide +kernel) h
def B_X8_put_17 : List AIn := [(.ifCond .ne 9, 26, 16, 0), (.aload_n 0, 0, 0, 0), (.iconst 1, 1, 0, 0), (.invokevirtual 81, 107, 2, 7)]
theorem s_X8_put_17 {d : Nat} {ls st : List AV} {S : MS} {R : Option AV → MS → Prop} (h : wpI (fun t l s S2 => wpX d mX8_put t l s S2 R) (wpM d) R 25 31 B_X8_put_17 ls st S) : wpX d mX8_put 17 ls st S R := x_step (by decide +kernel) h
def B_X8_put_25 : List AIn := [(.ireturn, 0, 0, 0)]
theorem s_X8_put_25 {d : Nat} {ls st : List AV} {S : MS} {R : Option AV → MS → Prop} (h : wpI (fun t l s S2 => wpX d mX8_put t l s S2 R) (wpM d) R 26 0 B_X8_put_25 ls st S) : wpX d mX8_put 25 ls st S R := x_step (by decide +kernel) h
def B_X8_put_26 : List AIn := [(.iload_n 2, 2, 0, 0), (.ifCond .lt 15, 42, 30, 0), (.iload_n 2, 2, 0, 0), (.aload_n 0, 0, 0, 0), (.getfield 19, 1, 7, 0), (.iload_n 1, 1, 0, 0), (.invokevirtual 126, 37, 2, 5)]
theorem s_X8_put_26 {d : Nat} {ls st : List AV} {S : MS} {R : Option AV → MS → Prop} (h : wpI (fun t l s S2 => wpX d mX8_put t l s S2 R) (wpM d) R 39 16 B_X8_put_26 ls st S) : wpX d mX8_put 26 ls st S R := x_step (by decide +kernel) h
def B_X8_put_39 : List AIn := [(.if_icmp .lt 9, 48, 16, 0)]
theorem s_X8_put_39 {d : Nat} {ls st : List AV} {S : MS} {R : Option AV → MS → Prop} (h : wpI (fun t l s S2 => wpX d mX8_put t l s S2 R) (wpM d) R 42 30 B_X8_put_39 ls st S) : wpX d mX8_put 39 ls st S R := x_step (by decide +kernel) h
def B_X8_put_42 : List AIn := [(.aload_n 0, 0, 0, 0), (.iconst 2, 2, 0, 0), (.invokevirtual 81, 107, 2, 7)]
theorem s_X8_put_42 {d : Nat} {ls st : List AV} {S : MS} {R : Option AV → MS → Prop} (h : wpI (fun t l s S2 => wpX d mX8_put t l s S2 R) (wpM d) R 47 31 B_X8_put_42 ls st S) : wpX d mX8_put 42 ls st S R := x_step (by decide +kernel) h
def B_X8_put_47 : List AIn := [(.ireturn, 0, 0, 0)]
theorem s_X8_put_47 {d : Nat} {ls st : List AV} {S : MS} {R : Option AV → MS → Prop} (h : wpI (fun t l s S2 => wpX d mX8_put t l s S2 R) (wpM d) R 48 0 B_X8_put_47 ls st S) : wpX d mX8_put 47 ls st S R := x_step (by decide +kernel) h
def B_X8_put_48 : List AIn := [(.aload_n 0, 0, 0, 0), (.getfield 19, 1, 7, 0), (.iload_n 1, 1, 0, 0), (.iload_n 2, 2, 0, 0), (.invokevirtual 127, 39, 3, 5)]
theorem s_X8_put_48 {d : Nat} {ls st : List AV} {S : MS} {R : Option AV → MS → Prop} (h : wpI (fun t l s S2 => wpX d mX8_put t l s S2 R) (wpM d) R 57 16 B_X8_put_48 ls st S) : wpX d mX8_put 48 ls st S R := x_step (by decide +kernel) h
def B_X8_put_57 : List AIn := [(.istore 4, 4, 0, 0), (.aload_n 0, 0, 0, 0), (.getfield 19, 1, 7, 0), (.iload_n 1, 1, 0, 0), (.iload_n 2, 2, 0, 0), (.iload_n 3, 3, 0, 0), (.invokevirtual 128, 40, 4, 5)]
theorem s_X8_put_57 {d : Nat} {ls st : List AV} {S : MS} {R : Option AV → MS → Prop} (h : wpI (fun t l s S2 => wpX d mX8_put t l s S2 R) (wpM d) R 69 15 B_X8_put_57 ls st S) : wpX d mX8_put 57 ls st S R := x_step (by decide +kernel) h
def B_X8_put_69 : List AIn := [(.iload 4, 4, 0, 0), (.sipush 1000, 1000, 0, 0), (.iadd, 0, 0, 0), (.ireturn, 0, 0, 0)]
theorem s_X8_put_69 {d : Nat} {ls st : List AV} {S : MS} {R : Option AV → MS → Prop} (h : wpI (fun t l s S2 => wpX d mX8_put t l s S2 R) (wpM d) R 76 0 B_X8_put_69 ls st S) : wpX d mX8_put 69 ls st S R := x_step (by decide +kernel) h
-- NinthDay.fault(I)I
def B_X8_fault_0 : List AIn := [(.iload_n 1, 1, 0, 0), (.invokestatic 121, 112, 1, 0)]
theorem s_X8_fault_0 {d : Nat} {ls st : List AV} {S : MS} {R : Option AV → MS → Prop} (h : wpI (fun t l s S2 => wpX d mX8_fault t l s S2 R) (wpM d) R 4 0 B_X8_fault_0 ls st S) : wpX d mX8_fault 0 ls st S R := x_step (by decide +kernel) h
def B_X8_fault_4 : List AIn := [(.ifCond .ne 5, 9, 0, 0), (.iconst (-1), 1, 1, 0), (.ireturn, 0, 0, 0)]
theorem s_X8_fault_4 {d : Nat} {ls st : List AV} {S : MS} {R : Option AV → MS → Prop} (h : wpI (fun t l s S2 => wpX d mX8_fault t l s S2 R) (wpM d) R 9 0 B_X8_fault_4 ls st S) : wpX d mX8_fault 4 ls st S R := x_step (by decide +kernel) h
def B_X8_fault_9 : List AIn := [(.aload_n 0, 0, 0, 0), (.getfield 19, 1, 7, 0), (.iload_n 1, 1, 0, 0), (.invokevirtual 125, 36, 2, 5)]
theorem s_X8_fault_9 {d : Nat} {ls st : List AV} {S : MS} {R : Option AV → MS → Prop} (h : wpI (fun t l s S2 => wpX d mX8_fault t l s S2 R) (wpM d) R 17 0 B_X8_fault_9 ls st S) : wpX d mX8_fault 9 ls st S R := x_step (by decide +kernel) h
def B_X8_fault_17 : List AIn := [(.ifCond .ne 9, 26, 0, 0), (.aload_n 0, 0, 0, 0), (.iconst 1, 1, 0, 0), (.invokevirtual 81, 107, 2, 7)]
theorem s_X8_fault_17 {d : Nat} {ls st : List AV} {S : MS} {R : Option AV → MS → Prop} (h : wpI (fun t l s S2 => wpX d mX8_fault t l s S2 R) (wpM d) R 25 3 B_X8_fault_17 ls st S) : wpX d mX8_fault 17 ls st S R := x_step (by decide +kernel) h
def B_X8_fault_25 : List AIn := [(.ireturn, 0, 0, 0)]
theorem s_X8_fault_25 {d : Nat} {ls st : List AV} {S : MS} {R : Option AV → MS → Prop} (h : wpI (fun t l s S2 => wpX d mX8_fault t l s S2 R) (wpM d) R 26 0 B_X8_fault_25 ls st S) : wpX d mX8_fault 25 ls st S R := x_step (by decide +kernel) h
def B_X8_fault_26 : List AIn := [(.aload_n 0, 0, 0, 0), (.getfield 41, 5, 7, 0), (.iload_n 1, 1, 0, 0), (.aload_n 0, 0, 0, 0), (.getfield 33, 4, 7, 0), (.invokevirtual 129, 20, 3, 2)]
theorem s_X8_fault_26 {d : Nat} {ls st : List AV} {S : MS} {R : Option AV → MS → Prop} (h : wpI (fun t l s S2 => wpX d mX8_fault t l s S2 R) (wpM d) R 38 3 B_X8_fault_26 ls st S) : wpX d mX8_fault 26 ls st S R := x_step (by decide +kernel) h
def B_X8_fault_38 : List AIn := [(.ireturn, 0, 0, 0)]
theorem s_X8_fault_38 {d : Nat} {ls st : List AV} {S : MS} {R : Option AV → MS → Prop} (h : wpI (fun t l s S2 => wpX d mX8_fault t l s S2 R) (wpM d) R 39 0 B_X8_fault_38 ls st S) : wpX d mX8_fault 38 ls st S R := x_step (by decide +kernel) h
-- NinthDay.year(I)I
def B_X8_year_0 : List AIn := [(.iload_n 1, 1, 0, 0), (.invokestatic 121, 112, 1, 0)]
theorem s_X8_year_0 {d : Nat} {ls st : List AV} {S : MS} {R : Option AV → MS → Prop} (h : wpI (fun t l s S2 => wpX d mX8_year t l s S2 R) (wpM d) R 4 0 B_X8_year_0 ls st S) : wpX d mX8_year 0 ls st S R := x_step (by decide +kernel) h
def B_X8_year_4 : List AIn := [(.ifCond .ne 5, 9, 0, 0), (.iconst (-1), 1, 1, 0), (.ireturn, 0, 0, 0)]
theorem s_X8_year_4 {d : Nat} {ls st : List AV} {S : MS} {R : Option AV → MS → Prop} (h : wpI (fun t l s S2 => wpX d mX8_year t l s S2 R) (wpM d) R 9 0 B_X8_year_4 ls st S) : wpX d mX8_year 4 ls st S R := x_step (by decide +kernel) h
def B_X8_year_9 : List AIn := [(.aload_n 0, 0, 0, 0), (.getfield 19, 1, 7, 0), (.iload_n 1, 1, 0, 0), (.invokevirtual 125, 36, 2, 5)]
theorem s_X8_year_9 {d : Nat} {ls st : List AV} {S : MS} {R : Option AV → MS → Prop} (h : wpI (fun t l s S2 => wpX d mX8_year t l s S2 R) (wpM d) R 17 0 B_X8_year_9 ls st S) : wpX d mX8_year 9 ls st S R := x_step (by decide +kernel) h
def B_X8_year_17 : List AIn := [(.ifCond .ne 9, 26, 0, 0), (.aload_n 0, 0, 0, 0), (.iconst 1, 1, 0, 0), (.invokevirtual 81, 107, 2, 7)]
theorem s_X8_year_17 {d : Nat} {ls st : List AV} {S : MS} {R : Option AV → MS → Prop} (h : wpI (fun t l s S2 => wpX d mX8_year t l s S2 R) (wpM d) R 25 3 B_X8_year_17 ls st S) : wpX d mX8_year 17 ls st S R := x_step (by decide +kernel) h
def B_X8_year_25 : List AIn := [(.ireturn, 0, 0, 0)]
theorem s_X8_year_25 {d : Nat} {ls st : List AV} {S : MS} {R : Option AV → MS → Prop} (h : wpI (fun t l s S2 => wpX d mX8_year t l s S2 R) (wpM d) R 26 0 B_X8_year_25 ls st S) : wpX d mX8_year 25 ls st S R := x_step (by decide +kernel) h
def B_X8_year_26 : List AIn := [(.aload_n 0, 0, 0, 0), (.getfield 41, 5, 7, 0), (.iload_n 1, 1, 0, 0), (.aload_n 0, 0, 0, 0), (.getfield 33, 4, 7, 0), (.invokevirtual 129, 20, 3, 2)]
theorem s_X8_year_26 {d : Nat} {ls st : List AV} {S : MS} {R : Option AV → MS → Prop} (h : wpI (fun t l s S2 => wpX d mX8_year t l s S2 R) (wpM d) R 38 2 B_X8_year_26 ls st S) : wpX d mX8_year 26 ls st S R := x_step (by decide +kernel) h
def B_X8_year_38 : List AIn := [(.bipush (-9), 9, 1, 0), (.if_icmp .eq 6, 46, 2, 0), (.bipush (-4), 4, 1, 0), (.ireturn, 0, 0, 0)]
theorem s_X8_year_38 {d : Nat} {ls st : List AV} {S : MS} {R : Option AV → MS → Prop} (h : wpI (fun t l s S2 => wpX d mX8_year t l s S2 R) (wpM d) R 46 0 B_X8_year_38 ls st S) : wpX d mX8_year 38 ls st S R := x_step (by decide +kernel) h
def B_X8_year_46 : List AIn := [(.aload_n 0, 0, 0, 0), (.getfield 26, 2, 7, 0), (.aload_n 0, 0, 0, 0), (.getfield 33, 4, 7, 0), (.invokevirtual 133, 45, 2, 6)]
theorem s_X8_year_46 {d : Nat} {ls st : List AV} {S : MS} {R : Option AV → MS → Prop} (h : wpI (fun t l s S2 => wpX d mX8_year t l s S2 R) (wpM d) R 57 2 B_X8_year_46 ls st S) : wpX d mX8_year 46 ls st S R := x_step (by decide +kernel) h
def B_X8_year_57 : List AIn := [(.aload_n 0, 0, 0, 0), (.getfield 30, 3, 7, 0), (.aload_n 0, 0, 0, 0), (.getfield 33, 4, 7, 0), (.invokevirtual 133, 45, 2, 6)]
theorem s_X8_year_57 {d : Nat} {ls st : List AV} {S : MS} {R : Option AV → MS → Prop} (h : wpI (fun t l s S2 => wpX d mX8_year t l s S2 R) (wpM d) R 68 2 B_X8_year_57 ls st S) : wpX d mX8_year 57 ls st S R := x_step (by decide +kernel) h
def B_X8_year_68 : List AIn := [(.aload_n 0, 0, 0, 0), (.getfield 48, 6, 7, 0), (.invokevirtual 137, 6, 1, 0)]
theorem s_X8_year_68 {d : Nat} {ls st : List AV} {S : MS} {R : Option AV → MS → Prop} (h : wpI (fun t l s S2 => wpX d mX8_year t l s S2 R) (wpM d) R 75 2 B_X8_year_68 ls st S) : wpX d mX8_year 68 ls st S R := x_step (by decide +kernel) h
def B_X8_year_75 : List AIn := [(.aload_n 0, 0, 0, 0), (.getfield 30, 3, 7, 0), (.getfield 140, 7, 6, 0), (.ireturn, 0, 0, 0)]
theorem s_X8_year_75 {d : Nat} {ls st : List AV} {S : MS} {R : Option AV → MS → Prop} (h : wpI (fun t l s S2 => wpX d mX8_year t l s S2 R) (wpM d) R 83 0 B_X8_year_75 ls st S) : wpX d mX8_year 75 ls st S R := x_step (by decide +kernel) h
-- NinthDay.deed(II)I
def B_X8_deed_0 : List AIn := [(.aload_n 0, 0, 0, 0), (.iload_n 1, 1, 0, 0), (.invokevirtual 143, 116, 2, 7)]
theorem s_X8_deed_0 {d : Nat} {ls st : List AV} {S : MS} {R : Option AV → MS → Prop} (h : wpI (fun t l s S2 => wpX d mX8_deed t l s S2 R) (wpM d) R 5 0 B_X8_deed_0 ls st S) : wpX d mX8_deed 0 ls st S R := x_step (by decide +kernel) h
def B_X8_deed_5 : List AIn := [(.ifCond .eq 13, 18, 7, 0), (.iload_n 2, 2, 0, 0), (.ifCond .lt 9, 18, 7, 0), (.iload_n 2, 2, 0, 0), (.bipush 8, 8, 0, 0), (.if_icmp .lt 5, 20, 0, 0)]
theorem s_X8_deed_5 {d : Nat} {ls st : List AV} {S : MS} {R : Option AV → MS → Prop} (h : wpI (fun t l s S2 => wpX d mX8_deed t l s S2 R) (wpM d) R 18 7 B_X8_deed_5 ls st S) : wpX d mX8_deed 5 ls st S R := x_step (by decide +kernel) h
def B_X8_deed_18 : List AIn := [(.iconst (-1), 1, 1, 0), (.ireturn, 0, 0, 0)]
theorem s_X8_deed_18 {d : Nat} {ls st : List AV} {S : MS} {R : Option AV → MS → Prop} (h : wpI (fun t l s S2 => wpX d mX8_deed t l s S2 R) (wpM d) R 20 0 B_X8_deed_18 ls st S) : wpX d mX8_deed 18 ls st S R := x_step (by decide +kernel) h
def B_X8_deed_20 : List AIn := [(.aload_n 0, 0, 0, 0), (.aload_n 0, 0, 0, 0), (.getfield 30, 3, 7, 0), (.iload_n 1, 1, 0, 0), (.iload_n 2, 2, 0, 0), (.invokevirtual 146, 46, 3, 6)]
theorem s_X8_deed_20 {d : Nat} {ls st : List AV} {S : MS} {R : Option AV → MS → Prop} (h : wpI (fun t l s S2 => wpX d mX8_deed t l s S2 R) (wpM d) R 30 7 B_X8_deed_20 ls st S) : wpX d mX8_deed 20 ls st S R := x_step (by decide +kernel) h
def B_X8_deed_30 : List AIn := [(.invokevirtual 100, 108, 2, 7)]
theorem s_X8_deed_30 {d : Nat} {ls st : List AV} {S : MS} {R : Option AV → MS → Prop} (h : wpI (fun t l s S2 => wpX d mX8_deed t l s S2 R) (wpM d) R 33 7 B_X8_deed_30 ls st S) : wpX d mX8_deed 30 ls st S R := x_step (by decide +kernel) h
def B_X8_deed_33 : List AIn := [(.ireturn, 0, 0, 0)]
theorem s_X8_deed_33 {d : Nat} {ls st : List AV} {S : MS} {R : Option AV → MS → Prop} (h : wpI (fun t l s S2 => wpX d mX8_deed t l s S2 R) (wpM d) R 34 0 B_X8_deed_33 ls st S) : wpX d mX8_deed 33 ls st S R := x_step (by decide +kernel) h
-- NinthDay.mark(II)I
def B_X8_mark_0 : List AIn := [(.aload_n 0, 0, 0, 0), (.iload_n 1, 1, 0, 0), (.invokevirtual 143, 116, 2, 7)]
theorem s_X8_mark_0 {d : Nat} {ls st : List AV} {S : MS} {R : Option AV → MS → Prop} (h : wpI (fun t l s S2 => wpX d mX8_mark t l s S2 R) (wpM d) R 5 8 B_X8_mark_0 ls st S) : wpX d mX8_mark 0 ls st S R := x_step (by decide +kernel) h
def B_X8_mark_5 : List AIn := [(.ifCond .eq 13, 18, 15, 0), (.iload_n 2, 2, 0, 0), (.ifCond .le 9, 18, 15, 0), (.iload_n 2, 2, 0, 0), (.bipush 6, 6, 0, 0), (.if_icmp .lt 5, 20, 8, 0)]
theorem s_X8_mark_5 {d : Nat} {ls st : List AV} {S : MS} {R : Option AV → MS → Prop} (h : wpI (fun t l s S2 => wpX d mX8_mark t l s S2 R) (wpM d) R 18 15 B_X8_mark_5 ls st S) : wpX d mX8_mark 5 ls st S R := x_step (by decide +kernel) h
def B_X8_mark_18 : List AIn := [(.iconst (-1), 1, 1, 0), (.ireturn, 0, 0, 0)]
theorem s_X8_mark_18 {d : Nat} {ls st : List AV} {S : MS} {R : Option AV → MS → Prop} (h : wpI (fun t l s S2 => wpX d mX8_mark t l s S2 R) (wpM d) R 20 0 B_X8_mark_18 ls st S) : wpX d mX8_mark 18 ls st S R := x_step (by decide +kernel) h
def B_X8_mark_20 : List AIn := [(.aload_n 0, 0, 0, 0), (.getfield 30, 3, 7, 0), (.getfield 151, 0, 6, 0), (.iload_n 1, 1, 0, 0), (.iaload, 0, 0, 0), (.iload_n 2, 2, 0, 0), (.invokestatic 154, 12, 2, 0)]
theorem s_X8_mark_20 {d : Nat} {ls st : List AV} {S : MS} {R : Option AV → MS → Prop} (h : wpI (fun t l s S2 => wpX d mX8_mark t l s S2 R) (wpM d) R 33 8 B_X8_mark_20 ls st S) : wpX d mX8_mark 20 ls st S R := x_step (by decide +kernel) h
def B_X8_mark_33 : List AIn := [(.ifCond .ne 9, 42, 8, 0), (.aload_n 0, 0, 0, 0), (.iconst 3, 3, 0, 0), (.invokevirtual 81, 107, 2, 7)]
theorem s_X8_mark_33 {d : Nat} {ls st : List AV} {S : MS} {R : Option AV → MS → Prop} (h : wpI (fun t l s S2 => wpX d mX8_mark t l s S2 R) (wpM d) R 41 15 B_X8_mark_33 ls st S) : wpX d mX8_mark 33 ls st S R := x_step (by decide +kernel) h
def B_X8_mark_41 : List AIn := [(.ireturn, 0, 0, 0)]
theorem s_X8_mark_41 {d : Nat} {ls st : List AV} {S : MS} {R : Option AV → MS → Prop} (h : wpI (fun t l s S2 => wpX d mX8_mark t l s S2 R) (wpM d) R 42 0 B_X8_mark_41 ls st S) : wpX d mX8_mark 41 ls st S R := x_step (by decide +kernel) h
def B_X8_mark_42 : List AIn := [(.aload_n 0, 0, 0, 0), (.getfield 30, 3, 7, 0), (.iload_n 1, 1, 0, 0), (.invokevirtual 158, 51, 2, 6)]
theorem s_X8_mark_42 {d : Nat} {ls st : List AV} {S : MS} {R : Option AV → MS → Prop} (h : wpI (fun t l s S2 => wpX d mX8_mark t l s S2 R) (wpM d) R 50 8 B_X8_mark_42 ls st S) : wpX d mX8_mark 42 ls st S R := x_step (by decide +kernel) h
def B_X8_mark_50 : List AIn := [(.istore_n 3, 3, 0, 0), (.iload_n 2, 2, 0, 0), (.tableswitch 107 1 4 #[32, 46, 65, 88], 52, 4, 0)]
theorem s_X8_mark_50 {d : Nat} {ls st : List AV} {S : MS} {R : Option AV → MS → Prop} (h : wpI (fun t l s S2 => wpX d mX8_mark t l s S2 R) (wpM d) R 84 0 B_X8_mark_50 ls st S) : wpX d mX8_mark 50 ls st S R := x_step (by decide +kernel) h
def B_X8_mark_84 : List AIn := [(.iconst 3, 3, 0, 0), (.aload_n 0, 0, 0, 0), (.getfield 30, 3, 7, 0), (.getfield 161, 8, 6, 0), (.iconst 3, 3, 0, 0), (.irem, 0, 0, 0), (.isub, 0, 0, 0), (.iconst 3, 3, 0, 0), (.irem, 0, 0, 0), (.ireturn, 0, 0, 0)]
theorem s_X8_mark_84 {d : Nat} {ls st : List AV} {S : MS} {R : Option AV → MS → Prop} (h : wpI (fun t l s S2 => wpX d mX8_mark t l s S2 R) (wpM d) R 98 0 B_X8_mark_84 ls st S) : wpX d mX8_mark 84 ls st S R := x_step (by decide +kernel) h
def B_X8_mark_98 : List AIn := [(.iload_n 3, 3, 0, 0), (.aload_n 0, 0, 0, 0), (.getfield 30, 3, 7, 0), (.iload_n 1, 1, 0, 0), (.iconst 0, 0, 0, 0), (.aload_n 0, 0, 0, 0), (.getfield 30, 3, 7, 0), (.getfield 161, 8, 6, 0), (.invokevirtual 164, 52, 4, 6)]
theorem s_X8_mark_98 {d : Nat} {ls st : List AV} {S : MS} {R : Option AV → MS → Prop} (h : wpI (fun t l s S2 => wpX d mX8_mark t l s S2 R) (wpM d) R 115 15 B_X8_mark_98 ls st S) : wpX d mX8_mark 98 ls st S R := x_step (by decide +kernel) h
def B_X8_mark_115 : List AIn := [(.isub, 0, 0, 0), (.ireturn, 0, 0, 0)]
theorem s_X8_mark_115 {d : Nat} {ls st : List AV} {S : MS} {R : Option AV → MS → Prop} (h : wpI (fun t l s S2 => wpX d mX8_mark t l s S2 R) (wpM d) R 117 0 B_X8_mark_115 ls st S) : wpX d mX8_mark 115 ls st S R := x_step (by decide +kernel) h
def B_X8_mark_117 : List AIn := [(.iconst 0, 0, 0, 0), (.aload_n 0, 0, 0, 0), (.getfield 30, 3, 7, 0), (.iload_n 1, 1, 0, 0), (.iconst 0, 0, 0, 0), (.aload_n 0, 0, 0, 0), (.getfield 30, 3, 7, 0), (.getfield 161, 8, 6, 0), (.invokevirtual 164, 52, 4, 6)]
theorem s_X8_mark_117 {d : Nat} {ls st : List AV} {S : MS} {R : Option AV → MS → Prop} (h : wpI (fun t l s S2 => wpX d mX8_mark t l s S2 R) (wpM d) R 134 7 B_X8_mark_117 ls st S) : wpX d mX8_mark 117 ls st S R := x_step (by decide +kernel) h
def B_X8_mark_134 : List AIn := [(.iload_n 3, 3, 0, 0), (.isub, 0, 0, 0), (.invokestatic 168, 0, 0, 2), (.ireturn, 0, 0, 0)]
theorem s_X8_mark_134 {d : Nat} {ls st : List AV} {S : MS} {R : Option AV → MS → Prop} (h : wpI (fun t l s S2 => wpX d mX8_mark t l s S2 R) (wpM d) R 140 0 B_X8_mark_134 ls st S) : wpX d mX8_mark 134 ls st S R := x_step (by decide +kernel) h
def B_X8_mark_140 : List AIn := [(.aload_n 0, 0, 0, 0), (.getfield 30, 3, 7, 0), (.iload_n 1, 1, 0, 0), (.iconst 1, 1, 0, 0), (.aload_n 0, 0, 0, 0), (.getfield 30, 3, 7, 0), (.getfield 161, 8, 6, 0), (.invokevirtual 164, 52, 4, 6)]
theorem s_X8_mark_140 {d : Nat} {ls st : List AV} {S : MS} {R : Option AV → MS → Prop} (h : wpI (fun t l s S2 => wpX d mX8_mark t l s S2 R) (wpM d) R 156 7 B_X8_mark_140 ls st S) : wpX d mX8_mark 140 ls st S R := x_step (by decide +kernel) h
def B_X8_mark_156 : List AIn := [(.iload_n 3, 3, 0, 0), (.isub, 0, 0, 0), (.ireturn, 0, 0, 0)]
theorem s_X8_mark_156 {d : Nat} {ls st : List AV} {S : MS} {R : Option AV → MS → Prop} (h : wpI (fun t l s S2 => wpX d mX8_mark t l s S2 R) (wpM d) R 159 0 B_X8_mark_156 ls st S) : wpX d mX8_mark 156 ls st S R := x_step (by decide +kernel) h
def B_X8_mark_159 : List AIn := [(.aload_n 0, 0, 0, 0), (.getfield 30, 3, 7, 0), (.getfield 173, 4, 6, 0), (.iload_n 1, 1, 0, 0), (.iaload, 0, 0, 0), (.ifCond .ne 7, 175, 15, 0), (.iconst 1, 1, 0, 0), (.goto 4, 176, 15, 0)]
theorem s_X8_mark_159 {d : Nat} {ls st : List AV} {S : MS} {R : Option AV → MS → Prop} (h : wpI (fun t l s S2 => wpX d mX8_mark t l s S2 R) (wpM d) R 175 0 B_X8_mark_159 ls st S) : wpX d mX8_mark 159 ls st S R := x_step (by decide +kernel) h
def B_X8_mark_175 : List AIn := [(.iconst 0, 0, 0, 0)]
theorem s_X8_mark_175 {d : Nat} {ls st : List AV} {S : MS} {R : Option AV → MS → Prop} (h : wpI (fun t l s S2 => wpX d mX8_mark t l s S2 R) (wpM d) R 176 15 B_X8_mark_175 ls st S) : wpX d mX8_mark 175 ls st S R := x_step (by decide +kernel) h
def B_X8_mark_176 : List AIn := [(.ireturn, 0, 0, 0)]
theorem s_X8_mark_176 {d : Nat} {ls st : List AV} {S : MS} {R : Option AV → MS → Prop} (h : wpI (fun t l s S2 => wpX d mX8_mark t l s S2 R) (wpM d) R 177 0 B_X8_mark_176 ls st S) : wpX d mX8_mark 176 ls st S R := x_step (by decide +kernel) h
-- NinthDay.day(II)I
def B_X8_day_0 : List AIn := [(.aload_n 0, 0, 0, 0), (.iload_n 1, 1, 0, 0), (.invokevirtual 176, 117, 2, 7)]
theorem s_X8_day_0 {d : Nat} {ls st : List AV} {S : MS} {R : Option AV → MS → Prop} (h : wpI (fun t l s S2 => wpX d mX8_day t l s S2 R) (wpM d) R 5 0 B_X8_day_0 ls st S) : wpX d mX8_day 0 ls st S R := x_step (by decide +kernel) h
def B_X8_day_5 : List AIn := [(.ifCond .eq 31, 36, 7, 0), (.aload_n 0, 0, 0, 0), (.iload_n 2, 2, 0, 0), (.invokevirtual 176, 117, 2, 7)]
theorem s_X8_day_5 {d : Nat} {ls st : List AV} {S : MS} {R : Option AV → MS → Prop} (h : wpI (fun t l s S2 => wpX d mX8_day t l s S2 R) (wpM d) R 13 0 B_X8_day_5 ls st S) : wpX d mX8_day 5 ls st S R := x_step (by decide +kernel) h
def B_X8_day_13 : List AIn := [(.ifCond .eq 23, 36, 7, 0), (.iload_n 1, 1, 0, 0), (.iload_n 2, 2, 0, 0), (.iand, 0, 0, 0), (.ifCond .ne 17, 36, 7, 0), (.iload_n 1, 1, 0, 0), (.iload_n 2, 2, 0, 0), (.ior, 0, 0, 0), (.aload_n 0, 0, 0, 0), (.getfield 30, 3, 7, 0), (.getfield 179, 11, 6, 0), (.iand, 0, 0, 0), (.ifCond .eq 5, 38, 0, 0)]
theorem s_X8_day_13 {d : Nat} {ls st : List AV} {S : MS} {R : Option AV → MS → Prop} (h : wpI (fun t l s S2 => wpX d mX8_day t l s S2 R) (wpM d) R 36 7 B_X8_day_13 ls st S) : wpX d mX8_day 13 ls st S R := x_step (by decide +kernel) h
def B_X8_day_36 : List AIn := [(.iconst (-1), 1, 1, 0), (.ireturn, 0, 0, 0)]
theorem s_X8_day_36 {d : Nat} {ls st : List AV} {S : MS} {R : Option AV → MS → Prop} (h : wpI (fun t l s S2 => wpX d mX8_day t l s S2 R) (wpM d) R 38 0 B_X8_day_36 ls st S) : wpX d mX8_day 36 ls st S R := x_step (by decide +kernel) h
def B_X8_day_38 : List AIn := [(.aload_n 0, 0, 0, 0), (.getfield 30, 3, 7, 0), (.getfield 140, 7, 6, 0), (.ifCond .ne 6, 51, 0, 0), (.bipush (-4), 4, 1, 0), (.ireturn, 0, 0, 0)]
theorem s_X8_day_38 {d : Nat} {ls st : List AV} {S : MS} {R : Option AV → MS → Prop} (h : wpI (fun t l s S2 => wpX d mX8_day t l s S2 R) (wpM d) R 51 0 B_X8_day_38 ls st S) : wpX d mX8_day 38 ls st S R := x_step (by decide +kernel) h
def B_X8_day_51 : List AIn := [(.aload_n 0, 0, 0, 0), (.getfield 30, 3, 7, 0), (.invokevirtual 182, 53, 1, 6)]
theorem s_X8_day_51 {d : Nat} {ls st : List AV} {S : MS} {R : Option AV → MS → Prop} (h : wpI (fun t l s S2 => wpX d mX8_day t l s S2 R) (wpM d) R 58 0 B_X8_day_51 ls st S) : wpX d mX8_day 51 ls st S R := x_step (by decide +kernel) h
def B_X8_day_58 : List AIn := [(.iload_n 1, 1, 0, 0), (.iaload, 0, 0, 0), (.aload_n 0, 0, 0, 0), (.getfield 30, 3, 7, 0), (.getfield 186, 9, 6, 0), (.if_icmp .gt 17, 84, 7, 0), (.iload_n 2, 2, 0, 0), (.invokestatic 189, 223, 1, 0)]
theorem s_X8_day_58 {d : Nat} {ls st : List AV} {S : MS} {R : Option AV → MS → Prop} (h : wpI (fun t l s S2 => wpX d mX8_day t l s S2 R) (wpM d) R 74 0 B_X8_day_58 ls st S) : wpX d mX8_day 58 ls st S R := x_step (by decide +kernel) h
def B_X8_day_74 : List AIn := [(.aload_n 0, 0, 0, 0), (.getfield 30, 3, 7, 0), (.getfield 194, 10, 6, 0), (.if_icmp .le 6, 87, 0, 0)]
theorem s_X8_day_74 {d : Nat} {ls st : List AV} {S : MS} {R : Option AV → MS → Prop} (h : wpI (fun t l s S2 => wpX d mX8_day t l s S2 R) (wpM d) R 84 7 B_X8_day_74 ls st S) : wpX d mX8_day 74 ls st S R := x_step (by decide +kernel) h
def B_X8_day_84 : List AIn := [(.bipush (-6), 6, 1, 0), (.ireturn, 0, 0, 0)]
theorem s_X8_day_84 {d : Nat} {ls st : List AV} {S : MS} {R : Option AV → MS → Prop} (h : wpI (fun t l s S2 => wpX d mX8_day t l s S2 R) (wpM d) R 87 0 B_X8_day_84 ls st S) : wpX d mX8_day 84 ls st S R := x_step (by decide +kernel) h
def B_X8_day_87 : List AIn := [(.aload_n 0, 0, 0, 0), (.getfield 48, 6, 7, 0), (.iconst 1, 1, 0, 0), (.invokevirtual 197, 4, 2, 0)]
theorem s_X8_day_87 {d : Nat} {ls st : List AV} {S : MS} {R : Option AV → MS → Prop} (h : wpI (fun t l s S2 => wpX d mX8_day t l s S2 R) (wpM d) R 95 0 B_X8_day_87 ls st S) : wpX d mX8_day 87 ls st S R := x_step (by decide +kernel) h
def B_X8_day_95 : List AIn := [(.ifCond .ne 6, 101, 0, 0), (.bipush (-2), 2, 1, 0), (.ireturn, 0, 0, 0)]
theorem s_X8_day_95 {d : Nat} {ls st : List AV} {S : MS} {R : Option AV → MS → Prop} (h : wpI (fun t l s S2 => wpX d mX8_day t l s S2 R) (wpM d) R 101 0 B_X8_day_95 ls st S) : wpX d mX8_day 95 ls st S R := x_step (by decide +kernel) h
def B_X8_day_101 : List AIn := [(.aload_n 0, 0, 0, 0), (.iconst 0, 0, 0, 0), (.iload_n 1, 1, 0, 0), (.iload_n 2, 2, 0, 0), (.invokestatic 200, 0, 3, 0)]
theorem s_X8_day_101 {d : Nat} {ls st : List AV} {S : MS} {R : Option AV → MS → Prop} (h : wpI (fun t l s S2 => wpX d mX8_day t l s S2 R) (wpM d) R 108 5 B_X8_day_101 ls st S) : wpX d mX8_day 101 ls st S R := x_step (by decide +kernel) h
def B_X8_day_108 : List AIn := [(.invokevirtual 203, 109, 2, 7)]
theorem s_X8_day_108 {d : Nat} {ls st : List AV} {S : MS} {R : Option AV → MS → Prop} (h : wpI (fun t l s S2 => wpX d mX8_day t l s S2 R) (wpM d) R 111 5 B_X8_day_108 ls st S) : wpX d mX8_day 108 ls st S R := x_step (by decide +kernel) h
def B_X8_day_111 : List AIn := [(.iload_n 1, 1, 0, 0), (.invokestatic 189, 223, 1, 0)]
theorem s_X8_day_111 {d : Nat} {ls st : List AV} {S : MS} {R : Option AV → MS → Prop} (h : wpI (fun t l s S2 => wpX d mX8_day t l s S2 R) (wpM d) R 115 7 B_X8_day_111 ls st S) : wpX d mX8_day 111 ls st S R := x_step (by decide +kernel) h
def B_X8_day_115 : List AIn := [(.ireturn, 0, 0, 0)]
theorem s_X8_day_115 {d : Nat} {ls st : List AV} {S : MS} {R : Option AV → MS → Prop} (h : wpI (fun t l s S2 => wpX d mX8_day t l s S2 R) (wpM d) R 116 0 B_X8_day_115 ls st S) : wpX d mX8_day 115 ls st S R := x_step (by decide +kernel) h
-- NinthDay.drop(I)I
def B_X8_drop_0 : List AIn := [(.aload_n 0, 0, 0, 0), (.iload_n 1, 1, 0, 0), (.invokevirtual 143, 116, 2, 7)]
theorem s_X8_drop_0 {d : Nat} {ls st : List AV} {S : MS} {R : Option AV → MS → Prop} (h : wpI (fun t l s S2 => wpX d mX8_drop t l s S2 R) (wpM d) R 5 0 B_X8_drop_0 ls st S) : wpX d mX8_drop 0 ls st S R := x_step (by decide +kernel) h
def B_X8_drop_5 : List AIn := [(.ifCond .ne 5, 10, 0, 0), (.iconst (-1), 1, 1, 0), (.ireturn, 0, 0, 0)]
theorem s_X8_drop_5 {d : Nat} {ls st : List AV} {S : MS} {R : Option AV → MS → Prop} (h : wpI (fun t l s S2 => wpX d mX8_drop t l s S2 R) (wpM d) R 10 0 B_X8_drop_5 ls st S) : wpX d mX8_drop 5 ls st S R := x_step (by decide +kernel) h
def B_X8_drop_10 : List AIn := [(.aload_n 0, 0, 0, 0), (.getfield 30, 3, 7, 0), (.iload_n 1, 1, 0, 0), (.invokevirtual 206, 47, 2, 6)]
theorem s_X8_drop_10 {d : Nat} {ls st : List AV} {S : MS} {R : Option AV → MS → Prop} (h : wpI (fun t l s S2 => wpX d mX8_drop t l s S2 R) (wpM d) R 18 0 B_X8_drop_10 ls st S) : wpX d mX8_drop 10 ls st S R := x_step (by decide +kernel) h
def B_X8_drop_18 : List AIn := [(.ifCond .eq 6, 24, 0, 0), (.bipush (-4), 4, 1, 0), (.ireturn, 0, 0, 0)]
theorem s_X8_drop_18 {d : Nat} {ls st : List AV} {S : MS} {R : Option AV → MS → Prop} (h : wpI (fun t l s S2 => wpX d mX8_drop t l s S2 R) (wpM d) R 24 0 B_X8_drop_18 ls st S) : wpX d mX8_drop 18 ls st S R := x_step (by decide +kernel) h
def B_X8_drop_24 : List AIn := [(.aload_n 0, 0, 0, 0), (.getfield 48, 6, 7, 0), (.iconst 1, 1, 0, 0), (.invokevirtual 197, 4, 2, 0)]
theorem s_X8_drop_24 {d : Nat} {ls st : List AV} {S : MS} {R : Option AV → MS → Prop} (h : wpI (fun t l s S2 => wpX d mX8_drop t l s S2 R) (wpM d) R 32 0 B_X8_drop_24 ls st S) : wpX d mX8_drop 24 ls st S R := x_step (by decide +kernel) h
def B_X8_drop_32 : List AIn := [(.ifCond .ne 6, 38, 0, 0), (.bipush (-2), 2, 1, 0), (.ireturn, 0, 0, 0)]
theorem s_X8_drop_32 {d : Nat} {ls st : List AV} {S : MS} {R : Option AV → MS → Prop} (h : wpI (fun t l s S2 => wpX d mX8_drop t l s S2 R) (wpM d) R 38 0 B_X8_drop_32 ls st S) : wpX d mX8_drop 32 ls st S R := x_step (by decide +kernel) h
def B_X8_drop_38 : List AIn := [(.aload_n 0, 0, 0, 0), (.iconst 1, 1, 0, 0), (.iload_n 1, 1, 0, 0), (.iconst 0, 0, 0, 0), (.invokestatic 200, 0, 3, 0)]
theorem s_X8_drop_38 {d : Nat} {ls st : List AV} {S : MS} {R : Option AV → MS → Prop} (h : wpI (fun t l s S2 => wpX d mX8_drop t l s S2 R) (wpM d) R 45 2 B_X8_drop_38 ls st S) : wpX d mX8_drop 38 ls st S R := x_step (by decide +kernel) h
def B_X8_drop_45 : List AIn := [(.invokevirtual 203, 109, 2, 7)]
theorem s_X8_drop_45 {d : Nat} {ls st : List AV} {S : MS} {R : Option AV → MS → Prop} (h : wpI (fun t l s S2 => wpX d mX8_drop t l s S2 R) (wpM d) R 48 2 B_X8_drop_45 ls st S) : wpX d mX8_drop 45 ls st S R := x_step (by decide +kernel) h
def B_X8_drop_48 : List AIn := [(.aload_n 0, 0, 0, 0), (.getfield 30, 3, 7, 0), (.invokevirtual 209, 48, 1, 6)]
theorem s_X8_drop_48 {d : Nat} {ls st : List AV} {S : MS} {R : Option AV → MS → Prop} (h : wpI (fun t l s S2 => wpX d mX8_drop t l s S2 R) (wpM d) R 55 3 B_X8_drop_48 ls st S) : wpX d mX8_drop 48 ls st S R := x_step (by decide +kernel) h
def B_X8_drop_55 : List AIn := [(.invokestatic 189, 223, 1, 0)]
theorem s_X8_drop_55 {d : Nat} {ls st : List AV} {S : MS} {R : Option AV → MS → Prop} (h : wpI (fun t l s S2 => wpX d mX8_drop t l s S2 R) (wpM d) R 58 3 B_X8_drop_55 ls st S) : wpX d mX8_drop 55 ls st S R := x_step (by decide +kernel) h
def B_X8_drop_58 : List AIn := [(.ireturn, 0, 0, 0)]
theorem s_X8_drop_58 {d : Nat} {ls st : List AV} {S : MS} {R : Option AV → MS → Prop} (h : wpI (fun t l s S2 => wpX d mX8_drop t l s S2 R) (wpM d) R 59 0 B_X8_drop_58 ls st S) : wpX d mX8_drop 58 ls st S R := x_step (by decide +kernel) h
-- NinthDay.take(I)I
def B_X8_take_0 : List AIn := [(.aload_n 0, 0, 0, 0), (.iload_n 1, 1, 0, 0), (.invokevirtual 143, 116, 2, 7)]
theorem s_X8_take_0 {d : Nat} {ls st : List AV} {S : MS} {R : Option AV → MS → Prop} (h : wpI (fun t l s S2 => wpX d mX8_take t l s S2 R) (wpM d) R 5 0 B_X8_take_0 ls st S) : wpX d mX8_take 0 ls st S R := x_step (by decide +kernel) h
def B_X8_take_5 : List AIn := [(.ifCond .ne 5, 10, 0, 0), (.iconst (-1), 1, 1, 0), (.ireturn, 0, 0, 0)]
theorem s_X8_take_5 {d : Nat} {ls st : List AV} {S : MS} {R : Option AV → MS → Prop} (h : wpI (fun t l s S2 => wpX d mX8_take t l s S2 R) (wpM d) R 10 0 B_X8_take_5 ls st S) : wpX d mX8_take 5 ls st S R := x_step (by decide +kernel) h
def B_X8_take_10 : List AIn := [(.aload_n 0, 0, 0, 0), (.getfield 30, 3, 7, 0), (.iload_n 1, 1, 0, 0), (.invokevirtual 206, 47, 2, 6)]
theorem s_X8_take_10 {d : Nat} {ls st : List AV} {S : MS} {R : Option AV → MS → Prop} (h : wpI (fun t l s S2 => wpX d mX8_take t l s S2 R) (wpM d) R 18 0 B_X8_take_10 ls st S) : wpX d mX8_take 10 ls st S R := x_step (by decide +kernel) h
def B_X8_take_18 : List AIn := [(.ifCond .ne 6, 24, 0, 0), (.bipush (-4), 4, 1, 0), (.ireturn, 0, 0, 0)]
theorem s_X8_take_18 {d : Nat} {ls st : List AV} {S : MS} {R : Option AV → MS → Prop} (h : wpI (fun t l s S2 => wpX d mX8_take t l s S2 R) (wpM d) R 24 0 B_X8_take_18 ls st S) : wpX d mX8_take 18 ls st S R := x_step (by decide +kernel) h
def B_X8_take_24 : List AIn := [(.aload_n 0, 0, 0, 0), (.getfield 48, 6, 7, 0), (.iconst 1, 1, 0, 0), (.invokevirtual 197, 4, 2, 0)]
theorem s_X8_take_24 {d : Nat} {ls st : List AV} {S : MS} {R : Option AV → MS → Prop} (h : wpI (fun t l s S2 => wpX d mX8_take t l s S2 R) (wpM d) R 32 0 B_X8_take_24 ls st S) : wpX d mX8_take 24 ls st S R := x_step (by decide +kernel) h
def B_X8_take_32 : List AIn := [(.ifCond .ne 6, 38, 0, 0), (.bipush (-2), 2, 1, 0), (.ireturn, 0, 0, 0)]
theorem s_X8_take_32 {d : Nat} {ls st : List AV} {S : MS} {R : Option AV → MS → Prop} (h : wpI (fun t l s S2 => wpX d mX8_take t l s S2 R) (wpM d) R 38 0 B_X8_take_32 ls st S) : wpX d mX8_take 32 ls st S R := x_step (by decide +kernel) h
def B_X8_take_38 : List AIn := [(.aload_n 0, 0, 0, 0), (.iconst 2, 2, 0, 0), (.iload_n 1, 1, 0, 0), (.iconst 0, 0, 0, 0), (.invokestatic 200, 0, 3, 0)]
theorem s_X8_take_38 {d : Nat} {ls st : List AV} {S : MS} {R : Option AV → MS → Prop} (h : wpI (fun t l s S2 => wpX d mX8_take t l s S2 R) (wpM d) R 45 2 B_X8_take_38 ls st S) : wpX d mX8_take 38 ls st S R := x_step (by decide +kernel) h
def B_X8_take_45 : List AIn := [(.invokevirtual 203, 109, 2, 7)]
theorem s_X8_take_45 {d : Nat} {ls st : List AV} {S : MS} {R : Option AV → MS → Prop} (h : wpI (fun t l s S2 => wpX d mX8_take t l s S2 R) (wpM d) R 48 2 B_X8_take_45 ls st S) : wpX d mX8_take 45 ls st S R := x_step (by decide +kernel) h
def B_X8_take_48 : List AIn := [(.aload_n 0, 0, 0, 0), (.getfield 30, 3, 7, 0), (.invokevirtual 209, 48, 1, 6)]
theorem s_X8_take_48 {d : Nat} {ls st : List AV} {S : MS} {R : Option AV → MS → Prop} (h : wpI (fun t l s S2 => wpX d mX8_take t l s S2 R) (wpM d) R 55 3 B_X8_take_48 ls st S) : wpX d mX8_take 48 ls st S R := x_step (by decide +kernel) h
def B_X8_take_55 : List AIn := [(.invokestatic 189, 223, 1, 0)]
theorem s_X8_take_55 {d : Nat} {ls st : List AV} {S : MS} {R : Option AV → MS → Prop} (h : wpI (fun t l s S2 => wpX d mX8_take t l s S2 R) (wpM d) R 58 3 B_X8_take_55 ls st S) : wpX d mX8_take 55 ls st S R := x_step (by decide +kernel) h
def B_X8_take_58 : List AIn := [(.ireturn, 0, 0, 0)]
theorem s_X8_take_58 {d : Nat} {ls st : List AV} {S : MS} {R : Option AV → MS → Prop} (h : wpI (fun t l s S2 => wpX d mX8_take t l s S2 R) (wpM d) R 59 0 B_X8_take_58 ls st S) : wpX d mX8_take 58 ls st S R := x_step (by decide +kernel) h
-- NinthDay.will(I)I
def B_X8_will_0 : List AIn := [(.iload_n 1, 1, 0, 0), (.ifCond .lt 9, 10, 7, 0), (.iload_n 1, 1, 0, 0), (.bipush 40, 40, 0, 0), (.if_icmp .le 5, 12, 4, 0)]
theorem s_X8_will_0 {d : Nat} {ls st : List AV} {S : MS} {R : Option AV → MS → Prop} (h : wpI (fun t l s S2 => wpX d mX8_will t l s S2 R) (wpM d) R 10 7 B_X8_will_0 ls st S) : wpX d mX8_will 0 ls st S R := x_step (by decide +kernel) h
def B_X8_will_10 : List AIn := [(.iconst (-1), 1, 1, 0), (.ireturn, 0, 0, 0)]
theorem s_X8_will_10 {d : Nat} {ls st : List AV} {S : MS} {R : Option AV → MS → Prop} (h : wpI (fun t l s S2 => wpX d mX8_will t l s S2 R) (wpM d) R 12 0 B_X8_will_10 ls st S) : wpX d mX8_will 10 ls st S R := x_step (by decide +kernel) h
def B_X8_will_12 : List AIn := [(.aload_n 0, 0, 0, 0), (.getfield 30, 3, 7, 0), (.getfield 140, 7, 6, 0), (.ifCond .eq 14, 33, 7, 0), (.aload_n 0, 0, 0, 0), (.getfield 30, 3, 7, 0), (.getfield 186, 9, 6, 0), (.iload_n 1, 1, 0, 0), (.if_icmp .ne 6, 36, 4, 0)]
theorem s_X8_will_12 {d : Nat} {ls st : List AV} {S : MS} {R : Option AV → MS → Prop} (h : wpI (fun t l s S2 => wpX d mX8_will t l s S2 R) (wpM d) R 33 7 B_X8_will_12 ls st S) : wpX d mX8_will 12 ls st S R := x_step (by decide +kernel) h
def B_X8_will_33 : List AIn := [(.bipush (-4), 4, 1, 0), (.ireturn, 0, 0, 0)]
theorem s_X8_will_33 {d : Nat} {ls st : List AV} {S : MS} {R : Option AV → MS → Prop} (h : wpI (fun t l s S2 => wpX d mX8_will t l s S2 R) (wpM d) R 36 0 B_X8_will_33 ls st S) : wpX d mX8_will 33 ls st S R := x_step (by decide +kernel) h
def B_X8_will_36 : List AIn := [(.aload_n 0, 0, 0, 0), (.getfield 48, 6, 7, 0), (.iconst 1, 1, 0, 0), (.invokevirtual 197, 4, 2, 0)]
theorem s_X8_will_36 {d : Nat} {ls st : List AV} {S : MS} {R : Option AV → MS → Prop} (h : wpI (fun t l s S2 => wpX d mX8_will t l s S2 R) (wpM d) R 44 4 B_X8_will_36 ls st S) : wpX d mX8_will 36 ls st S R := x_step (by decide +kernel) h
def B_X8_will_44 : List AIn := [(.ifCond .ne 6, 50, 4, 0), (.bipush (-2), 2, 1, 0), (.ireturn, 0, 0, 0)]
theorem s_X8_will_44 {d : Nat} {ls st : List AV} {S : MS} {R : Option AV → MS → Prop} (h : wpI (fun t l s S2 => wpX d mX8_will t l s S2 R) (wpM d) R 50 0 B_X8_will_44 ls st S) : wpX d mX8_will 44 ls st S R := x_step (by decide +kernel) h
def B_X8_will_50 : List AIn := [(.aload_n 0, 0, 0, 0), (.getfield 30, 3, 7, 0), (.getfield 186, 9, 6, 0), (.istore_n 2, 2, 0, 0), (.aload_n 0, 0, 0, 0), (.iconst 3, 3, 0, 0), (.iload_n 1, 1, 0, 0), (.iconst 0, 0, 0, 0), (.invokestatic 200, 0, 3, 0)]
theorem s_X8_will_50 {d : Nat} {ls st : List AV} {S : MS} {R : Option AV → MS → Prop} (h : wpI (fun t l s S2 => wpX d mX8_will t l s S2 R) (wpM d) R 65 3 B_X8_will_50 ls st S) : wpX d mX8_will 50 ls st S R := x_step (by decide +kernel) h
def B_X8_will_65 : List AIn := [(.invokevirtual 203, 109, 2, 7)]
theorem s_X8_will_65 {d : Nat} {ls st : List AV} {S : MS} {R : Option AV → MS → Prop} (h : wpI (fun t l s S2 => wpX d mX8_will t l s S2 R) (wpM d) R 68 3 B_X8_will_65 ls st S) : wpX d mX8_will 65 ls st S R := x_step (by decide +kernel) h
def B_X8_will_68 : List AIn := [(.iload_n 2, 2, 0, 0), (.ireturn, 0, 0, 0)]
theorem s_X8_will_68 {d : Nat} {ls st : List AV} {S : MS} {R : Option AV → MS → Prop} (h : wpI (fun t l s S2 => wpX d mX8_will t l s S2 R) (wpM d) R 70 0 B_X8_will_68 ls st S) : wpX d mX8_will 68 ls st S R := x_step (by decide +kernel) h
-- NinthDay.undo(I)I
def B_X8_undo_0 : List AIn := [(.iload_n 1, 1, 0, 0), (.ifCond .lt 14, 15, 7, 0), (.iload_n 1, 1, 0, 0), (.aload_n 0, 0, 0, 0), (.getfield 48, 6, 7, 0), (.getfield 213, 3, 0, 0), (.if_icmp .le 5, 17, 4, 0)]
theorem s_X8_undo_0 {d : Nat} {ls st : List AV} {S : MS} {R : Option AV → MS → Prop} (h : wpI (fun t l s S2 => wpX d mX8_undo t l s S2 R) (wpM d) R 15 7 B_X8_undo_0 ls st S) : wpX d mX8_undo 0 ls st S R := x_step (by decide +kernel) h
def B_X8_undo_15 : List AIn := [(.iconst (-1), 1, 1, 0), (.ireturn, 0, 0, 0)]
theorem s_X8_undo_15 {d : Nat} {ls st : List AV} {S : MS} {R : Option AV → MS → Prop} (h : wpI (fun t l s S2 => wpX d mX8_undo t l s S2 R) (wpM d) R 17 0 B_X8_undo_15 ls st S) : wpX d mX8_undo 15 ls st S R := x_step (by decide +kernel) h
def B_X8_undo_17 : List AIn := [(.aload_n 0, 0, 0, 0), (.getfield 48, 6, 7, 0), (.getfield 213, 3, 0, 0), (.iload_n 1, 1, 0, 0), (.isub, 0, 0, 0), (.istore_n 2, 2, 0, 0), (.aload_n 0, 0, 0, 0), (.getfield 48, 6, 7, 0), (.iload_n 1, 1, 0, 0), (.putfield 213, 3, 0, 0), (.aload_n 0, 0, 0, 0), (.invokevirtual 214, 110, 1, 7)]
theorem s_X8_undo_17 {d : Nat} {ls st : List AV} {S : MS} {R : Option AV → MS → Prop} (h : wpI (fun t l s S2 => wpX d mX8_undo t l s S2 R) (wpM d) R 39 3 B_X8_undo_17 ls st S) : wpX d mX8_undo 17 ls st S R := x_step (by decide +kernel) h
def B_X8_undo_39 : List AIn := [(.iload_n 2, 2, 0, 0), (.ireturn, 0, 0, 0)]
theorem s_X8_undo_39 {d : Nat} {ls st : List AV} {S : MS} {R : Option AV → MS → Prop} (h : wpI (fun t l s S2 => wpX d mX8_undo t l s S2 R) (wpM d) R 41 0 B_X8_undo_39 ls st S) : wpX d mX8_undo 39 ls st S R := x_step (by decide +kernel) h
-- NinthDay.keep(I)I
def B_X8_keep_0 : List AIn := [(.iload_n 1, 1, 0, 0), (.invokestatic 217, 113, 1, 0)]
theorem s_X8_keep_0 {d : Nat} {ls st : List AV} {S : MS} {R : Option AV → MS → Prop} (h : wpI (fun t l s S2 => wpX d mX8_keep t l s S2 R) (wpM d) R 4 0 B_X8_keep_0 ls st S) : wpX d mX8_keep 0 ls st S R := x_step (by decide +kernel) h
def B_X8_keep_4 : List AIn := [(.ifCond .ne 5, 9, 0, 0), (.iconst (-1), 1, 1, 0), (.ireturn, 0, 0, 0)]
theorem s_X8_keep_4 {d : Nat} {ls st : List AV} {S : MS} {R : Option AV → MS → Prop} (h : wpI (fun t l s S2 => wpX d mX8_keep t l s S2 R) (wpM d) R 9 0 B_X8_keep_4 ls st S) : wpX d mX8_keep 4 ls st S R := x_step (by decide +kernel) h
def B_X8_keep_9 : List AIn := [(.aload_n 0, 0, 0, 0), (.getfield 30, 3, 7, 0), (.getfield 140, 7, 6, 0), (.ifCond .ne 6, 22, 0, 0), (.bipush (-4), 4, 1, 0), (.ireturn, 0, 0, 0)]
theorem s_X8_keep_9 {d : Nat} {ls st : List AV} {S : MS} {R : Option AV → MS → Prop} (h : wpI (fun t l s S2 => wpX d mX8_keep t l s S2 R) (wpM d) R 22 0 B_X8_keep_9 ls st S) : wpX d mX8_keep 9 ls st S R := x_step (by decide +kernel) h
def B_X8_keep_22 : List AIn := [(.aload_n 0, 0, 0, 0), (.getfield 48, 6, 7, 0), (.iload_n 1, 1, 0, 0), (.invokevirtual 220, 9, 2, 0)]
theorem s_X8_keep_22 {d : Nat} {ls st : List AV} {S : MS} {R : Option AV → MS → Prop} (h : wpI (fun t l s S2 => wpX d mX8_keep t l s S2 R) (wpM d) R 30 2 B_X8_keep_22 ls st S) : wpX d mX8_keep 22 ls st S R := x_step (by decide +kernel) h
def B_X8_keep_30 : List AIn := [(.aload_n 0, 0, 0, 0), (.getfield 48, 6, 7, 0), (.getfield 213, 3, 0, 0), (.ireturn, 0, 0, 0)]
theorem s_X8_keep_30 {d : Nat} {ls st : List AV} {S : MS} {R : Option AV → MS → Prop} (h : wpI (fun t l s S2 => wpX d mX8_keep t l s S2 R) (wpM d) R 38 0 B_X8_keep_30 ls st S) : wpX d mX8_keep 30 ls st S R := x_step (by decide +kernel) h
-- NinthDay.on(I)I
def B_X8_on_0 : List AIn := [(.iload_n 1, 1, 0, 0), (.invokestatic 217, 113, 1, 0)]
theorem s_X8_on_0 {d : Nat} {ls st : List AV} {S : MS} {R : Option AV → MS → Prop} (h : wpI (fun t l s S2 => wpX d mX8_on t l s S2 R) (wpM d) R 4 0 B_X8_on_0 ls st S) : wpX d mX8_on 0 ls st S R := x_step (by decide +kernel) h
def B_X8_on_4 : List AIn := [(.ifCond .ne 5, 9, 0, 0), (.iconst (-1), 1, 1, 0), (.ireturn, 0, 0, 0)]
theorem s_X8_on_4 {d : Nat} {ls st : List AV} {S : MS} {R : Option AV → MS → Prop} (h : wpI (fun t l s S2 => wpX d mX8_on t l s S2 R) (wpM d) R 9 0 B_X8_on_4 ls st S) : wpX d mX8_on 4 ls st S R := x_step (by decide +kernel) h
def B_X8_on_9 : List AIn := [(.aload_n 0, 0, 0, 0), (.getfield 48, 6, 7, 0), (.iload_n 1, 1, 0, 0), (.invokevirtual 223, 7, 2, 0)]
theorem s_X8_on_9 {d : Nat} {ls st : List AV} {S : MS} {R : Option AV → MS → Prop} (h : wpI (fun t l s S2 => wpX d mX8_on t l s S2 R) (wpM d) R 17 0 B_X8_on_9 ls st S) : wpX d mX8_on 9 ls st S R := x_step (by decide +kernel) h
def B_X8_on_17 : List AIn := [(.ifCond .ge 9, 26, 0, 0), (.aload_n 0, 0, 0, 0), (.iconst 1, 1, 0, 0), (.invokevirtual 81, 107, 2, 7)]
theorem s_X8_on_17 {d : Nat} {ls st : List AV} {S : MS} {R : Option AV → MS → Prop} (h : wpI (fun t l s S2 => wpX d mX8_on t l s S2 R) (wpM d) R 25 3 B_X8_on_17 ls st S) : wpX d mX8_on 17 ls st S R := x_step (by decide +kernel) h
def B_X8_on_25 : List AIn := [(.ireturn, 0, 0, 0)]
theorem s_X8_on_25 {d : Nat} {ls st : List AV} {S : MS} {R : Option AV → MS → Prop} (h : wpI (fun t l s S2 => wpX d mX8_on t l s S2 R) (wpM d) R 26 0 B_X8_on_25 ls st S) : wpX d mX8_on 25 ls st S R := x_step (by decide +kernel) h
def B_X8_on_26 : List AIn := [(.aload_n 0, 0, 0, 0), (.getfield 48, 6, 7, 0), (.iload_n 1, 1, 0, 0), (.invokevirtual 226, 10, 2, 0)]
theorem s_X8_on_26 {d : Nat} {ls st : List AV} {S : MS} {R : Option AV → MS → Prop} (h : wpI (fun t l s S2 => wpX d mX8_on t l s S2 R) (wpM d) R 34 2 B_X8_on_26 ls st S) : wpX d mX8_on 26 ls st S R := x_step (by decide +kernel) h
def B_X8_on_34 : List AIn := [(.aload_n 0, 0, 0, 0), (.invokevirtual 214, 110, 1, 7)]
theorem s_X8_on_34 {d : Nat} {ls st : List AV} {S : MS} {R : Option AV → MS → Prop} (h : wpI (fun t l s S2 => wpX d mX8_on t l s S2 R) (wpM d) R 38 2 B_X8_on_34 ls st S) : wpX d mX8_on 34 ls st S R := x_step (by decide +kernel) h
def B_X8_on_38 : List AIn := [(.aload_n 0, 0, 0, 0), (.getfield 48, 6, 7, 0), (.getfield 213, 3, 0, 0), (.ireturn, 0, 0, 0)]
theorem s_X8_on_38 {d : Nat} {ls st : List AV} {S : MS} {R : Option AV → MS → Prop} (h : wpI (fun t l s S2 => wpX d mX8_on t l s S2 R) (wpM d) R 46 0 B_X8_on_38 ls st S) : wpX d mX8_on 38 ls st S R := x_step (by decide +kernel) h
-- NinthDay.cost(I)I
def B_X8_cost_0 : List AIn := [(.aload_n 0, 0, 0, 0), (.iload_n 1, 1, 0, 0), (.invokevirtual 176, 117, 2, 7)]
theorem s_X8_cost_0 {d : Nat} {ls st : List AV} {S : MS} {R : Option AV → MS → Prop} (h : wpI (fun t l s S2 => wpX d mX8_cost t l s S2 R) (wpM d) R 5 0 B_X8_cost_0 ls st S) : wpX d mX8_cost 0 ls st S R := x_step (by decide +kernel) h
def B_X8_cost_5 : List AIn := [(.ifCond .ne 5, 10, 0, 0), (.iconst (-1), 1, 1, 0), (.ireturn, 0, 0, 0)]
theorem s_X8_cost_5 {d : Nat} {ls st : List AV} {S : MS} {R : Option AV → MS → Prop} (h : wpI (fun t l s S2 => wpX d mX8_cost t l s S2 R) (wpM d) R 10 0 B_X8_cost_5 ls st S) : wpX d mX8_cost 5 ls st S R := x_step (by decide +kernel) h
def B_X8_cost_10 : List AIn := [(.aload_n 0, 0, 0, 0), (.getfield 30, 3, 7, 0), (.invokevirtual 182, 53, 1, 6)]
theorem s_X8_cost_10 {d : Nat} {ls st : List AV} {S : MS} {R : Option AV → MS → Prop} (h : wpI (fun t l s S2 => wpX d mX8_cost t l s S2 R) (wpM d) R 17 1 B_X8_cost_10 ls st S) : wpX d mX8_cost 10 ls st S R := x_step (by decide +kernel) h
def B_X8_cost_17 : List AIn := [(.iload_n 1, 1, 0, 0), (.iaload, 0, 0, 0), (.ireturn, 0, 0, 0)]
theorem s_X8_cost_17 {d : Nat} {ls st : List AV} {S : MS} {R : Option AV → MS → Prop} (h : wpI (fun t l s S2 => wpX d mX8_cost t l s S2 R) (wpM d) R 20 0 B_X8_cost_17 ls st S) : wpX d mX8_cost 17 ls st S R := x_step (by decide +kernel) h
-- NinthDay.most()I
def B_X8_most_0 : List AIn := [(.aload_n 0, 0, 0, 0), (.getfield 30, 3, 7, 0), (.getfield 140, 7, 6, 0), (.ifCond .ne 6, 13, 30, 0), (.bipush (-4), 4, 1, 0), (.ireturn, 0, 0, 0)]
theorem s_X8_most_0 {d : Nat} {ls st : List AV} {S : MS} {R : Option AV → MS → Prop} (h : wpI (fun t l s S2 => wpX d mX8_most t l s S2 R) (wpM d) R 13 0 B_X8_most_0 ls st S) : wpX d mX8_most 0 ls st S R := x_step (by decide +kernel) h
def B_X8_most_13 : List AIn := [(.aload_n 0, 0, 0, 0), (.getfield 30, 3, 7, 0), (.invokevirtual 182, 53, 1, 6)]
theorem s_X8_most_13 {d : Nat} {ls st : List AV} {S : MS} {R : Option AV → MS → Prop} (h : wpI (fun t l s S2 => wpX d mX8_most t l s S2 R) (wpM d) R 20 30 B_X8_most_13 ls st S) : wpX d mX8_most 13 ls st S R := x_step (by decide +kernel) h
def B_X8_most_20 : List AIn := [(.astore_n 1, 1, 0, 0), (.aload_n 0, 0, 0, 0), (.getfield 30, 3, 7, 0), (.invokevirtual 209, 48, 1, 6)]
theorem s_X8_most_20 {d : Nat} {ls st : List AV} {S : MS} {R : Option AV → MS → Prop} (h : wpI (fun t l s S2 => wpX d mX8_most t l s S2 R) (wpM d) R 28 28 B_X8_most_20 ls st S) : wpX d mX8_most 20 ls st S R := x_step (by decide +kernel) h
def B_X8_most_28 : List AIn := [(.istore_n 2, 2, 0, 0), (.iconst 0, 0, 0, 0), (.istore_n 3, 3, 0, 0), (.iconst 1, 1, 0, 0), (.istore 4, 4, 0, 0)]
theorem s_X8_most_28 {d : Nat} {ls st : List AV} {S : MS} {R : Option AV → MS → Prop} (h : wpI (fun t l s S2 => wpX d mX8_most t l s S2 R) (wpM d) R 34 0 B_X8_most_28 ls st S) : wpX d mX8_most 28 ls st S R := x_step (by decide +kernel) h
def B_X8_most_34 : List AIn := [(.iload 4, 4, 0, 0), (.bipush 32, 32, 0, 0), (.if_icmp .ge 45, 83, 22, 0), (.iload 4, 4, 0, 0), (.iload_n 2, 2, 0, 0), (.iconst (-1), 1, 1, 0), (.ixor, 0, 0, 0), (.iand, 0, 0, 0), (.ifCond .ne 30, 77, 0, 0), (.aload_n 1, 1, 0, 0), (.iload 4, 4, 0, 0), (.iaload, 0, 0, 0), (.aload_n 0, 0, 0, 0), (.getfield 30, 3, 7, 0), (.getfield 186, 9, 6, 0), (.if_icmp .gt 16, 77, 0, 0), (.iload 4, 4, 0, 0), (.iload_n 3, 3, 0, 0), (.aload_n 1, 1, 0, 0), (.invokestatic 229, 121, 3, 0)]
theorem s_X8_most_34 {d : Nat} {ls st : List AV} {S : MS} {R : Option AV → MS → Prop} (h : wpI (fun t l s S2 => wpX d mX8_most t l s S2 R) (wpM d) R 71 0 B_X8_most_34 ls st S) : wpX d mX8_most 34 ls st S R := x_step (by decide +kernel) h
def B_X8_most_71 : List AIn := [(.ifCond .eq 6, 77, 0, 0), (.iload 4, 4, 0, 0), (.istore_n 3, 3, 0, 0)]
theorem s_X8_most_71 {d : Nat} {ls st : List AV} {S : MS} {R : Option AV → MS → Prop} (h : wpI (fun t l s S2 => wpX d mX8_most t l s S2 R) (wpM d) R 77 0 B_X8_most_71 ls st S) : wpX d mX8_most 71 ls st S R := x_step (by decide +kernel) h
def B_X8_most_77 : List AIn := [(.iinc 4 1, 1, 0, 0), (.goto (-46), 34, 0, 0)]
theorem s_X8_most_77 {d : Nat} {ls st : List AV} {S : MS} {R : Option AV → MS → Prop} (h : wpI (fun t l s S2 => wpX d mX8_most t l s S2 R) (wpM d) R 83 0 B_X8_most_77 ls st S) : wpX d mX8_most 77 ls st S R := x_step (by decide +kernel) h
def B_X8_most_83 : List AIn := [(.aload_n 0, 0, 0, 0), (.iload_n 3, 3, 0, 0), (.putfield 74, 11, 7, 0), (.iload_n 3, 3, 0, 0), (.invokestatic 189, 223, 1, 0)]
theorem s_X8_most_83 {d : Nat} {ls st : List AV} {S : MS} {R : Option AV → MS → Prop} (h : wpI (fun t l s S2 => wpX d mX8_most t l s S2 R) (wpM d) R 92 31 B_X8_most_83 ls st S) : wpX d mX8_most 83 ls st S R := x_step (by decide +kernel) h
def B_X8_most_92 : List AIn := [(.ireturn, 0, 0, 0)]
theorem s_X8_most_92 {d : Nat} {ls st : List AV} {S : MS} {R : Option AV → MS → Prop} (h : wpI (fun t l s S2 => wpX d mX8_most t l s S2 R) (wpM d) R 93 0 B_X8_most_92 ls st S) : wpX d mX8_most 92 ls st S R := x_step (by decide +kernel) h
-- NinthDay.rule(I)I
def B_X8_rule_0 : List AIn := [(.iload_n 1, 1, 0, 0), (.invokestatic 233, 114, 1, 0)]
theorem s_X8_rule_0 {d : Nat} {ls st : List AV} {S : MS} {R : Option AV → MS → Prop} (h : wpI (fun t l s S2 => wpX d mX8_rule t l s S2 R) (wpM d) R 4 4 B_X8_rule_0 ls st S) : wpX d mX8_rule 0 ls st S R := x_step (by decide +kernel) h
def B_X8_rule_4 : List AIn := [(.ifCond .ne 5, 9, 4, 0), (.iconst (-1), 1, 1, 0), (.ireturn, 0, 0, 0)]
theorem s_X8_rule_4 {d : Nat} {ls st : List AV} {S : MS} {R : Option AV → MS → Prop} (h : wpI (fun t l s S2 => wpX d mX8_rule t l s S2 R) (wpM d) R 9 0 B_X8_rule_4 ls st S) : wpX d mX8_rule 4 ls st S R := x_step (by decide +kernel) h
def B_X8_rule_9 : List AIn := [(.aload_n 0, 0, 0, 0), (.getfield 30, 3, 7, 0), (.getfield 140, 7, 6, 0), (.ifCond .ne 6, 22, 4, 0), (.bipush (-4), 4, 1, 0), (.ireturn, 0, 0, 0)]
theorem s_X8_rule_9 {d : Nat} {ls st : List AV} {S : MS} {R : Option AV → MS → Prop} (h : wpI (fun t l s S2 => wpX d mX8_rule t l s S2 R) (wpM d) R 22 0 B_X8_rule_9 ls st S) : wpX d mX8_rule 9 ls st S R := x_step (by decide +kernel) h
def B_X8_rule_22 : List AIn := [(.aload_n 0, 0, 0, 0), (.getfield 30, 3, 7, 0), (.iload_n 1, 1, 0, 0), (.invokevirtual 236, 56, 2, 6)]
theorem s_X8_rule_22 {d : Nat} {ls st : List AV} {S : MS} {R : Option AV → MS → Prop} (h : wpI (fun t l s S2 => wpX d mX8_rule t l s S2 R) (wpM d) R 30 6 B_X8_rule_22 ls st S) : wpX d mX8_rule 22 ls st S R := x_step (by decide +kernel) h
def B_X8_rule_30 : List AIn := [(.istore_n 2, 2, 0, 0), (.aload_n 0, 0, 0, 0), (.aload_n 0, 0, 0, 0), (.getfield 30, 3, 7, 0), (.invokevirtual 182, 53, 1, 6)]
theorem s_X8_rule_30 {d : Nat} {ls st : List AV} {S : MS} {R : Option AV → MS → Prop} (h : wpI (fun t l s S2 => wpX d mX8_rule t l s S2 R) (wpM d) R 39 3 B_X8_rule_30 ls st S) : wpX d mX8_rule 30 ls st S R := x_step (by decide +kernel) h
def B_X8_rule_39 : List AIn := [(.iload_n 2, 2, 0, 0), (.iaload, 0, 0, 0), (.putfield 74, 11, 7, 0), (.iload_n 2, 2, 0, 0), (.ireturn, 0, 0, 0)]
theorem s_X8_rule_39 {d : Nat} {ls st : List AV} {S : MS} {R : Option AV → MS → Prop} (h : wpI (fun t l s S2 => wpX d mX8_rule t l s S2 R) (wpM d) R 46 0 B_X8_rule_39 ls st S) : wpX d mX8_rule 39 ls st S R := x_step (by decide +kernel) h
-- NinthDay.plan(II)I
def B_X8_plan_0 : List AIn := [(.iload_n 1, 1, 0, 0), (.ifCond .lt 15, 16, 31, 0), (.iload_n 1, 1, 0, 0), (.iconst 3, 3, 0, 0), (.if_icmp .gt 10, 16, 31, 0), (.iload_n 2, 2, 0, 0), (.invokestatic 77, 111, 1, 0)]
theorem s_X8_plan_0 {d : Nat} {ls st : List AV} {S : MS} {R : Option AV → MS → Prop} (h : wpI (fun t l s S2 => wpX d mX8_plan t l s S2 R) (wpM d) R 13 24 B_X8_plan_0 ls st S) : wpX d mX8_plan 0 ls st S R := x_step (by decide +kernel) h
def B_X8_plan_13 : List AIn := [(.ifCond .ne 5, 18, 24, 0)]
theorem s_X8_plan_13 {d : Nat} {ls st : List AV} {S : MS} {R : Option AV → MS → Prop} (h : wpI (fun t l s S2 => wpX d mX8_plan t l s S2 R) (wpM d) R 16 31 B_X8_plan_13 ls st S) : wpX d mX8_plan 13 ls st S R := x_step (by decide +kernel) h
def B_X8_plan_16 : List AIn := [(.iconst (-1), 1, 1, 0), (.ireturn, 0, 0, 0)]
theorem s_X8_plan_16 {d : Nat} {ls st : List AV} {S : MS} {R : Option AV → MS → Prop} (h : wpI (fun t l s S2 => wpX d mX8_plan t l s S2 R) (wpM d) R 18 0 B_X8_plan_16 ls st S) : wpX d mX8_plan 16 ls st S R := x_step (by decide +kernel) h
def B_X8_plan_18 : List AIn := [(.aload_n 0, 0, 0, 0), (.getfield 30, 3, 7, 0), (.getfield 140, 7, 6, 0), (.ifCond .ne 6, 31, 24, 0), (.bipush (-4), 4, 1, 0), (.ireturn, 0, 0, 0)]
theorem s_X8_plan_18 {d : Nat} {ls st : List AV} {S : MS} {R : Option AV → MS → Prop} (h : wpI (fun t l s S2 => wpX d mX8_plan t l s S2 R) (wpM d) R 31 0 B_X8_plan_18 ls st S) : wpX d mX8_plan 18 ls st S R := x_step (by decide +kernel) h
def B_X8_plan_31 : List AIn := [(.aload_n 0, 0, 0, 0), (.getfield 55, 7, 7, 0), (.aload_n 0, 0, 0, 0), (.getfield 30, 3, 7, 0), (.iload_n 1, 1, 0, 0), (.invokevirtual 239, 16, 3, 1)]
theorem s_X8_plan_31 {d : Nat} {ls st : List AV} {S : MS} {R : Option AV → MS → Prop} (h : wpI (fun t l s S2 => wpX d mX8_plan t l s S2 R) (wpM d) R 43 24 B_X8_plan_31 ls st S) : wpX d mX8_plan 31 ls st S R := x_step (by decide +kernel) h
def B_X8_plan_43 : List AIn := [(.istore_n 3, 3, 0, 0), (.aload_n 0, 0, 0, 0), (.getfield 10, 0, 7, 0), (.iload_n 2, 2, 0, 0), (.iload_n 1, 1, 0, 0), (.invokevirtual 85, 28, 3, 3)]
theorem s_X8_plan_43 {d : Nat} {ls st : List AV} {S : MS} {R : Option AV → MS → Prop} (h : wpI (fun t l s S2 => wpX d mX8_plan t l s S2 R) (wpM d) R 53 16 B_X8_plan_43 ls st S) : wpX d mX8_plan 43 ls st S R := x_step (by decide +kernel) h
def B_X8_plan_53 : List AIn := [(.iconst 0, 0, 0, 0), (.istore 4, 4, 0, 0)]
theorem s_X8_plan_53 {d : Nat} {ls st : List AV} {S : MS} {R : Option AV → MS → Prop} (h : wpI (fun t l s S2 => wpX d mX8_plan t l s S2 R) (wpM d) R 56 0 B_X8_plan_53 ls st S) : wpX d mX8_plan 53 ls st S R := x_step (by decide +kernel) h
def B_X8_plan_56 : List AIn := [(.iload 4, 4, 0, 0), (.iload_n 1, 1, 0, 0), (.if_icmp .ge 29, 88, 23, 0), (.aload_n 0, 0, 0, 0), (.getfield 10, 0, 7, 0), (.iload_n 2, 2, 0, 0), (.iload 4, 4, 0, 0), (.aload_n 0, 0, 0, 0), (.getfield 55, 7, 7, 0), (.getfield 243, 3, 1, 0), (.iload 4, 4, 0, 0), (.iaload, 0, 0, 0), (.invokevirtual 96, 31, 4, 3)]
theorem s_X8_plan_56 {d : Nat} {ls st : List AV} {S : MS} {R : Option AV → MS → Prop} (h : wpI (fun t l s S2 => wpX d mX8_plan t l s S2 R) (wpM d) R 82 0 B_X8_plan_56 ls st S) : wpX d mX8_plan 56 ls st S R := x_step (by decide +kernel) h
def B_X8_plan_82 : List AIn := [(.iinc 4 1, 1, 0, 0), (.goto (-29), 56, 0, 0)]
theorem s_X8_plan_82 {d : Nat} {ls st : List AV} {S : MS} {R : Option AV → MS → Prop} (h : wpI (fun t l s S2 => wpX d mX8_plan t l s S2 R) (wpM d) R 88 0 B_X8_plan_82 ls st S) : wpX d mX8_plan 82 ls st S R := x_step (by decide +kernel) h
def B_X8_plan_88 : List AIn := [(.iload_n 3, 3, 0, 0), (.ireturn, 0, 0, 0)]
theorem s_X8_plan_88 {d : Nat} {ls st : List AV} {S : MS} {R : Option AV → MS → Prop} (h : wpI (fun t l s S2 => wpX d mX8_plan t l s S2 R) (wpM d) R 90 0 B_X8_plan_88 ls st S) : wpX d mX8_plan 88 ls st S R := x_step (by decide +kernel) h
-- NinthDay.till(I)I
def B_X8_till_0 : List AIn := [(.iload_n 1, 1, 0, 0), (.invokestatic 233, 114, 1, 0)]
theorem s_X8_till_0 {d : Nat} {ls st : List AV} {S : MS} {R : Option AV → MS → Prop} (h : wpI (fun t l s S2 => wpX d mX8_till t l s S2 R) (wpM d) R 4 12 B_X8_till_0 ls st S) : wpX d mX8_till 0 ls st S R := x_step (by decide +kernel) h
def B_X8_till_4 : List AIn := [(.ifCond .ne 5, 9, 12, 0), (.iconst (-1), 1, 1, 0), (.ireturn, 0, 0, 0)]
theorem s_X8_till_4 {d : Nat} {ls st : List AV} {S : MS} {R : Option AV → MS → Prop} (h : wpI (fun t l s S2 => wpX d mX8_till t l s S2 R) (wpM d) R 9 0 B_X8_till_4 ls st S) : wpX d mX8_till 4 ls st S R := x_step (by decide +kernel) h
def B_X8_till_9 : List AIn := [(.aload_n 0, 0, 0, 0), (.getfield 30, 3, 7, 0), (.getfield 140, 7, 6, 0), (.ifCond .ne 6, 22, 12, 0), (.bipush (-4), 4, 1, 0), (.ireturn, 0, 0, 0)]
theorem s_X8_till_9 {d : Nat} {ls st : List AV} {S : MS} {R : Option AV → MS → Prop} (h : wpI (fun t l s S2 => wpX d mX8_till t l s S2 R) (wpM d) R 22 0 B_X8_till_9 ls st S) : wpX d mX8_till 9 ls st S R := x_step (by decide +kernel) h
def B_X8_till_22 : List AIn := [(.aload_n 0, 0, 0, 0), (.getfield 33, 4, 7, 0), (.aload_n 0, 0, 0, 0), (.getfield 30, 3, 7, 0), (.invokevirtual 133, 45, 2, 6)]
theorem s_X8_till_22 {d : Nat} {ls st : List AV} {S : MS} {R : Option AV → MS → Prop} (h : wpI (fun t l s S2 => wpX d mX8_till t l s S2 R) (wpM d) R 33 12 B_X8_till_22 ls st S) : wpX d mX8_till 22 ls st S R := x_step (by decide +kernel) h
def B_X8_till_33 : List AIn := [(.iconst 0, 0, 0, 0), (.istore_n 2, 2, 0, 0), (.iconst 0, 0, 0, 0), (.istore_n 3, 3, 0, 0)]
theorem s_X8_till_33 {d : Nat} {ls st : List AV} {S : MS} {R : Option AV → MS → Prop} (h : wpI (fun t l s S2 => wpX d mX8_till t l s S2 R) (wpM d) R 37 0 B_X8_till_33 ls st S) : wpX d mX8_till 33 ls st S R := x_step (by decide +kernel) h
def B_X8_till_37 : List AIn := [(.iload_n 3, 3, 0, 0), (.bipush 60, 60, 0, 0), (.if_icmp .gt 40, 80, 15, 0), (.aload_n 0, 0, 0, 0), (.getfield 33, 4, 7, 0), (.invokevirtual 246, 55, 1, 6)]
theorem s_X8_till_37 {d : Nat} {ls st : List AV} {S : MS} {R : Option AV → MS → Prop} (h : wpI (fun t l s S2 => wpX d mX8_till t l s S2 R) (wpM d) R 50 0 B_X8_till_37 ls st S) : wpX d mX8_till 37 ls st S R := x_step (by decide +kernel) h
def B_X8_till_50 : List AIn := [(.ifCond .eq 10, 60, 0, 0), (.aload_n 0, 0, 0, 0), (.iload_n 2, 2, 0, 0), (.putfield 74, 11, 7, 0), (.iload_n 3, 3, 0, 0), (.ireturn, 0, 0, 0)]
theorem s_X8_till_50 {d : Nat} {ls st : List AV} {S : MS} {R : Option AV → MS → Prop} (h : wpI (fun t l s S2 => wpX d mX8_till t l s S2 R) (wpM d) R 60 0 B_X8_till_50 ls st S) : wpX d mX8_till 50 ls st S R := x_step (by decide +kernel) h
def B_X8_till_60 : List AIn := [(.iload_n 2, 2, 0, 0), (.aload_n 0, 0, 0, 0), (.getfield 33, 4, 7, 0), (.iload_n 1, 1, 0, 0), (.invokevirtual 250, 59, 2, 6)]
theorem s_X8_till_60 {d : Nat} {ls st : List AV} {S : MS} {R : Option AV → MS → Prop} (h : wpI (fun t l s S2 => wpX d mX8_till t l s S2 R) (wpM d) R 69 4 B_X8_till_60 ls st S) : wpX d mX8_till 60 ls st S R := x_step (by decide +kernel) h
def B_X8_till_69 : List AIn := [(.invokestatic 189, 223, 1, 0)]
theorem s_X8_till_69 {d : Nat} {ls st : List AV} {S : MS} {R : Option AV → MS → Prop} (h : wpI (fun t l s S2 => wpX d mX8_till t l s S2 R) (wpM d) R 72 4 B_X8_till_69 ls st S) : wpX d mX8_till 69 ls st S R := x_step (by decide +kernel) h
def B_X8_till_72 : List AIn := [(.iadd, 0, 0, 0), (.istore_n 2, 2, 0, 0), (.iinc 3 1, 1, 0, 0), (.goto (-40), 37, 0, 0)]
theorem s_X8_till_72 {d : Nat} {ls st : List AV} {S : MS} {R : Option AV → MS → Prop} (h : wpI (fun t l s S2 => wpX d mX8_till t l s S2 R) (wpM d) R 80 0 B_X8_till_72 ls st S) : wpX d mX8_till 72 ls st S R := x_step (by decide +kernel) h
def B_X8_till_80 : List AIn := [(.bipush (-9), 9, 1, 0), (.ireturn, 0, 0, 0)]
theorem s_X8_till_80 {d : Nat} {ls st : List AV} {S : MS} {R : Option AV → MS → Prop} (h : wpI (fun t l s S2 => wpX d mX8_till t l s S2 R) (wpM d) R 83 0 B_X8_till_80 ls st S) : wpX d mX8_till 80 ls st S R := x_step (by decide +kernel) h
-- NinthDay.better(I)I
def B_X8_better_0 : List AIn := [(.iload_n 1, 1, 0, 0), (.ifCond .lt 9, 10, 63, 0), (.iload_n 1, 1, 0, 0), (.bipush 60, 60, 0, 0), (.if_icmp .le 5, 12, 60, 0)]
theorem s_X8_better_0 {d : Nat} {ls st : List AV} {S : MS} {R : Option AV → MS → Prop} (h : wpI (fun t l s S2 => wpX d mX8_better t l s S2 R) (wpM d) R 10 63 B_X8_better_0 ls st S) : wpX d mX8_better 0 ls st S R := x_step (by decide +kernel) h
def B_X8_better_10 : List AIn := [(.iconst (-1), 1, 1, 0), (.ireturn, 0, 0, 0)]
theorem s_X8_better_10 {d : Nat} {ls st : List AV} {S : MS} {R : Option AV → MS → Prop} (h : wpI (fun t l s S2 => wpX d mX8_better t l s S2 R) (wpM d) R 12 0 B_X8_better_10 ls st S) : wpX d mX8_better 10 ls st S R := x_step (by decide +kernel) h
def B_X8_better_12 : List AIn := [(.aload_n 0, 0, 0, 0), (.getfield 30, 3, 7, 0), (.getfield 140, 7, 6, 0), (.ifCond .ne 6, 25, 60, 0), (.bipush (-4), 4, 1, 0), (.ireturn, 0, 0, 0)]
theorem s_X8_better_12 {d : Nat} {ls st : List AV} {S : MS} {R : Option AV → MS → Prop} (h : wpI (fun t l s S2 => wpX d mX8_better t l s S2 R) (wpM d) R 25 0 B_X8_better_12 ls st S) : wpX d mX8_better 12 ls st S R := x_step (by decide +kernel) h
def B_X8_better_25 : List AIn := [(.iconst 0, 0, 0, 0), (.istore_n 2, 2, 0, 0), (.iconst (-1), 1, 1, 0), (.istore_n 3, 3, 0, 0), (.iconst 0, 0, 0, 0), (.istore 4, 4, 0, 0)]
theorem s_X8_better_25 {d : Nat} {ls st : List AV} {S : MS} {R : Option AV → MS → Prop} (h : wpI (fun t l s S2 => wpX d mX8_better t l s S2 R) (wpM d) R 32 32 B_X8_better_25 ls st S) : wpX d mX8_better 25 ls st S R := x_step (by decide +kernel) h
def B_X8_better_32 : List AIn := [(.iload 4, 4, 0, 0), (.iconst 4, 4, 0, 0), (.if_icmp .ge 30, 65, 50, 0), (.aload_n 0, 0, 0, 0), (.iload 4, 4, 0, 0), (.iload_n 1, 1, 0, 0), (.invokevirtual 253, 124, 3, 7)]
theorem s_X8_better_32 {d : Nat} {ls st : List AV} {S : MS} {R : Option AV → MS → Prop} (h : wpI (fun t l s S2 => wpX d mX8_better t l s S2 R) (wpM d) R 45 32 B_X8_better_32 ls st S) : wpX d mX8_better 32 ls st S R := x_step (by decide +kernel) h
def B_X8_better_45 : List AIn := [(.istore 5, 5, 0, 0), (.iload 5, 5, 0, 0), (.iload_n 3, 3, 0, 0), (.if_icmp .le 9, 59, 32, 0), (.iload 4, 4, 0, 0), (.istore_n 2, 2, 0, 0), (.iload 5, 5, 0, 0), (.istore_n 3, 3, 0, 0)]
theorem s_X8_better_45 {d : Nat} {ls st : List AV} {S : MS} {R : Option AV → MS → Prop} (h : wpI (fun t l s S2 => wpX d mX8_better t l s S2 R) (wpM d) R 59 32 B_X8_better_45 ls st S) : wpX d mX8_better 45 ls st S R := x_step (by decide +kernel) h
def B_X8_better_59 : List AIn := [(.iinc 4 1, 1, 0, 0), (.goto (-30), 32, 32, 0)]
theorem s_X8_better_59 {d : Nat} {ls st : List AV} {S : MS} {R : Option AV → MS → Prop} (h : wpI (fun t l s S2 => wpX d mX8_better t l s S2 R) (wpM d) R 65 0 B_X8_better_59 ls st S) : wpX d mX8_better 59 ls st S R := x_step (by decide +kernel) h
def B_X8_better_65 : List AIn := [(.aload_n 0, 0, 0, 0), (.iload_n 3, 3, 0, 0), (.putfield 74, 11, 7, 0), (.iload_n 2, 2, 0, 0), (.ireturn, 0, 0, 0)]
theorem s_X8_better_65 {d : Nat} {ls st : List AV} {S : MS} {R : Option AV → MS → Prop} (h : wpI (fun t l s S2 => wpX d mX8_better t l s S2 R) (wpM d) R 72 0 B_X8_better_65 ls st S) : wpX d mX8_better 65 ls st S R := x_step (by decide +kernel) h
-- NinthDay.least(II)I
def B_X8_least_0 : List AIn := [(.aload_n 0, 0, 0, 0), (.iload_n 1, 1, 0, 0), (.invokevirtual 143, 116, 2, 7)]
theorem s_X8_least_0 {d : Nat} {ls st : List AV} {S : MS} {R : Option AV → MS → Prop} (h : wpI (fun t l s S2 => wpX d mX8_least t l s S2 R) (wpM d) R 5 120 B_X8_least_0 ls st S) : wpX d mX8_least 0 ls st S R := x_step (by decide +kernel) h
def B_X8_least_5 : List AIn := [(.ifCond .eq 13, 18, 127, 0), (.iload_n 2, 2, 0, 0), (.ifCond .lt 9, 18, 127, 0), (.iload_n 2, 2, 0, 0), (.bipush 30, 30, 0, 0), (.if_icmp .le 5, 20, 120, 0)]
theorem s_X8_least_5 {d : Nat} {ls st : List AV} {S : MS} {R : Option AV → MS → Prop} (h : wpI (fun t l s S2 => wpX d mX8_least t l s S2 R) (wpM d) R 18 127 B_X8_least_5 ls st S) : wpX d mX8_least 5 ls st S R := x_step (by decide +kernel) h
def B_X8_least_18 : List AIn := [(.iconst (-1), 1, 1, 0), (.ireturn, 0, 0, 0)]
theorem s_X8_least_18 {d : Nat} {ls st : List AV} {S : MS} {R : Option AV → MS → Prop} (h : wpI (fun t l s S2 => wpX d mX8_least t l s S2 R) (wpM d) R 20 0 B_X8_least_18 ls st S) : wpX d mX8_least 18 ls st S R := x_step (by decide +kernel) h
def B_X8_least_20 : List AIn := [(.aload_n 0, 0, 0, 0), (.getfield 30, 3, 7, 0), (.getfield 256, 2, 6, 0), (.iload_n 1, 1, 0, 0), (.iaload, 0, 0, 0), (.istore_n 3, 3, 0, 0), (.iconst 0, 0, 0, 0), (.istore 4, 4, 0, 0), (.iconst 0, 0, 0, 0), (.istore 5, 5, 0, 0)]
theorem s_X8_least_20 {d : Nat} {ls st : List AV} {S : MS} {R : Option AV → MS → Prop} (h : wpI (fun t l s S2 => wpX d mX8_least t l s S2 R) (wpM d) R 36 64 B_X8_least_20 ls st S) : wpX d mX8_least 20 ls st S R := x_step (by decide +kernel) h
def B_X8_least_36 : List AIn := [(.iload 5, 5, 0, 0), (.iload_n 2, 2, 0, 0), (.if_icmp .ge 87, 126, 111, 0), (.aload_n 0, 0, 0, 0), (.getfield 30, 3, 7, 0), (.getfield 151, 0, 6, 0), (.iload_n 1, 1, 0, 0), (.iaload, 0, 0, 0), (.aload_n 0, 0, 0, 0), (.getfield 30, 3, 7, 0), (.getfield 259, 1, 6, 0), (.iload_n 1, 1, 0, 0), (.iaload, 0, 0, 0), (.iload_n 3, 3, 0, 0), (.aload_n 0, 0, 0, 0), (.getfield 30, 3, 7, 0), (.getfield 262, 3, 6, 0), (.iload_n 1, 1, 0, 0), (.iaload, 0, 0, 0), (.aload_n 0, 0, 0, 0), (.getfield 30, 3, 7, 0), (.getfield 173, 4, 6, 0), (.iload_n 1, 1, 0, 0), (.iaload, 0, 0, 0), (.iload 5, 5, 0, 0), (.iadd, 0, 0, 0), (.aload_n 0, 0, 0, 0), (.getfield 30, 3, 7, 0), (.getfield 161, 8, 6, 0), (.iload 5, 5, 0, 0), (.iadd, 0, 0, 0), (.invokestatic 265, 13, 6, 0)]
theorem s_X8_least_36 {d : Nat} {ls st : List AV} {S : MS} {R : Option AV → MS → Prop} (h : wpI (fun t l s S2 => wpX d mX8_least t l s S2 R) (wpM d) R 95 64 B_X8_least_36 ls st S) : wpX d mX8_least 36 ls st S R := x_step (by decide +kernel) h
def B_X8_least_95 : List AIn := [(.istore 6, 6, 0, 0), (.iload 4, 4, 0, 0), (.iload 6, 6, 0, 0), (.invokestatic 168, 0, 0, 2), (.istore 4, 4, 0, 0), (.aload_n 0, 0, 0, 0), (.getfield 30, 3, 7, 0), (.getfield 151, 0, 6, 0), (.iload_n 1, 1, 0, 0), (.iaload, 0, 0, 0), (.iload_n 3, 3, 0, 0), (.invokestatic 268, 14, 2, 0)]
theorem s_X8_least_95 {d : Nat} {ls st : List AV} {S : MS} {R : Option AV → MS → Prop} (h : wpI (fun t l s S2 => wpX d mX8_least t l s S2 R) (wpM d) R 119 72 B_X8_least_95 ls st S) : wpX d mX8_least 95 ls st S R := x_step (by decide +kernel) h
def B_X8_least_119 : List AIn := [(.istore_n 3, 3, 0, 0), (.iinc 5 1, 1, 0, 0), (.goto (-87), 36, 64, 0)]
theorem s_X8_least_119 {d : Nat} {ls st : List AV} {S : MS} {R : Option AV → MS → Prop} (h : wpI (fun t l s S2 => wpX d mX8_least t l s S2 R) (wpM d) R 126 0 B_X8_least_119 ls st S) : wpX d mX8_least 119 ls st S R := x_step (by decide +kernel) h
def B_X8_least_126 : List AIn := [(.iload 4, 4, 0, 0), (.ireturn, 0, 0, 0)]
theorem s_X8_least_126 {d : Nat} {ls st : List AV} {S : MS} {R : Option AV → MS → Prop} (h : wpI (fun t l s S2 => wpX d mX8_least t l s S2 R) (wpM d) R 129 0 B_X8_least_126 ls st S) : wpX d mX8_least 126 ls st S R := x_step (by decide +kernel) h
-- NinthDay.chain(III)I
def B_X8_chain_0 : List AIn := [(.aload_n 0, 0, 0, 0), (.iload_n 1, 1, 0, 0), (.invokevirtual 143, 116, 2, 7)]
theorem s_X8_chain_0 {d : Nat} {ls st : List AV} {S : MS} {R : Option AV → MS → Prop} (h : wpI (fun t l s S2 => wpX d mX8_chain t l s S2 R) (wpM d) R 5 112 B_X8_chain_0 ls st S) : wpX d mX8_chain 0 ls st S R := x_step (by decide +kernel) h
def B_X8_chain_5 : List AIn := [(.ifCond .eq 20, 25, 127, 0), (.iload_n 2, 2, 0, 0), (.ifCond .lt 16, 25, 127, 0), (.iload_n 2, 2, 0, 0), (.bipush 60, 60, 0, 0), (.if_icmp .gt 10, 25, 127, 0), (.iload_n 3, 3, 0, 0), (.invokestatic 233, 114, 1, 0)]
theorem s_X8_chain_5 {d : Nat} {ls st : List AV} {S : MS} {R : Option AV → MS → Prop} (h : wpI (fun t l s S2 => wpX d mX8_chain t l s S2 R) (wpM d) R 22 112 B_X8_chain_5 ls st S) : wpX d mX8_chain 5 ls st S R := x_step (by decide +kernel) h
def B_X8_chain_22 : List AIn := [(.ifCond .ne 5, 27, 112, 0)]
theorem s_X8_chain_22 {d : Nat} {ls st : List AV} {S : MS} {R : Option AV → MS → Prop} (h : wpI (fun t l s S2 => wpX d mX8_chain t l s S2 R) (wpM d) R 25 127 B_X8_chain_22 ls st S) : wpX d mX8_chain 22 ls st S R := x_step (by decide +kernel) h
def B_X8_chain_25 : List AIn := [(.iconst (-1), 1, 1, 0), (.ireturn, 0, 0, 0)]
theorem s_X8_chain_25 {d : Nat} {ls st : List AV} {S : MS} {R : Option AV → MS → Prop} (h : wpI (fun t l s S2 => wpX d mX8_chain t l s S2 R) (wpM d) R 27 0 B_X8_chain_25 ls st S) : wpX d mX8_chain 25 ls st S R := x_step (by decide +kernel) h
def B_X8_chain_27 : List AIn := [(.aload_n 0, 0, 0, 0), (.getfield 33, 4, 7, 0), (.aload_n 0, 0, 0, 0), (.getfield 30, 3, 7, 0), (.invokevirtual 133, 45, 2, 6)]
theorem s_X8_chain_27 {d : Nat} {ls st : List AV} {S : MS} {R : Option AV → MS → Prop} (h : wpI (fun t l s S2 => wpX d mX8_chain t l s S2 R) (wpM d) R 38 112 B_X8_chain_27 ls st S) : wpX d mX8_chain 27 ls st S R := x_step (by decide +kernel) h
def B_X8_chain_38 : List AIn := [(.aload_n 0, 0, 0, 0), (.getfield 33, 4, 7, 0), (.getfield 173, 4, 6, 0), (.iload_n 1, 1, 0, 0), (.iaload, 0, 0, 0), (.istore 4, 4, 0, 0), (.iconst 0, 0, 0, 0), (.istore 5, 5, 0, 0), (.iconst 0, 0, 0, 0), (.istore 6, 6, 0, 0)]
theorem s_X8_chain_38 {d : Nat} {ls st : List AV} {S : MS} {R : Option AV → MS → Prop} (h : wpI (fun t l s S2 => wpX d mX8_chain t l s S2 R) (wpM d) R 55 0 B_X8_chain_38 ls st S) : wpX d mX8_chain 38 ls st S R := x_step (by decide +kernel) h
def B_X8_chain_55 : List AIn := [(.iload 6, 6, 0, 0), (.iload_n 2, 2, 0, 0), (.if_icmp .ge 42, 100, 78, 0), (.iload 5, 5, 0, 0), (.aload_n 0, 0, 0, 0), (.getfield 33, 4, 7, 0), (.iload_n 3, 3, 0, 0), (.invokevirtual 250, 59, 2, 6)]
theorem s_X8_chain_55 {d : Nat} {ls st : List AV} {S : MS} {R : Option AV → MS → Prop} (h : wpI (fun t l s S2 => wpX d mX8_chain t l s S2 R) (wpM d) R 71 32 B_X8_chain_55 ls st S) : wpX d mX8_chain 55 ls st S R := x_step (by decide +kernel) h
def B_X8_chain_71 : List AIn := [(.iload_n 1, 1, 0, 0), (.ishr, 0, 0, 0), (.iconst 1, 1, 0, 0), (.iand, 0, 0, 0), (.iadd, 0, 0, 0), (.istore 5, 5, 0, 0), (.iload 4, 4, 0, 0), (.aload_n 0, 0, 0, 0), (.getfield 33, 4, 7, 0), (.getfield 173, 4, 6, 0), (.iload_n 1, 1, 0, 0), (.iaload, 0, 0, 0), (.invokestatic 168, 0, 0, 2), (.istore 4, 4, 0, 0), (.iinc 6 1, 1, 0, 0), (.goto (-42), 55, 0, 0)]
theorem s_X8_chain_71 {d : Nat} {ls st : List AV} {S : MS} {R : Option AV → MS → Prop} (h : wpI (fun t l s S2 => wpX d mX8_chain t l s S2 R) (wpM d) R 100 0 B_X8_chain_71 ls st S) : wpX d mX8_chain 71 ls st S R := x_step (by decide +kernel) h
def B_X8_chain_100 : List AIn := [(.aload_n 0, 0, 0, 0), (.iload 5, 5, 0, 0), (.putfield 74, 11, 7, 0), (.iload 4, 4, 0, 0), (.ireturn, 0, 0, 0)]
theorem s_X8_chain_100 {d : Nat} {ls st : List AV} {S : MS} {R : Option AV → MS → Prop} (h : wpI (fun t l s S2 => wpX d mX8_chain t l s S2 R) (wpM d) R 109 0 B_X8_chain_100 ls st S) : wpX d mX8_chain 100 ls st S R := x_step (by decide +kernel) h
-- NinthDay.fits(I)I
def B_X8_fits_0 : List AIn := [(.iload_n 1, 1, 0, 0), (.invokestatic 271, 115, 1, 0)]
theorem s_X8_fits_0 {d : Nat} {ls st : List AV} {S : MS} {R : Option AV → MS → Prop} (h : wpI (fun t l s S2 => wpX d mX8_fits t l s S2 R) (wpM d) R 4 28 B_X8_fits_0 ls st S) : wpX d mX8_fits 0 ls st S R := x_step (by decide +kernel) h
def B_X8_fits_4 : List AIn := [(.ifCond .ne 5, 9, 28, 0), (.iconst (-1), 1, 1, 0), (.ireturn, 0, 0, 0)]
theorem s_X8_fits_4 {d : Nat} {ls st : List AV} {S : MS} {R : Option AV → MS → Prop} (h : wpI (fun t l s S2 => wpX d mX8_fits t l s S2 R) (wpM d) R 9 0 B_X8_fits_4 ls st S) : wpX d mX8_fits 4 ls st S R := x_step (by decide +kernel) h
def B_X8_fits_9 : List AIn := [(.aload_n 0, 0, 0, 0), (.getfield 30, 3, 7, 0), (.getfield 140, 7, 6, 0), (.ifCond .ne 6, 22, 28, 0), (.bipush (-4), 4, 1, 0), (.ireturn, 0, 0, 0)]
theorem s_X8_fits_9 {d : Nat} {ls st : List AV} {S : MS} {R : Option AV → MS → Prop} (h : wpI (fun t l s S2 => wpX d mX8_fits t l s S2 R) (wpM d) R 22 0 B_X8_fits_9 ls st S) : wpX d mX8_fits 9 ls st S R := x_step (by decide +kernel) h
def B_X8_fits_22 : List AIn := [(.aload_n 0, 0, 0, 0), (.getfield 30, 3, 7, 0), (.invokevirtual 182, 53, 1, 6)]
theorem s_X8_fits_22 {d : Nat} {ls st : List AV} {S : MS} {R : Option AV → MS → Prop} (h : wpI (fun t l s S2 => wpX d mX8_fits t l s S2 R) (wpM d) R 29 28 B_X8_fits_22 ls st S) : wpX d mX8_fits 22 ls st S R := x_step (by decide +kernel) h
def B_X8_fits_29 : List AIn := [(.astore_n 2, 2, 0, 0), (.bipush (-9), 9, 1, 0), (.istore_n 3, 3, 0, 0), (.bipush 31, 31, 0, 0), (.istore 4, 4, 0, 0)]
theorem s_X8_fits_29 {d : Nat} {ls st : List AV} {S : MS} {R : Option AV → MS → Prop} (h : wpI (fun t l s S2 => wpX d mX8_fits t l s S2 R) (wpM d) R 37 0 B_X8_fits_29 ls st S) : wpX d mX8_fits 29 ls st S R := x_step (by decide +kernel) h
def B_X8_fits_37 : List AIn := [(.iload 4, 4, 0, 0), (.ifCond .lt 23, 62, 20, 0), (.aload_n 0, 0, 0, 0), (.aload_n 2, 2, 0, 0), (.iload 4, 4, 0, 0), (.iload_n 1, 1, 0, 0), (.invokevirtual 274, 122, 4, 7)]
theorem s_X8_fits_37 {d : Nat} {ls st : List AV} {S : MS} {R : Option AV → MS → Prop} (h : wpI (fun t l s S2 => wpX d mX8_fits t l s S2 R) (wpM d) R 50 0 B_X8_fits_37 ls st S) : wpX d mX8_fits 37 ls st S R := x_step (by decide +kernel) h
def B_X8_fits_50 : List AIn := [(.ifCond .eq 6, 56, 0, 0), (.iload 4, 4, 0, 0), (.istore_n 3, 3, 0, 0)]
theorem s_X8_fits_50 {d : Nat} {ls st : List AV} {S : MS} {R : Option AV → MS → Prop} (h : wpI (fun t l s S2 => wpX d mX8_fits t l s S2 R) (wpM d) R 56 0 B_X8_fits_50 ls st S) : wpX d mX8_fits 50 ls st S R := x_step (by decide +kernel) h
def B_X8_fits_56 : List AIn := [(.iinc 4 (-1), 1, 1, 0), (.goto (-22), 37, 0, 0)]
theorem s_X8_fits_56 {d : Nat} {ls st : List AV} {S : MS} {R : Option AV → MS → Prop} (h : wpI (fun t l s S2 => wpX d mX8_fits t l s S2 R) (wpM d) R 62 0 B_X8_fits_56 ls st S) : wpX d mX8_fits 56 ls st S R := x_step (by decide +kernel) h
def B_X8_fits_62 : List AIn := [(.aload_n 0, 0, 0, 0), (.getfield 62, 8, 7, 0), (.aload_n 0, 0, 0, 0), (.iload_n 1, 1, 0, 0), (.iconst 0, 0, 0, 0), (.iconst 0, 0, 0, 0), (.invokevirtual 278, 123, 4, 7)]
theorem s_X8_fits_62 {d : Nat} {ls st : List AV} {S : MS} {R : Option AV → MS → Prop} (h : wpI (fun t l s S2 => wpX d mX8_fits t l s S2 R) (wpM d) R 73 22 B_X8_fits_62 ls st S) : wpX d mX8_fits 62 ls st S R := x_step (by decide +kernel) h
def B_X8_fits_73 : List AIn := [(.i2l, 0, 0, 0), (.lconst 1, 1, 0, 0), (.invokevirtual 281, 35, 3, 4)]
theorem s_X8_fits_73 {d : Nat} {ls st : List AV} {S : MS} {R : Option AV → MS → Prop} (h : wpI (fun t l s S2 => wpX d mX8_fits t l s S2 R) (wpM d) R 78 22 B_X8_fits_73 ls st S) : wpX d mX8_fits 73 ls st S R := x_step (by decide +kernel) h
def B_X8_fits_78 : List AIn := [(.aload_n 0, 0, 0, 0), (.iload_n 3, 3, 0, 0), (.invokevirtual 100, 108, 2, 7)]
theorem s_X8_fits_78 {d : Nat} {ls st : List AV} {S : MS} {R : Option AV → MS → Prop} (h : wpI (fun t l s S2 => wpX d mX8_fits t l s S2 R) (wpM d) R 83 31 B_X8_fits_78 ls st S) : wpX d mX8_fits 78 ls st S R := x_step (by decide +kernel) h
def B_X8_fits_83 : List AIn := [(.ireturn, 0, 0, 0)]
theorem s_X8_fits_83 {d : Nat} {ls st : List AV} {S : MS} {R : Option AV → MS → Prop} (h : wpI (fun t l s S2 => wpX d mX8_fits t l s S2 R) (wpM d) R 84 0 B_X8_fits_83 ls st S) : wpX d mX8_fits 83 ls st S R := x_step (by decide +kernel) h
-- NinthDay.sure(I)I
def B_X8_sure_0 : List AIn := [(.aload_n 0, 0, 0, 0), (.iload_n 1, 1, 0, 0), (.invokevirtual 285, 119, 2, 7)]
theorem s_X8_sure_0 {d : Nat} {ls st : List AV} {S : MS} {R : Option AV → MS → Prop} (h : wpI (fun t l s S2 => wpX d mX8_sure t l s S2 R) (wpM d) R 5 124 B_X8_sure_0 ls st S) : wpX d mX8_sure 0 ls st S R := x_step (by decide +kernel) h
def B_X8_sure_5 : List AIn := [(.istore_n 2, 2, 0, 0), (.iload_n 2, 2, 0, 0), (.ifCond .eq 5, 12, 124, 0), (.iload_n 2, 2, 0, 0), (.ireturn, 0, 0, 0)]
theorem s_X8_sure_5 {d : Nat} {ls st : List AV} {S : MS} {R : Option AV → MS → Prop} (h : wpI (fun t l s S2 => wpX d mX8_sure t l s S2 R) (wpM d) R 12 0 B_X8_sure_5 ls st S) : wpX d mX8_sure 5 ls st S R := x_step (by decide +kernel) h
def B_X8_sure_12 : List AIn := [(.aload_n 0, 0, 0, 0), (.getfield 30, 3, 7, 0), (.invokevirtual 182, 53, 1, 6)]
theorem s_X8_sure_12 {d : Nat} {ls st : List AV} {S : MS} {R : Option AV → MS → Prop} (h : wpI (fun t l s S2 => wpX d mX8_sure t l s S2 R) (wpM d) R 19 124 B_X8_sure_12 ls st S) : wpX d mX8_sure 12 ls st S R := x_step (by decide +kernel) h
def B_X8_sure_19 : List AIn := [(.astore_n 3, 3, 0, 0), (.aload_n 0, 0, 0, 0), (.getfield 30, 3, 7, 0), (.invokevirtual 209, 48, 1, 6)]
theorem s_X8_sure_19 {d : Nat} {ls st : List AV} {S : MS} {R : Option AV → MS → Prop} (h : wpI (fun t l s S2 => wpX d mX8_sure t l s S2 R) (wpM d) R 27 116 B_X8_sure_19 ls st S) : wpX d mX8_sure 19 ls st S R := x_step (by decide +kernel) h
def B_X8_sure_27 : List AIn := [(.istore 4, 4, 0, 0), (.iconst 0, 0, 0, 0), (.istore 5, 5, 0, 0), (.iconst 0, 0, 0, 0), (.istore 6, 6, 0, 0)]
theorem s_X8_sure_27 {d : Nat} {ls st : List AV} {S : MS} {R : Option AV → MS → Prop} (h : wpI (fun t l s S2 => wpX d mX8_sure t l s S2 R) (wpM d) R 35 4 B_X8_sure_27 ls st S) : wpX d mX8_sure 27 ls st S R := x_step (by decide +kernel) h
def B_X8_sure_35 : List AIn := [(.iload 6, 6, 0, 0), (.bipush 32, 32, 0, 0), (.if_icmp .ge 34, 73, 78, 0), (.aload_n 0, 0, 0, 0), (.aload_n 3, 3, 0, 0), (.iload 6, 6, 0, 0), (.iload_n 1, 1, 0, 0), (.invokevirtual 274, 122, 4, 7)]
theorem s_X8_sure_35 {d : Nat} {ls st : List AV} {S : MS} {R : Option AV → MS → Prop} (h : wpI (fun t l s S2 => wpX d mX8_sure t l s S2 R) (wpM d) R 50 4 B_X8_sure_35 ls st S) : wpX d mX8_sure 35 ls st S R := x_step (by decide +kernel) h
def B_X8_sure_50 : List AIn := [(.ifCond .eq 17, 67, 4, 0), (.iload 4, 4, 0, 0), (.iload 6, 6, 0, 0), (.iand, 0, 0, 0), (.istore 4, 4, 0, 0), (.iload 5, 5, 0, 0), (.iload 6, 6, 0, 0), (.ior, 0, 0, 0), (.istore 5, 5, 0, 0)]
theorem s_X8_sure_50 {d : Nat} {ls st : List AV} {S : MS} {R : Option AV → MS → Prop} (h : wpI (fun t l s S2 => wpX d mX8_sure t l s S2 R) (wpM d) R 67 4 B_X8_sure_50 ls st S) : wpX d mX8_sure 50 ls st S R := x_step (by decide +kernel) h
def B_X8_sure_67 : List AIn := [(.iinc 6 1, 1, 0, 0), (.goto (-35), 35, 4, 0)]
theorem s_X8_sure_67 {d : Nat} {ls st : List AV} {S : MS} {R : Option AV → MS → Prop} (h : wpI (fun t l s S2 => wpX d mX8_sure t l s S2 R) (wpM d) R 73 0 B_X8_sure_67 ls st S) : wpX d mX8_sure 67 ls st S R := x_step (by decide +kernel) h
def B_X8_sure_73 : List AIn := [(.aload_n 0, 0, 0, 0), (.aload_n 0, 0, 0, 0), (.getfield 30, 3, 7, 0), (.invokevirtual 209, 48, 1, 6)]
theorem s_X8_sure_73 {d : Nat} {ls st : List AV} {S : MS} {R : Option AV → MS → Prop} (h : wpI (fun t l s S2 => wpX d mX8_sure t l s S2 R) (wpM d) R 81 79 B_X8_sure_73 ls st S) : wpX d mX8_sure 73 ls st S R := x_step (by decide +kernel) h
def B_X8_sure_81 : List AIn := [(.iload 5, 5, 0, 0), (.iconst (-1), 1, 1, 0), (.ixor, 0, 0, 0), (.iand, 0, 0, 0), (.putfield 74, 11, 7, 0), (.iload 4, 4, 0, 0), (.ireturn, 0, 0, 0)]
theorem s_X8_sure_81 {d : Nat} {ls st : List AV} {S : MS} {R : Option AV → MS → Prop} (h : wpI (fun t l s S2 => wpX d mX8_sure t l s S2 R) (wpM d) R 92 0 B_X8_sure_81 ls st S) : wpX d mX8_sure 81 ls st S R := x_step (by decide +kernel) h
-- NinthDay.ask(I)I
def B_X8_ask_0 : List AIn := [(.aload_n 0, 0, 0, 0), (.iload_n 1, 1, 0, 0), (.invokevirtual 285, 119, 2, 7)]
theorem s_X8_ask_0 {d : Nat} {ls st : List AV} {S : MS} {R : Option AV → MS → Prop} (h : wpI (fun t l s S2 => wpX d mX8_ask t l s S2 R) (wpM d) R 5 252 B_X8_ask_0 ls st S) : wpX d mX8_ask 0 ls st S R := x_step (by decide +kernel) h
def B_X8_ask_5 : List AIn := [(.istore_n 2, 2, 0, 0), (.iload_n 2, 2, 0, 0), (.ifCond .eq 5, 12, 252, 0), (.iload_n 2, 2, 0, 0), (.ireturn, 0, 0, 0)]
theorem s_X8_ask_5 {d : Nat} {ls st : List AV} {S : MS} {R : Option AV → MS → Prop} (h : wpI (fun t l s S2 => wpX d mX8_ask t l s S2 R) (wpM d) R 12 0 B_X8_ask_5 ls st S) : wpX d mX8_ask 5 ls st S R := x_step (by decide +kernel) h
def B_X8_ask_12 : List AIn := [(.bipush (-9), 9, 1, 0), (.istore_n 3, 3, 0, 0), (.bipush 33, 33, 0, 0), (.istore 4, 4, 0, 0), (.iconst 0, 0, 0, 0), (.istore 5, 5, 0, 0)]
theorem s_X8_ask_12 {d : Nat} {ls st : List AV} {S : MS} {R : Option AV → MS → Prop} (h : wpI (fun t l s S2 => wpX d mX8_ask t l s S2 R) (wpM d) R 22 196 B_X8_ask_12 ls st S) : wpX d mX8_ask 12 ls st S R := x_step (by decide +kernel) h
def B_X8_ask_22 : List AIn := [(.iload 5, 5, 0, 0), (.aload_n 0, 0, 0, 0), (.getfield 30, 3, 7, 0), (.getfield 140, 7, 6, 0), (.if_icmp .ge 63, 94, 230, 0), (.iconst 1, 1, 0, 0), (.iload 5, 5, 0, 0), (.ishl, 0, 0, 0), (.istore 6, 6, 0, 0), (.aload_n 0, 0, 0, 0), (.iload_n 1, 1, 0, 0), (.iload 6, 6, 0, 0), (.iload 6, 6, 0, 0), (.invokevirtual 278, 123, 4, 7)]
theorem s_X8_ask_22 {d : Nat} {ls st : List AV} {S : MS} {R : Option AV → MS → Prop} (h : wpI (fun t l s S2 => wpX d mX8_ask t l s S2 R) (wpM d) R 49 132 B_X8_ask_22 ls st S) : wpX d mX8_ask 22 ls st S R := x_step (by decide +kernel) h
def B_X8_ask_49 : List AIn := [(.aload_n 0, 0, 0, 0), (.iload_n 1, 1, 0, 0), (.iload 6, 6, 0, 0), (.iconst 0, 0, 0, 0), (.invokevirtual 278, 123, 4, 7)]
theorem s_X8_ask_49 {d : Nat} {ls st : List AV} {S : MS} {R : Option AV → MS → Prop} (h : wpI (fun t l s S2 => wpX d mX8_ask t l s S2 R) (wpM d) R 57 196 B_X8_ask_49 ls st S) : wpX d mX8_ask 49 ls st S R := x_step (by decide +kernel) h
def B_X8_ask_57 : List AIn := [(.invokestatic 168, 0, 0, 2), (.istore 7, 7, 0, 0), (.aload_n 0, 0, 0, 0), (.getfield 30, 3, 7, 0), (.iload 5, 5, 0, 0), (.invokevirtual 206, 47, 2, 6)]
theorem s_X8_ask_57 {d : Nat} {ls st : List AV} {S : MS} {R : Option AV → MS → Prop} (h : wpI (fun t l s S2 => wpX d mX8_ask t l s S2 R) (wpM d) R 71 68 B_X8_ask_57 ls st S) : wpX d mX8_ask 57 ls st S R := x_step (by decide +kernel) h
def B_X8_ask_71 : List AIn := [(.ifCond .ne 17, 88, 196, 0), (.iload 7, 7, 0, 0), (.iload 4, 4, 0, 0), (.if_icmp .ge 10, 88, 196, 0), (.iload 5, 5, 0, 0), (.istore_n 3, 3, 0, 0), (.iload 7, 7, 0, 0), (.istore 4, 4, 0, 0)]
theorem s_X8_ask_71 {d : Nat} {ls st : List AV} {S : MS} {R : Option AV → MS → Prop} (h : wpI (fun t l s S2 => wpX d mX8_ask t l s S2 R) (wpM d) R 88 196 B_X8_ask_71 ls st S) : wpX d mX8_ask 71 ls st S R := x_step (by decide +kernel) h
def B_X8_ask_88 : List AIn := [(.iinc 5 1, 1, 0, 0), (.goto (-69), 22, 196, 0)]
theorem s_X8_ask_88 {d : Nat} {ls st : List AV} {S : MS} {R : Option AV → MS → Prop} (h : wpI (fun t l s S2 => wpX d mX8_ask t l s S2 R) (wpM d) R 94 0 B_X8_ask_88 ls st S) : wpX d mX8_ask 88 ls st S R := x_step (by decide +kernel) h
def B_X8_ask_94 : List AIn := [(.iload_n 3, 3, 0, 0), (.bipush (-9), 9, 1, 0), (.if_icmp .eq 9, 106, 247, 0), (.aload_n 0, 0, 0, 0), (.iload 4, 4, 0, 0), (.putfield 74, 11, 7, 0)]
theorem s_X8_ask_94 {d : Nat} {ls st : List AV} {S : MS} {R : Option AV → MS → Prop} (h : wpI (fun t l s S2 => wpX d mX8_ask t l s S2 R) (wpM d) R 106 247 B_X8_ask_94 ls st S) : wpX d mX8_ask 94 ls st S R := x_step (by decide +kernel) h
def B_X8_ask_106 : List AIn := [(.iload_n 3, 3, 0, 0), (.ireturn, 0, 0, 0)]
theorem s_X8_ask_106 {d : Nat} {ls st : List AV} {S : MS} {R : Option AV → MS → Prop} (h : wpI (fun t l s S2 => wpX d mX8_ask t l s S2 R) (wpM d) R 108 0 B_X8_ask_106 ls st S) : wpX d mX8_ask 106 ls st S R := x_step (by decide +kernel) h
-- NinthDay.habits(II)I
def B_X8_habits_0 : List AIn := [(.aload_n 0, 0, 0, 0), (.iload_n 1, 1, 0, 0), (.iload_n 2, 2, 0, 0), (.invokevirtual 288, 120, 3, 7)]
theorem s_X8_habits_0 {d : Nat} {ls st : List AV} {S : MS} {R : Option AV → MS → Prop} (h : wpI (fun t l s S2 => wpX d mX8_habits t l s S2 R) (wpM d) R 6 120 B_X8_habits_0 ls st S) : wpX d mX8_habits 0 ls st S R := x_step (by decide +kernel) h
def B_X8_habits_6 : List AIn := [(.istore_n 3, 3, 0, 0), (.iload_n 3, 3, 0, 0), (.ifCond .eq 5, 13, 120, 0), (.iload_n 3, 3, 0, 0), (.ireturn, 0, 0, 0)]
theorem s_X8_habits_6 {d : Nat} {ls st : List AV} {S : MS} {R : Option AV → MS → Prop} (h : wpI (fun t l s S2 => wpX d mX8_habits t l s S2 R) (wpM d) R 13 0 B_X8_habits_6 ls st S) : wpX d mX8_habits 6 ls st S R := x_step (by decide +kernel) h
def B_X8_habits_13 : List AIn := [(.iconst 0, 0, 0, 0), (.istore 4, 4, 0, 0), (.iconst 0, 0, 0, 0), (.istore 5, 5, 0, 0), (.iconst 0, 0, 0, 0), (.istore 6, 6, 0, 0)]
theorem s_X8_habits_13 {d : Nat} {ls st : List AV} {S : MS} {R : Option AV → MS → Prop} (h : wpI (fun t l s S2 => wpX d mX8_habits t l s S2 R) (wpM d) R 22 8 B_X8_habits_13 ls st S) : wpX d mX8_habits 13 ls st S R := x_step (by decide +kernel) h
def B_X8_habits_22 : List AIn := [(.iload 6, 6, 0, 0), (.bipush 9, 9, 0, 0), (.if_icmp .gt 85, 111, 78, 0), (.aload_n 0, 0, 0, 0), (.iload_n 1, 1, 0, 0), (.iload_n 2, 2, 0, 0), (.aload_n 0, 0, 0, 0), (.getfield 30, 3, 7, 0), (.getfield 151, 0, 6, 0), (.iload_n 1, 1, 0, 0), (.iaload, 0, 0, 0), (.aload_n 0, 0, 0, 0), (.getfield 30, 3, 7, 0), (.getfield 259, 1, 6, 0), (.iload_n 1, 1, 0, 0), (.iaload, 0, 0, 0), (.iload 6, 6, 0, 0), (.invokevirtual 291, 125, 6, 7)]
theorem s_X8_habits_22 {d : Nat} {ls st : List AV} {S : MS} {R : Option AV → MS → Prop} (h : wpI (fun t l s S2 => wpX d mX8_habits t l s S2 R) (wpM d) R 55 8 B_X8_habits_22 ls st S) : wpX d mX8_habits 22 ls st S R := x_step (by decide +kernel) h
def B_X8_habits_55 : List AIn := [(.ifCond .eq 12, 67, 8, 0), (.iload 4, 4, 0, 0), (.iconst 1, 1, 0, 0), (.iload 6, 6, 0, 0), (.ishl, 0, 0, 0), (.ior, 0, 0, 0), (.istore 4, 4, 0, 0)]
theorem s_X8_habits_55 {d : Nat} {ls st : List AV} {S : MS} {R : Option AV → MS → Prop} (h : wpI (fun t l s S2 => wpX d mX8_habits t l s S2 R) (wpM d) R 67 8 B_X8_habits_55 ls st S) : wpX d mX8_habits 55 ls st S R := x_step (by decide +kernel) h
def B_X8_habits_67 : List AIn := [(.aload_n 0, 0, 0, 0), (.iload_n 1, 1, 0, 0), (.iload_n 2, 2, 0, 0), (.aload_n 0, 0, 0, 0), (.getfield 30, 3, 7, 0), (.getfield 151, 0, 6, 0), (.iload_n 1, 1, 0, 0), (.iaload, 0, 0, 0), (.iload 6, 6, 0, 0), (.aload_n 0, 0, 0, 0), (.getfield 30, 3, 7, 0), (.getfield 256, 2, 6, 0), (.iload_n 1, 1, 0, 0), (.iaload, 0, 0, 0), (.invokevirtual 291, 125, 6, 7)]
theorem s_X8_habits_67 {d : Nat} {ls st : List AV} {S : MS} {R : Option AV → MS → Prop} (h : wpI (fun t l s S2 => wpX d mX8_habits t l s S2 R) (wpM d) R 93 8 B_X8_habits_67 ls st S) : wpX d mX8_habits 67 ls st S R := x_step (by decide +kernel) h
def B_X8_habits_93 : List AIn := [(.ifCond .eq 12, 105, 8, 0), (.iload 5, 5, 0, 0), (.iconst 1, 1, 0, 0), (.iload 6, 6, 0, 0), (.ishl, 0, 0, 0), (.ior, 0, 0, 0), (.istore 5, 5, 0, 0)]
theorem s_X8_habits_93 {d : Nat} {ls st : List AV} {S : MS} {R : Option AV → MS → Prop} (h : wpI (fun t l s S2 => wpX d mX8_habits t l s S2 R) (wpM d) R 105 8 B_X8_habits_93 ls st S) : wpX d mX8_habits 93 ls st S R := x_step (by decide +kernel) h
def B_X8_habits_105 : List AIn := [(.iinc 6 1, 1, 0, 0), (.goto (-86), 22, 8, 0)]
theorem s_X8_habits_105 {d : Nat} {ls st : List AV} {S : MS} {R : Option AV → MS → Prop} (h : wpI (fun t l s S2 => wpX d mX8_habits t l s S2 R) (wpM d) R 111 0 B_X8_habits_105 ls st S) : wpX d mX8_habits 105 ls st S R := x_step (by decide +kernel) h
def B_X8_habits_111 : List AIn := [(.aload_n 0, 0, 0, 0), (.iload 5, 5, 0, 0), (.putfield 74, 11, 7, 0), (.iload 4, 4, 0, 0), (.ireturn, 0, 0, 0)]
theorem s_X8_habits_111 {d : Nat} {ls st : List AV} {S : MS} {R : Option AV → MS → Prop} (h : wpI (fun t l s S2 => wpX d mX8_habits t l s S2 R) (wpM d) R 120 0 B_X8_habits_111 ls st S) : wpX d mX8_habits 111 ls st S R := x_step (by decide +kernel) h
-- NinthDay.kinds(II)I
def B_X8_kinds_0 : List AIn := [(.aload_n 0, 0, 0, 0), (.iload_n 1, 1, 0, 0), (.iload_n 2, 2, 0, 0), (.invokevirtual 288, 120, 3, 7)]
theorem s_X8_kinds_0 {d : Nat} {ls st : List AV} {S : MS} {R : Option AV → MS → Prop} (h : wpI (fun t l s S2 => wpX d mX8_kinds t l s S2 R) (wpM d) R 6 8 B_X8_kinds_0 ls st S) : wpX d mX8_kinds 0 ls st S R := x_step (by decide +kernel) h
def B_X8_kinds_6 : List AIn := [(.istore_n 3, 3, 0, 0), (.iload_n 3, 3, 0, 0), (.ifCond .eq 5, 13, 8, 0), (.iload_n 3, 3, 0, 0), (.ireturn, 0, 0, 0)]
theorem s_X8_kinds_6 {d : Nat} {ls st : List AV} {S : MS} {R : Option AV → MS → Prop} (h : wpI (fun t l s S2 => wpX d mX8_kinds t l s S2 R) (wpM d) R 13 0 B_X8_kinds_6 ls st S) : wpX d mX8_kinds 6 ls st S R := x_step (by decide +kernel) h
def B_X8_kinds_13 : List AIn := [(.aload_n 0, 0, 0, 0), (.iload_n 1, 1, 0, 0), (.iload_n 2, 2, 0, 0), (.invokevirtual 295, 126, 3, 7)]
theorem s_X8_kinds_13 {d : Nat} {ls st : List AV} {S : MS} {R : Option AV → MS → Prop} (h : wpI (fun t l s S2 => wpX d mX8_kinds t l s S2 R) (wpM d) R 19 15 B_X8_kinds_13 ls st S) : wpX d mX8_kinds 13 ls st S R := x_step (by decide +kernel) h
def B_X8_kinds_19 : List AIn := [(.ireturn, 0, 0, 0)]
theorem s_X8_kinds_19 {d : Nat} {ls st : List AV} {S : MS} {R : Option AV → MS → Prop} (h : wpI (fun t l s S2 => wpX d mX8_kinds t l s S2 R) (wpM d) R 20 0 B_X8_kinds_19 ls st S) : wpX d mX8_kinds 19 ls st S R := x_step (by decide +kernel) h
-- NinthDay.test(II)I
def B_X8_test_0 : List AIn := [(.aload_n 0, 0, 0, 0), (.iload_n 1, 1, 0, 0), (.iload_n 2, 2, 0, 0), (.invokevirtual 288, 120, 3, 7)]
theorem s_X8_test_0 {d : Nat} {ls st : List AV} {S : MS} {R : Option AV → MS → Prop} (h : wpI (fun t l s S2 => wpX d mX8_test t l s S2 R) (wpM d) R 6 504 B_X8_test_0 ls st S) : wpX d mX8_test 0 ls st S R := x_step (by decide +kernel) h
def B_X8_test_6 : List AIn := [(.istore_n 3, 3, 0, 0), (.iload_n 3, 3, 0, 0), (.ifCond .eq 5, 13, 504, 0), (.iload_n 3, 3, 0, 0), (.ireturn, 0, 0, 0)]
theorem s_X8_test_6 {d : Nat} {ls st : List AV} {S : MS} {R : Option AV → MS → Prop} (h : wpI (fun t l s S2 => wpX d mX8_test t l s S2 R) (wpM d) R 13 0 B_X8_test_6 ls st S) : wpX d mX8_test 6 ls st S R := x_step (by decide +kernel) h
def B_X8_test_13 : List AIn := [(.aload_n 0, 0, 0, 0), (.iload_n 1, 1, 0, 0), (.iload_n 2, 2, 0, 0), (.invokevirtual 295, 126, 3, 7)]
theorem s_X8_test_13 {d : Nat} {ls st : List AV} {S : MS} {R : Option AV → MS → Prop} (h : wpI (fun t l s S2 => wpX d mX8_test t l s S2 R) (wpM d) R 19 508 B_X8_test_13 ls st S) : wpX d mX8_test 13 ls st S R := x_step (by decide +kernel) h
def B_X8_test_19 : List AIn := [(.istore 4, 4, 0, 0), (.iload 4, 4, 0, 0), (.ifCond .ne 6, 29, 492, 0), (.bipush (-9), 9, 1, 0), (.ireturn, 0, 0, 0)]
theorem s_X8_test_19 {d : Nat} {ls st : List AV} {S : MS} {R : Option AV → MS → Prop} (h : wpI (fun t l s S2 => wpX d mX8_test t l s S2 R) (wpM d) R 29 0 B_X8_test_19 ls st S) : wpX d mX8_test 19 ls st S R := x_step (by decide +kernel) h
def B_X8_test_29 : List AIn := [(.iconst 1, 1, 0, 0), (.istore 5, 5, 0, 0), (.bipush 7, 7, 0, 0), (.istore 6, 6, 0, 0), (.iconst 1, 1, 0, 0), (.istore 7, 7, 0, 0)]
theorem s_X8_test_29 {d : Nat} {ls st : List AV} {S : MS} {R : Option AV → MS → Prop} (h : wpI (fun t l s S2 => wpX d mX8_test t l s S2 R) (wpM d) R 39 268 B_X8_test_29 ls st S) : wpX d mX8_test 29 ls st S R := x_step (by decide +kernel) h
def B_X8_test_39 : List AIn := [(.iload 7, 7, 0, 0), (.bipush 42, 42, 0, 0), (.if_icmp .gt 35, 78, 414, 0), (.aload_n 0, 0, 0, 0), (.iload_n 1, 1, 0, 0), (.iload 4, 4, 0, 0), (.iload 7, 7, 0, 0), (.invokevirtual 298, 127, 4, 7)]
theorem s_X8_test_39 {d : Nat} {ls st : List AV} {S : MS} {R : Option AV → MS → Prop} (h : wpI (fun t l s S2 => wpX d mX8_test t l s S2 R) (wpM d) R 55 268 B_X8_test_39 ls st S) : wpX d mX8_test 39 ls st S R := x_step (by decide +kernel) h
def B_X8_test_55 : List AIn := [(.istore 8, 8, 0, 0), (.iload 8, 8, 0, 0), (.iload 6, 6, 0, 0), (.if_icmp .ge 11, 72, 268, 0), (.iload 7, 7, 0, 0), (.istore 5, 5, 0, 0), (.iload 8, 8, 0, 0), (.istore 6, 6, 0, 0)]
theorem s_X8_test_55 {d : Nat} {ls st : List AV} {S : MS} {R : Option AV → MS → Prop} (h : wpI (fun t l s S2 => wpX d mX8_test t l s S2 R) (wpM d) R 72 268 B_X8_test_55 ls st S) : wpX d mX8_test 55 ls st S R := x_step (by decide +kernel) h
def B_X8_test_72 : List AIn := [(.iinc 7 1, 1, 0, 0), (.goto (-36), 39, 268, 0)]
theorem s_X8_test_72 {d : Nat} {ls st : List AV} {S : MS} {R : Option AV → MS → Prop} (h : wpI (fun t l s S2 => wpX d mX8_test t l s S2 R) (wpM d) R 78 0 B_X8_test_72 ls st S) : wpX d mX8_test 72 ls st S R := x_step (by decide +kernel) h
def B_X8_test_78 : List AIn := [(.aload_n 0, 0, 0, 0), (.iload 6, 6, 0, 0), (.putfield 74, 11, 7, 0), (.iload 5, 5, 0, 0), (.ireturn, 0, 0, 0)]
theorem s_X8_test_78 {d : Nat} {ls st : List AV} {S : MS} {R : Option AV → MS → Prop} (h : wpI (fun t l s S2 => wpX d mX8_test t l s S2 R) (wpM d) R 87 0 B_X8_test_78 ls st S) : wpX d mX8_test 78 ls st S R := x_step (by decide +kernel) h
-- NinthDay.spare(I)I
def B_X8_spare_0 : List AIn := [(.iload_n 1, 1, 0, 0), (.ifCond .lt 8, 9, 63, 0), (.iload_n 1, 1, 0, 0), (.iconst 5, 5, 0, 0), (.if_icmp .le 5, 11, 60, 0)]
theorem s_X8_spare_0 {d : Nat} {ls st : List AV} {S : MS} {R : Option AV → MS → Prop} (h : wpI (fun t l s S2 => wpX d mX8_spare t l s S2 R) (wpM d) R 9 63 B_X8_spare_0 ls st S) : wpX d mX8_spare 0 ls st S R := x_step (by decide +kernel) h
def B_X8_spare_9 : List AIn := [(.iconst (-1), 1, 1, 0), (.ireturn, 0, 0, 0)]
theorem s_X8_spare_9 {d : Nat} {ls st : List AV} {S : MS} {R : Option AV → MS → Prop} (h : wpI (fun t l s S2 => wpX d mX8_spare t l s S2 R) (wpM d) R 11 0 B_X8_spare_9 ls st S) : wpX d mX8_spare 9 ls st S R := x_step (by decide +kernel) h
def B_X8_spare_11 : List AIn := [(.aload_n 0, 0, 0, 0), (.getfield 30, 3, 7, 0), (.getfield 140, 7, 6, 0), (.ifCond .ne 6, 24, 60, 0), (.bipush (-4), 4, 1, 0), (.ireturn, 0, 0, 0)]
theorem s_X8_spare_11 {d : Nat} {ls st : List AV} {S : MS} {R : Option AV → MS → Prop} (h : wpI (fun t l s S2 => wpX d mX8_spare t l s S2 R) (wpM d) R 24 0 B_X8_spare_11 ls st S) : wpX d mX8_spare 11 ls st S R := x_step (by decide +kernel) h
def B_X8_spare_24 : List AIn := [(.aload_n 0, 0, 0, 0), (.getfield 30, 3, 7, 0), (.invokevirtual 209, 48, 1, 6)]
theorem s_X8_spare_24 {d : Nat} {ls st : List AV} {S : MS} {R : Option AV → MS → Prop} (h : wpI (fun t l s S2 => wpX d mX8_spare t l s S2 R) (wpM d) R 31 60 B_X8_spare_24 ls st S) : wpX d mX8_spare 24 ls st S R := x_step (by decide +kernel) h
def B_X8_spare_31 : List AIn := [(.istore_n 2, 2, 0, 0), (.bipush (-9), 9, 1, 0), (.istore_n 3, 3, 0, 0), (.iconst (-1), 1, 1, 0), (.istore 4, 4, 0, 0), (.iconst 0, 0, 0, 0), (.istore 5, 5, 0, 0)]
theorem s_X8_spare_31 {d : Nat} {ls st : List AV} {S : MS} {R : Option AV → MS → Prop} (h : wpI (fun t l s S2 => wpX d mX8_spare t l s S2 R) (wpM d) R 41 0 B_X8_spare_31 ls st S) : wpX d mX8_spare 31 ls st S R := x_step (by decide +kernel) h
def B_X8_spare_41 : List AIn := [(.iload 5, 5, 0, 0), (.bipush 32, 32, 0, 0), (.if_icmp .ge 55, 100, 38, 0), (.iload 5, 5, 0, 0), (.iload_n 2, 2, 0, 0), (.iconst (-1), 1, 1, 0), (.ixor, 0, 0, 0), (.iand, 0, 0, 0), (.ifCond .ne 40, 94, 0, 0), (.iload 5, 5, 0, 0), (.invokestatic 189, 223, 1, 0)]
theorem s_X8_spare_41 {d : Nat} {ls st : List AV} {S : MS} {R : Option AV → MS → Prop} (h : wpI (fun t l s S2 => wpX d mX8_spare t l s S2 R) (wpM d) R 62 0 B_X8_spare_41 ls st S) : wpX d mX8_spare 41 ls st S R := x_step (by decide +kernel) h
def B_X8_spare_62 : List AIn := [(.iload_n 1, 1, 0, 0), (.if_icmp .ne 31, 94, 0, 0), (.aload_n 0, 0, 0, 0), (.getfield 30, 3, 7, 0), (.iload 5, 5, 0, 0), (.invokevirtual 301, 54, 2, 6)]
theorem s_X8_spare_62 {d : Nat} {ls st : List AV} {S : MS} {R : Option AV → MS → Prop} (h : wpI (fun t l s S2 => wpX d mX8_spare t l s S2 R) (wpM d) R 75 0 B_X8_spare_62 ls st S) : wpX d mX8_spare 62 ls st S R := x_step (by decide +kernel) h
def B_X8_spare_75 : List AIn := [(.iload 4, 4, 0, 0), (.if_icmp .le 17, 94, 0, 0), (.iload 5, 5, 0, 0), (.istore_n 3, 3, 0, 0), (.aload_n 0, 0, 0, 0), (.getfield 30, 3, 7, 0), (.iload 5, 5, 0, 0), (.invokevirtual 301, 54, 2, 6)]
theorem s_X8_spare_75 {d : Nat} {ls st : List AV} {S : MS} {R : Option AV → MS → Prop} (h : wpI (fun t l s S2 => wpX d mX8_spare t l s S2 R) (wpM d) R 92 16 B_X8_spare_75 ls st S) : wpX d mX8_spare 75 ls st S R := x_step (by decide +kernel) h
def B_X8_spare_92 : List AIn := [(.istore 4, 4, 0, 0)]
theorem s_X8_spare_92 {d : Nat} {ls st : List AV} {S : MS} {R : Option AV → MS → Prop} (h : wpI (fun t l s S2 => wpX d mX8_spare t l s S2 R) (wpM d) R 94 0 B_X8_spare_92 ls st S) : wpX d mX8_spare 92 ls st S R := x_step (by decide +kernel) h
def B_X8_spare_94 : List AIn := [(.iinc 5 1, 1, 0, 0), (.goto (-56), 41, 0, 0)]
theorem s_X8_spare_94 {d : Nat} {ls st : List AV} {S : MS} {R : Option AV → MS → Prop} (h : wpI (fun t l s S2 => wpX d mX8_spare t l s S2 R) (wpM d) R 100 0 B_X8_spare_94 ls st S) : wpX d mX8_spare 94 ls st S R := x_step (by decide +kernel) h
def B_X8_spare_100 : List AIn := [(.iload_n 3, 3, 0, 0), (.bipush (-9), 9, 1, 0), (.if_icmp .eq 9, 112, 55, 0), (.aload_n 0, 0, 0, 0), (.iload 4, 4, 0, 0), (.putfield 74, 11, 7, 0)]
theorem s_X8_spare_100 {d : Nat} {ls st : List AV} {S : MS} {R : Option AV → MS → Prop} (h : wpI (fun t l s S2 => wpX d mX8_spare t l s S2 R) (wpM d) R 112 55 B_X8_spare_100 ls st S) : wpX d mX8_spare 100 ls st S R := x_step (by decide +kernel) h
def B_X8_spare_112 : List AIn := [(.iload_n 3, 3, 0, 0), (.ireturn, 0, 0, 0)]
theorem s_X8_spare_112 {d : Nat} {ls st : List AV} {S : MS} {R : Option AV → MS → Prop} (h : wpI (fun t l s S2 => wpX d mX8_spare t l s S2 R) (wpM d) R 114 0 B_X8_spare_112 ls st S) : wpX d mX8_spare 112 ls st S R := x_step (by decide +kernel) h
-- NinthDay.tempt(I)I
def B_X8_tempt_0 : List AIn := [(.iload_n 1, 1, 0, 0), (.ifCond .lt 8, 9, 3, 0), (.iload_n 1, 1, 0, 0), (.iconst 5, 5, 0, 0), (.if_icmp .le 5, 11, 0, 0)]
theorem s_X8_tempt_0 {d : Nat} {ls st : List AV} {S : MS} {R : Option AV → MS → Prop} (h : wpI (fun t l s S2 => wpX d mX8_tempt t l s S2 R) (wpM d) R 9 3 B_X8_tempt_0 ls st S) : wpX d mX8_tempt 0 ls st S R := x_step (by decide +kernel) h
def B_X8_tempt_9 : List AIn := [(.iconst (-1), 1, 1, 0), (.ireturn, 0, 0, 0)]
theorem s_X8_tempt_9 {d : Nat} {ls st : List AV} {S : MS} {R : Option AV → MS → Prop} (h : wpI (fun t l s S2 => wpX d mX8_tempt t l s S2 R) (wpM d) R 11 0 B_X8_tempt_9 ls st S) : wpX d mX8_tempt 9 ls st S R := x_step (by decide +kernel) h
def B_X8_tempt_11 : List AIn := [(.aload_n 0, 0, 0, 0), (.getfield 30, 3, 7, 0), (.getfield 140, 7, 6, 0), (.ifCond .ne 6, 24, 0, 0), (.bipush (-4), 4, 1, 0), (.ireturn, 0, 0, 0)]
theorem s_X8_tempt_11 {d : Nat} {ls st : List AV} {S : MS} {R : Option AV → MS → Prop} (h : wpI (fun t l s S2 => wpX d mX8_tempt t l s S2 R) (wpM d) R 24 0 B_X8_tempt_11 ls st S) : wpX d mX8_tempt 11 ls st S R := x_step (by decide +kernel) h
def B_X8_tempt_24 : List AIn := [(.aload_n 0, 0, 0, 0), (.getfield 30, 3, 7, 0), (.invokevirtual 182, 53, 1, 6)]
theorem s_X8_tempt_24 {d : Nat} {ls st : List AV} {S : MS} {R : Option AV → MS → Prop} (h : wpI (fun t l s S2 => wpX d mX8_tempt t l s S2 R) (wpM d) R 31 0 B_X8_tempt_24 ls st S) : wpX d mX8_tempt 24 ls st S R := x_step (by decide +kernel) h
def B_X8_tempt_31 : List AIn := [(.aload_n 0, 0, 0, 0), (.getfield 30, 3, 7, 0), (.invokevirtual 209, 48, 1, 6)]
theorem s_X8_tempt_31 {d : Nat} {ls st : List AV} {S : MS} {R : Option AV → MS → Prop} (h : wpI (fun t l s S2 => wpX d mX8_tempt t l s S2 R) (wpM d) R 38 0 B_X8_tempt_31 ls st S) : wpX d mX8_tempt 31 ls st S R := x_step (by decide +kernel) h
def B_X8_tempt_38 : List AIn := [(.aload_n 0, 0, 0, 0), (.getfield 30, 3, 7, 0), (.getfield 186, 9, 6, 0), (.iload_n 1, 1, 0, 0), (.iconst 1, 1, 0, 0), (.invokestatic 304, 129, 5, 0)]
theorem s_X8_tempt_38 {d : Nat} {ls st : List AV} {S : MS} {R : Option AV → MS → Prop} (h : wpI (fun t l s S2 => wpX d mX8_tempt t l s S2 R) (wpM d) R 50 3 B_X8_tempt_38 ls st S) : wpX d mX8_tempt 38 ls st S R := x_step (by decide +kernel) h
def B_X8_tempt_50 : List AIn := [(.ireturn, 0, 0, 0)]
theorem s_X8_tempt_50 {d : Nat} {ls st : List AV} {S : MS} {R : Option AV → MS → Prop} (h : wpI (fun t l s S2 => wpX d mX8_tempt t l s S2 R) (wpM d) R 51 0 B_X8_tempt_50 ls st S) : wpX d mX8_tempt 50 ls st S R := x_step (by decide +kernel) h
-- NinthDay.odds(II)I
def B_X8_odds_0 : List AIn := [(.iload_n 1, 1, 0, 0), (.ifCond .lt 18, 19, 255, 0), (.iload_n 1, 1, 0, 0), (.iconst 5, 5, 0, 0), (.if_icmp .gt 13, 19, 255, 0), (.iload_n 2, 2, 0, 0), (.ifCond .lt 9, 19, 255, 0), (.iload_n 2, 2, 0, 0), (.bipush 12, 12, 0, 0), (.if_icmp .le 5, 21, 248, 0)]
theorem s_X8_odds_0 {d : Nat} {ls st : List AV} {S : MS} {R : Option AV → MS → Prop} (h : wpI (fun t l s S2 => wpX d mX8_odds t l s S2 R) (wpM d) R 19 255 B_X8_odds_0 ls st S) : wpX d mX8_odds 0 ls st S R := x_step (by decide +kernel) h
def B_X8_odds_19 : List AIn := [(.iconst (-1), 1, 1, 0), (.ireturn, 0, 0, 0)]
theorem s_X8_odds_19 {d : Nat} {ls st : List AV} {S : MS} {R : Option AV → MS → Prop} (h : wpI (fun t l s S2 => wpX d mX8_odds t l s S2 R) (wpM d) R 21 0 B_X8_odds_19 ls st S) : wpX d mX8_odds 19 ls st S R := x_step (by decide +kernel) h
def B_X8_odds_21 : List AIn := [(.aload_n 0, 0, 0, 0), (.getfield 30, 3, 7, 0), (.getfield 140, 7, 6, 0), (.ifCond .ne 6, 34, 248, 0), (.bipush (-4), 4, 1, 0), (.ireturn, 0, 0, 0)]
theorem s_X8_odds_21 {d : Nat} {ls st : List AV} {S : MS} {R : Option AV → MS → Prop} (h : wpI (fun t l s S2 => wpX d mX8_odds t l s S2 R) (wpM d) R 34 0 B_X8_odds_21 ls st S) : wpX d mX8_odds 21 ls st S R := x_step (by decide +kernel) h
def B_X8_odds_34 : List AIn := [(.aload_n 0, 0, 0, 0), (.getfield 30, 3, 7, 0), (.iconst 0, 0, 0, 0), (.invokevirtual 236, 56, 2, 6)]
theorem s_X8_odds_34 {d : Nat} {ls st : List AV} {S : MS} {R : Option AV → MS → Prop} (h : wpI (fun t l s S2 => wpX d mX8_odds t l s S2 R) (wpM d) R 42 248 B_X8_odds_34 ls st S) : wpX d mX8_odds 34 ls st S R := x_step (by decide +kernel) h
def B_X8_odds_42 : List AIn := [(.invokestatic 189, 223, 1, 0)]
theorem s_X8_odds_42 {d : Nat} {ls st : List AV} {S : MS} {R : Option AV → MS → Prop} (h : wpI (fun t l s S2 => wpX d mX8_odds t l s S2 R) (wpM d) R 45 248 B_X8_odds_42 ls st S) : wpX d mX8_odds 42 ls st S R := x_step (by decide +kernel) h
def B_X8_odds_45 : List AIn := [(.istore_n 3, 3, 0, 0), (.lconst 0, 0, 0, 0), (.lstore 4, 4, 0, 0), (.iconst 0, 0, 0, 0), (.istore 6, 6, 0, 0)]
theorem s_X8_odds_45 {d : Nat} {ls st : List AV} {S : MS} {R : Option AV → MS → Prop} (h : wpI (fun t l s S2 => wpX d mX8_odds t l s S2 R) (wpM d) R 52 160 B_X8_odds_45 ls st S) : wpX d mX8_odds 45 ls st S R := x_step (by decide +kernel) h
def B_X8_odds_52 : List AIn := [(.iload 6, 6, 0, 0), (.iconst 1, 1, 0, 0), (.iload_n 3, 3, 0, 0), (.ishl, 0, 0, 0), (.if_icmp .ge 45, 102, 230, 0), (.iload 6, 6, 0, 0), (.invokestatic 189, 223, 1, 0)]
theorem s_X8_odds_52 {d : Nat} {ls st : List AV} {S : MS} {R : Option AV → MS → Prop} (h : wpI (fun t l s S2 => wpX d mX8_odds t l s S2 R) (wpM d) R 65 160 B_X8_odds_52 ls st S) : wpX d mX8_odds 52 ls st S R := x_step (by decide +kernel) h
def B_X8_odds_65 : List AIn := [(.istore 7, 7, 0, 0), (.iload 7, 7, 0, 0), (.iload_n 1, 1, 0, 0), (.if_icmp .lt 26, 96, 160, 0), (.lload 4, 4, 0, 0), (.bipush 12, 12, 0, 0), (.iload_n 2, 2, 0, 0), (.isub, 0, 0, 0), (.iload 7, 7, 0, 0), (.invokestatic 308, 130, 2, 0)]
theorem s_X8_odds_65 {d : Nat} {ls st : List AV} {S : MS} {R : Option AV → MS → Prop} (h : wpI (fun t l s S2 => wpX d mX8_odds t l s S2 R) (wpM d) R 84 48 B_X8_odds_65 ls st S) : wpX d mX8_odds 65 ls st S R := x_step (by decide +kernel) h
def B_X8_odds_84 : List AIn := [(.iload_n 2, 2, 0, 0), (.iload_n 3, 3, 0, 0), (.iload 7, 7, 0, 0), (.isub, 0, 0, 0), (.invokestatic 308, 130, 2, 0)]
theorem s_X8_odds_84 {d : Nat} {ls st : List AV} {S : MS} {R : Option AV → MS → Prop} (h : wpI (fun t l s S2 => wpX d mX8_odds t l s S2 R) (wpM d) R 92 176 B_X8_odds_84 ls st S) : wpX d mX8_odds 84 ls st S R := x_step (by decide +kernel) h
def B_X8_odds_92 : List AIn := [(.lmul, 0, 0, 0), (.ladd, 0, 0, 0), (.lstore 4, 4, 0, 0)]
theorem s_X8_odds_92 {d : Nat} {ls st : List AV} {S : MS} {R : Option AV → MS → Prop} (h : wpI (fun t l s S2 => wpX d mX8_odds t l s S2 R) (wpM d) R 96 160 B_X8_odds_92 ls st S) : wpX d mX8_odds 92 ls st S R := x_step (by decide +kernel) h
def B_X8_odds_96 : List AIn := [(.iinc 6 1, 1, 0, 0), (.goto (-47), 52, 160, 0)]
theorem s_X8_odds_96 {d : Nat} {ls st : List AV} {S : MS} {R : Option AV → MS → Prop} (h : wpI (fun t l s S2 => wpX d mX8_odds t l s S2 R) (wpM d) R 102 0 B_X8_odds_96 ls st S) : wpX d mX8_odds 96 ls st S R := x_step (by decide +kernel) h
def B_X8_odds_102 : List AIn := [(.aload_n 0, 0, 0, 0), (.getfield 62, 8, 7, 0), (.lload 4, 4, 0, 0), (.bipush 12, 12, 0, 0), (.iload_n 3, 3, 0, 0), (.invokestatic 308, 130, 2, 0)]
theorem s_X8_odds_102 {d : Nat} {ls st : List AV} {S : MS} {R : Option AV → MS → Prop} (h : wpI (fun t l s S2 => wpX d mX8_odds t l s S2 R) (wpM d) R 114 255 B_X8_odds_102 ls st S) : wpX d mX8_odds 102 ls st S R := x_step (by decide +kernel) h
def B_X8_odds_114 : List AIn := [(.invokevirtual 281, 35, 3, 4)]
theorem s_X8_odds_114 {d : Nat} {ls st : List AV} {S : MS} {R : Option AV → MS → Prop} (h : wpI (fun t l s S2 => wpX d mX8_odds t l s S2 R) (wpM d) R 117 255 B_X8_odds_114 ls st S) : wpX d mX8_odds 114 ls st S R := x_step (by decide +kernel) h
def B_X8_odds_117 : List AIn := [(.iconst 1, 1, 0, 0), (.ireturn, 0, 0, 0)]
theorem s_X8_odds_117 {d : Nat} {ls st : List AV} {S : MS} {R : Option AV → MS → Prop} (h : wpI (fun t l s S2 => wpX d mX8_odds t l s S2 R) (wpM d) R 119 0 B_X8_odds_117 ls st S) : wpX d mX8_odds 117 ls st S R := x_step (by decide +kernel) h
-- NinthDay.mid(I)I
def B_X8_mid_0 : List AIn := [(.iload_n 1, 1, 0, 0), (.ifCond .lt 9, 10, 127, 0), (.iload_n 1, 1, 0, 0), (.bipush 12, 12, 0, 0), (.if_icmp .le 5, 12, 124, 0)]
theorem s_X8_mid_0 {d : Nat} {ls st : List AV} {S : MS} {R : Option AV → MS → Prop} (h : wpI (fun t l s S2 => wpX d mX8_mid t l s S2 R) (wpM d) R 10 127 B_X8_mid_0 ls st S) : wpX d mX8_mid 0 ls st S R := x_step (by decide +kernel) h
def B_X8_mid_10 : List AIn := [(.iconst (-1), 1, 1, 0), (.ireturn, 0, 0, 0)]
theorem s_X8_mid_10 {d : Nat} {ls st : List AV} {S : MS} {R : Option AV → MS → Prop} (h : wpI (fun t l s S2 => wpX d mX8_mid t l s S2 R) (wpM d) R 12 0 B_X8_mid_10 ls st S) : wpX d mX8_mid 10 ls st S R := x_step (by decide +kernel) h
def B_X8_mid_12 : List AIn := [(.aload_n 0, 0, 0, 0), (.getfield 30, 3, 7, 0), (.getfield 140, 7, 6, 0), (.ifCond .ne 6, 25, 124, 0), (.bipush (-4), 4, 1, 0), (.ireturn, 0, 0, 0)]
theorem s_X8_mid_12 {d : Nat} {ls st : List AV} {S : MS} {R : Option AV → MS → Prop} (h : wpI (fun t l s S2 => wpX d mX8_mid t l s S2 R) (wpM d) R 25 0 B_X8_mid_12 ls st S) : wpX d mX8_mid 12 ls st S R := x_step (by decide +kernel) h
def B_X8_mid_25 : List AIn := [(.aload_n 0, 0, 0, 0), (.getfield 30, 3, 7, 0), (.iconst 0, 0, 0, 0), (.invokevirtual 236, 56, 2, 6)]
theorem s_X8_mid_25 {d : Nat} {ls st : List AV} {S : MS} {R : Option AV → MS → Prop} (h : wpI (fun t l s S2 => wpX d mX8_mid t l s S2 R) (wpM d) R 33 124 B_X8_mid_25 ls st S) : wpX d mX8_mid 25 ls st S R := x_step (by decide +kernel) h
def B_X8_mid_33 : List AIn := [(.istore_n 2, 2, 0, 0), (.lconst 0, 0, 0, 0), (.lstore_n 3, 3, 0, 0), (.iconst 0, 0, 0, 0), (.istore 5, 5, 0, 0)]
theorem s_X8_mid_33 {d : Nat} {ls st : List AV} {S : MS} {R : Option AV → MS → Prop} (h : wpI (fun t l s S2 => wpX d mX8_mid t l s S2 R) (wpM d) R 39 80 B_X8_mid_33 ls st S) : wpX d mX8_mid 33 ls st S R := x_step (by decide +kernel) h
def B_X8_mid_39 : List AIn := [(.iload 5, 5, 0, 0), (.aload_n 0, 0, 0, 0), (.getfield 30, 3, 7, 0), (.getfield 140, 7, 6, 0), (.if_icmp .ge 102, 150, 118, 0), (.aload_n 0, 0, 0, 0), (.getfield 30, 3, 7, 0), (.iload 5, 5, 0, 0), (.invokevirtual 206, 47, 2, 6)]
theorem s_X8_mid_39 {d : Nat} {ls st : List AV} {S : MS} {R : Option AV → MS → Prop} (h : wpI (fun t l s S2 => wpX d mX8_mid t l s S2 R) (wpM d) R 60 80 B_X8_mid_39 ls st S) : wpX d mX8_mid 39 ls st S R := x_step (by decide +kernel) h
def B_X8_mid_60 : List AIn := [(.ifCond .ne 84, 144, 80, 0), (.iload_n 2, 2, 0, 0), (.iload 5, 5, 0, 0), (.ishr, 0, 0, 0), (.iconst 1, 1, 0, 0), (.iand, 0, 0, 0), (.iconst 1, 1, 0, 0), (.if_icmp .ne 7, 77, 80, 0), (.iload_n 1, 1, 0, 0), (.goto 5, 79, 80, 0)]
theorem s_X8_mid_60 {d : Nat} {ls st : List AV} {S : MS} {R : Option AV → MS → Prop} (h : wpI (fun t l s S2 => wpX d mX8_mid t l s S2 R) (wpM d) R 77 0 B_X8_mid_60 ls st S) : wpX d mX8_mid 60 ls st S R := x_step (by decide +kernel) h
def B_X8_mid_77 : List AIn := [(.bipush 12, 12, 0, 0)]
theorem s_X8_mid_77 {d : Nat} {ls st : List AV} {S : MS} {R : Option AV → MS → Prop} (h : wpI (fun t l s S2 => wpX d mX8_mid t l s S2 R) (wpM d) R 79 80 B_X8_mid_77 ls st S) : wpX d mX8_mid 77 ls st S R := x_step (by decide +kernel) h
def B_X8_mid_79 : List AIn := [(.istore 6, 6, 0, 0), (.lload_n 3, 3, 0, 0), (.iload 6, 6, 0, 0), (.aload_n 0, 0, 0, 0), (.getfield 30, 3, 7, 0), (.getfield 151, 0, 6, 0), (.iload 5, 5, 0, 0), (.iaload, 0, 0, 0), (.aload_n 0, 0, 0, 0), (.getfield 30, 3, 7, 0), (.getfield 256, 2, 6, 0), (.iload 5, 5, 0, 0), (.iaload, 0, 0, 0), (.invokestatic 312, 15, 2, 0)]
theorem s_X8_mid_79 {d : Nat} {ls st : List AV} {S : MS} {R : Option AV → MS → Prop} (h : wpI (fun t l s S2 => wpX d mX8_mid t l s S2 R) (wpM d) R 107 24 B_X8_mid_79 ls st S) : wpX d mX8_mid 79 ls st S R := x_step (by decide +kernel) h
def B_X8_mid_107 : List AIn := [(.imul, 0, 0, 0), (.i2l, 0, 0, 0), (.ladd, 0, 0, 0), (.lstore_n 3, 3, 0, 0), (.lload_n 3, 3, 0, 0), (.bipush 12, 12, 0, 0), (.iload 6, 6, 0, 0), (.isub, 0, 0, 0), (.aload_n 0, 0, 0, 0), (.getfield 30, 3, 7, 0), (.getfield 151, 0, 6, 0), (.iload 5, 5, 0, 0), (.iaload, 0, 0, 0), (.aload_n 0, 0, 0, 0), (.getfield 30, 3, 7, 0), (.getfield 256, 2, 6, 0), (.iload 5, 5, 0, 0), (.iaload, 0, 0, 0), (.invokestatic 268, 14, 2, 0)]
theorem s_X8_mid_107 {d : Nat} {ls st : List AV} {S : MS} {R : Option AV → MS → Prop} (h : wpI (fun t l s S2 => wpX d mX8_mid t l s S2 R) (wpM d) R 140 88 B_X8_mid_107 ls st S) : wpX d mX8_mid 107 ls st S R := x_step (by decide +kernel) h
def B_X8_mid_140 : List AIn := [(.imul, 0, 0, 0), (.i2l, 0, 0, 0), (.ladd, 0, 0, 0), (.lstore_n 3, 3, 0, 0)]
theorem s_X8_mid_140 {d : Nat} {ls st : List AV} {S : MS} {R : Option AV → MS → Prop} (h : wpI (fun t l s S2 => wpX d mX8_mid t l s S2 R) (wpM d) R 144 80 B_X8_mid_140 ls st S) : wpX d mX8_mid 140 ls st S R := x_step (by decide +kernel) h
def B_X8_mid_144 : List AIn := [(.iinc 5 1, 1, 0, 0), (.goto (-108), 39, 80, 0)]
theorem s_X8_mid_144 {d : Nat} {ls st : List AV} {S : MS} {R : Option AV → MS → Prop} (h : wpI (fun t l s S2 => wpX d mX8_mid t l s S2 R) (wpM d) R 150 0 B_X8_mid_144 ls st S) : wpX d mX8_mid 144 ls st S R := x_step (by decide +kernel) h
def B_X8_mid_150 : List AIn := [(.aload_n 0, 0, 0, 0), (.getfield 62, 8, 7, 0), (.lload_n 3, 3, 0, 0), (.ldc2_w 315, 12, 0, 0), (.invokevirtual 281, 35, 3, 4)]
theorem s_X8_mid_150 {d : Nat} {ls st : List AV} {S : MS} {R : Option AV → MS → Prop} (h : wpI (fun t l s S2 => wpX d mX8_mid t l s S2 R) (wpM d) R 161 127 B_X8_mid_150 ls st S) : wpX d mX8_mid 150 ls st S R := x_step (by decide +kernel) h
def B_X8_mid_161 : List AIn := [(.iconst 1, 1, 0, 0), (.ireturn, 0, 0, 0)]
theorem s_X8_mid_161 {d : Nat} {ls st : List AV} {S : MS} {R : Option AV → MS → Prop} (h : wpI (fun t l s S2 => wpX d mX8_mid t l s S2 R) (wpM d) R 163 0 B_X8_mid_161 ls st S) : wpX d mX8_mid 161 ls st S R := x_step (by decide +kernel) h
-- NinthDay.lots(II)I
def B_X8_lots_0 : List AIn := [(.iload_n 1, 1, 0, 0), (.iconst 1, 1, 0, 0), (.if_icmp .lt 21, 23, 511, 0), (.iload_n 1, 1, 0, 0), (.bipush 20, 20, 0, 0), (.if_icmp .gt 15, 23, 511, 0), (.iload_n 2, 2, 0, 0), (.iconst 1, 1, 0, 0), (.if_icmp .lt 10, 23, 511, 0), (.iload_n 2, 2, 0, 0), (.ldc_w 317, 2147483647, 0, 0), (.if_icmp .lt 5, 25, 504, 0)]
theorem s_X8_lots_0 {d : Nat} {ls st : List AV} {S : MS} {R : Option AV → MS → Prop} (h : wpI (fun t l s S2 => wpX d mX8_lots t l s S2 R) (wpM d) R 23 511 B_X8_lots_0 ls st S) : wpX d mX8_lots 0 ls st S R := x_step (by decide +kernel) h
def B_X8_lots_23 : List AIn := [(.iconst (-1), 1, 1, 0), (.ireturn, 0, 0, 0)]
theorem s_X8_lots_23 {d : Nat} {ls st : List AV} {S : MS} {R : Option AV → MS → Prop} (h : wpI (fun t l s S2 => wpX d mX8_lots t l s S2 R) (wpM d) R 25 0 B_X8_lots_23 ls st S) : wpX d mX8_lots 23 ls st S R := x_step (by decide +kernel) h
def B_X8_lots_25 : List AIn := [(.aload_n 0, 0, 0, 0), (.getfield 30, 3, 7, 0), (.getfield 140, 7, 6, 0), (.ifCond .gt 6, 38, 504, 0), (.bipush (-4), 4, 1, 0), (.ireturn, 0, 0, 0)]
theorem s_X8_lots_25 {d : Nat} {ls st : List AV} {S : MS} {R : Option AV → MS → Prop} (h : wpI (fun t l s S2 => wpX d mX8_lots t l s S2 R) (wpM d) R 38 0 B_X8_lots_25 ls st S) : wpX d mX8_lots 25 ls st S R := x_step (by decide +kernel) h
def B_X8_lots_38 : List AIn := [(.aload_n 0, 0, 0, 0), (.getfield 48, 6, 7, 0), (.iload_n 1, 1, 0, 0), (.invokevirtual 197, 4, 2, 0)]
theorem s_X8_lots_38 {d : Nat} {ls st : List AV} {S : MS} {R : Option AV → MS → Prop} (h : wpI (fun t l s S2 => wpX d mX8_lots t l s S2 R) (wpM d) R 46 504 B_X8_lots_38 ls st S) : wpX d mX8_lots 38 ls st S R := x_step (by decide +kernel) h
def B_X8_lots_46 : List AIn := [(.ifCond .ne 6, 52, 504, 0), (.bipush (-2), 2, 1, 0), (.ireturn, 0, 0, 0)]
theorem s_X8_lots_46 {d : Nat} {ls st : List AV} {S : MS} {R : Option AV → MS → Prop} (h : wpI (fun t l s S2 => wpX d mX8_lots t l s S2 R) (wpM d) R 52 0 B_X8_lots_46 ls st S) : wpX d mX8_lots 46 ls st S R := x_step (by decide +kernel) h
def B_X8_lots_52 : List AIn := [(.iload_n 2, 2, 0, 0), (.i2l, 0, 0, 0), (.lstore_n 3, 3, 0, 0), (.iconst 0, 0, 0, 0), (.istore 5, 5, 0, 0), (.iconst 0, 0, 0, 0), (.istore 6, 6, 0, 0)]
theorem s_X8_lots_52 {d : Nat} {ls st : List AV} {S : MS} {R : Option AV → MS → Prop} (h : wpI (fun t l s S2 => wpX d mX8_lots t l s S2 R) (wpM d) R 61 404 B_X8_lots_52 ls st S) : wpX d mX8_lots 52 ls st S R := x_step (by decide +kernel) h
def B_X8_lots_61 : List AIn := [(.iload 6, 6, 0, 0), (.iload_n 1, 1, 0, 0), (.if_icmp .ge 79, 143, 479, 0), (.lload_n 3, 3, 0, 0), (.ldc2_w 318, 48271, 0, 0), (.lmul, 0, 0, 0), (.ldc2_w 320, 2147483647, 0, 0), (.lrem, 0, 0, 0), (.lstore_n 3, 3, 0, 0), (.lload_n 3, 3, 0, 0), (.ldc2_w 322, 8, 0, 0), (.ldiv, 0, 0, 0), (.aload_n 0, 0, 0, 0), (.getfield 30, 3, 7, 0), (.getfield 140, 7, 6, 0), (.i2l, 0, 0, 0), (.lrem, 0, 0, 0), (.l2i, 0, 0, 0), (.istore 7, 7, 0, 0), (.aload_n 0, 0, 0, 0), (.getfield 30, 3, 7, 0), (.lload_n 3, 3, 0, 0), (.ldc2_w 324, 4, 0, 0), (.lrem, 0, 0, 0), (.l2i, 0, 0, 0), (.invokevirtual 236, 56, 2, 6)]
theorem s_X8_lots_61 {d : Nat} {ls st : List AV} {S : MS} {R : Option AV → MS → Prop} (h : wpI (fun t l s S2 => wpX d mX8_lots t l s S2 R) (wpM d) R 107 276 B_X8_lots_61 ls st S) : wpX d mX8_lots 61 ls st S R := x_step (by decide +kernel) h
def B_X8_lots_107 : List AIn := [(.iconst 1, 1, 0, 0), (.iload 7, 7, 0, 0), (.ishl, 0, 0, 0), (.iconst (-1), 1, 1, 0), (.ixor, 0, 0, 0), (.iand, 0, 0, 0), (.istore 8, 8, 0, 0), (.aload_n 0, 0, 0, 0), (.iconst 0, 0, 0, 0), (.iload 8, 8, 0, 0), (.iconst 0, 0, 0, 0), (.invokestatic 200, 0, 3, 0)]
theorem s_X8_lots_107 {d : Nat} {ls st : List AV} {S : MS} {R : Option AV → MS → Prop} (h : wpI (fun t l s S2 => wpX d mX8_lots t l s S2 R) (wpM d) R 124 148 B_X8_lots_107 ls st S) : wpX d mX8_lots 107 ls st S R := x_step (by decide +kernel) h
def B_X8_lots_124 : List AIn := [(.invokevirtual 203, 109, 2, 7)]
theorem s_X8_lots_124 {d : Nat} {ls st : List AV} {S : MS} {R : Option AV → MS → Prop} (h : wpI (fun t l s S2 => wpX d mX8_lots t l s S2 R) (wpM d) R 127 148 B_X8_lots_124 ls st S) : wpX d mX8_lots 124 ls st S R := x_step (by decide +kernel) h
def B_X8_lots_127 : List AIn := [(.iload 5, 5, 0, 0), (.iload 8, 8, 0, 0), (.invokestatic 189, 223, 1, 0)]
theorem s_X8_lots_127 {d : Nat} {ls st : List AV} {S : MS} {R : Option AV → MS → Prop} (h : wpI (fun t l s S2 => wpX d mX8_lots t l s S2 R) (wpM d) R 134 436 B_X8_lots_127 ls st S) : wpX d mX8_lots 127 ls st S R := x_step (by decide +kernel) h
def B_X8_lots_134 : List AIn := [(.iadd, 0, 0, 0), (.istore 5, 5, 0, 0), (.iinc 6 1, 1, 0, 0), (.goto (-79), 61, 404, 0)]
theorem s_X8_lots_134 {d : Nat} {ls st : List AV} {S : MS} {R : Option AV → MS → Prop} (h : wpI (fun t l s S2 => wpX d mX8_lots t l s S2 R) (wpM d) R 143 0 B_X8_lots_134 ls st S) : wpX d mX8_lots 134 ls st S R := x_step (by decide +kernel) h
def B_X8_lots_143 : List AIn := [(.iload 5, 5, 0, 0), (.ireturn, 0, 0, 0)]
theorem s_X8_lots_143 {d : Nat} {ls st : List AV} {S : MS} {R : Option AV → MS → Prop} (h : wpI (fun t l s S2 => wpX d mX8_lots t l s S2 R) (wpM d) R 146 0 B_X8_lots_143 ls st S) : wpX d mX8_lots 143 ls st S R := x_step (by decide +kernel) h
-- NinthDay.asked()I
def B_X8_asked_0 : List AIn := [(.aload_n 0, 0, 0, 0), (.getfield 74, 11, 7, 0), (.ireturn, 0, 0, 0)]
theorem s_X8_asked_0 {d : Nat} {ls st : List AV} {S : MS} {R : Option AV → MS → Prop} (h : wpI (fun t l s S2 => wpX d mX8_asked t l s S2 R) (wpM d) R 5 0 B_X8_asked_0 ls st S) : wpX d mX8_asked 0 ls st S R := x_step (by decide +kernel) h
-- NinthDay.upper()J
def B_X8_upper_0 : List AIn := [(.aload_n 0, 0, 0, 0), (.getfield 62, 8, 7, 0), (.getfield 326, 0, 4, 0), (.lreturn, 0, 0, 0)]
theorem s_X8_upper_0 {d : Nat} {ls st : List AV} {S : MS} {R : Option AV → MS → Prop} (h : wpI (fun t l s S2 => wpX d mX8_upper t l s S2 R) (wpM d) R 8 0 B_X8_upper_0 ls st S) : wpX d mX8_upper 0 ls st S R := x_step (by decide +kernel) h
-- NinthDay.lower()J
def B_X8_lower_0 : List AIn := [(.aload_n 0, 0, 0, 0), (.getfield 62, 8, 7, 0), (.getfield 330, 1, 4, 0), (.lreturn, 0, 0, 0)]
theorem s_X8_lower_0 {d : Nat} {ls st : List AV} {S : MS} {R : Option AV → MS → Prop} (h : wpI (fun t l s S2 => wpX d mX8_lower t l s S2 R) (wpM d) R 8 0 B_X8_lower_0 ls st S) : wpX d mX8_lower 0 ls st S R := x_step (by decide +kernel) h
-- NinthDay.count(I)I
def B_X8_count_0 : List AIn := [(.iload_n 1, 1, 0, 0), (.tableswitch 147 0 10 #[59, 67, 75, 83, 91, 99, 107, 115, 123, 131, 139], 1, 2, 0)]
theorem s_X8_count_0 {d : Nat} {ls st : List AV} {S : MS} {R : Option AV → MS → Prop} (h : wpI (fun t l s S2 => wpX d mX8_count t l s S2 R) (wpM d) R 60 0 B_X8_count_0 ls st S) : wpX d mX8_count 0 ls st S R := x_step (by decide +kernel) h
def B_X8_count_60 : List AIn := [(.aload_n 0, 0, 0, 0), (.getfield 30, 3, 7, 0), (.getfield 140, 7, 6, 0), (.ireturn, 0, 0, 0)]
theorem s_X8_count_60 {d : Nat} {ls st : List AV} {S : MS} {R : Option AV → MS → Prop} (h : wpI (fun t l s S2 => wpX d mX8_count t l s S2 R) (wpM d) R 68 0 B_X8_count_60 ls st S) : wpX d mX8_count 60 ls st S R := x_step (by decide +kernel) h
def B_X8_count_68 : List AIn := [(.aload_n 0, 0, 0, 0), (.getfield 30, 3, 7, 0), (.getfield 161, 8, 6, 0), (.ireturn, 0, 0, 0)]
theorem s_X8_count_68 {d : Nat} {ls st : List AV} {S : MS} {R : Option AV → MS → Prop} (h : wpI (fun t l s S2 => wpX d mX8_count t l s S2 R) (wpM d) R 76 0 B_X8_count_68 ls st S) : wpX d mX8_count 68 ls st S R := x_step (by decide +kernel) h
def B_X8_count_76 : List AIn := [(.aload_n 0, 0, 0, 0), (.getfield 48, 6, 7, 0), (.getfield 213, 3, 0, 0), (.ireturn, 0, 0, 0)]
theorem s_X8_count_76 {d : Nat} {ls st : List AV} {S : MS} {R : Option AV → MS → Prop} (h : wpI (fun t l s S2 => wpX d mX8_count t l s S2 R) (wpM d) R 84 0 B_X8_count_76 ls st S) : wpX d mX8_count 76 ls st S R := x_step (by decide +kernel) h
def B_X8_count_84 : List AIn := [(.aload_n 0, 0, 0, 0), (.getfield 30, 3, 7, 0), (.getfield 186, 9, 6, 0), (.ireturn, 0, 0, 0)]
theorem s_X8_count_84 {d : Nat} {ls st : List AV} {S : MS} {R : Option AV → MS → Prop} (h : wpI (fun t l s S2 => wpX d mX8_count t l s S2 R) (wpM d) R 92 0 B_X8_count_84 ls st S) : wpX d mX8_count 84 ls st S R := x_step (by decide +kernel) h
def B_X8_count_92 : List AIn := [(.aload_n 0, 0, 0, 0), (.getfield 30, 3, 7, 0), (.getfield 194, 10, 6, 0), (.ireturn, 0, 0, 0)]
theorem s_X8_count_92 {d : Nat} {ls st : List AV} {S : MS} {R : Option AV → MS → Prop} (h : wpI (fun t l s S2 => wpX d mX8_count t l s S2 R) (wpM d) R 100 0 B_X8_count_92 ls st S) : wpX d mX8_count 92 ls st S R := x_step (by decide +kernel) h
def B_X8_count_100 : List AIn := [(.aload_n 0, 0, 0, 0), (.getfield 30, 3, 7, 0), (.invokevirtual 209, 48, 1, 6)]
theorem s_X8_count_100 {d : Nat} {ls st : List AV} {S : MS} {R : Option AV → MS → Prop} (h : wpI (fun t l s S2 => wpX d mX8_count t l s S2 R) (wpM d) R 107 3 B_X8_count_100 ls st S) : wpX d mX8_count 100 ls st S R := x_step (by decide +kernel) h
def B_X8_count_107 : List AIn := [(.ireturn, 0, 0, 0)]
theorem s_X8_count_107 {d : Nat} {ls st : List AV} {S : MS} {R : Option AV → MS → Prop} (h : wpI (fun t l s S2 => wpX d mX8_count t l s S2 R) (wpM d) R 108 0 B_X8_count_107 ls st S) : wpX d mX8_count 107 ls st S R := x_step (by decide +kernel) h
def B_X8_count_108 : List AIn := [(.aload_n 0, 0, 0, 0), (.getfield 30, 3, 7, 0), (.invokevirtual 333, 49, 1, 6)]
theorem s_X8_count_108 {d : Nat} {ls st : List AV} {S : MS} {R : Option AV → MS → Prop} (h : wpI (fun t l s S2 => wpX d mX8_count t l s S2 R) (wpM d) R 115 3 B_X8_count_108 ls st S) : wpX d mX8_count 108 ls st S R := x_step (by decide +kernel) h
def B_X8_count_115 : List AIn := [(.ireturn, 0, 0, 0)]
theorem s_X8_count_115 {d : Nat} {ls st : List AV} {S : MS} {R : Option AV → MS → Prop} (h : wpI (fun t l s S2 => wpX d mX8_count t l s S2 R) (wpM d) R 116 0 B_X8_count_115 ls st S) : wpX d mX8_count 115 ls st S R := x_step (by decide +kernel) h
def B_X8_count_116 : List AIn := [(.aload_n 0, 0, 0, 0), (.getfield 30, 3, 7, 0), (.invokevirtual 336, 50, 1, 6)]
theorem s_X8_count_116 {d : Nat} {ls st : List AV} {S : MS} {R : Option AV → MS → Prop} (h : wpI (fun t l s S2 => wpX d mX8_count t l s S2 R) (wpM d) R 123 3 B_X8_count_116 ls st S) : wpX d mX8_count 116 ls st S R := x_step (by decide +kernel) h
def B_X8_count_123 : List AIn := [(.ireturn, 0, 0, 0)]
theorem s_X8_count_123 {d : Nat} {ls st : List AV} {S : MS} {R : Option AV → MS → Prop} (h : wpI (fun t l s S2 => wpX d mX8_count t l s S2 R) (wpM d) R 124 0 B_X8_count_123 ls st S) : wpX d mX8_count 123 ls st S R := x_step (by decide +kernel) h
def B_X8_count_124 : List AIn := [(.aload_n 0, 0, 0, 0), (.getfield 10, 0, 7, 0), (.invokevirtual 339, 33, 1, 3)]
theorem s_X8_count_124 {d : Nat} {ls st : List AV} {S : MS} {R : Option AV → MS → Prop} (h : wpI (fun t l s S2 => wpX d mX8_count t l s S2 R) (wpM d) R 131 3 B_X8_count_124 ls st S) : wpX d mX8_count 124 ls st S R := x_step (by decide +kernel) h
def B_X8_count_131 : List AIn := [(.ireturn, 0, 0, 0)]
theorem s_X8_count_131 {d : Nat} {ls st : List AV} {S : MS} {R : Option AV → MS → Prop} (h : wpI (fun t l s S2 => wpX d mX8_count t l s S2 R) (wpM d) R 132 0 B_X8_count_131 ls st S) : wpX d mX8_count 131 ls st S R := x_step (by decide +kernel) h
def B_X8_count_132 : List AIn := [(.aload_n 0, 0, 0, 0), (.getfield 19, 1, 7, 0), (.invokevirtual 342, 41, 1, 5)]
theorem s_X8_count_132 {d : Nat} {ls st : List AV} {S : MS} {R : Option AV → MS → Prop} (h : wpI (fun t l s S2 => wpX d mX8_count t l s S2 R) (wpM d) R 139 3 B_X8_count_132 ls st S) : wpX d mX8_count 132 ls st S R := x_step (by decide +kernel) h
def B_X8_count_139 : List AIn := [(.ireturn, 0, 0, 0)]
theorem s_X8_count_139 {d : Nat} {ls st : List AV} {S : MS} {R : Option AV → MS → Prop} (h : wpI (fun t l s S2 => wpX d mX8_count t l s S2 R) (wpM d) R 140 0 B_X8_count_139 ls st S) : wpX d mX8_count 139 ls st S R := x_step (by decide +kernel) h
def B_X8_count_140 : List AIn := [(.aload_n 0, 0, 0, 0), (.getfield 48, 6, 7, 0), (.invokevirtual 343, 8, 1, 0)]
theorem s_X8_count_140 {d : Nat} {ls st : List AV} {S : MS} {R : Option AV → MS → Prop} (h : wpI (fun t l s S2 => wpX d mX8_count t l s S2 R) (wpM d) R 147 3 B_X8_count_140 ls st S) : wpX d mX8_count 140 ls st S R := x_step (by decide +kernel) h
def B_X8_count_147 : List AIn := [(.ireturn, 0, 0, 0)]
theorem s_X8_count_147 {d : Nat} {ls st : List AV} {S : MS} {R : Option AV → MS → Prop} (h : wpI (fun t l s S2 => wpX d mX8_count t l s S2 R) (wpM d) R 148 0 B_X8_count_147 ls st S) : wpX d mX8_count 147 ls st S R := x_step (by decide +kernel) h
def B_X8_count_148 : List AIn := [(.iconst (-1), 1, 1, 0), (.ireturn, 0, 0, 0)]
theorem s_X8_count_148 {d : Nat} {ls st : List AV} {S : MS} {R : Option AV → MS → Prop} (h : wpI (fun t l s S2 => wpX d mX8_count t l s S2 R) (wpM d) R 150 0 B_X8_count_148 ls st S) : wpX d mX8_count 148 ls st S R := x_step (by decide +kernel) h
-- NinthDay.finding()I
def B_X8_finding_0 : List AIn := [(.aload_n 0, 0, 0, 0), (.getfield 70, 10, 7, 0), (.ireturn, 0, 0, 0)]
theorem s_X8_finding_0 {d : Nat} {ls st : List AV} {S : MS} {R : Option AV → MS → Prop} (h : wpI (fun t l s S2 => wpX d mX8_finding t l s S2 R) (wpM d) R 5 0 B_X8_finding_0 ls st S) : wpX d mX8_finding 0 ls st S R := x_step (by decide +kernel) h
-- NinthDay.findings(I)I
def B_X8_findings_0 : List AIn := [(.iload_n 1, 1, 0, 0), (.iconst 1, 1, 0, 0), (.if_icmp .lt 8, 10, 3, 0), (.iload_n 1, 1, 0, 0), (.iconst 5, 5, 0, 0), (.if_icmp .le 5, 12, 0, 0)]
theorem s_X8_findings_0 {d : Nat} {ls st : List AV} {S : MS} {R : Option AV → MS → Prop} (h : wpI (fun t l s S2 => wpX d mX8_findings t l s S2 R) (wpM d) R 10 3 B_X8_findings_0 ls st S) : wpX d mX8_findings 0 ls st S R := x_step (by decide +kernel) h
def B_X8_findings_10 : List AIn := [(.iconst (-1), 1, 1, 0), (.ireturn, 0, 0, 0)]
theorem s_X8_findings_10 {d : Nat} {ls st : List AV} {S : MS} {R : Option AV → MS → Prop} (h : wpI (fun t l s S2 => wpX d mX8_findings t l s S2 R) (wpM d) R 12 0 B_X8_findings_10 ls st S) : wpX d mX8_findings 10 ls st S R := x_step (by decide +kernel) h
def B_X8_findings_12 : List AIn := [(.aload_n 0, 0, 0, 0), (.getfield 66, 9, 7, 0), (.iload_n 1, 1, 0, 0), (.iaload, 0, 0, 0), (.ireturn, 0, 0, 0)]
theorem s_X8_findings_12 {d : Nat} {ls st : List AV} {S : MS} {R : Option AV → MS → Prop} (h : wpI (fun t l s S2 => wpX d mX8_findings t l s S2 R) (wpM d) R 19 0 B_X8_findings_12 ls st S) : wpX d mX8_findings 12 ls st S R := x_step (by decide +kernel) h
-- NinthDay.digest()J
def B_X8_digest_0 : List AIn := [(.ldc2_w 346, 17, 0, 0), (.lstore_n 1, 1, 0, 0), (.iconst 0, 0, 0, 0), (.istore_n 3, 3, 0, 0)]
theorem s_X8_digest_0 {d : Nat} {ls st : List AV} {S : MS} {R : Option AV → MS → Prop} (h : wpI (fun t l s S2 => wpX d mX8_digest t l s S2 R) (wpM d) R 6 20 B_X8_digest_0 ls st S) : wpX d mX8_digest 0 ls st S R := x_step (by decide +kernel) h
def B_X8_digest_6 : List AIn := [(.iload_n 3, 3, 0, 0), (.bipush 11, 11, 0, 0), (.if_icmp .ge 22, 31, 28, 0), (.ldc2_w 348, 31, 0, 0), (.lload_n 1, 1, 0, 0), (.lmul, 0, 0, 0), (.aload_n 0, 0, 0, 0), (.iload_n 3, 3, 0, 0), (.invokevirtual 350, 103, 2, 7)]
theorem s_X8_digest_6 {d : Nat} {ls st : List AV} {S : MS} {R : Option AV → MS → Prop} (h : wpI (fun t l s S2 => wpX d mX8_digest t l s S2 R) (wpM d) R 22 22 B_X8_digest_6 ls st S) : wpX d mX8_digest 6 ls st S R := x_step (by decide +kernel) h
def B_X8_digest_22 : List AIn := [(.i2l, 0, 0, 0), (.ladd, 0, 0, 0), (.lstore_n 1, 1, 0, 0), (.iinc 3 1, 1, 0, 0), (.goto (-22), 6, 20, 0)]
theorem s_X8_digest_22 {d : Nat} {ls st : List AV} {S : MS} {R : Option AV → MS → Prop} (h : wpI (fun t l s S2 => wpX d mX8_digest t l s S2 R) (wpM d) R 31 0 B_X8_digest_22 ls st S) : wpX d mX8_digest 22 ls st S R := x_step (by decide +kernel) h
def B_X8_digest_31 : List AIn := [(.iconst 0, 0, 0, 0), (.istore_n 3, 3, 0, 0)]
theorem s_X8_digest_31 {d : Nat} {ls st : List AV} {S : MS} {R : Option AV → MS → Prop} (h : wpI (fun t l s S2 => wpX d mX8_digest t l s S2 R) (wpM d) R 33 20 B_X8_digest_31 ls st S) : wpX d mX8_digest 31 ls st S R := x_step (by decide +kernel) h
def B_X8_digest_33 : List AIn := [(.iload_n 3, 3, 0, 0), (.aload_n 0, 0, 0, 0), (.getfield 30, 3, 7, 0), (.getfield 140, 7, 6, 0), (.if_icmp .ge 43, 84, 28, 0), (.iconst 0, 0, 0, 0), (.istore 4, 4, 0, 0)]
theorem s_X8_digest_33 {d : Nat} {ls st : List AV} {S : MS} {R : Option AV → MS → Prop} (h : wpI (fun t l s S2 => wpX d mX8_digest t l s S2 R) (wpM d) R 47 4 B_X8_digest_33 ls st S) : wpX d mX8_digest 33 ls st S R := x_step (by decide +kernel) h
def B_X8_digest_47 : List AIn := [(.iload 4, 4, 0, 0), (.bipush 8, 8, 0, 0), (.if_icmp .ge 27, 78, 20, 0), (.ldc2_w 348, 31, 0, 0), (.lload_n 1, 1, 0, 0), (.lmul, 0, 0, 0), (.aload_n 0, 0, 0, 0), (.getfield 30, 3, 7, 0), (.iload_n 3, 3, 0, 0), (.iload 4, 4, 0, 0), (.invokevirtual 146, 46, 3, 6)]
theorem s_X8_digest_47 {d : Nat} {ls st : List AV} {S : MS} {R : Option AV → MS → Prop} (h : wpI (fun t l s S2 => wpX d mX8_digest t l s S2 R) (wpM d) R 69 6 B_X8_digest_47 ls st S) : wpX d mX8_digest 47 ls st S R := x_step (by decide +kernel) h
def B_X8_digest_69 : List AIn := [(.i2l, 0, 0, 0), (.ladd, 0, 0, 0), (.lstore_n 1, 1, 0, 0), (.iinc 4 1, 1, 0, 0), (.goto (-28), 47, 4, 0)]
theorem s_X8_digest_69 {d : Nat} {ls st : List AV} {S : MS} {R : Option AV → MS → Prop} (h : wpI (fun t l s S2 => wpX d mX8_digest t l s S2 R) (wpM d) R 78 0 B_X8_digest_69 ls st S) : wpX d mX8_digest 69 ls st S R := x_step (by decide +kernel) h
def B_X8_digest_78 : List AIn := [(.iinc 3 1, 1, 0, 0), (.goto (-48), 33, 20, 0)]
theorem s_X8_digest_78 {d : Nat} {ls st : List AV} {S : MS} {R : Option AV → MS → Prop} (h : wpI (fun t l s S2 => wpX d mX8_digest t l s S2 R) (wpM d) R 84 0 B_X8_digest_78 ls st S) : wpX d mX8_digest 78 ls st S R := x_step (by decide +kernel) h
def B_X8_digest_84 : List AIn := [(.iconst 0, 0, 0, 0), (.istore_n 3, 3, 0, 0)]
theorem s_X8_digest_84 {d : Nat} {ls st : List AV} {S : MS} {R : Option AV → MS → Prop} (h : wpI (fun t l s S2 => wpX d mX8_digest t l s S2 R) (wpM d) R 86 20 B_X8_digest_84 ls st S) : wpX d mX8_digest 84 ls st S R := x_step (by decide +kernel) h
def B_X8_digest_86 : List AIn := [(.iload_n 3, 3, 0, 0), (.iconst 3, 3, 0, 0), (.if_icmp .ge 25, 113, 28, 0), (.ldc2_w 348, 31, 0, 0), (.lload_n 1, 1, 0, 0), (.lmul, 0, 0, 0), (.aload_n 0, 0, 0, 0), (.getfield 48, 6, 7, 0), (.iload_n 3, 3, 0, 0), (.invokevirtual 223, 7, 2, 0)]
theorem s_X8_digest_86 {d : Nat} {ls st : List AV} {S : MS} {R : Option AV → MS → Prop} (h : wpI (fun t l s S2 => wpX d mX8_digest t l s S2 R) (wpM d) R 104 22 B_X8_digest_86 ls st S) : wpX d mX8_digest 86 ls st S R := x_step (by decide +kernel) h
def B_X8_digest_104 : List AIn := [(.i2l, 0, 0, 0), (.ladd, 0, 0, 0), (.lstore_n 1, 1, 0, 0), (.iinc 3 1, 1, 0, 0), (.goto (-24), 86, 20, 0)]
theorem s_X8_digest_104 {d : Nat} {ls st : List AV} {S : MS} {R : Option AV → MS → Prop} (h : wpI (fun t l s S2 => wpX d mX8_digest t l s S2 R) (wpM d) R 113 0 B_X8_digest_104 ls st S) : wpX d mX8_digest 104 ls st S R := x_step (by decide +kernel) h
def B_X8_digest_113 : List AIn := [(.aload_n 0, 0, 0, 0), (.getfield 19, 1, 7, 0), (.aload_n 0, 0, 0, 0), (.getfield 10, 0, 7, 0), (.lload_n 1, 1, 0, 0), (.invokevirtual 353, 34, 2, 3)]
theorem s_X8_digest_113 {d : Nat} {ls st : List AV} {S : MS} {R : Option AV → MS → Prop} (h : wpI (fun t l s S2 => wpX d mX8_digest t l s S2 R) (wpM d) R 125 31 B_X8_digest_113 ls st S) : wpX d mX8_digest 113 ls st S R := x_step (by decide +kernel) h
def B_X8_digest_125 : List AIn := [(.invokevirtual 357, 42, 2, 5)]
theorem s_X8_digest_125 {d : Nat} {ls st : List AV} {S : MS} {R : Option AV → MS → Prop} (h : wpI (fun t l s S2 => wpX d mX8_digest t l s S2 R) (wpM d) R 128 31 B_X8_digest_125 ls st S) : wpX d mX8_digest 125 ls st S R := x_step (by decide +kernel) h
def B_X8_digest_128 : List AIn := [(.lreturn, 0, 0, 0)]
theorem s_X8_digest_128 {d : Nat} {ls st : List AV} {S : MS} {R : Option AV → MS → Prop} (h : wpI (fun t l s S2 => wpX d mX8_digest t l s S2 R) (wpM d) R 129 0 B_X8_digest_128 ls st S) : wpX d mX8_digest 128 ls st S R := x_step (by decide +kernel) h
-- NinthDay.refuse(I)I
def B_X8_refuse_0 : List AIn := [(.aload_n 0, 0, 0, 0), (.iload_n 1, 1, 0, 0), (.putfield 70, 10, 7, 0), (.aload_n 0, 0, 0, 0), (.getfield 66, 9, 7, 0), (.iload_n 1, 1, 0, 0), (.dup2, 0, 0, 0), (.iaload, 0, 0, 0), (.iconst 1, 1, 0, 0), (.iadd, 0, 0, 0), (.iastore, 0, 0, 0), (.bipush (-3), 3, 1, 0), (.ireturn, 0, 0, 0)]
theorem s_X8_refuse_0 {d : Nat} {ls st : List AV} {S : MS} {R : Option AV → MS → Prop} (h : wpI (fun t l s S2 => wpX d mX8_refuse t l s S2 R) (wpM d) R 18 0 B_X8_refuse_0 ls st S) : wpX d mX8_refuse 0 ls st S R := x_step (by decide +kernel) h
-- NinthDay.tell(I)I
def B_X8_tell_0 : List AIn := [(.aload_n 0, 0, 0, 0), (.iload_n 1, 1, 0, 0), (.putfield 74, 11, 7, 0), (.iconst 1, 1, 0, 0), (.ireturn, 0, 0, 0)]
theorem s_X8_tell_0 {d : Nat} {ls st : List AV} {S : MS} {R : Option AV → MS → Prop} (h : wpI (fun t l s S2 => wpX d mX8_tell t l s S2 R) (wpM d) R 7 0 B_X8_tell_0 ls st S) : wpX d mX8_tell 0 ls st S R := x_step (by decide +kernel) h
-- NinthDay.act(I)V
def B_X8_act_0 : List AIn := [(.aload_n 0, 0, 0, 0), (.getfield 48, 6, 7, 0), (.iload_n 1, 1, 0, 0), (.invokevirtual 358, 5, 2, 0)]
theorem s_X8_act_0 {d : Nat} {ls st : List AV} {S : MS} {R : Option AV → MS → Prop} (h : wpI (fun t l s S2 => wpX d mX8_act t l s S2 R) (wpM d) R 8 0 B_X8_act_0 ls st S) : wpX d mX8_act 0 ls st S R := x_step (by decide +kernel) h
def B_X8_act_8 : List AIn := [(.aload_n 0, 0, 0, 0), (.getfield 30, 3, 7, 0), (.iload_n 1, 1, 0, 0), (.invokevirtual 361, 61, 2, 6)]
theorem s_X8_act_8 {d : Nat} {ls st : List AV} {S : MS} {R : Option AV → MS → Prop} (h : wpI (fun t l s S2 => wpX d mX8_act t l s S2 R) (wpM d) R 16 3 B_X8_act_8 ls st S) : wpX d mX8_act 8 ls st S R := x_step (by decide +kernel) h
def B_X8_act_16 : List AIn := [(.return_, 0, 0, 0)]
theorem s_X8_act_16 {d : Nat} {ls st : List AV} {S : MS} {R : Option AV → MS → Prop} (h : wpI (fun t l s S2 => wpX d mX8_act t l s S2 R) (wpM d) R 17 0 B_X8_act_16 ls st S) : wpX d mX8_act 16 ls st S R := x_step (by decide +kernel) h
-- NinthDay.replay()V
def B_X8_replay_0 : List AIn := [(.aload_n 0, 0, 0, 0), (.getfield 30, 3, 7, 0), (.aload_n 0, 0, 0, 0), (.getfield 26, 2, 7, 0), (.invokevirtual 133, 45, 2, 6)]
theorem s_X8_replay_0 {d : Nat} {ls st : List AV} {S : MS} {R : Option AV → MS → Prop} (h : wpI (fun t l s S2 => wpX d mX8_replay t l s S2 R) (wpM d) R 11 2 B_X8_replay_0 ls st S) : wpX d mX8_replay 0 ls st S R := x_step (by decide +kernel) h
def B_X8_replay_11 : List AIn := [(.iconst 0, 0, 0, 0), (.istore_n 1, 1, 0, 0)]
theorem s_X8_replay_11 {d : Nat} {ls st : List AV} {S : MS} {R : Option AV → MS → Prop} (h : wpI (fun t l s S2 => wpX d mX8_replay t l s S2 R) (wpM d) R 13 0 B_X8_replay_11 ls st S) : wpX d mX8_replay 11 ls st S R := x_step (by decide +kernel) h
def B_X8_replay_13 : List AIn := [(.iload_n 1, 1, 0, 0), (.aload_n 0, 0, 0, 0), (.getfield 48, 6, 7, 0), (.getfield 213, 3, 0, 0), (.if_icmp .ge 25, 46, 3, 0), (.aload_n 0, 0, 0, 0), (.getfield 30, 3, 7, 0), (.aload_n 0, 0, 0, 0), (.getfield 48, 6, 7, 0), (.getfield 364, 0, 0, 0), (.iload_n 1, 1, 0, 0), (.iaload, 0, 0, 0), (.invokevirtual 361, 61, 2, 6)]
theorem s_X8_replay_13 {d : Nat} {ls st : List AV} {S : MS} {R : Option AV → MS → Prop} (h : wpI (fun t l s S2 => wpX d mX8_replay t l s S2 R) (wpM d) R 40 0 B_X8_replay_13 ls st S) : wpX d mX8_replay 13 ls st S R := x_step (by decide +kernel) h
def B_X8_replay_40 : List AIn := [(.iinc 1 1, 1, 0, 0), (.goto (-30), 13, 0, 0)]
theorem s_X8_replay_40 {d : Nat} {ls st : List AV} {S : MS} {R : Option AV → MS → Prop} (h : wpI (fun t l s S2 => wpX d mX8_replay t l s S2 R) (wpM d) R 46 0 B_X8_replay_40 ls st S) : wpX d mX8_replay 40 ls st S R := x_step (by decide +kernel) h
def B_X8_replay_46 : List AIn := [(.return_, 0, 0, 0)]
theorem s_X8_replay_46 {d : Nat} {ls st : List AV} {S : MS} {R : Option AV → MS → Prop} (h : wpI (fun t l s S2 => wpX d mX8_replay t l s S2 R) (wpM d) R 47 0 B_X8_replay_46 ls st S) : wpX d mX8_replay 46 ls st S R := x_step (by decide +kernel) h
-- NinthDay.isRow(I)Z
def B_X8_isRow_0 : List AIn := [(.iload_n 0, 0, 0, 0), (.ifCond .lt 13, 14, 1, 0), (.iload_n 0, 0, 0, 0), (.bipush 6, 6, 0, 0), (.if_icmp .ge 7, 14, 1, 0), (.iconst 1, 1, 0, 0), (.goto 4, 15, 1, 0)]
theorem s_X8_isRow_0 {d : Nat} {ls st : List AV} {S : MS} {R : Option AV → MS → Prop} (h : wpI (fun t l s S2 => wpX d mX8_isRow t l s S2 R) (wpM d) R 14 0 B_X8_isRow_0 ls st S) : wpX d mX8_isRow 0 ls st S R := x_step (by decide +kernel) h
def B_X8_isRow_14 : List AIn := [(.iconst 0, 0, 0, 0)]
theorem s_X8_isRow_14 {d : Nat} {ls st : List AV} {S : MS} {R : Option AV → MS → Prop} (h : wpI (fun t l s S2 => wpX d mX8_isRow t l s S2 R) (wpM d) R 15 1 B_X8_isRow_14 ls st S) : wpX d mX8_isRow 14 ls st S R := x_step (by decide +kernel) h
def B_X8_isRow_15 : List AIn := [(.ireturn, 1, 0, 0)]
theorem s_X8_isRow_15 {d : Nat} {ls st : List AV} {S : MS} {R : Option AV → MS → Prop} (h : wpI (fun t l s S2 => wpX d mX8_isRow t l s S2 R) (wpM d) R 16 0 B_X8_isRow_15 ls st S) : wpX d mX8_isRow 15 ls st S R := x_step (by decide +kernel) h
-- NinthDay.isText(I)Z
def B_X8_isText_0 : List AIn := [(.iload_n 0, 0, 0, 0), (.ifCond .lt 12, 13, 1, 0), (.iload_n 0, 0, 0, 0), (.iconst 4, 4, 0, 0), (.if_icmp .ge 7, 13, 1, 0), (.iconst 1, 1, 0, 0), (.goto 4, 14, 1, 0)]
theorem s_X8_isText_0 {d : Nat} {ls st : List AV} {S : MS} {R : Option AV → MS → Prop} (h : wpI (fun t l s S2 => wpX d mX8_isText t l s S2 R) (wpM d) R 13 0 B_X8_isText_0 ls st S) : wpX d mX8_isText 0 ls st S R := x_step (by decide +kernel) h
def B_X8_isText_13 : List AIn := [(.iconst 0, 0, 0, 0)]
theorem s_X8_isText_13 {d : Nat} {ls st : List AV} {S : MS} {R : Option AV → MS → Prop} (h : wpI (fun t l s S2 => wpX d mX8_isText t l s S2 R) (wpM d) R 14 1 B_X8_isText_13 ls st S) : wpX d mX8_isText 13 ls st S R := x_step (by decide +kernel) h
def B_X8_isText_14 : List AIn := [(.ireturn, 1, 0, 0)]
theorem s_X8_isText_14 {d : Nat} {ls st : List AV} {S : MS} {R : Option AV → MS → Prop} (h : wpI (fun t l s S2 => wpX d mX8_isText t l s S2 R) (wpM d) R 15 0 B_X8_isText_14 ls st S) : wpX d mX8_isText 14 ls st S R := x_step (by decide +kernel) h
-- NinthDay.isKeptPlace(I)Z
def B_X8_isKeptPlace_0 : List AIn := [(.iload_n 0, 0, 0, 0), (.ifCond .lt 12, 13, 1, 0), (.iload_n 0, 0, 0, 0), (.iconst 3, 3, 0, 0), (.if_icmp .ge 7, 13, 1, 0), (.iconst 1, 1, 0, 0), (.goto 4, 14, 1, 0)]
theorem s_X8_isKeptPlace_0 {d : Nat} {ls st : List AV} {S : MS} {R : Option AV → MS → Prop} (h : wpI (fun t l s S2 => wpX d mX8_isKeptPlace t l s S2 R) (wpM d) R 13 0 B_X8_isKeptPlace_0 ls st S) : wpX d mX8_isKeptPlace 0 ls st S R := x_step (by decide +kernel) h
def B_X8_isKeptPlace_13 : List AIn := [(.iconst 0, 0, 0, 0)]
theorem s_X8_isKeptPlace_13 {d : Nat} {ls st : List AV} {S : MS} {R : Option AV → MS → Prop} (h : wpI (fun t l s S2 => wpX d mX8_isKeptPlace t l s S2 R) (wpM d) R 14 1 B_X8_isKeptPlace_13 ls st S) : wpX d mX8_isKeptPlace 13 ls st S R := x_step (by decide +kernel) h
def B_X8_isKeptPlace_14 : List AIn := [(.ireturn, 1, 0, 0)]
theorem s_X8_isKeptPlace_14 {d : Nat} {ls st : List AV} {S : MS} {R : Option AV → MS → Prop} (h : wpI (fun t l s S2 => wpX d mX8_isKeptPlace t l s S2 R) (wpM d) R 15 0 B_X8_isKeptPlace_14 ls st S) : wpX d mX8_isKeptPlace 14 ls st S R := x_step (by decide +kernel) h
-- NinthDay.isRule(I)Z
def B_X8_isRule_0 : List AIn := [(.iload_n 0, 0, 0, 0), (.ifCond .lt 12, 13, 1, 0), (.iload_n 0, 0, 0, 0), (.iconst 4, 4, 0, 0), (.if_icmp .ge 7, 13, 1, 0), (.iconst 1, 1, 0, 0), (.goto 4, 14, 1, 0)]
theorem s_X8_isRule_0 {d : Nat} {ls st : List AV} {S : MS} {R : Option AV → MS → Prop} (h : wpI (fun t l s S2 => wpX d mX8_isRule t l s S2 R) (wpM d) R 13 0 B_X8_isRule_0 ls st S) : wpX d mX8_isRule 0 ls st S R := x_step (by decide +kernel) h
def B_X8_isRule_13 : List AIn := [(.iconst 0, 0, 0, 0)]
theorem s_X8_isRule_13 {d : Nat} {ls st : List AV} {S : MS} {R : Option AV → MS → Prop} (h : wpI (fun t l s S2 => wpX d mX8_isRule t l s S2 R) (wpM d) R 14 1 B_X8_isRule_13 ls st S) : wpX d mX8_isRule 13 ls st S R := x_step (by decide +kernel) h
def B_X8_isRule_14 : List AIn := [(.ireturn, 1, 0, 0)]
theorem s_X8_isRule_14 {d : Nat} {ls st : List AV} {S : MS} {R : Option AV → MS → Prop} (h : wpI (fun t l s S2 => wpX d mX8_isRule t l s S2 R) (wpM d) R 15 0 B_X8_isRule_14 ls st S) : wpX d mX8_isRule 14 ls st S R := x_step (by decide +kernel) h
-- NinthDay.isSum(I)Z
def B_X8_isSum_0 : List AIn := [(.iload_n 0, 0, 0, 0), (.ifCond .lt 13, 14, 1, 0), (.iload_n 0, 0, 0, 0), (.bipush 99, 99, 0, 0), (.if_icmp .gt 7, 14, 1, 0), (.iconst 1, 1, 0, 0), (.goto 4, 15, 1, 0)]
theorem s_X8_isSum_0 {d : Nat} {ls st : List AV} {S : MS} {R : Option AV → MS → Prop} (h : wpI (fun t l s S2 => wpX d mX8_isSum t l s S2 R) (wpM d) R 14 0 B_X8_isSum_0 ls st S) : wpX d mX8_isSum 0 ls st S R := x_step (by decide +kernel) h
def B_X8_isSum_14 : List AIn := [(.iconst 0, 0, 0, 0)]
theorem s_X8_isSum_14 {d : Nat} {ls st : List AV} {S : MS} {R : Option AV → MS → Prop} (h : wpI (fun t l s S2 => wpX d mX8_isSum t l s S2 R) (wpM d) R 15 1 B_X8_isSum_14 ls st S) : wpX d mX8_isSum 14 ls st S R := x_step (by decide +kernel) h
def B_X8_isSum_15 : List AIn := [(.ireturn, 1, 0, 0)]
theorem s_X8_isSum_15 {d : Nat} {ls st : List AV} {S : MS} {R : Option AV → MS → Prop} (h : wpI (fun t l s S2 => wpX d mX8_isSum t l s S2 R) (wpM d) R 16 0 B_X8_isSum_15 ls st S) : wpX d mX8_isSum 15 ls st S R := x_step (by decide +kernel) h
-- NinthDay.isDeed(I)Z
def B_X8_isDeed_0 : List AIn := [(.iload_n 1, 1, 0, 0), (.ifCond .lt 18, 19, 3, 0), (.iload_n 1, 1, 0, 0), (.aload_n 0, 0, 0, 0), (.getfield 30, 3, 7, 0), (.getfield 140, 7, 6, 0), (.if_icmp .ge 7, 19, 3, 0), (.iconst 1, 1, 0, 0), (.goto 4, 20, 3, 0)]
theorem s_X8_isDeed_0 {d : Nat} {ls st : List AV} {S : MS} {R : Option AV → MS → Prop} (h : wpI (fun t l s S2 => wpX d mX8_isDeed t l s S2 R) (wpM d) R 19 0 B_X8_isDeed_0 ls st S) : wpX d mX8_isDeed 0 ls st S R := x_step (by decide +kernel) h
def B_X8_isDeed_19 : List AIn := [(.iconst 0, 0, 0, 0)]
theorem s_X8_isDeed_19 {d : Nat} {ls st : List AV} {S : MS} {R : Option AV → MS → Prop} (h : wpI (fun t l s S2 => wpX d mX8_isDeed t l s S2 R) (wpM d) R 20 3 B_X8_isDeed_19 ls st S) : wpX d mX8_isDeed 19 ls st S R := x_step (by decide +kernel) h
def B_X8_isDeed_20 : List AIn := [(.ireturn, 1, 0, 0)]
theorem s_X8_isDeed_20 {d : Nat} {ls st : List AV} {S : MS} {R : Option AV → MS → Prop} (h : wpI (fun t l s S2 => wpX d mX8_isDeed t l s S2 R) (wpM d) R 21 0 B_X8_isDeed_20 ls st S) : wpX d mX8_isDeed 20 ls st S R := x_step (by decide +kernel) h
-- NinthDay.isSet(I)Z
def B_X8_isSet_0 : List AIn := [(.iload_n 1, 1, 0, 0), (.ifCond .lt 20, 21, 3, 0), (.iload_n 1, 1, 0, 0), (.iconst 1, 1, 0, 0), (.aload_n 0, 0, 0, 0), (.getfield 30, 3, 7, 0), (.getfield 140, 7, 6, 0), (.ishl, 0, 0, 0), (.if_icmp .ge 7, 21, 3, 0), (.iconst 1, 1, 0, 0), (.goto 4, 22, 3, 0)]
theorem s_X8_isSet_0 {d : Nat} {ls st : List AV} {S : MS} {R : Option AV → MS → Prop} (h : wpI (fun t l s S2 => wpX d mX8_isSet t l s S2 R) (wpM d) R 21 0 B_X8_isSet_0 ls st S) : wpX d mX8_isSet 0 ls st S R := x_step (by decide +kernel) h
def B_X8_isSet_21 : List AIn := [(.iconst 0, 0, 0, 0)]
theorem s_X8_isSet_21 {d : Nat} {ls st : List AV} {S : MS} {R : Option AV → MS → Prop} (h : wpI (fun t l s S2 => wpX d mX8_isSet t l s S2 R) (wpM d) R 22 3 B_X8_isSet_21 ls st S) : wpX d mX8_isSet 21 ls st S R := x_step (by decide +kernel) h
def B_X8_isSet_22 : List AIn := [(.ireturn, 1, 0, 0)]
theorem s_X8_isSet_22 {d : Nat} {ls st : List AV} {S : MS} {R : Option AV → MS → Prop} (h : wpI (fun t l s S2 => wpX d mX8_isSet t l s S2 R) (wpM d) R 23 0 B_X8_isSet_22 ls st S) : wpX d mX8_isSet 22 ls st S R := x_step (by decide +kernel) h
-- NinthDay.refusedPlace(II)I
def B_X8_refusedPlace_0 : List AIn := [(.iload_n 1, 1, 0, 0), (.invokestatic 77, 111, 1, 0)]
theorem s_X8_refusedPlace_0 {d : Nat} {ls st : List AV} {S : MS} {R : Option AV → MS → Prop} (h : wpI (fun t l s S2 => wpX d mX8_refusedPlace t l s S2 R) (wpM d) R 4 0 B_X8_refusedPlace_0 ls st S) : wpX d mX8_refusedPlace 0 ls st S R := x_step (by decide +kernel) h
def B_X8_refusedPlace_4 : List AIn := [(.ifCond .ne 5, 9, 0, 0), (.iconst (-1), 1, 1, 0), (.ireturn, 0, 0, 0)]
theorem s_X8_refusedPlace_4 {d : Nat} {ls st : List AV} {S : MS} {R : Option AV → MS → Prop} (h : wpI (fun t l s S2 => wpX d mX8_refusedPlace t l s S2 R) (wpM d) R 9 0 B_X8_refusedPlace_4 ls st S) : wpX d mX8_refusedPlace 4 ls st S R := x_step (by decide +kernel) h
def B_X8_refusedPlace_9 : List AIn := [(.aload_n 0, 0, 0, 0), (.getfield 10, 0, 7, 0), (.iload_n 1, 1, 0, 0), (.invokevirtual 103, 25, 2, 3)]
theorem s_X8_refusedPlace_9 {d : Nat} {ls st : List AV} {S : MS} {R : Option AV → MS → Prop} (h : wpI (fun t l s S2 => wpX d mX8_refusedPlace t l s S2 R) (wpM d) R 17 0 B_X8_refusedPlace_9 ls st S) : wpX d mX8_refusedPlace 9 ls st S R := x_step (by decide +kernel) h
def B_X8_refusedPlace_17 : List AIn := [(.ifCond .ne 9, 26, 0, 0), (.aload_n 0, 0, 0, 0), (.iconst 1, 1, 0, 0), (.invokevirtual 81, 107, 2, 7)]
theorem s_X8_refusedPlace_17 {d : Nat} {ls st : List AV} {S : MS} {R : Option AV → MS → Prop} (h : wpI (fun t l s S2 => wpX d mX8_refusedPlace t l s S2 R) (wpM d) R 25 7 B_X8_refusedPlace_17 ls st S) : wpX d mX8_refusedPlace 17 ls st S R := x_step (by decide +kernel) h
def B_X8_refusedPlace_25 : List AIn := [(.ireturn, 0, 0, 0)]
theorem s_X8_refusedPlace_25 {d : Nat} {ls st : List AV} {S : MS} {R : Option AV → MS → Prop} (h : wpI (fun t l s S2 => wpX d mX8_refusedPlace t l s S2 R) (wpM d) R 26 0 B_X8_refusedPlace_25 ls st S) : wpX d mX8_refusedPlace 25 ls st S R := x_step (by decide +kernel) h
def B_X8_refusedPlace_26 : List AIn := [(.iload_n 2, 2, 0, 0), (.ifCond .lt 15, 42, 6, 0), (.iload_n 2, 2, 0, 0), (.aload_n 0, 0, 0, 0), (.getfield 10, 0, 7, 0), (.iload_n 1, 1, 0, 0), (.invokevirtual 118, 26, 2, 3)]
theorem s_X8_refusedPlace_26 {d : Nat} {ls st : List AV} {S : MS} {R : Option AV → MS → Prop} (h : wpI (fun t l s S2 => wpX d mX8_refusedPlace t l s S2 R) (wpM d) R 39 6 B_X8_refusedPlace_26 ls st S) : wpX d mX8_refusedPlace 26 ls st S R := x_step (by decide +kernel) h
def B_X8_refusedPlace_39 : List AIn := [(.if_icmp .lt 9, 48, 7, 0)]
theorem s_X8_refusedPlace_39 {d : Nat} {ls st : List AV} {S : MS} {R : Option AV → MS → Prop} (h : wpI (fun t l s S2 => wpX d mX8_refusedPlace t l s S2 R) (wpM d) R 42 6 B_X8_refusedPlace_39 ls st S) : wpX d mX8_refusedPlace 39 ls st S R := x_step (by decide +kernel) h
def B_X8_refusedPlace_42 : List AIn := [(.aload_n 0, 0, 0, 0), (.iconst 2, 2, 0, 0), (.invokevirtual 81, 107, 2, 7)]
theorem s_X8_refusedPlace_42 {d : Nat} {ls st : List AV} {S : MS} {R : Option AV → MS → Prop} (h : wpI (fun t l s S2 => wpX d mX8_refusedPlace t l s S2 R) (wpM d) R 47 7 B_X8_refusedPlace_42 ls st S) : wpX d mX8_refusedPlace 42 ls st S R := x_step (by decide +kernel) h
def B_X8_refusedPlace_47 : List AIn := [(.ireturn, 0, 0, 0)]
theorem s_X8_refusedPlace_47 {d : Nat} {ls st : List AV} {S : MS} {R : Option AV → MS → Prop} (h : wpI (fun t l s S2 => wpX d mX8_refusedPlace t l s S2 R) (wpM d) R 48 0 B_X8_refusedPlace_47 ls st S) : wpX d mX8_refusedPlace 47 ls st S R := x_step (by decide +kernel) h
def B_X8_refusedPlace_48 : List AIn := [(.iconst 0, 0, 0, 0), (.ireturn, 0, 0, 0)]
theorem s_X8_refusedPlace_48 {d : Nat} {ls st : List AV} {S : MS} {R : Option AV → MS → Prop} (h : wpI (fun t l s S2 => wpX d mX8_refusedPlace t l s S2 R) (wpM d) R 50 0 B_X8_refusedPlace_48 ls st S) : wpX d mX8_refusedPlace 48 ls st S R := x_step (by decide +kernel) h
-- NinthDay.refusedSum(I)I
def B_X8_refusedSum_0 : List AIn := [(.iload_n 1, 1, 0, 0), (.invokestatic 271, 115, 1, 0)]
theorem s_X8_refusedSum_0 {d : Nat} {ls st : List AV} {S : MS} {R : Option AV → MS → Prop} (h : wpI (fun t l s S2 => wpX d mX8_refusedSum t l s S2 R) (wpM d) R 4 0 B_X8_refusedSum_0 ls st S) : wpX d mX8_refusedSum 0 ls st S R := x_step (by decide +kernel) h
def B_X8_refusedSum_4 : List AIn := [(.ifCond .ne 5, 9, 0, 0), (.iconst (-1), 1, 1, 0), (.ireturn, 0, 0, 0)]
theorem s_X8_refusedSum_4 {d : Nat} {ls st : List AV} {S : MS} {R : Option AV → MS → Prop} (h : wpI (fun t l s S2 => wpX d mX8_refusedSum t l s S2 R) (wpM d) R 9 0 B_X8_refusedSum_4 ls st S) : wpX d mX8_refusedSum 4 ls st S R := x_step (by decide +kernel) h
def B_X8_refusedSum_9 : List AIn := [(.aload_n 0, 0, 0, 0), (.getfield 30, 3, 7, 0), (.getfield 140, 7, 6, 0), (.ifCond .ne 6, 22, 0, 0), (.bipush (-4), 4, 1, 0), (.ireturn, 0, 0, 0)]
theorem s_X8_refusedSum_9 {d : Nat} {ls st : List AV} {S : MS} {R : Option AV → MS → Prop} (h : wpI (fun t l s S2 => wpX d mX8_refusedSum t l s S2 R) (wpM d) R 22 0 B_X8_refusedSum_9 ls st S) : wpX d mX8_refusedSum 9 ls st S R := x_step (by decide +kernel) h
def B_X8_refusedSum_22 : List AIn := [(.aload_n 0, 0, 0, 0), (.iload_n 1, 1, 0, 0), (.iconst 0, 0, 0, 0), (.iconst 0, 0, 0, 0), (.invokevirtual 278, 123, 4, 7)]
theorem s_X8_refusedSum_22 {d : Nat} {ls st : List AV} {S : MS} {R : Option AV → MS → Prop} (h : wpI (fun t l s S2 => wpX d mX8_refusedSum t l s S2 R) (wpM d) R 29 2 B_X8_refusedSum_22 ls st S) : wpX d mX8_refusedSum 22 ls st S R := x_step (by decide +kernel) h
def B_X8_refusedSum_29 : List AIn := [(.ifCond .ne 9, 38, 3, 0), (.aload_n 0, 0, 0, 0), (.iconst 4, 4, 0, 0), (.invokevirtual 81, 107, 2, 7)]
theorem s_X8_refusedSum_29 {d : Nat} {ls st : List AV} {S : MS} {R : Option AV → MS → Prop} (h : wpI (fun t l s S2 => wpX d mX8_refusedSum t l s S2 R) (wpM d) R 37 3 B_X8_refusedSum_29 ls st S) : wpX d mX8_refusedSum 29 ls st S R := x_step (by decide +kernel) h
def B_X8_refusedSum_37 : List AIn := [(.ireturn, 0, 0, 0)]
theorem s_X8_refusedSum_37 {d : Nat} {ls st : List AV} {S : MS} {R : Option AV → MS → Prop} (h : wpI (fun t l s S2 => wpX d mX8_refusedSum t l s S2 R) (wpM d) R 38 0 B_X8_refusedSum_37 ls st S) : wpX d mX8_refusedSum 37 ls st S R := x_step (by decide +kernel) h
def B_X8_refusedSum_38 : List AIn := [(.iconst 0, 0, 0, 0), (.ireturn, 0, 0, 0)]
theorem s_X8_refusedSum_38 {d : Nat} {ls st : List AV} {S : MS} {R : Option AV → MS → Prop} (h : wpI (fun t l s S2 => wpX d mX8_refusedSum t l s S2 R) (wpM d) R 40 0 B_X8_refusedSum_38 ls st S) : wpX d mX8_refusedSum 38 ls st S R := x_step (by decide +kernel) h
-- NinthDay.refusedPairs(II)I
def B_X8_refusedPairs_0 : List AIn := [(.aload_n 0, 0, 0, 0), (.iload_n 1, 1, 0, 0), (.invokevirtual 143, 116, 2, 7)]
theorem s_X8_refusedPairs_0 {d : Nat} {ls st : List AV} {S : MS} {R : Option AV → MS → Prop} (h : wpI (fun t l s S2 => wpX d mX8_refusedPairs t l s S2 R) (wpM d) R 5 122 B_X8_refusedPairs_0 ls st S) : wpX d mX8_refusedPairs 0 ls st S R := x_step (by decide +kernel) h
def B_X8_refusedPairs_5 : List AIn := [(.ifCond .eq 10, 15, 127, 0), (.iload_n 2, 2, 0, 0), (.invokestatic 77, 111, 1, 0)]
theorem s_X8_refusedPairs_5 {d : Nat} {ls st : List AV} {S : MS} {R : Option AV → MS → Prop} (h : wpI (fun t l s S2 => wpX d mX8_refusedPairs t l s S2 R) (wpM d) R 12 122 B_X8_refusedPairs_5 ls st S) : wpX d mX8_refusedPairs 5 ls st S R := x_step (by decide +kernel) h
def B_X8_refusedPairs_12 : List AIn := [(.ifCond .ne 5, 17, 122, 0)]
theorem s_X8_refusedPairs_12 {d : Nat} {ls st : List AV} {S : MS} {R : Option AV → MS → Prop} (h : wpI (fun t l s S2 => wpX d mX8_refusedPairs t l s S2 R) (wpM d) R 15 127 B_X8_refusedPairs_12 ls st S) : wpX d mX8_refusedPairs 12 ls st S R := x_step (by decide +kernel) h
def B_X8_refusedPairs_15 : List AIn := [(.iconst (-1), 1, 1, 0), (.ireturn, 0, 0, 0)]
theorem s_X8_refusedPairs_15 {d : Nat} {ls st : List AV} {S : MS} {R : Option AV → MS → Prop} (h : wpI (fun t l s S2 => wpX d mX8_refusedPairs t l s S2 R) (wpM d) R 17 0 B_X8_refusedPairs_15 ls st S) : wpX d mX8_refusedPairs 15 ls st S R := x_step (by decide +kernel) h
def B_X8_refusedPairs_17 : List AIn := [(.aload_n 0, 0, 0, 0), (.getfield 10, 0, 7, 0), (.iload_n 2, 2, 0, 0), (.invokevirtual 103, 25, 2, 3)]
theorem s_X8_refusedPairs_17 {d : Nat} {ls st : List AV} {S : MS} {R : Option AV → MS → Prop} (h : wpI (fun t l s S2 => wpX d mX8_refusedPairs t l s S2 R) (wpM d) R 25 122 B_X8_refusedPairs_17 ls st S) : wpX d mX8_refusedPairs 17 ls st S R := x_step (by decide +kernel) h
def B_X8_refusedPairs_25 : List AIn := [(.ifCond .ne 9, 34, 122, 0), (.aload_n 0, 0, 0, 0), (.iconst 1, 1, 0, 0), (.invokevirtual 81, 107, 2, 7)]
theorem s_X8_refusedPairs_25 {d : Nat} {ls st : List AV} {S : MS} {R : Option AV → MS → Prop} (h : wpI (fun t l s S2 => wpX d mX8_refusedPairs t l s S2 R) (wpM d) R 33 127 B_X8_refusedPairs_25 ls st S) : wpX d mX8_refusedPairs 25 ls st S R := x_step (by decide +kernel) h
def B_X8_refusedPairs_33 : List AIn := [(.ireturn, 0, 0, 0)]
theorem s_X8_refusedPairs_33 {d : Nat} {ls st : List AV} {S : MS} {R : Option AV → MS → Prop} (h : wpI (fun t l s S2 => wpX d mX8_refusedPairs t l s S2 R) (wpM d) R 34 0 B_X8_refusedPairs_33 ls st S) : wpX d mX8_refusedPairs 33 ls st S R := x_step (by decide +kernel) h
def B_X8_refusedPairs_34 : List AIn := [(.aload_n 0, 0, 0, 0), (.getfield 10, 0, 7, 0), (.iload_n 2, 2, 0, 0), (.invokevirtual 118, 26, 2, 3)]
theorem s_X8_refusedPairs_34 {d : Nat} {ls st : List AV} {S : MS} {R : Option AV → MS → Prop} (h : wpI (fun t l s S2 => wpX d mX8_refusedPairs t l s S2 R) (wpM d) R 42 122 B_X8_refusedPairs_34 ls st S) : wpX d mX8_refusedPairs 34 ls st S R := x_step (by decide +kernel) h
def B_X8_refusedPairs_42 : List AIn := [(.istore_n 3, 3, 0, 0), (.iload_n 3, 3, 0, 0), (.iconst 2, 2, 0, 0), (.irem, 0, 0, 0), (.ifCond .eq 9, 55, 114, 0), (.aload_n 0, 0, 0, 0), (.iconst 5, 5, 0, 0), (.invokevirtual 81, 107, 2, 7)]
theorem s_X8_refusedPairs_42 {d : Nat} {ls st : List AV} {S : MS} {R : Option AV → MS → Prop} (h : wpI (fun t l s S2 => wpX d mX8_refusedPairs t l s S2 R) (wpM d) R 54 127 B_X8_refusedPairs_42 ls st S) : wpX d mX8_refusedPairs 42 ls st S R := x_step (by decide +kernel) h
def B_X8_refusedPairs_54 : List AIn := [(.ireturn, 0, 0, 0)]
theorem s_X8_refusedPairs_54 {d : Nat} {ls st : List AV} {S : MS} {R : Option AV → MS → Prop} (h : wpI (fun t l s S2 => wpX d mX8_refusedPairs t l s S2 R) (wpM d) R 55 0 B_X8_refusedPairs_54 ls st S) : wpX d mX8_refusedPairs 54 ls st S R := x_step (by decide +kernel) h
def B_X8_refusedPairs_55 : List AIn := [(.iconst 0, 0, 0, 0), (.istore 4, 4, 0, 0)]
theorem s_X8_refusedPairs_55 {d : Nat} {ls st : List AV} {S : MS} {R : Option AV → MS → Prop} (h : wpI (fun t l s S2 => wpX d mX8_refusedPairs t l s S2 R) (wpM d) R 58 98 B_X8_refusedPairs_55 ls st S) : wpX d mX8_refusedPairs 55 ls st S R := x_step (by decide +kernel) h
def B_X8_refusedPairs_58 : List AIn := [(.iload 4, 4, 0, 0), (.iconst 1, 1, 0, 0), (.iadd, 0, 0, 0), (.iload_n 3, 3, 0, 0), (.if_icmp .ge 66, 129, 127, 0), (.aload_n 0, 0, 0, 0), (.getfield 10, 0, 7, 0), (.iload_n 2, 2, 0, 0), (.iload 4, 4, 0, 0), (.invokevirtual 93, 30, 3, 3)]
theorem s_X8_refusedPairs_58 {d : Nat} {ls st : List AV} {S : MS} {R : Option AV → MS → Prop} (h : wpI (fun t l s S2 => wpX d mX8_refusedPairs t l s S2 R) (wpM d) R 76 98 B_X8_refusedPairs_58 ls st S) : wpX d mX8_refusedPairs 58 ls st S R := x_step (by decide +kernel) h
def B_X8_refusedPairs_76 : List AIn := [(.istore 5, 5, 0, 0), (.aload_n 0, 0, 0, 0), (.getfield 10, 0, 7, 0), (.iload_n 2, 2, 0, 0), (.iload 4, 4, 0, 0), (.iconst 1, 1, 0, 0), (.iadd, 0, 0, 0), (.invokevirtual 93, 30, 3, 3)]
theorem s_X8_refusedPairs_76 {d : Nat} {ls st : List AV} {S : MS} {R : Option AV → MS → Prop} (h : wpI (fun t l s S2 => wpX d mX8_refusedPairs t l s S2 R) (wpM d) R 90 66 B_X8_refusedPairs_76 ls st S) : wpX d mX8_refusedPairs 76 ls st S R := x_step (by decide +kernel) h
def B_X8_refusedPairs_90 : List AIn := [(.istore 6, 6, 0, 0), (.iload 5, 5, 0, 0), (.iconst 1, 1, 0, 0), (.if_icmp .lt 22, 117, 126, 0), (.iload 5, 5, 0, 0), (.bipush 99, 99, 0, 0), (.if_icmp .gt 15, 117, 126, 0), (.iload 6, 6, 0, 0), (.ifCond .lt 10, 117, 126, 0), (.iload 6, 6, 0, 0), (.bipush 20, 20, 0, 0), (.if_icmp .le 9, 123, 98, 0)]
theorem s_X8_refusedPairs_90 {d : Nat} {ls st : List AV} {S : MS} {R : Option AV → MS → Prop} (h : wpI (fun t l s S2 => wpX d mX8_refusedPairs t l s S2 R) (wpM d) R 117 126 B_X8_refusedPairs_90 ls st S) : wpX d mX8_refusedPairs 90 ls st S R := x_step (by decide +kernel) h
def B_X8_refusedPairs_117 : List AIn := [(.aload_n 0, 0, 0, 0), (.iconst 3, 3, 0, 0), (.invokevirtual 81, 107, 2, 7)]
theorem s_X8_refusedPairs_117 {d : Nat} {ls st : List AV} {S : MS} {R : Option AV → MS → Prop} (h : wpI (fun t l s S2 => wpX d mX8_refusedPairs t l s S2 R) (wpM d) R 122 127 B_X8_refusedPairs_117 ls st S) : wpX d mX8_refusedPairs 117 ls st S R := x_step (by decide +kernel) h
def B_X8_refusedPairs_122 : List AIn := [(.ireturn, 0, 0, 0)]
theorem s_X8_refusedPairs_122 {d : Nat} {ls st : List AV} {S : MS} {R : Option AV → MS → Prop} (h : wpI (fun t l s S2 => wpX d mX8_refusedPairs t l s S2 R) (wpM d) R 123 0 B_X8_refusedPairs_122 ls st S) : wpX d mX8_refusedPairs 122 ls st S R := x_step (by decide +kernel) h
def B_X8_refusedPairs_123 : List AIn := [(.iinc 4 2, 2, 0, 0), (.goto (-68), 58, 98, 0)]
theorem s_X8_refusedPairs_123 {d : Nat} {ls st : List AV} {S : MS} {R : Option AV → MS → Prop} (h : wpI (fun t l s S2 => wpX d mX8_refusedPairs t l s S2 R) (wpM d) R 129 0 B_X8_refusedPairs_123 ls st S) : wpX d mX8_refusedPairs 123 ls st S R := x_step (by decide +kernel) h
def B_X8_refusedPairs_129 : List AIn := [(.iconst 0, 0, 0, 0), (.ireturn, 0, 0, 0)]
theorem s_X8_refusedPairs_129 {d : Nat} {ls st : List AV} {S : MS} {R : Option AV → MS → Prop} (h : wpI (fun t l s S2 => wpX d mX8_refusedPairs t l s S2 R) (wpM d) R 131 0 B_X8_refusedPairs_129 ls st S) : wpX d mX8_refusedPairs 129 ls st S R := x_step (by decide +kernel) h
-- NinthDay.isMore(II[I)Z
def B_X8_isMore_0 : List AIn := [(.iload_n 0, 0, 0, 0), (.invokestatic 189, 223, 1, 0)]
theorem s_X8_isMore_0 {d : Nat} {ls st : List AV} {S : MS} {R : Option AV → MS → Prop} (h : wpI (fun t l s S2 => wpX d mX8_isMore t l s S2 R) (wpM d) R 4 8 B_X8_isMore_0 ls st S) : wpX d mX8_isMore 0 ls st S R := x_step (by decide +kernel) h
def B_X8_isMore_4 : List AIn := [(.iload_n 1, 1, 0, 0), (.invokestatic 189, 223, 1, 0)]
theorem s_X8_isMore_4 {d : Nat} {ls st : List AV} {S : MS} {R : Option AV → MS → Prop} (h : wpI (fun t l s S2 => wpX d mX8_isMore t l s S2 R) (wpM d) R 8 8 B_X8_isMore_4 ls st S) : wpX d mX8_isMore 4 ls st S R := x_step (by decide +kernel) h
def B_X8_isMore_8 : List AIn := [(.isub, 0, 0, 0), (.istore_n 3, 3, 0, 0), (.iload_n 3, 3, 0, 0), (.ifCond .gt 16, 27, 15, 0), (.iload_n 3, 3, 0, 0), (.ifCond .ne 16, 31, 15, 0), (.aload_n 2, 2, 0, 0), (.iload_n 0, 0, 0, 0), (.iaload, 0, 0, 0), (.aload_n 2, 2, 0, 0), (.iload_n 1, 1, 0, 0), (.iaload, 0, 0, 0), (.if_icmp .ge 7, 31, 15, 0)]
theorem s_X8_isMore_8 {d : Nat} {ls st : List AV} {S : MS} {R : Option AV → MS → Prop} (h : wpI (fun t l s S2 => wpX d mX8_isMore t l s S2 R) (wpM d) R 27 15 B_X8_isMore_8 ls st S) : wpX d mX8_isMore 8 ls st S R := x_step (by decide +kernel) h
def B_X8_isMore_27 : List AIn := [(.iconst 1, 1, 0, 0), (.goto 4, 32, 15, 0)]
theorem s_X8_isMore_27 {d : Nat} {ls st : List AV} {S : MS} {R : Option AV → MS → Prop} (h : wpI (fun t l s S2 => wpX d mX8_isMore t l s S2 R) (wpM d) R 31 0 B_X8_isMore_27 ls st S) : wpX d mX8_isMore 27 ls st S R := x_step (by decide +kernel) h
def B_X8_isMore_31 : List AIn := [(.iconst 0, 0, 0, 0)]
theorem s_X8_isMore_31 {d : Nat} {ls st : List AV} {S : MS} {R : Option AV → MS → Prop} (h : wpI (fun t l s S2 => wpX d mX8_isMore t l s S2 R) (wpM d) R 32 15 B_X8_isMore_31 ls st S) : wpX d mX8_isMore 31 ls st S R := x_step (by decide +kernel) h
def B_X8_isMore_32 : List AIn := [(.ireturn, 1, 0, 0)]
theorem s_X8_isMore_32 {d : Nat} {ls st : List AV} {S : MS} {R : Option AV → MS → Prop} (h : wpI (fun t l s S2 => wpX d mX8_isMore t l s S2 R) (wpM d) R 33 0 B_X8_isMore_32 ls st S) : wpX d mX8_isMore 32 ls st S R := x_step (by decide +kernel) h
-- NinthDay.isFit([III)Z
def B_X8_isFit_0 : List AIn := [(.iload_n 2, 2, 0, 0), (.aload_n 0, 0, 0, 0), (.getfield 30, 3, 7, 0), (.invokevirtual 209, 48, 1, 6)]
theorem s_X8_isFit_0 {d : Nat} {ls st : List AV} {S : MS} {R : Option AV → MS → Prop} (h : wpI (fun t l s S2 => wpX d mX8_isFit t l s S2 R) (wpM d) R 8 1 B_X8_isFit_0 ls st S) : wpX d mX8_isFit 0 ls st S R := x_step (by decide +kernel) h
def B_X8_isFit_8 : List AIn := [(.iconst (-1), 1, 1, 0), (.ixor, 0, 0, 0), (.iand, 0, 0, 0), (.ifCond .ne 14, 25, 15, 0), (.aload_n 1, 1, 0, 0), (.iload_n 2, 2, 0, 0), (.iaload, 0, 0, 0), (.iload_n 3, 3, 0, 0), (.if_icmp .ne 7, 25, 15, 0), (.iconst 1, 1, 0, 0), (.goto 4, 26, 15, 0)]
theorem s_X8_isFit_8 {d : Nat} {ls st : List AV} {S : MS} {R : Option AV → MS → Prop} (h : wpI (fun t l s S2 => wpX d mX8_isFit t l s S2 R) (wpM d) R 25 0 B_X8_isFit_8 ls st S) : wpX d mX8_isFit 8 ls st S R := x_step (by decide +kernel) h
def B_X8_isFit_25 : List AIn := [(.iconst 0, 0, 0, 0)]
theorem s_X8_isFit_25 {d : Nat} {ls st : List AV} {S : MS} {R : Option AV → MS → Prop} (h : wpI (fun t l s S2 => wpX d mX8_isFit t l s S2 R) (wpM d) R 26 15 B_X8_isFit_25 ls st S) : wpX d mX8_isFit 25 ls st S R := x_step (by decide +kernel) h
def B_X8_isFit_26 : List AIn := [(.ireturn, 1, 0, 0)]
theorem s_X8_isFit_26 {d : Nat} {ls st : List AV} {S : MS} {R : Option AV → MS → Prop} (h : wpI (fun t l s S2 => wpX d mX8_isFit t l s S2 R) (wpM d) R 27 0 B_X8_isFit_26 ls st S) : wpX d mX8_isFit 26 ls st S R := x_step (by decide +kernel) h
-- NinthDay.fitting(III)I
def B_X8_fitting_0 : List AIn := [(.aload_n 0, 0, 0, 0), (.getfield 30, 3, 7, 0), (.invokevirtual 182, 53, 1, 6)]
theorem s_X8_fitting_0 {d : Nat} {ls st : List AV} {S : MS} {R : Option AV → MS → Prop} (h : wpI (fun t l s S2 => wpX d mX8_fitting t l s S2 R) (wpM d) R 7 112 B_X8_fitting_0 ls st S) : wpX d mX8_fitting 0 ls st S R := x_step (by decide +kernel) h
def B_X8_fitting_7 : List AIn := [(.astore 4, 4, 0, 0), (.iconst 0, 0, 0, 0), (.istore 5, 5, 0, 0), (.iconst 0, 0, 0, 0), (.istore 6, 6, 0, 0)]
theorem s_X8_fitting_7 {d : Nat} {ls st : List AV} {S : MS} {R : Option AV → MS → Prop} (h : wpI (fun t l s S2 => wpX d mX8_fitting t l s S2 R) (wpM d) R 15 0 B_X8_fitting_7 ls st S) : wpX d mX8_fitting 7 ls st S R := x_step (by decide +kernel) h
def B_X8_fitting_15 : List AIn := [(.iload 6, 6, 0, 0), (.bipush 32, 32, 0, 0), (.if_icmp .ge 32, 51, 95, 0), (.iload 6, 6, 0, 0), (.iload_n 2, 2, 0, 0), (.iand, 0, 0, 0), (.iload_n 3, 3, 0, 0), (.if_icmp .ne 18, 45, 0, 0), (.aload_n 0, 0, 0, 0), (.aload 4, 4, 0, 0), (.iload 6, 6, 0, 0), (.iload_n 1, 1, 0, 0), (.invokevirtual 274, 122, 4, 7)]
theorem s_X8_fitting_15 {d : Nat} {ls st : List AV} {S : MS} {R : Option AV → MS → Prop} (h : wpI (fun t l s S2 => wpX d mX8_fitting t l s S2 R) (wpM d) R 39 0 B_X8_fitting_15 ls st S) : wpX d mX8_fitting 15 ls st S R := x_step (by decide +kernel) h
def B_X8_fitting_39 : List AIn := [(.ifCond .eq 6, 45, 0, 0), (.iinc 5 1, 1, 0, 0)]
theorem s_X8_fitting_39 {d : Nat} {ls st : List AV} {S : MS} {R : Option AV → MS → Prop} (h : wpI (fun t l s S2 => wpX d mX8_fitting t l s S2 R) (wpM d) R 45 0 B_X8_fitting_39 ls st S) : wpX d mX8_fitting 39 ls st S R := x_step (by decide +kernel) h
def B_X8_fitting_45 : List AIn := [(.iinc 6 1, 1, 0, 0), (.goto (-33), 15, 0, 0)]
theorem s_X8_fitting_45 {d : Nat} {ls st : List AV} {S : MS} {R : Option AV → MS → Prop} (h : wpI (fun t l s S2 => wpX d mX8_fitting t l s S2 R) (wpM d) R 51 0 B_X8_fitting_45 ls st S) : wpX d mX8_fitting 45 ls st S R := x_step (by decide +kernel) h
def B_X8_fitting_51 : List AIn := [(.iload 5, 5, 0, 0), (.ireturn, 0, 0, 0)]
theorem s_X8_fitting_51 {d : Nat} {ls st : List AV} {S : MS} {R : Option AV → MS → Prop} (h : wpI (fun t l s S2 => wpX d mX8_fitting t l s S2 R) (wpM d) R 54 0 B_X8_fitting_51 ls st S) : wpX d mX8_fitting 51 ls st S R := x_step (by decide +kernel) h
-- NinthDay.keptBy(II)I
def B_X8_keptBy_0 : List AIn := [(.aload_n 0, 0, 0, 0), (.getfield 33, 4, 7, 0), (.aload_n 0, 0, 0, 0), (.getfield 30, 3, 7, 0), (.invokevirtual 133, 45, 2, 6)]
theorem s_X8_keptBy_0 {d : Nat} {ls st : List AV} {S : MS} {R : Option AV → MS → Prop} (h : wpI (fun t l s S2 => wpX d mX8_keptBy t l s S2 R) (wpM d) R 11 24 B_X8_keptBy_0 ls st S) : wpX d mX8_keptBy 0 ls st S R := x_step (by decide +kernel) h
def B_X8_keptBy_11 : List AIn := [(.iconst 0, 0, 0, 0), (.istore_n 3, 3, 0, 0), (.iconst 0, 0, 0, 0), (.istore 4, 4, 0, 0)]
theorem s_X8_keptBy_11 {d : Nat} {ls st : List AV} {S : MS} {R : Option AV → MS → Prop} (h : wpI (fun t l s S2 => wpX d mX8_keptBy t l s S2 R) (wpM d) R 16 0 B_X8_keptBy_11 ls st S) : wpX d mX8_keptBy 11 ls st S R := x_step (by decide +kernel) h
def B_X8_keptBy_16 : List AIn := [(.iload 4, 4, 0, 0), (.iload_n 2, 2, 0, 0), (.if_icmp .ge 23, 42, 23, 0), (.iload_n 3, 3, 0, 0), (.aload_n 0, 0, 0, 0), (.getfield 33, 4, 7, 0), (.iload_n 1, 1, 0, 0), (.invokevirtual 250, 59, 2, 6)]
theorem s_X8_keptBy_16 {d : Nat} {ls st : List AV} {S : MS} {R : Option AV → MS → Prop} (h : wpI (fun t l s S2 => wpX d mX8_keptBy t l s S2 R) (wpM d) R 31 8 B_X8_keptBy_16 ls st S) : wpX d mX8_keptBy 16 ls st S R := x_step (by decide +kernel) h
def B_X8_keptBy_31 : List AIn := [(.invokestatic 189, 223, 1, 0)]
theorem s_X8_keptBy_31 {d : Nat} {ls st : List AV} {S : MS} {R : Option AV → MS → Prop} (h : wpI (fun t l s S2 => wpX d mX8_keptBy t l s S2 R) (wpM d) R 34 8 B_X8_keptBy_31 ls st S) : wpX d mX8_keptBy 31 ls st S R := x_step (by decide +kernel) h
def B_X8_keptBy_34 : List AIn := [(.iadd, 0, 0, 0), (.istore_n 3, 3, 0, 0), (.iinc 4 1, 1, 0, 0), (.goto (-23), 16, 0, 0)]
theorem s_X8_keptBy_34 {d : Nat} {ls st : List AV} {S : MS} {R : Option AV → MS → Prop} (h : wpI (fun t l s S2 => wpX d mX8_keptBy t l s S2 R) (wpM d) R 42 0 B_X8_keptBy_34 ls st S) : wpX d mX8_keptBy 34 ls st S R := x_step (by decide +kernel) h
def B_X8_keptBy_42 : List AIn := [(.iload_n 3, 3, 0, 0), (.ireturn, 0, 0, 0)]
theorem s_X8_keptBy_42 {d : Nat} {ls st : List AV} {S : MS} {R : Option AV → MS → Prop} (h : wpI (fun t l s S2 => wpX d mX8_keptBy t l s S2 R) (wpM d) R 44 0 B_X8_keptBy_42 ls st S) : wpX d mX8_keptBy 42 ls st S R := x_step (by decide +kernel) h
-- NinthDay.agrees(IIIII)Z
def B_X8_agrees_0 : List AIn := [(.aload_n 0, 0, 0, 0), (.getfield 10, 0, 7, 0), (.iload_n 2, 2, 0, 0), (.invokevirtual 118, 26, 2, 3)]
theorem s_X8_agrees_0 {d : Nat} {ls st : List AV} {S : MS} {R : Option AV → MS → Prop} (h : wpI (fun t l s S2 => wpX d mX8_agrees t l s S2 R) (wpM d) R 8 448 B_X8_agrees_0 ls st S) : wpX d mX8_agrees 0 ls st S R := x_step (by decide +kernel) h
def B_X8_agrees_8 : List AIn := [(.istore 6, 6, 0, 0), (.iconst 0, 0, 0, 0), (.istore 7, 7, 0, 0)]
theorem s_X8_agrees_8 {d : Nat} {ls st : List AV} {S : MS} {R : Option AV → MS → Prop} (h : wpI (fun t l s S2 => wpX d mX8_agrees t l s S2 R) (wpM d) R 13 256 B_X8_agrees_8 ls st S) : wpX d mX8_agrees 8 ls st S R := x_step (by decide +kernel) h
def B_X8_agrees_13 : List AIn := [(.iload 7, 7, 0, 0), (.iconst 1, 1, 0, 0), (.iadd, 0, 0, 0), (.iload 6, 6, 0, 0), (.if_icmp .ge 66, 85, 511, 0), (.iload_n 3, 3, 0, 0), (.iload 4, 4, 0, 0), (.iload 5, 5, 0, 0), (.aload_n 0, 0, 0, 0), (.getfield 30, 3, 7, 0), (.getfield 262, 3, 6, 0), (.iload_n 1, 1, 0, 0), (.iaload, 0, 0, 0), (.aload_n 0, 0, 0, 0), (.getfield 30, 3, 7, 0), (.getfield 173, 4, 6, 0), (.iload_n 1, 1, 0, 0), (.iaload, 0, 0, 0), (.aload_n 0, 0, 0, 0), (.getfield 10, 0, 7, 0), (.iload_n 2, 2, 0, 0), (.iload 7, 7, 0, 0), (.invokevirtual 93, 30, 3, 3)]
theorem s_X8_agrees_13 {d : Nat} {ls st : List AV} {S : MS} {R : Option AV → MS → Prop} (h : wpI (fun t l s S2 => wpX d mX8_agrees t l s S2 R) (wpM d) R 55 256 B_X8_agrees_13 ls st S) : wpX d mX8_agrees 13 ls st S R := x_step (by decide +kernel) h
def B_X8_agrees_55 : List AIn := [(.invokestatic 265, 13, 6, 0)]
theorem s_X8_agrees_55 {d : Nat} {ls st : List AV} {S : MS} {R : Option AV → MS → Prop} (h : wpI (fun t l s S2 => wpX d mX8_agrees t l s S2 R) (wpM d) R 58 256 B_X8_agrees_55 ls st S) : wpX d mX8_agrees 55 ls st S R := x_step (by decide +kernel) h
def B_X8_agrees_58 : List AIn := [(.istore 8, 8, 0, 0), (.iload 8, 8, 0, 0), (.aload_n 0, 0, 0, 0), (.getfield 10, 0, 7, 0), (.iload_n 2, 2, 0, 0), (.iload 7, 7, 0, 0), (.iconst 1, 1, 0, 0), (.iadd, 0, 0, 0), (.invokevirtual 93, 30, 3, 3)]
theorem s_X8_agrees_58 {d : Nat} {ls st : List AV} {S : MS} {R : Option AV → MS → Prop} (h : wpI (fun t l s S2 => wpX d mX8_agrees t l s S2 R) (wpM d) R 74 256 B_X8_agrees_58 ls st S) : wpX d mX8_agrees 58 ls st S R := x_step (by decide +kernel) h
def B_X8_agrees_74 : List AIn := [(.if_icmp .eq 5, 79, 256, 0), (.iconst 0, 0, 0, 0), (.ireturn, 1, 0, 0)]
theorem s_X8_agrees_74 {d : Nat} {ls st : List AV} {S : MS} {R : Option AV → MS → Prop} (h : wpI (fun t l s S2 => wpX d mX8_agrees t l s S2 R) (wpM d) R 79 0 B_X8_agrees_74 ls st S) : wpX d mX8_agrees 74 ls st S R := x_step (by decide +kernel) h
def B_X8_agrees_79 : List AIn := [(.iinc 7 2, 2, 0, 0), (.goto (-69), 13, 256, 0)]
theorem s_X8_agrees_79 {d : Nat} {ls st : List AV} {S : MS} {R : Option AV → MS → Prop} (h : wpI (fun t l s S2 => wpX d mX8_agrees t l s S2 R) (wpM d) R 85 0 B_X8_agrees_79 ls st S) : wpX d mX8_agrees 79 ls st S R := x_step (by decide +kernel) h
def B_X8_agrees_85 : List AIn := [(.iconst 1, 1, 0, 0), (.ireturn, 1, 0, 0)]
theorem s_X8_agrees_85 {d : Nat} {ls st : List AV} {S : MS} {R : Option AV → MS → Prop} (h : wpI (fun t l s S2 => wpX d mX8_agrees t l s S2 R) (wpM d) R 87 0 B_X8_agrees_85 ls st S) : wpX d mX8_agrees 85 ls st S R := x_step (by decide +kernel) h
-- NinthDay.kindsThatFit(II)I
def B_X8_kindsThatFit_0 : List AIn := [(.iconst 0, 0, 0, 0), (.istore_n 3, 3, 0, 0), (.iconst 0, 0, 0, 0), (.istore 4, 4, 0, 0)]
theorem s_X8_kindsThatFit_0 {d : Nat} {ls st : List AV} {S : MS} {R : Option AV → MS → Prop} (h : wpI (fun t l s S2 => wpX d mX8_kindsThatFit t l s S2 R) (wpM d) R 5 0 B_X8_kindsThatFit_0 ls st S) : wpX d mX8_kindsThatFit 0 ls st S R := x_step (by decide +kernel) h
def B_X8_kindsThatFit_5 : List AIn := [(.iload 4, 4, 0, 0), (.bipush 6, 6, 0, 0), (.if_icmp .ge 45, 54, 23, 0), (.aload_n 0, 0, 0, 0), (.iload_n 1, 1, 0, 0), (.iload_n 2, 2, 0, 0), (.iload 4, 4, 0, 0), (.aload_n 0, 0, 0, 0), (.getfield 30, 3, 7, 0), (.getfield 259, 1, 6, 0), (.iload_n 1, 1, 0, 0), (.iaload, 0, 0, 0), (.aload_n 0, 0, 0, 0), (.getfield 30, 3, 7, 0), (.getfield 256, 2, 6, 0), (.iload_n 1, 1, 0, 0), (.iaload, 0, 0, 0), (.invokevirtual 291, 125, 6, 7)]
theorem s_X8_kindsThatFit_5 {d : Nat} {ls st : List AV} {S : MS} {R : Option AV → MS → Prop} (h : wpI (fun t l s S2 => wpX d mX8_kindsThatFit t l s S2 R) (wpM d) R 38 0 B_X8_kindsThatFit_5 ls st S) : wpX d mX8_kindsThatFit 5 ls st S R := x_step (by decide +kernel) h
def B_X8_kindsThatFit_38 : List AIn := [(.ifCond .eq 10, 48, 0, 0), (.iload_n 3, 3, 0, 0), (.iconst 1, 1, 0, 0), (.iload 4, 4, 0, 0), (.ishl, 0, 0, 0), (.ior, 0, 0, 0), (.istore_n 3, 3, 0, 0)]
theorem s_X8_kindsThatFit_38 {d : Nat} {ls st : List AV} {S : MS} {R : Option AV → MS → Prop} (h : wpI (fun t l s S2 => wpX d mX8_kindsThatFit t l s S2 R) (wpM d) R 48 0 B_X8_kindsThatFit_38 ls st S) : wpX d mX8_kindsThatFit 38 ls st S R := x_step (by decide +kernel) h
def B_X8_kindsThatFit_48 : List AIn := [(.iinc 4 1, 1, 0, 0), (.goto (-46), 5, 0, 0)]
theorem s_X8_kindsThatFit_48 {d : Nat} {ls st : List AV} {S : MS} {R : Option AV → MS → Prop} (h : wpI (fun t l s S2 => wpX d mX8_kindsThatFit t l s S2 R) (wpM d) R 54 0 B_X8_kindsThatFit_48 ls st S) : wpX d mX8_kindsThatFit 48 ls st S R := x_step (by decide +kernel) h
def B_X8_kindsThatFit_54 : List AIn := [(.iload_n 3, 3, 0, 0), (.ireturn, 0, 0, 0)]
theorem s_X8_kindsThatFit_54 {d : Nat} {ls st : List AV} {S : MS} {R : Option AV → MS → Prop} (h : wpI (fun t l s S2 => wpX d mX8_kindsThatFit t l s S2 R) (wpM d) R 56 0 B_X8_kindsThatFit_54 ls st S) : wpX d mX8_kindsThatFit 54 ls st S R := x_step (by decide +kernel) h
-- NinthDay.greatestPart(III)I
def B_X8_greatestPart_0 : List AIn := [(.iconst 0, 0, 0, 0), (.istore 4, 4, 0, 0), (.iconst 0, 0, 0, 0), (.istore 5, 5, 0, 0)]
theorem s_X8_greatestPart_0 {d : Nat} {ls st : List AV} {S : MS} {R : Option AV → MS → Prop} (h : wpI (fun t l s S2 => wpX d mX8_greatestPart t l s S2 R) (wpM d) R 6 0 B_X8_greatestPart_0 ls st S) : wpX d mX8_greatestPart 0 ls st S R := x_step (by decide +kernel) h
def B_X8_greatestPart_6 : List AIn := [(.iload 5, 5, 0, 0), (.bipush 6, 6, 0, 0), (.if_icmp .ge 44, 54, 47, 0), (.iload_n 2, 2, 0, 0), (.iload 5, 5, 0, 0), (.ishr, 0, 0, 0), (.iconst 1, 1, 0, 0), (.iand, 0, 0, 0), (.iconst 1, 1, 0, 0), (.if_icmp .ne 28, 48, 0, 0), (.iload 4, 4, 0, 0), (.aload_n 0, 0, 0, 0), (.iload_n 1, 1, 0, 0), (.iload_n 2, 2, 0, 0), (.iload_n 3, 3, 0, 0), (.aload_n 0, 0, 0, 0), (.getfield 30, 3, 7, 0), (.iload_n 1, 1, 0, 0), (.iload 5, 5, 0, 0), (.iload_n 3, 3, 0, 0), (.invokevirtual 164, 52, 4, 6)]
theorem s_X8_greatestPart_6 {d : Nat} {ls st : List AV} {S : MS} {R : Option AV → MS → Prop} (h : wpI (fun t l s S2 => wpX d mX8_greatestPart t l s S2 R) (wpM d) R 40 16 B_X8_greatestPart_6 ls st S) : wpX d mX8_greatestPart 6 ls st S R := x_step (by decide +kernel) h
def B_X8_greatestPart_40 : List AIn := [(.invokevirtual 367, 128, 5, 7)]
theorem s_X8_greatestPart_40 {d : Nat} {ls st : List AV} {S : MS} {R : Option AV → MS → Prop} (h : wpI (fun t l s S2 => wpX d mX8_greatestPart t l s S2 R) (wpM d) R 43 16 B_X8_greatestPart_40 ls st S) : wpX d mX8_greatestPart 40 ls st S R := x_step (by decide +kernel) h
def B_X8_greatestPart_43 : List AIn := [(.invokestatic 168, 0, 0, 2), (.istore 4, 4, 0, 0)]
theorem s_X8_greatestPart_43 {d : Nat} {ls st : List AV} {S : MS} {R : Option AV → MS → Prop} (h : wpI (fun t l s S2 => wpX d mX8_greatestPart t l s S2 R) (wpM d) R 48 0 B_X8_greatestPart_43 ls st S) : wpX d mX8_greatestPart 43 ls st S R := x_step (by decide +kernel) h
def B_X8_greatestPart_48 : List AIn := [(.iinc 5 1, 1, 0, 0), (.goto (-45), 6, 0, 0)]
theorem s_X8_greatestPart_48 {d : Nat} {ls st : List AV} {S : MS} {R : Option AV → MS → Prop} (h : wpI (fun t l s S2 => wpX d mX8_greatestPart t l s S2 R) (wpM d) R 54 0 B_X8_greatestPart_48 ls st S) : wpX d mX8_greatestPart 48 ls st S R := x_step (by decide +kernel) h
def B_X8_greatestPart_54 : List AIn := [(.iload 4, 4, 0, 0), (.ireturn, 0, 0, 0)]
theorem s_X8_greatestPart_54 {d : Nat} {ls st : List AV} {S : MS} {R : Option AV → MS → Prop} (h : wpI (fun t l s S2 => wpX d mX8_greatestPart t l s S2 R) (wpM d) R 57 0 B_X8_greatestPart_54 ls st S) : wpX d mX8_greatestPart 54 ls st S R := x_step (by decide +kernel) h
-- NinthDay.partLike(IIII)I
def B_X8_partLike_0 : List AIn := [(.iconst 0, 0, 0, 0), (.istore 5, 5, 0, 0), (.iconst 0, 0, 0, 0), (.istore 6, 6, 0, 0)]
theorem s_X8_partLike_0 {d : Nat} {ls st : List AV} {S : MS} {R : Option AV → MS → Prop} (h : wpI (fun t l s S2 => wpX d mX8_partLike t l s S2 R) (wpM d) R 6 0 B_X8_partLike_0 ls st S) : wpX d mX8_partLike 0 ls st S R := x_step (by decide +kernel) h
def B_X8_partLike_6 : List AIn := [(.iload 6, 6, 0, 0), (.bipush 6, 6, 0, 0), (.if_icmp .ge 38, 48, 95, 0), (.iload_n 2, 2, 0, 0), (.iload 6, 6, 0, 0), (.ishr, 0, 0, 0), (.iconst 1, 1, 0, 0), (.iand, 0, 0, 0), (.iconst 1, 1, 0, 0), (.if_icmp .ne 22, 42, 0, 0), (.aload_n 0, 0, 0, 0), (.getfield 30, 3, 7, 0), (.iload_n 1, 1, 0, 0), (.iload 6, 6, 0, 0), (.iload_n 3, 3, 0, 0), (.invokevirtual 164, 52, 4, 6)]
theorem s_X8_partLike_6 {d : Nat} {ls st : List AV} {S : MS} {R : Option AV → MS → Prop} (h : wpI (fun t l s S2 => wpX d mX8_partLike t l s S2 R) (wpM d) R 34 0 B_X8_partLike_6 ls st S) : wpX d mX8_partLike 6 ls st S R := x_step (by decide +kernel) h
def B_X8_partLike_34 : List AIn := [(.iload 4, 4, 0, 0), (.if_icmp .ne 6, 42, 0, 0), (.iinc 5 1, 1, 0, 0)]
theorem s_X8_partLike_34 {d : Nat} {ls st : List AV} {S : MS} {R : Option AV → MS → Prop} (h : wpI (fun t l s S2 => wpX d mX8_partLike t l s S2 R) (wpM d) R 42 0 B_X8_partLike_34 ls st S) : wpX d mX8_partLike 34 ls st S R := x_step (by decide +kernel) h
def B_X8_partLike_42 : List AIn := [(.iinc 6 1, 1, 0, 0), (.goto (-39), 6, 0, 0)]
theorem s_X8_partLike_42 {d : Nat} {ls st : List AV} {S : MS} {R : Option AV → MS → Prop} (h : wpI (fun t l s S2 => wpX d mX8_partLike t l s S2 R) (wpM d) R 48 0 B_X8_partLike_42 ls st S) : wpX d mX8_partLike 42 ls st S R := x_step (by decide +kernel) h
def B_X8_partLike_48 : List AIn := [(.iload 5, 5, 0, 0), (.ireturn, 0, 0, 0)]
theorem s_X8_partLike_48 {d : Nat} {ls st : List AV} {S : MS} {R : Option AV → MS → Prop} (h : wpI (fun t l s S2 => wpX d mX8_partLike t l s S2 R) (wpM d) R 51 0 B_X8_partLike_48 ls st S) : wpX d mX8_partLike 48 ls st S R := x_step (by decide +kernel) h
-- NinthDay.turns([IIIIZ)I
def B_X8_turns_0 : List AIn := [(.iload_n 3, 3, 0, 0), (.ifCond .gt 5, 6, 2016, 0), (.iconst 0, 0, 0, 0), (.ireturn, 0, 0, 0)]
theorem s_X8_turns_0 {d : Nat} {ls st : List AV} {S : MS} {R : Option AV → MS → Prop} (h : wpI (fun t l s S2 => wpX d mX8_turns t l s S2 R) (wpM d) R 6 0 B_X8_turns_0 ls st S) : wpX d mX8_turns 0 ls st S R := x_step (by decide +kernel) h
def B_X8_turns_6 : List AIn := [(.bipush (-9), 9, 1, 0), (.istore 5, 5, 0, 0), (.iconst 0, 0, 0, 0), (.istore 6, 6, 0, 0)]
theorem s_X8_turns_6 {d : Nat} {ls st : List AV} {S : MS} {R : Option AV → MS → Prop} (h : wpI (fun t l s S2 => wpX d mX8_turns t l s S2 R) (wpM d) R 13 1920 B_X8_turns_6 ls st S) : wpX d mX8_turns 6 ls st S R := x_step (by decide +kernel) h
def B_X8_turns_13 : List AIn := [(.iload 6, 6, 0, 0), (.iconst 5, 5, 0, 0), (.if_icmp .ge 130, 146, 1984, 0), (.iconst 1, 1, 0, 0), (.iload 6, 6, 0, 0), (.ishl, 0, 0, 0), (.istore 7, 7, 0, 0), (.iload_n 1, 1, 0, 0), (.iload 7, 7, 0, 0), (.iand, 0, 0, 0), (.ifCond .eq 111, 140, 1920, 0), (.iload 4, 4, 0, 0), (.ifCond .ne 11, 45, 1792, 0), (.aload_n 0, 0, 0, 0), (.iload 7, 7, 0, 0), (.iaload, 0, 0, 0), (.iload_n 2, 2, 0, 0), (.if_icmp .gt 98, 140, 1920, 0)]
theorem s_X8_turns_13 {d : Nat} {ls st : List AV} {S : MS} {R : Option AV → MS → Prop} (h : wpI (fun t l s S2 => wpX d mX8_turns t l s S2 R) (wpM d) R 45 1792 B_X8_turns_13 ls st S) : wpX d mX8_turns 13 ls st S R := x_step (by decide +kernel) h
def B_X8_turns_45 : List AIn := [(.iload 4, 4, 0, 0), (.ifCond .eq 7, 54, 1792, 0), (.iconst 0, 0, 0, 0), (.goto 4, 55, 1792, 0)]
theorem s_X8_turns_45 {d : Nat} {ls st : List AV} {S : MS} {R : Option AV → MS → Prop} (h : wpI (fun t l s S2 => wpX d mX8_turns t l s S2 R) (wpM d) R 54 0 B_X8_turns_45 ls st S) : wpX d mX8_turns 45 ls st S R := x_step (by decide +kernel) h
def B_X8_turns_54 : List AIn := [(.iconst 1, 1, 0, 0)]
theorem s_X8_turns_54 {d : Nat} {ls st : List AV} {S : MS} {R : Option AV → MS → Prop} (h : wpI (fun t l s S2 => wpX d mX8_turns t l s S2 R) (wpM d) R 55 1792 B_X8_turns_54 ls st S) : wpX d mX8_turns 54 ls st S R := x_step (by decide +kernel) h
def B_X8_turns_55 : List AIn := [(.istore 8, 8, 0, 0), (.iload 4, 4, 0, 0), (.ifCond .eq 7, 66, 1536, 0), (.iconst 0, 0, 0, 0), (.goto 7, 70, 1536, 0)]
theorem s_X8_turns_55 {d : Nat} {ls st : List AV} {S : MS} {R : Option AV → MS → Prop} (h : wpI (fun t l s S2 => wpX d mX8_turns t l s S2 R) (wpM d) R 66 0 B_X8_turns_55 ls st S) : wpX d mX8_turns 55 ls st S R := x_step (by decide +kernel) h
def B_X8_turns_66 : List AIn := [(.aload_n 0, 0, 0, 0), (.iload 7, 7, 0, 0), (.iaload, 0, 0, 0)]
theorem s_X8_turns_66 {d : Nat} {ls st : List AV} {S : MS} {R : Option AV → MS → Prop} (h : wpI (fun t l s S2 => wpX d mX8_turns t l s S2 R) (wpM d) R 70 1536 B_X8_turns_66 ls st S) : wpX d mX8_turns 66 ls st S R := x_step (by decide +kernel) h
def B_X8_turns_70 : List AIn := [(.istore 9, 9, 0, 0), (.iload 8, 8, 0, 0), (.aload_n 0, 0, 0, 0), (.iload_n 1, 1, 0, 0), (.iload 7, 7, 0, 0), (.iconst (-1), 1, 1, 0), (.ixor, 0, 0, 0), (.iand, 0, 0, 0), (.iload_n 2, 2, 0, 0), (.iload 9, 9, 0, 0), (.isub, 0, 0, 0), (.iload_n 3, 3, 0, 0), (.iconst 1, 1, 0, 0), (.isub, 0, 0, 0), (.iload 4, 4, 0, 0), (.ifCond .ne 7, 97, 1920, 0), (.iconst 1, 1, 0, 0), (.goto 4, 98, 1920, 0)]
theorem s_X8_turns_70 {d : Nat} {ls st : List AV} {S : MS} {R : Option AV → MS → Prop} (h : wpI (fun t l s S2 => wpX d mX8_turns t l s S2 R) (wpM d) R 97 0 B_X8_turns_70 ls st S) : wpX d mX8_turns 70 ls st S R := x_step (by decide +kernel) h
def B_X8_turns_97 : List AIn := [(.iconst 0, 0, 0, 0)]
theorem s_X8_turns_97 {d : Nat} {ls st : List AV} {S : MS} {R : Option AV → MS → Prop} (h : wpI (fun t l s S2 => wpX d mX8_turns t l s S2 R) (wpM d) R 98 1920 B_X8_turns_97 ls st S) : wpX d mX8_turns 97 ls st S R := x_step (by decide +kernel) h
def B_X8_turns_98 : List AIn := [(.invokestatic 304, 129, 5, 0)]
theorem s_X8_turns_98 {d : Nat} {ls st : List AV} {S : MS} {R : Option AV → MS → Prop} (h : wpI (fun t l s S2 => wpX d mX8_turns t l s S2 R) (wpM d) R 101 1920 B_X8_turns_98 ls st S) : wpX d mX8_turns 98 ls st S R := x_step (by decide +kernel) h
def B_X8_turns_101 : List AIn := [(.iadd, 0, 0, 0), (.istore 10, 10, 0, 0), (.iload 5, 5, 0, 0), (.bipush (-9), 9, 1, 0), (.if_icmp .ne 8, 116, 896, 0), (.iload 10, 10, 0, 0), (.goto 25, 138, 1952, 0)]
theorem s_X8_turns_101 {d : Nat} {ls st : List AV} {S : MS} {R : Option AV → MS → Prop} (h : wpI (fun t l s S2 => wpX d mX8_turns t l s S2 R) (wpM d) R 116 0 B_X8_turns_101 ls st S) : wpX d mX8_turns 101 ls st S R := x_step (by decide +kernel) h
def B_X8_turns_116 : List AIn := [(.iload 4, 4, 0, 0), (.ifCond .eq 13, 131, 896, 0), (.iload 5, 5, 0, 0), (.iload 10, 10, 0, 0), (.invokestatic 371, 0, 0, 3), (.goto 10, 138, 1952, 0)]
theorem s_X8_turns_116 {d : Nat} {ls st : List AV} {S : MS} {R : Option AV → MS → Prop} (h : wpI (fun t l s S2 => wpX d mX8_turns t l s S2 R) (wpM d) R 131 0 B_X8_turns_116 ls st S) : wpX d mX8_turns 116 ls st S R := x_step (by decide +kernel) h
def B_X8_turns_131 : List AIn := [(.iload 5, 5, 0, 0), (.iload 10, 10, 0, 0), (.invokestatic 168, 0, 0, 2)]
theorem s_X8_turns_131 {d : Nat} {ls st : List AV} {S : MS} {R : Option AV → MS → Prop} (h : wpI (fun t l s S2 => wpX d mX8_turns t l s S2 R) (wpM d) R 138 1952 B_X8_turns_131 ls st S) : wpX d mX8_turns 131 ls st S R := x_step (by decide +kernel) h
def B_X8_turns_138 : List AIn := [(.istore 5, 5, 0, 0)]
theorem s_X8_turns_138 {d : Nat} {ls st : List AV} {S : MS} {R : Option AV → MS → Prop} (h : wpI (fun t l s S2 => wpX d mX8_turns t l s S2 R) (wpM d) R 140 1920 B_X8_turns_138 ls st S) : wpX d mX8_turns 138 ls st S R := x_step (by decide +kernel) h
def B_X8_turns_140 : List AIn := [(.iinc 6 1, 1, 0, 0), (.goto (-130), 13, 1920, 0)]
theorem s_X8_turns_140 {d : Nat} {ls st : List AV} {S : MS} {R : Option AV → MS → Prop} (h : wpI (fun t l s S2 => wpX d mX8_turns t l s S2 R) (wpM d) R 146 0 B_X8_turns_140 ls st S) : wpX d mX8_turns 140 ls st S R := x_step (by decide +kernel) h
def B_X8_turns_146 : List AIn := [(.iload 5, 5, 0, 0), (.bipush (-9), 9, 1, 0), (.if_icmp .ne 25, 175, 2015, 0), (.aload_n 0, 0, 0, 0), (.iload_n 1, 1, 0, 0), (.iload_n 2, 2, 0, 0), (.iload_n 3, 3, 0, 0), (.iconst 1, 1, 0, 0), (.isub, 0, 0, 0), (.iload 4, 4, 0, 0), (.ifCond .ne 7, 168, 2047, 0), (.iconst 1, 1, 0, 0), (.goto 4, 169, 2047, 0)]
theorem s_X8_turns_146 {d : Nat} {ls st : List AV} {S : MS} {R : Option AV → MS → Prop} (h : wpI (fun t l s S2 => wpX d mX8_turns t l s S2 R) (wpM d) R 168 0 B_X8_turns_146 ls st S) : wpX d mX8_turns 146 ls st S R := x_step (by decide +kernel) h
def B_X8_turns_168 : List AIn := [(.iconst 0, 0, 0, 0)]
theorem s_X8_turns_168 {d : Nat} {ls st : List AV} {S : MS} {R : Option AV → MS → Prop} (h : wpI (fun t l s S2 => wpX d mX8_turns t l s S2 R) (wpM d) R 169 2047 B_X8_turns_168 ls st S) : wpX d mX8_turns 168 ls st S R := x_step (by decide +kernel) h
def B_X8_turns_169 : List AIn := [(.invokestatic 304, 129, 5, 0)]
theorem s_X8_turns_169 {d : Nat} {ls st : List AV} {S : MS} {R : Option AV → MS → Prop} (h : wpI (fun t l s S2 => wpX d mX8_turns t l s S2 R) (wpM d) R 172 2047 B_X8_turns_169 ls st S) : wpX d mX8_turns 169 ls st S R := x_step (by decide +kernel) h
def B_X8_turns_172 : List AIn := [(.goto 5, 177, 2047, 0)]
theorem s_X8_turns_172 {d : Nat} {ls st : List AV} {S : MS} {R : Option AV → MS → Prop} (h : wpI (fun t l s S2 => wpX d mX8_turns t l s S2 R) (wpM d) R 175 0 B_X8_turns_172 ls st S) : wpX d mX8_turns 172 ls st S R := x_step (by decide +kernel) h
def B_X8_turns_175 : List AIn := [(.iload 5, 5, 0, 0)]
theorem s_X8_turns_175 {d : Nat} {ls st : List AV} {S : MS} {R : Option AV → MS → Prop} (h : wpI (fun t l s S2 => wpX d mX8_turns t l s S2 R) (wpM d) R 177 2047 B_X8_turns_175 ls st S) : wpX d mX8_turns 175 ls st S R := x_step (by decide +kernel) h
def B_X8_turns_177 : List AIn := [(.ireturn, 0, 0, 0)]
theorem s_X8_turns_177 {d : Nat} {ls st : List AV} {S : MS} {R : Option AV → MS → Prop} (h : wpI (fun t l s S2 => wpX d mX8_turns t l s S2 R) (wpM d) R 178 0 B_X8_turns_177 ls st S) : wpX d mX8_turns 177 ls st S R := x_step (by decide +kernel) h
-- NinthDay.power(II)J
def B_X8_power_0 : List AIn := [(.lconst 1, 1, 0, 0), (.lstore_n 2, 2, 0, 0), (.iconst 0, 0, 0, 0), (.istore 4, 4, 0, 0)]
theorem s_X8_power_0 {d : Nat} {ls st : List AV} {S : MS} {R : Option AV → MS → Prop} (h : wpI (fun t l s S2 => wpX d mX8_power t l s S2 R) (wpM d) R 5 8 B_X8_power_0 ls st S) : wpX d mX8_power 0 ls st S R := x_step (by decide +kernel) h
def B_X8_power_5 : List AIn := [(.iload 4, 4, 0, 0), (.iload_n 1, 1, 0, 0), (.if_icmp .ge 14, 22, 27, 0), (.lload_n 2, 2, 0, 0), (.iload_n 0, 0, 0, 0), (.i2l, 0, 0, 0), (.lmul, 0, 0, 0), (.lstore_n 2, 2, 0, 0), (.iinc 4 1, 1, 0, 0), (.goto (-14), 5, 8, 0)]
theorem s_X8_power_5 {d : Nat} {ls st : List AV} {S : MS} {R : Option AV → MS → Prop} (h : wpI (fun t l s S2 => wpX d mX8_power t l s S2 R) (wpM d) R 22 0 B_X8_power_5 ls st S) : wpX d mX8_power 5 ls st S R := x_step (by decide +kernel) h
def B_X8_power_22 : List AIn := [(.lload_n 2, 2, 0, 0), (.lreturn, 0, 0, 0)]
theorem s_X8_power_22 {d : Nat} {ls st : List AV} {S : MS} {R : Option AV → MS → Prop} (h : wpI (fun t l s S2 => wpX d mX8_power t l s S2 R) (wpM d) R 24 0 B_X8_power_22 ls st S) : wpX d mX8_power 22 ls st S R := x_step (by decide +kernel) h
