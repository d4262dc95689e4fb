-- (by gen_code.py) the code in blocks
-- NinthDayModel.in(III)Z
def B_X9_in_0 : List AIn := [(.iload_n 0, 0, 0, 0), (.iload_n 1, 1, 0, 0), (.if_icmp .lt 12, 14, 7, 0), (.iload_n 0, 0, 0, 0), (.iload_n 2, 2, 0, 0), (.if_icmp .gt 7, 14, 7, 0), (.iconst 1, 1, 0, 0), (.goto 4, 15, 7, 0)]
theorem s_X9_in_0 {d : Nat} {ls st : List AV} {S : MS} {R : Option AV → MS → Prop} (h : wpI (fun t l s S2 => wpX d mX9_in t l s S2 R) (wpM d) R 14 0 B_X9_in_0 ls st S) : wpX d mX9_in 0 ls st S R := x_step (by decide +kernel) h
def B_X9_in_14 : List AIn := [(.iconst 0, 0, 0, 0)]
theorem s_X9_in_14 {d : Nat} {ls st : List AV} {S : MS} {R : Option AV → MS → Prop} (h : wpI (fun t l s S2 => wpX d mX9_in t l s S2 R) (wpM d) R 15 7 B_X9_in_14 ls st S) : wpX d mX9_in 14 ls st S R := x_step (by decide +kernel) h
def B_X9_in_15 : List AIn := [(.ireturn, 1, 0, 0)]
theorem s_X9_in_15 {d : Nat} {ls st : List AV} {S : MS} {R : Option AV → MS → Prop} (h : wpI (fun t l s S2 => wpX d mX9_in t l s S2 R) (wpM d) R 16 0 B_X9_in_15 ls st S) : wpX d mX9_in 15 ls st S R := x_step (by decide +kernel) h
-- NinthDayModel.has(II)Z
def B_X9_has_0 : List AIn := [(.iload_n 0, 0, 0, 0), (.iload_n 1, 1, 0, 0), (.ishr, 0, 0, 0), (.iconst 1, 1, 0, 0), (.iand, 0, 0, 0), (.iconst 1, 1, 0, 0), (.if_icmp .ne 7, 13, 3, 0), (.iconst 1, 1, 0, 0), (.goto 4, 14, 3, 0)]
theorem s_X9_has_0 {d : Nat} {ls st : List AV} {S : MS} {R : Option AV → MS → Prop} (h : wpI (fun t l s S2 => wpX d mX9_has t l s S2 R) (wpM d) R 13 0 B_X9_has_0 ls st S) : wpX d mX9_has 0 ls st S R := x_step (by decide +kernel) h
def B_X9_has_13 : List AIn := [(.iconst 0, 0, 0, 0)]
theorem s_X9_has_13 {d : Nat} {ls st : List AV} {S : MS} {R : Option AV → MS → Prop} (h : wpI (fun t l s S2 => wpX d mX9_has t l s S2 R) (wpM d) R 14 3 B_X9_has_13 ls st S) : wpX d mX9_has 13 ls st S R := x_step (by decide +kernel) h
def B_X9_has_14 : List AIn := [(.ireturn, 1, 0, 0)]
theorem s_X9_has_14 {d : Nat} {ls st : List AV} {S : MS} {R : Option AV → MS → Prop} (h : wpI (fun t l s S2 => wpX d mX9_has t l s S2 R) (wpM d) R 15 0 B_X9_has_14 ls st S) : wpX d mX9_has 14 ls st S R := x_step (by decide +kernel) h
-- NinthDayModel.bits(I)I
def B_X9_bits_0 : List AIn := [(.iconst 0, 0, 0, 0), (.istore_n 1, 1, 0, 0), (.iload_n 0, 0, 0, 0), (.istore_n 2, 2, 0, 0)]
theorem s_X9_bits_0 {d : Nat} {ls st : List AV} {S : MS} {R : Option AV → MS → Prop} (h : wpI (fun t l s S2 => wpX d mX9_bits t l s S2 R) (wpM d) R 4 1 B_X9_bits_0 ls st S) : wpX d mX9_bits 0 ls st S R := x_step (by decide +kernel) h
def B_X9_bits_4 : List AIn := [(.iload_n 2, 2, 0, 0), (.ifCond .eq 15, 20, 5, 0), (.iinc 1 1, 1, 0, 0), (.iload_n 2, 2, 0, 0), (.iload_n 2, 2, 0, 0), (.iconst 1, 1, 0, 0), (.isub, 0, 0, 0), (.iand, 0, 0, 0), (.istore_n 2, 2, 0, 0), (.goto (-13), 4, 1, 0)]
theorem s_X9_bits_4 {d : Nat} {ls st : List AV} {S : MS} {R : Option AV → MS → Prop} (h : wpI (fun t l s S2 => wpX d mX9_bits t l s S2 R) (wpM d) R 20 0 B_X9_bits_4 ls st S) : wpX d mX9_bits 4 ls st S R := x_step (by decide +kernel) h
def B_X9_bits_20 : List AIn := [(.iload_n 1, 1, 0, 0), (.ireturn, 0, 0, 0)]
theorem s_X9_bits_20 {d : Nat} {ls st : List AV} {S : MS} {R : Option AV → MS → Prop} (h : wpI (fun t l s S2 => wpX d mX9_bits t l s S2 R) (wpM d) R 22 0 B_X9_bits_20 ls st S) : wpX d mX9_bits 20 ls st S R := x_step (by decide +kernel) h
-- NinthDayModel.meets(I)I
def B_X9_meets_0 : List AIn := [(.aload_n 0, 0, 0, 0), (.iload_n 1, 1, 0, 0), (.putfield 79, 0, 8, 0), (.aload_n 0, 0, 0, 0), (.getfield 7, 1, 8, 0), (.iload_n 1, 1, 0, 0), (.dup2, 0, 0, 0), (.iaload, 0, 0, 0), (.iconst 1, 1, 0, 0), (.iadd, 0, 0, 0), (.iastore, 0, 0, 0), (.bipush (-3), 3, 1, 0), (.ireturn, 0, 0, 0)]
theorem s_X9_meets_0 {d : Nat} {ls st : List AV} {S : MS} {R : Option AV → MS → Prop} (h : wpI (fun t l s S2 => wpX d mX9_meets t l s S2 R) (wpM d) R 18 0 B_X9_meets_0 ls st S) : wpX d mX9_meets 0 ls st S R := x_step (by decide +kernel) h
-- NinthDayModel.finding()I
def B_X9_finding_0 : List AIn := [(.aload_n 0, 0, 0, 0), (.getfield 79, 0, 8, 0), (.ireturn, 0, 0, 0)]
theorem s_X9_finding_0 {d : Nat} {ls st : List AV} {S : MS} {R : Option AV → MS → Prop} (h : wpI (fun t l s S2 => wpX d mX9_finding t l s S2 R) (wpM d) R 5 0 B_X9_finding_0 ls st S) : wpX d mX9_finding 0 ls st S R := x_step (by decide +kernel) h
-- NinthDayModel.findings(I)I
def B_X9_findings_0 : List AIn := [(.iload_n 1, 1, 0, 0), (.iconst 1, 1, 0, 0), (.iconst 5, 5, 0, 0), (.invokestatic 83, 131, 3, 0)]
theorem s_X9_findings_0 {d : Nat} {ls st : List AV} {S : MS} {R : Option AV → MS → Prop} (h : wpI (fun t l s S2 => wpX d mX9_findings t l s S2 R) (wpM d) R 6 0 B_X9_findings_0 ls st S) : wpX d mX9_findings 0 ls st S R := x_step (by decide +kernel) h
def B_X9_findings_6 : List AIn := [(.ifCond .eq 12, 18, 3, 0), (.aload_n 0, 0, 0, 0), (.getfield 7, 1, 8, 0), (.iload_n 1, 1, 0, 0), (.iaload, 0, 0, 0), (.goto 4, 19, 3, 0)]
theorem s_X9_findings_6 {d : Nat} {ls st : List AV} {S : MS} {R : Option AV → MS → Prop} (h : wpI (fun t l s S2 => wpX d mX9_findings t l s S2 R) (wpM d) R 18 0 B_X9_findings_6 ls st S) : wpX d mX9_findings 6 ls st S R := x_step (by decide +kernel) h
def B_X9_findings_18 : List AIn := [(.iconst (-1), 1, 1, 0)]
theorem s_X9_findings_18 {d : Nat} {ls st : List AV} {S : MS} {R : Option AV → MS → Prop} (h : wpI (fun t l s S2 => wpX d mX9_findings t l s S2 R) (wpM d) R 19 3 B_X9_findings_18 ls st S) : wpX d mX9_findings 18 ls st S R := x_step (by decide +kernel) h
def B_X9_findings_19 : List AIn := [(.ireturn, 0, 0, 0)]
theorem s_X9_findings_19 {d : Nat} {ls st : List AV} {S : MS} {R : Option AV → MS → Prop} (h : wpI (fun t l s S2 => wpX d mX9_findings t l s S2 R) (wpM d) R 20 0 B_X9_findings_19 ls st S) : wpX d mX9_findings 19 ls st S R := x_step (by decide +kernel) h
-- NinthDayModel.tells(II)I
def B_X9_tells_0 : List AIn := [(.aload_n 0, 0, 0, 0), (.iload_n 1, 1, 0, 0), (.putfield 87, 2, 8, 0), (.iload_n 2, 2, 0, 0), (.ireturn, 0, 0, 0)]
theorem s_X9_tells_0 {d : Nat} {ls st : List AV} {S : MS} {R : Option AV → MS → Prop} (h : wpI (fun t l s S2 => wpX d mX9_tells t l s S2 R) (wpM d) R 7 0 B_X9_tells_0 ls st S) : wpX d mX9_tells 0 ls st S R := x_step (by decide +kernel) h
-- NinthDayModel.asked()I
def B_X9_asked_0 : List AIn := [(.aload_n 0, 0, 0, 0), (.getfield 87, 2, 8, 0), (.ireturn, 0, 0, 0)]
theorem s_X9_asked_0 {d : Nat} {ls st : List AV} {S : MS} {R : Option AV → MS → Prop} (h : wpI (fun t l s S2 => wpX d mX9_asked t l s S2 R) (wpM d) R 5 0 B_X9_asked_0 ls st S) : wpX d mX9_asked 0 ls st S R := x_step (by decide +kernel) h
-- NinthDayModel.fraction(JJ)I
def B_X9_fraction_0 : List AIn := [(.lload_n 1, 1, 0, 0), (.lstore 5, 5, 0, 0), (.lload_n 3, 3, 0, 0), (.lstore 7, 7, 0, 0)]
theorem s_X9_fraction_0 {d : Nat} {ls st : List AV} {S : MS} {R : Option AV → MS → Prop} (h : wpI (fun t l s S2 => wpX d mX9_fraction t l s S2 R) (wpM d) R 6 1876 B_X9_fraction_0 ls st S) : wpX d mX9_fraction 0 ls st S R := x_step (by decide +kernel) h
def B_X9_fraction_6 : List AIn := [(.lload 7, 7, 0, 0), (.lconst 0, 0, 0, 0), (.lcmp, 0, 0, 0), (.ifCond .eq 21, 31, 2004, 0), (.lload 5, 5, 0, 0), (.lload 7, 7, 0, 0), (.lrem, 0, 0, 0), (.lstore 9, 9, 0, 0), (.lload 7, 7, 0, 0), (.lstore 5, 5, 0, 0), (.lload 9, 9, 0, 0), (.lstore 7, 7, 0, 0), (.goto (-22), 6, 1876, 0)]
theorem s_X9_fraction_6 {d : Nat} {ls st : List AV} {S : MS} {R : Option AV → MS → Prop} (h : wpI (fun t l s S2 => wpX d mX9_fraction t l s S2 R) (wpM d) R 31 0 B_X9_fraction_6 ls st S) : wpX d mX9_fraction 6 ls st S R := x_step (by decide +kernel) h
def B_X9_fraction_31 : List AIn := [(.aload_n 0, 0, 0, 0), (.lload_n 1, 1, 0, 0), (.lload 5, 5, 0, 0), (.ldiv, 0, 0, 0), (.putfield 90, 3, 8, 0), (.aload_n 0, 0, 0, 0), (.lload_n 3, 3, 0, 0), (.lload 5, 5, 0, 0), (.ldiv, 0, 0, 0), (.putfield 13, 4, 8, 0), (.iconst 1, 1, 0, 0), (.ireturn, 0, 0, 0)]
theorem s_X9_fraction_31 {d : Nat} {ls st : List AV} {S : MS} {R : Option AV → MS → Prop} (h : wpI (fun t l s S2 => wpX d mX9_fraction t l s S2 R) (wpM d) R 49 0 B_X9_fraction_31 ls st S) : wpX d mX9_fraction 31 ls st S R := x_step (by decide +kernel) h
-- NinthDayModel.upper()J
def B_X9_upper_0 : List AIn := [(.aload_n 0, 0, 0, 0), (.getfield 90, 3, 8, 0), (.lreturn, 0, 0, 0)]
theorem s_X9_upper_0 {d : Nat} {ls st : List AV} {S : MS} {R : Option AV → MS → Prop} (h : wpI (fun t l s S2 => wpX d mX9_upper t l s S2 R) (wpM d) R 5 0 B_X9_upper_0 ls st S) : wpX d mX9_upper 0 ls st S R := x_step (by decide +kernel) h
-- NinthDayModel.lower()J
def B_X9_lower_0 : List AIn := [(.aload_n 0, 0, 0, 0), (.getfield 13, 4, 8, 0), (.lreturn, 0, 0, 0)]
theorem s_X9_lower_0 {d : Nat} {ls st : List AV} {S : MS} {R : Option AV → MS → Prop} (h : wpI (fun t l s S2 => wpX d mX9_lower t l s S2 R) (wpM d) R 5 0 B_X9_lower_0 ls st S) : wpX d mX9_lower 0 ls st S R := x_step (by decide +kernel) h
-- NinthDayModel.isRow(I)Z
def B_X9_isRow_0 : List AIn := [(.iload_n 0, 0, 0, 0), (.iconst 0, 0, 0, 0), (.iconst 5, 5, 0, 0), (.invokestatic 83, 131, 3, 0)]
theorem s_X9_isRow_0 {d : Nat} {ls st : List AV} {S : MS} {R : Option AV → MS → Prop} (h : wpI (fun t l s S2 => wpX d mX9_isRow t l s S2 R) (wpM d) R 6 1 B_X9_isRow_0 ls st S) : wpX d mX9_isRow 0 ls st S R := x_step (by decide +kernel) h
def B_X9_isRow_6 : List AIn := [(.ireturn, 1, 0, 0)]
theorem s_X9_isRow_6 {d : Nat} {ls st : List AV} {S : MS} {R : Option AV → MS → Prop} (h : wpI (fun t l s S2 => wpX d mX9_isRow t l s S2 R) (wpM d) R 7 0 B_X9_isRow_6 ls st S) : wpX d mX9_isRow 6 ls st S R := x_step (by decide +kernel) h
-- NinthDayModel.rowAt(II)I
def B_X9_rowAt_0 : List AIn := [(.aload_n 0, 0, 0, 0), (.getfield 20, 6, 8, 0), (.bipush 40, 40, 0, 0), (.iload_n 1, 1, 0, 0), (.imul, 0, 0, 0), (.iload_n 2, 2, 0, 0), (.iadd, 0, 0, 0), (.iaload, 0, 0, 0), (.ireturn, 0, 0, 0)]
theorem s_X9_rowAt_0 {d : Nat} {ls st : List AV} {S : MS} {R : Option AV → MS → Prop} (h : wpI (fun t l s S2 => wpX d mX9_rowAt t l s S2 R) (wpM d) R 12 0 B_X9_rowAt_0 ls st S) : wpX d mX9_rowAt 0 ls st S R := x_step (by decide +kernel) h
-- NinthDayModel.row(II)I
def B_X9_row_0 : List AIn := [(.iload_n 1, 1, 0, 0), (.invokestatic 93, 142, 1, 0)]
theorem s_X9_row_0 {d : Nat} {ls st : List AV} {S : MS} {R : Option AV → MS → Prop} (h : wpI (fun t l s S2 => wpX d mX9_row t l s S2 R) (wpM d) R 4 8 B_X9_row_0 ls st S) : wpX d mX9_row 0 ls st S R := x_step (by decide +kernel) h
def B_X9_row_4 : List AIn := [(.ifCond .eq 9, 13, 15, 0), (.iload_n 2, 2, 0, 0), (.bipush 40, 40, 0, 0), (.if_icmp .le 5, 15, 8, 0)]
theorem s_X9_row_4 {d : Nat} {ls st : List AV} {S : MS} {R : Option AV → MS → Prop} (h : wpI (fun t l s S2 => wpX d mX9_row t l s S2 R) (wpM d) R 13 15 B_X9_row_4 ls st S) : wpX d mX9_row 4 ls st S R := x_step (by decide +kernel) h
def B_X9_row_13 : List AIn := [(.iconst (-1), 1, 1, 0), (.ireturn, 0, 0, 0)]
theorem s_X9_row_13 {d : Nat} {ls st : List AV} {S : MS} {R : Option AV → MS → Prop} (h : wpI (fun t l s S2 => wpX d mX9_row t l s S2 R) (wpM d) R 15 0 B_X9_row_13 ls st S) : wpX d mX9_row 13 ls st S R := x_step (by decide +kernel) h
def B_X9_row_15 : List AIn := [(.iload_n 2, 2, 0, 0), (.ifCond .ge 9, 25, 8, 0), (.aload_n 0, 0, 0, 0), (.iconst 5, 5, 0, 0), (.invokevirtual 97, 134, 2, 8)]
theorem s_X9_row_15 {d : Nat} {ls st : List AV} {S : MS} {R : Option AV → MS → Prop} (h : wpI (fun t l s S2 => wpX d mX9_row t l s S2 R) (wpM d) R 24 15 B_X9_row_15 ls st S) : wpX d mX9_row 15 ls st S R := x_step (by decide +kernel) h
def B_X9_row_24 : List AIn := [(.ireturn, 0, 0, 0)]
theorem s_X9_row_24 {d : Nat} {ls st : List AV} {S : MS} {R : Option AV → MS → Prop} (h : wpI (fun t l s S2 => wpX d mX9_row t l s S2 R) (wpM d) R 25 0 B_X9_row_24 ls st S) : wpX d mX9_row 24 ls st S R := x_step (by decide +kernel) h
def B_X9_row_25 : List AIn := [(.aload_n 0, 0, 0, 0), (.getfield 17, 5, 8, 0), (.iload_n 1, 1, 0, 0), (.iload_n 2, 2, 0, 0), (.iastore, 0, 0, 0), (.iconst 0, 0, 0, 0), (.istore_n 3, 3, 0, 0)]
theorem s_X9_row_25 {d : Nat} {ls st : List AV} {S : MS} {R : Option AV → MS → Prop} (h : wpI (fun t l s S2 => wpX d mX9_row t l s S2 R) (wpM d) R 34 0 B_X9_row_25 ls st S) : wpX d mX9_row 25 ls st S R := x_step (by decide +kernel) h
def B_X9_row_34 : List AIn := [(.iload_n 3, 3, 0, 0), (.bipush 40, 40, 0, 0), (.if_icmp .ge 21, 58, 11, 0), (.aload_n 0, 0, 0, 0), (.getfield 20, 6, 8, 0), (.bipush 40, 40, 0, 0), (.iload_n 1, 1, 0, 0), (.imul, 0, 0, 0), (.iload_n 3, 3, 0, 0), (.iadd, 0, 0, 0), (.iconst 0, 0, 0, 0), (.iastore, 0, 0, 0), (.iinc 3 1, 1, 0, 0), (.goto (-21), 34, 0, 0)]
theorem s_X9_row_34 {d : Nat} {ls st : List AV} {S : MS} {R : Option AV → MS → Prop} (h : wpI (fun t l s S2 => wpX d mX9_row t l s S2 R) (wpM d) R 58 0 B_X9_row_34 ls st S) : wpX d mX9_row 34 ls st S R := x_step (by decide +kernel) h
def B_X9_row_58 : List AIn := [(.iload_n 2, 2, 0, 0), (.ireturn, 0, 0, 0)]
theorem s_X9_row_58 {d : Nat} {ls st : List AV} {S : MS} {R : Option AV → MS → Prop} (h : wpI (fun t l s S2 => wpX d mX9_row t l s S2 R) (wpM d) R 60 0 B_X9_row_58 ls st S) : wpX d mX9_row 58 ls st S R := x_step (by decide +kernel) h
-- NinthDayModel.lay(III)I
def B_X9_lay_0 : List AIn := [(.iload_n 1, 1, 0, 0), (.invokestatic 93, 142, 1, 0)]
theorem s_X9_lay_0 {d : Nat} {ls st : List AV} {S : MS} {R : Option AV → MS → Prop} (h : wpI (fun t l s S2 => wpX d mX9_lay t l s S2 R) (wpM d) R 4 16 B_X9_lay_0 ls st S) : wpX d mX9_lay 0 ls st S R := x_step (by decide +kernel) h
def B_X9_lay_4 : List AIn := [(.ifCond .ne 5, 9, 16, 0), (.iconst (-1), 1, 1, 0), (.ireturn, 0, 0, 0)]
theorem s_X9_lay_4 {d : Nat} {ls st : List AV} {S : MS} {R : Option AV → MS → Prop} (h : wpI (fun t l s S2 => wpX d mX9_lay t l s S2 R) (wpM d) R 9 0 B_X9_lay_4 ls st S) : wpX d mX9_lay 4 ls st S R := x_step (by decide +kernel) h
def B_X9_lay_9 : List AIn := [(.aload_n 0, 0, 0, 0), (.getfield 17, 5, 8, 0), (.iload_n 1, 1, 0, 0), (.iaload, 0, 0, 0), (.ifCond .ge 9, 24, 16, 0), (.aload_n 0, 0, 0, 0), (.iconst 1, 1, 0, 0), (.invokevirtual 97, 134, 2, 8)]
theorem s_X9_lay_9 {d : Nat} {ls st : List AV} {S : MS} {R : Option AV → MS → Prop} (h : wpI (fun t l s S2 => wpX d mX9_lay t l s S2 R) (wpM d) R 23 31 B_X9_lay_9 ls st S) : wpX d mX9_lay 9 ls st S R := x_step (by decide +kernel) h
def B_X9_lay_23 : List AIn := [(.ireturn, 0, 0, 0)]
theorem s_X9_lay_23 {d : Nat} {ls st : List AV} {S : MS} {R : Option AV → MS → Prop} (h : wpI (fun t l s S2 => wpX d mX9_lay t l s S2 R) (wpM d) R 24 0 B_X9_lay_23 ls st S) : wpX d mX9_lay 23 ls st S R := x_step (by decide +kernel) h
def B_X9_lay_24 : List AIn := [(.iload_n 2, 2, 0, 0), (.iconst 0, 0, 0, 0), (.aload_n 0, 0, 0, 0), (.getfield 17, 5, 8, 0), (.iload_n 1, 1, 0, 0), (.iaload, 0, 0, 0), (.iconst 1, 1, 0, 0), (.isub, 0, 0, 0), (.invokestatic 83, 131, 3, 0)]
theorem s_X9_lay_24 {d : Nat} {ls st : List AV} {S : MS} {R : Option AV → MS → Prop} (h : wpI (fun t l s S2 => wpX d mX9_lay t l s S2 R) (wpM d) R 37 16 B_X9_lay_24 ls st S) : wpX d mX9_lay 24 ls st S R := x_step (by decide +kernel) h
def B_X9_lay_37 : List AIn := [(.ifCond .ne 9, 46, 16, 0), (.aload_n 0, 0, 0, 0), (.iconst 2, 2, 0, 0), (.invokevirtual 97, 134, 2, 8)]
theorem s_X9_lay_37 {d : Nat} {ls st : List AV} {S : MS} {R : Option AV → MS → Prop} (h : wpI (fun t l s S2 => wpX d mX9_lay t l s S2 R) (wpM d) R 45 31 B_X9_lay_37 ls st S) : wpX d mX9_lay 37 ls st S R := x_step (by decide +kernel) h
def B_X9_lay_45 : List AIn := [(.ireturn, 0, 0, 0)]
theorem s_X9_lay_45 {d : Nat} {ls st : List AV} {S : MS} {R : Option AV → MS → Prop} (h : wpI (fun t l s S2 => wpX d mX9_lay t l s S2 R) (wpM d) R 46 0 B_X9_lay_45 ls st S) : wpX d mX9_lay 45 ls st S R := x_step (by decide +kernel) h
def B_X9_lay_46 : List AIn := [(.aload_n 0, 0, 0, 0), (.iload_n 1, 1, 0, 0), (.iload_n 2, 2, 0, 0), (.invokevirtual 101, 143, 3, 8)]
theorem s_X9_lay_46 {d : Nat} {ls st : List AV} {S : MS} {R : Option AV → MS → Prop} (h : wpI (fun t l s S2 => wpX d mX9_lay t l s S2 R) (wpM d) R 52 16 B_X9_lay_46 ls st S) : wpX d mX9_lay 46 ls st S R := x_step (by decide +kernel) h
def B_X9_lay_52 : List AIn := [(.istore 4, 4, 0, 0), (.aload_n 0, 0, 0, 0), (.getfield 20, 6, 8, 0), (.bipush 40, 40, 0, 0), (.iload_n 1, 1, 0, 0), (.imul, 0, 0, 0), (.iload_n 2, 2, 0, 0), (.iadd, 0, 0, 0), (.iload_n 3, 3, 0, 0), (.iastore, 0, 0, 0), (.aload_n 0, 0, 0, 0), (.iload 4, 4, 0, 0), (.iconst 1, 1, 0, 0), (.invokevirtual 105, 137, 3, 8)]
theorem s_X9_lay_52 {d : Nat} {ls st : List AV} {S : MS} {R : Option AV → MS → Prop} (h : wpI (fun t l s S2 => wpX d mX9_lay t l s S2 R) (wpM d) R 73 31 B_X9_lay_52 ls st S) : wpX d mX9_lay 52 ls st S R := x_step (by decide +kernel) h
def B_X9_lay_73 : List AIn := [(.ireturn, 0, 0, 0)]
theorem s_X9_lay_73 {d : Nat} {ls st : List AV} {S : MS} {R : Option AV → MS → Prop} (h : wpI (fun t l s S2 => wpX d mX9_lay t l s S2 R) (wpM d) R 74 0 B_X9_lay_73 ls st S) : wpX d mX9_lay 73 ls st S R := x_step (by decide +kernel) h
-- NinthDayModel.at(II)I
def B_X9_at_0 : List AIn := [(.iload_n 1, 1, 0, 0), (.invokestatic 93, 142, 1, 0)]
theorem s_X9_at_0 {d : Nat} {ls st : List AV} {S : MS} {R : Option AV → MS → Prop} (h : wpI (fun t l s S2 => wpX d mX9_at t l s S2 R) (wpM d) R 4 0 B_X9_at_0 ls st S) : wpX d mX9_at 0 ls st S R := x_step (by decide +kernel) h
def B_X9_at_4 : List AIn := [(.ifCond .ne 5, 9, 0, 0), (.iconst (-1), 1, 1, 0), (.ireturn, 0, 0, 0)]
theorem s_X9_at_4 {d : Nat} {ls st : List AV} {S : MS} {R : Option AV → MS → Prop} (h : wpI (fun t l s S2 => wpX d mX9_at t l s S2 R) (wpM d) R 9 0 B_X9_at_4 ls st S) : wpX d mX9_at 4 ls st S R := x_step (by decide +kernel) h
def B_X9_at_9 : List AIn := [(.aload_n 0, 0, 0, 0), (.getfield 17, 5, 8, 0), (.iload_n 1, 1, 0, 0), (.iaload, 0, 0, 0), (.ifCond .ge 9, 24, 0, 0), (.aload_n 0, 0, 0, 0), (.iconst 1, 1, 0, 0), (.invokevirtual 97, 134, 2, 8)]
theorem s_X9_at_9 {d : Nat} {ls st : List AV} {S : MS} {R : Option AV → MS → Prop} (h : wpI (fun t l s S2 => wpX d mX9_at t l s S2 R) (wpM d) R 23 7 B_X9_at_9 ls st S) : wpX d mX9_at 9 ls st S R := x_step (by decide +kernel) h
def B_X9_at_23 : List AIn := [(.ireturn, 0, 0, 0)]
theorem s_X9_at_23 {d : Nat} {ls st : List AV} {S : MS} {R : Option AV → MS → Prop} (h : wpI (fun t l s S2 => wpX d mX9_at t l s S2 R) (wpM d) R 24 0 B_X9_at_23 ls st S) : wpX d mX9_at 23 ls st S R := x_step (by decide +kernel) h
def B_X9_at_24 : List AIn := [(.iload_n 2, 2, 0, 0), (.iconst 0, 0, 0, 0), (.aload_n 0, 0, 0, 0), (.getfield 17, 5, 8, 0), (.iload_n 1, 1, 0, 0), (.iaload, 0, 0, 0), (.iconst 1, 1, 0, 0), (.isub, 0, 0, 0), (.invokestatic 83, 131, 3, 0)]
theorem s_X9_at_24 {d : Nat} {ls st : List AV} {S : MS} {R : Option AV → MS → Prop} (h : wpI (fun t l s S2 => wpX d mX9_at t l s S2 R) (wpM d) R 37 0 B_X9_at_24 ls st S) : wpX d mX9_at 24 ls st S R := x_step (by decide +kernel) h
def B_X9_at_37 : List AIn := [(.ifCond .eq 17, 54, 6, 0), (.aload_n 0, 0, 0, 0), (.aload_n 0, 0, 0, 0), (.iload_n 1, 1, 0, 0), (.iload_n 2, 2, 0, 0), (.invokevirtual 101, 143, 3, 8)]
theorem s_X9_at_37 {d : Nat} {ls st : List AV} {S : MS} {R : Option AV → MS → Prop} (h : wpI (fun t l s S2 => wpX d mX9_at t l s S2 R) (wpM d) R 47 7 B_X9_at_37 ls st S) : wpX d mX9_at 37 ls st S R := x_step (by decide +kernel) h
def B_X9_at_47 : List AIn := [(.iconst 1, 1, 0, 0), (.invokevirtual 105, 137, 3, 8)]
theorem s_X9_at_47 {d : Nat} {ls st : List AV} {S : MS} {R : Option AV → MS → Prop} (h : wpI (fun t l s S2 => wpX d mX9_at t l s S2 R) (wpM d) R 51 7 B_X9_at_47 ls st S) : wpX d mX9_at 47 ls st S R := x_step (by decide +kernel) h
def B_X9_at_51 : List AIn := [(.goto 8, 59, 7, 0)]
theorem s_X9_at_51 {d : Nat} {ls st : List AV} {S : MS} {R : Option AV → MS → Prop} (h : wpI (fun t l s S2 => wpX d mX9_at t l s S2 R) (wpM d) R 54 0 B_X9_at_51 ls st S) : wpX d mX9_at 51 ls st S R := x_step (by decide +kernel) h
def B_X9_at_54 : List AIn := [(.aload_n 0, 0, 0, 0), (.iconst 2, 2, 0, 0), (.invokevirtual 97, 134, 2, 8)]
theorem s_X9_at_54 {d : Nat} {ls st : List AV} {S : MS} {R : Option AV → MS → Prop} (h : wpI (fun t l s S2 => wpX d mX9_at t l s S2 R) (wpM d) R 59 7 B_X9_at_54 ls st S) : wpX d mX9_at 54 ls st S R := x_step (by decide +kernel) h
def B_X9_at_59 : List AIn := [(.ireturn, 0, 0, 0)]
theorem s_X9_at_59 {d : Nat} {ls st : List AV} {S : MS} {R : Option AV → MS → Prop} (h : wpI (fun t l s S2 => wpX d mX9_at t l s S2 R) (wpM d) R 60 0 B_X9_at_59 ls st S) : wpX d mX9_at 59 ls st S R := x_step (by decide +kernel) h
-- NinthDayModel.tear(I)I
def B_X9_tear_0 : List AIn := [(.iload_n 1, 1, 0, 0), (.invokestatic 93, 142, 1, 0)]
theorem s_X9_tear_0 {d : Nat} {ls st : List AV} {S : MS} {R : Option AV → MS → Prop} (h : wpI (fun t l s S2 => wpX d mX9_tear t l s S2 R) (wpM d) R 4 0 B_X9_tear_0 ls st S) : wpX d mX9_tear 0 ls st S R := x_step (by decide +kernel) h
def B_X9_tear_4 : List AIn := [(.ifCond .ne 5, 9, 0, 0), (.iconst (-1), 1, 1, 0), (.ireturn, 0, 0, 0)]
theorem s_X9_tear_4 {d : Nat} {ls st : List AV} {S : MS} {R : Option AV → MS → Prop} (h : wpI (fun t l s S2 => wpX d mX9_tear t l s S2 R) (wpM d) R 9 0 B_X9_tear_4 ls st S) : wpX d mX9_tear 4 ls st S R := x_step (by decide +kernel) h
def B_X9_tear_9 : List AIn := [(.aload_n 0, 0, 0, 0), (.getfield 17, 5, 8, 0), (.iload_n 1, 1, 0, 0), (.iaload, 0, 0, 0), (.ifCond .ge 9, 24, 0, 0), (.aload_n 0, 0, 0, 0), (.iconst 1, 1, 0, 0), (.invokevirtual 97, 134, 2, 8)]
theorem s_X9_tear_9 {d : Nat} {ls st : List AV} {S : MS} {R : Option AV → MS → Prop} (h : wpI (fun t l s S2 => wpX d mX9_tear t l s S2 R) (wpM d) R 23 3 B_X9_tear_9 ls st S) : wpX d mX9_tear 9 ls st S R := x_step (by decide +kernel) h
def B_X9_tear_23 : List AIn := [(.ireturn, 0, 0, 0)]
theorem s_X9_tear_23 {d : Nat} {ls st : List AV} {S : MS} {R : Option AV → MS → Prop} (h : wpI (fun t l s S2 => wpX d mX9_tear t l s S2 R) (wpM d) R 24 0 B_X9_tear_23 ls st S) : wpX d mX9_tear 23 ls st S R := x_step (by decide +kernel) h
def B_X9_tear_24 : List AIn := [(.aload_n 0, 0, 0, 0), (.getfield 17, 5, 8, 0), (.iload_n 1, 1, 0, 0), (.iconst (-1), 1, 1, 0), (.iastore, 0, 0, 0), (.iconst 1, 1, 0, 0), (.ireturn, 0, 0, 0)]
theorem s_X9_tear_24 {d : Nat} {ls st : List AV} {S : MS} {R : Option AV → MS → Prop} (h : wpI (fun t l s S2 => wpX d mX9_tear t l s S2 R) (wpM d) R 33 0 B_X9_tear_24 ls st S) : wpX d mX9_tear 24 ls st S R := x_step (by decide +kernel) h
-- NinthDayModel.copy(IIIII)I
def B_X9_copy_0 : List AIn := [(.iload_n 1, 1, 0, 0), (.invokestatic 93, 142, 1, 0)]
theorem s_X9_copy_0 {d : Nat} {ls st : List AV} {S : MS} {R : Option AV → MS → Prop} (h : wpI (fun t l s S2 => wpX d mX9_copy t l s S2 R) (wpM d) R 4 64 B_X9_copy_0 ls st S) : wpX d mX9_copy 0 ls st S R := x_step (by decide +kernel) h
def B_X9_copy_4 : List AIn := [(.ifCond .eq 10, 14, 127, 0), (.iload_n 3, 3, 0, 0), (.invokestatic 93, 142, 1, 0)]
theorem s_X9_copy_4 {d : Nat} {ls st : List AV} {S : MS} {R : Option AV → MS → Prop} (h : wpI (fun t l s S2 => wpX d mX9_copy t l s S2 R) (wpM d) R 11 64 B_X9_copy_4 ls st S) : wpX d mX9_copy 4 ls st S R := x_step (by decide +kernel) h
def B_X9_copy_11 : List AIn := [(.ifCond .ne 5, 16, 64, 0)]
theorem s_X9_copy_11 {d : Nat} {ls st : List AV} {S : MS} {R : Option AV → MS → Prop} (h : wpI (fun t l s S2 => wpX d mX9_copy t l s S2 R) (wpM d) R 14 127 B_X9_copy_11 ls st S) : wpX d mX9_copy 11 ls st S R := x_step (by decide +kernel) h
def B_X9_copy_14 : List AIn := [(.iconst (-1), 1, 1, 0), (.ireturn, 0, 0, 0)]
theorem s_X9_copy_14 {d : Nat} {ls st : List AV} {S : MS} {R : Option AV → MS → Prop} (h : wpI (fun t l s S2 => wpX d mX9_copy t l s S2 R) (wpM d) R 16 0 B_X9_copy_14 ls st S) : wpX d mX9_copy 14 ls st S R := x_step (by decide +kernel) h
def B_X9_copy_16 : List AIn := [(.iload 5, 5, 0, 0), (.ifCond .ge 9, 27, 64, 0), (.aload_n 0, 0, 0, 0), (.iconst 5, 5, 0, 0), (.invokevirtual 97, 134, 2, 8)]
theorem s_X9_copy_16 {d : Nat} {ls st : List AV} {S : MS} {R : Option AV → MS → Prop} (h : wpI (fun t l s S2 => wpX d mX9_copy t l s S2 R) (wpM d) R 26 127 B_X9_copy_16 ls st S) : wpX d mX9_copy 16 ls st S R := x_step (by decide +kernel) h
def B_X9_copy_26 : List AIn := [(.ireturn, 0, 0, 0)]
theorem s_X9_copy_26 {d : Nat} {ls st : List AV} {S : MS} {R : Option AV → MS → Prop} (h : wpI (fun t l s S2 => wpX d mX9_copy t l s S2 R) (wpM d) R 27 0 B_X9_copy_26 ls st S) : wpX d mX9_copy 26 ls st S R := x_step (by decide +kernel) h
def B_X9_copy_27 : List AIn := [(.aload_n 0, 0, 0, 0), (.getfield 17, 5, 8, 0), (.iload_n 1, 1, 0, 0), (.iaload, 0, 0, 0), (.ifCond .lt 12, 45, 126, 0), (.aload_n 0, 0, 0, 0), (.getfield 17, 5, 8, 0), (.iload_n 3, 3, 0, 0), (.iaload, 0, 0, 0), (.ifCond .ge 9, 51, 64, 0)]
theorem s_X9_copy_27 {d : Nat} {ls st : List AV} {S : MS} {R : Option AV → MS → Prop} (h : wpI (fun t l s S2 => wpX d mX9_copy t l s S2 R) (wpM d) R 45 126 B_X9_copy_27 ls st S) : wpX d mX9_copy 27 ls st S R := x_step (by decide +kernel) h
def B_X9_copy_45 : List AIn := [(.aload_n 0, 0, 0, 0), (.iconst 1, 1, 0, 0), (.invokevirtual 97, 134, 2, 8)]
theorem s_X9_copy_45 {d : Nat} {ls st : List AV} {S : MS} {R : Option AV → MS → Prop} (h : wpI (fun t l s S2 => wpX d mX9_copy t l s S2 R) (wpM d) R 50 127 B_X9_copy_45 ls st S) : wpX d mX9_copy 45 ls st S R := x_step (by decide +kernel) h
def B_X9_copy_50 : List AIn := [(.ireturn, 0, 0, 0)]
theorem s_X9_copy_50 {d : Nat} {ls st : List AV} {S : MS} {R : Option AV → MS → Prop} (h : wpI (fun t l s S2 => wpX d mX9_copy t l s S2 R) (wpM d) R 51 0 B_X9_copy_50 ls st S) : wpX d mX9_copy 50 ls st S R := x_step (by decide +kernel) h
def B_X9_copy_51 : List AIn := [(.iload_n 2, 2, 0, 0), (.ifCond .lt 43, 95, 126, 0), (.iload 4, 4, 0, 0), (.ifCond .lt 38, 95, 126, 0), (.iload_n 2, 2, 0, 0), (.i2l, 0, 0, 0), (.iload 5, 5, 0, 0), (.i2l, 0, 0, 0), (.ladd, 0, 0, 0), (.aload_n 0, 0, 0, 0), (.getfield 17, 5, 8, 0), (.iload_n 1, 1, 0, 0), (.iaload, 0, 0, 0), (.i2l, 0, 0, 0), (.lcmp, 0, 0, 0), (.ifCond .gt 21, 95, 126, 0), (.iload 4, 4, 0, 0), (.i2l, 0, 0, 0), (.iload 5, 5, 0, 0), (.i2l, 0, 0, 0), (.ladd, 0, 0, 0), (.aload_n 0, 0, 0, 0), (.getfield 17, 5, 8, 0), (.iload_n 3, 3, 0, 0), (.iaload, 0, 0, 0), (.i2l, 0, 0, 0), (.lcmp, 0, 0, 0), (.ifCond .le 9, 101, 64, 0)]
theorem s_X9_copy_51 {d : Nat} {ls st : List AV} {S : MS} {R : Option AV → MS → Prop} (h : wpI (fun t l s S2 => wpX d mX9_copy t l s S2 R) (wpM d) R 95 126 B_X9_copy_51 ls st S) : wpX d mX9_copy 51 ls st S R := x_step (by decide +kernel) h
def B_X9_copy_95 : List AIn := [(.aload_n 0, 0, 0, 0), (.iconst 2, 2, 0, 0), (.invokevirtual 97, 134, 2, 8)]
theorem s_X9_copy_95 {d : Nat} {ls st : List AV} {S : MS} {R : Option AV → MS → Prop} (h : wpI (fun t l s S2 => wpX d mX9_copy t l s S2 R) (wpM d) R 100 127 B_X9_copy_95 ls st S) : wpX d mX9_copy 95 ls st S R := x_step (by decide +kernel) h
def B_X9_copy_100 : List AIn := [(.ireturn, 0, 0, 0)]
theorem s_X9_copy_100 {d : Nat} {ls st : List AV} {S : MS} {R : Option AV → MS → Prop} (h : wpI (fun t l s S2 => wpX d mX9_copy t l s S2 R) (wpM d) R 101 0 B_X9_copy_100 ls st S) : wpX d mX9_copy 100 ls st S R := x_step (by decide +kernel) h
def B_X9_copy_101 : List AIn := [(.iconst 0, 0, 0, 0), (.istore 6, 6, 0, 0)]
theorem s_X9_copy_101 {d : Nat} {ls st : List AV} {S : MS} {R : Option AV → MS → Prop} (h : wpI (fun t l s S2 => wpX d mX9_copy t l s S2 R) (wpM d) R 104 0 B_X9_copy_101 ls st S) : wpX d mX9_copy 101 ls st S R := x_step (by decide +kernel) h
def B_X9_copy_104 : List AIn := [(.iload 6, 6, 0, 0), (.iload 5, 5, 0, 0), (.if_icmp .ge 25, 133, 70, 0), (.aload_n 0, 0, 0, 0), (.getfield 23, 7, 8, 0), (.iload 6, 6, 0, 0), (.aload_n 0, 0, 0, 0), (.iload_n 1, 1, 0, 0), (.iload_n 2, 2, 0, 0), (.iload 6, 6, 0, 0), (.iadd, 0, 0, 0), (.invokevirtual 101, 143, 3, 8)]
theorem s_X9_copy_104 {d : Nat} {ls st : List AV} {S : MS} {R : Option AV → MS → Prop} (h : wpI (fun t l s S2 => wpX d mX9_copy t l s S2 R) (wpM d) R 126 0 B_X9_copy_104 ls st S) : wpX d mX9_copy 104 ls st S R := x_step (by decide +kernel) h
def B_X9_copy_126 : List AIn := [(.iastore, 0, 0, 0), (.iinc 6 1, 1, 0, 0), (.goto (-26), 104, 0, 0)]
theorem s_X9_copy_126 {d : Nat} {ls st : List AV} {S : MS} {R : Option AV → MS → Prop} (h : wpI (fun t l s S2 => wpX d mX9_copy t l s S2 R) (wpM d) R 133 0 B_X9_copy_126 ls st S) : wpX d mX9_copy 126 ls st S R := x_step (by decide +kernel) h
def B_X9_copy_133 : List AIn := [(.iconst 0, 0, 0, 0), (.istore 6, 6, 0, 0)]
theorem s_X9_copy_133 {d : Nat} {ls st : List AV} {S : MS} {R : Option AV → MS → Prop} (h : wpI (fun t l s S2 => wpX d mX9_copy t l s S2 R) (wpM d) R 136 6 B_X9_copy_133 ls st S) : wpX d mX9_copy 133 ls st S R := x_step (by decide +kernel) h
def B_X9_copy_136 : List AIn := [(.iload 6, 6, 0, 0), (.iload 5, 5, 0, 0), (.if_icmp .ge 31, 171, 127, 0), (.aload_n 0, 0, 0, 0), (.getfield 20, 6, 8, 0), (.bipush 40, 40, 0, 0), (.iload_n 3, 3, 0, 0), (.imul, 0, 0, 0), (.iload 4, 4, 0, 0), (.iadd, 0, 0, 0), (.iload 6, 6, 0, 0), (.iadd, 0, 0, 0), (.aload_n 0, 0, 0, 0), (.getfield 23, 7, 8, 0), (.iload 6, 6, 0, 0), (.iaload, 0, 0, 0), (.iastore, 0, 0, 0), (.iinc 6 1, 1, 0, 0), (.goto (-32), 136, 6, 0)]
theorem s_X9_copy_136 {d : Nat} {ls st : List AV} {S : MS} {R : Option AV → MS → Prop} (h : wpI (fun t l s S2 => wpX d mX9_copy t l s S2 R) (wpM d) R 171 0 B_X9_copy_136 ls st S) : wpX d mX9_copy 136 ls st S R := x_step (by decide +kernel) h
def B_X9_copy_171 : List AIn := [(.iconst 1, 1, 0, 0), (.ireturn, 0, 0, 0)]
theorem s_X9_copy_171 {d : Nat} {ls st : List AV} {S : MS} {R : Option AV → MS → Prop} (h : wpI (fun t l s S2 => wpX d mX9_copy t l s S2 R) (wpM d) R 173 0 B_X9_copy_171 ls st S) : wpX d mX9_copy 171 ls st S R := x_step (by decide +kernel) h
-- NinthDayModel.mean(I)I
def B_X9_mean_0 : List AIn := [(.iload_n 1, 1, 0, 0), (.invokestatic 93, 142, 1, 0)]
theorem s_X9_mean_0 {d : Nat} {ls st : List AV} {S : MS} {R : Option AV → MS → Prop} (h : wpI (fun t l s S2 => wpX d mX9_mean t l s S2 R) (wpM d) R 4 28 B_X9_mean_0 ls st S) : wpX d mX9_mean 0 ls st S R := x_step (by decide +kernel) h
def B_X9_mean_4 : List AIn := [(.ifCond .ne 5, 9, 28, 0), (.iconst (-1), 1, 1, 0), (.ireturn, 0, 0, 0)]
theorem s_X9_mean_4 {d : Nat} {ls st : List AV} {S : MS} {R : Option AV → MS → Prop} (h : wpI (fun t l s S2 => wpX d mX9_mean t l s S2 R) (wpM d) R 9 0 B_X9_mean_4 ls st S) : wpX d mX9_mean 4 ls st S R := x_step (by decide +kernel) h
def B_X9_mean_9 : List AIn := [(.aload_n 0, 0, 0, 0), (.getfield 17, 5, 8, 0), (.iload_n 1, 1, 0, 0), (.iaload, 0, 0, 0), (.ifCond .ge 9, 24, 28, 0), (.aload_n 0, 0, 0, 0), (.iconst 1, 1, 0, 0), (.invokevirtual 97, 134, 2, 8)]
theorem s_X9_mean_9 {d : Nat} {ls st : List AV} {S : MS} {R : Option AV → MS → Prop} (h : wpI (fun t l s S2 => wpX d mX9_mean t l s S2 R) (wpM d) R 23 31 B_X9_mean_9 ls st S) : wpX d mX9_mean 9 ls st S R := x_step (by decide +kernel) h
def B_X9_mean_23 : List AIn := [(.ireturn, 0, 0, 0)]
theorem s_X9_mean_23 {d : Nat} {ls st : List AV} {S : MS} {R : Option AV → MS → Prop} (h : wpI (fun t l s S2 => wpX d mX9_mean t l s S2 R) (wpM d) R 24 0 B_X9_mean_23 ls st S) : wpX d mX9_mean 23 ls st S R := x_step (by decide +kernel) h
def B_X9_mean_24 : List AIn := [(.aload_n 0, 0, 0, 0), (.getfield 17, 5, 8, 0), (.iload_n 1, 1, 0, 0), (.iaload, 0, 0, 0), (.ifCond .ne 9, 39, 28, 0), (.aload_n 0, 0, 0, 0), (.iconst 4, 4, 0, 0), (.invokevirtual 97, 134, 2, 8)]
theorem s_X9_mean_24 {d : Nat} {ls st : List AV} {S : MS} {R : Option AV → MS → Prop} (h : wpI (fun t l s S2 => wpX d mX9_mean t l s S2 R) (wpM d) R 38 31 B_X9_mean_24 ls st S) : wpX d mX9_mean 24 ls st S R := x_step (by decide +kernel) h
def B_X9_mean_38 : List AIn := [(.ireturn, 0, 0, 0)]
theorem s_X9_mean_38 {d : Nat} {ls st : List AV} {S : MS} {R : Option AV → MS → Prop} (h : wpI (fun t l s S2 => wpX d mX9_mean t l s S2 R) (wpM d) R 39 0 B_X9_mean_38 ls st S) : wpX d mX9_mean 38 ls st S R := x_step (by decide +kernel) h
def B_X9_mean_39 : List AIn := [(.lconst 0, 0, 0, 0), (.lstore_n 2, 2, 0, 0), (.iconst 0, 0, 0, 0), (.istore 4, 4, 0, 0)]
theorem s_X9_mean_39 {d : Nat} {ls st : List AV} {S : MS} {R : Option AV → MS → Prop} (h : wpI (fun t l s S2 => wpX d mX9_mean t l s S2 R) (wpM d) R 44 8 B_X9_mean_39 ls st S) : wpX d mX9_mean 39 ls st S R := x_step (by decide +kernel) h
def B_X9_mean_44 : List AIn := [(.iload 4, 4, 0, 0), (.aload_n 0, 0, 0, 0), (.getfield 17, 5, 8, 0), (.iload_n 1, 1, 0, 0), (.iaload, 0, 0, 0), (.if_icmp .ge 20, 72, 24, 0), (.lload_n 2, 2, 0, 0), (.aload_n 0, 0, 0, 0), (.iload_n 1, 1, 0, 0), (.iload 4, 4, 0, 0), (.invokevirtual 101, 143, 3, 8)]
theorem s_X9_mean_44 {d : Nat} {ls st : List AV} {S : MS} {R : Option AV → MS → Prop} (h : wpI (fun t l s S2 => wpX d mX9_mean t l s S2 R) (wpM d) R 63 12 B_X9_mean_44 ls st S) : wpX d mX9_mean 44 ls st S R := x_step (by decide +kernel) h
def B_X9_mean_63 : List AIn := [(.i2l, 0, 0, 0), (.ladd, 0, 0, 0), (.lstore_n 2, 2, 0, 0), (.iinc 4 1, 1, 0, 0), (.goto (-25), 44, 8, 0)]
theorem s_X9_mean_63 {d : Nat} {ls st : List AV} {S : MS} {R : Option AV → MS → Prop} (h : wpI (fun t l s S2 => wpX d mX9_mean t l s S2 R) (wpM d) R 72 0 B_X9_mean_63 ls st S) : wpX d mX9_mean 63 ls st S R := x_step (by decide +kernel) h
def B_X9_mean_72 : List AIn := [(.aload_n 0, 0, 0, 0), (.lload_n 2, 2, 0, 0), (.aload_n 0, 0, 0, 0), (.getfield 17, 5, 8, 0), (.iload_n 1, 1, 0, 0), (.iaload, 0, 0, 0), (.i2l, 0, 0, 0), (.ldiv, 0, 0, 0), (.l2i, 0, 0, 0), (.iconst 1, 1, 0, 0), (.invokevirtual 105, 137, 3, 8)]
theorem s_X9_mean_72 {d : Nat} {ls st : List AV} {S : MS} {R : Option AV → MS → Prop} (h : wpI (fun t l s S2 => wpX d mX9_mean t l s S2 R) (wpM d) R 87 31 B_X9_mean_72 ls st S) : wpX d mX9_mean 72 ls st S R := x_step (by decide +kernel) h
def B_X9_mean_87 : List AIn := [(.ireturn, 0, 0, 0)]
theorem s_X9_mean_87 {d : Nat} {ls st : List AV} {S : MS} {R : Option AV → MS → Prop} (h : wpI (fun t l s S2 => wpX d mX9_mean t l s S2 R) (wpM d) R 88 0 B_X9_mean_87 ls st S) : wpX d mX9_mean 87 ls st S R := x_step (by decide +kernel) h
-- NinthDayModel.isText(I)Z
def B_X9_isText_0 : List AIn := [(.iload_n 0, 0, 0, 0), (.iconst 0, 0, 0, 0), (.iconst 3, 3, 0, 0), (.invokestatic 83, 131, 3, 0)]
theorem s_X9_isText_0 {d : Nat} {ls st : List AV} {S : MS} {R : Option AV → MS → Prop} (h : wpI (fun t l s S2 => wpX d mX9_isText t l s S2 R) (wpM d) R 6 1 B_X9_isText_0 ls st S) : wpX d mX9_isText 0 ls st S R := x_step (by decide +kernel) h
def B_X9_isText_6 : List AIn := [(.ireturn, 1, 0, 0)]
theorem s_X9_isText_6 {d : Nat} {ls st : List AV} {S : MS} {R : Option AV → MS → Prop} (h : wpI (fun t l s S2 => wpX d mX9_isText t l s S2 R) (wpM d) R 7 0 B_X9_isText_6 ls st S) : wpX d mX9_isText 6 ls st S R := x_step (by decide +kernel) h
-- NinthDayModel.text(II)I
def B_X9_text_0 : List AIn := [(.iload_n 1, 1, 0, 0), (.invokestatic 108, 150, 1, 0)]
theorem s_X9_text_0 {d : Nat} {ls st : List AV} {S : MS} {R : Option AV → MS → Prop} (h : wpI (fun t l s S2 => wpX d mX9_text t l s S2 R) (wpM d) R 4 8 B_X9_text_0 ls st S) : wpX d mX9_text 0 ls st S R := x_step (by decide +kernel) h
def B_X9_text_4 : List AIn := [(.ifCond .eq 9, 13, 15, 0), (.iload_n 2, 2, 0, 0), (.bipush 60, 60, 0, 0), (.if_icmp .le 5, 15, 8, 0)]
theorem s_X9_text_4 {d : Nat} {ls st : List AV} {S : MS} {R : Option AV → MS → Prop} (h : wpI (fun t l s S2 => wpX d mX9_text t l s S2 R) (wpM d) R 13 15 B_X9_text_4 ls st S) : wpX d mX9_text 4 ls st S R := x_step (by decide +kernel) h
def B_X9_text_13 : List AIn := [(.iconst (-1), 1, 1, 0), (.ireturn, 0, 0, 0)]
theorem s_X9_text_13 {d : Nat} {ls st : List AV} {S : MS} {R : Option AV → MS → Prop} (h : wpI (fun t l s S2 => wpX d mX9_text t l s S2 R) (wpM d) R 15 0 B_X9_text_13 ls st S) : wpX d mX9_text 13 ls st S R := x_step (by decide +kernel) h
def B_X9_text_15 : List AIn := [(.iload_n 2, 2, 0, 0), (.ifCond .ge 9, 25, 8, 0), (.aload_n 0, 0, 0, 0), (.iconst 5, 5, 0, 0), (.invokevirtual 97, 134, 2, 8)]
theorem s_X9_text_15 {d : Nat} {ls st : List AV} {S : MS} {R : Option AV → MS → Prop} (h : wpI (fun t l s S2 => wpX d mX9_text t l s S2 R) (wpM d) R 24 15 B_X9_text_15 ls st S) : wpX d mX9_text 15 ls st S R := x_step (by decide +kernel) h
def B_X9_text_24 : List AIn := [(.ireturn, 0, 0, 0)]
theorem s_X9_text_24 {d : Nat} {ls st : List AV} {S : MS} {R : Option AV → MS → Prop} (h : wpI (fun t l s S2 => wpX d mX9_text t l s S2 R) (wpM d) R 25 0 B_X9_text_24 ls st S) : wpX d mX9_text 24 ls st S R := x_step (by decide +kernel) h
def B_X9_text_25 : List AIn := [(.aload_n 0, 0, 0, 0), (.getfield 26, 8, 8, 0), (.iload_n 1, 1, 0, 0), (.iload_n 2, 2, 0, 0), (.iastore, 0, 0, 0), (.iconst 0, 0, 0, 0), (.istore_n 3, 3, 0, 0)]
theorem s_X9_text_25 {d : Nat} {ls st : List AV} {S : MS} {R : Option AV → MS → Prop} (h : wpI (fun t l s S2 => wpX d mX9_text t l s S2 R) (wpM d) R 34 0 B_X9_text_25 ls st S) : wpX d mX9_text 25 ls st S R := x_step (by decide +kernel) h
def B_X9_text_34 : List AIn := [(.iload_n 3, 3, 0, 0), (.bipush 60, 60, 0, 0), (.if_icmp .ge 22, 59, 11, 0), (.aload_n 0, 0, 0, 0), (.getfield 29, 9, 8, 0), (.bipush 60, 60, 0, 0), (.iload_n 1, 1, 0, 0), (.imul, 0, 0, 0), (.iload_n 3, 3, 0, 0), (.iadd, 0, 0, 0), (.bipush 32, 32, 0, 0), (.bastore, 0, 0, 0), (.iinc 3 1, 1, 0, 0), (.goto (-22), 34, 0, 0)]
theorem s_X9_text_34 {d : Nat} {ls st : List AV} {S : MS} {R : Option AV → MS → Prop} (h : wpI (fun t l s S2 => wpX d mX9_text t l s S2 R) (wpM d) R 59 0 B_X9_text_34 ls st S) : wpX d mX9_text 34 ls st S R := x_step (by decide +kernel) h
def B_X9_text_59 : List AIn := [(.iload_n 2, 2, 0, 0), (.ireturn, 0, 0, 0)]
theorem s_X9_text_59 {d : Nat} {ls st : List AV} {S : MS} {R : Option AV → MS → Prop} (h : wpI (fun t l s S2 => wpX d mX9_text t l s S2 R) (wpM d) R 61 0 B_X9_text_59 ls st S) : wpX d mX9_text 59 ls st S R := x_step (by decide +kernel) h
-- NinthDayModel.put(III)I
def B_X9_put_0 : List AIn := [(.iload_n 1, 1, 0, 0), (.invokestatic 108, 150, 1, 0)]
theorem s_X9_put_0 {d : Nat} {ls st : List AV} {S : MS} {R : Option AV → MS → Prop} (h : wpI (fun t l s S2 => wpX d mX9_put t l s S2 R) (wpM d) R 4 16 B_X9_put_0 ls st S) : wpX d mX9_put 0 ls st S R := x_step (by decide +kernel) h
def B_X9_put_4 : List AIn := [(.ifCond .ne 5, 9, 16, 0), (.iconst (-1), 1, 1, 0), (.ireturn, 0, 0, 0)]
theorem s_X9_put_4 {d : Nat} {ls st : List AV} {S : MS} {R : Option AV → MS → Prop} (h : wpI (fun t l s S2 => wpX d mX9_put t l s S2 R) (wpM d) R 9 0 B_X9_put_4 ls st S) : wpX d mX9_put 4 ls st S R := x_step (by decide +kernel) h
def B_X9_put_9 : List AIn := [(.aload_n 0, 0, 0, 0), (.getfield 26, 8, 8, 0), (.iload_n 1, 1, 0, 0), (.iaload, 0, 0, 0), (.ifCond .ge 9, 24, 16, 0), (.aload_n 0, 0, 0, 0), (.iconst 1, 1, 0, 0), (.invokevirtual 97, 134, 2, 8)]
theorem s_X9_put_9 {d : Nat} {ls st : List AV} {S : MS} {R : Option AV → MS → Prop} (h : wpI (fun t l s S2 => wpX d mX9_put t l s S2 R) (wpM d) R 23 31 B_X9_put_9 ls st S) : wpX d mX9_put 9 ls st S R := x_step (by decide +kernel) h
def B_X9_put_23 : List AIn := [(.ireturn, 0, 0, 0)]
theorem s_X9_put_23 {d : Nat} {ls st : List AV} {S : MS} {R : Option AV → MS → Prop} (h : wpI (fun t l s S2 => wpX d mX9_put t l s S2 R) (wpM d) R 24 0 B_X9_put_23 ls st S) : wpX d mX9_put 23 ls st S R := x_step (by decide +kernel) h
def B_X9_put_24 : List AIn := [(.iload_n 2, 2, 0, 0), (.iconst 0, 0, 0, 0), (.aload_n 0, 0, 0, 0), (.getfield 26, 8, 8, 0), (.iload_n 1, 1, 0, 0), (.iaload, 0, 0, 0), (.iconst 1, 1, 0, 0), (.isub, 0, 0, 0), (.invokestatic 83, 131, 3, 0)]
theorem s_X9_put_24 {d : Nat} {ls st : List AV} {S : MS} {R : Option AV → MS → Prop} (h : wpI (fun t l s S2 => wpX d mX9_put t l s S2 R) (wpM d) R 37 16 B_X9_put_24 ls st S) : wpX d mX9_put 24 ls st S R := x_step (by decide +kernel) h
def B_X9_put_37 : List AIn := [(.ifCond .ne 9, 46, 16, 0), (.aload_n 0, 0, 0, 0), (.iconst 2, 2, 0, 0), (.invokevirtual 97, 134, 2, 8)]
theorem s_X9_put_37 {d : Nat} {ls st : List AV} {S : MS} {R : Option AV → MS → Prop} (h : wpI (fun t l s S2 => wpX d mX9_put t l s S2 R) (wpM d) R 45 31 B_X9_put_37 ls st S) : wpX d mX9_put 37 ls st S R := x_step (by decide +kernel) h
def B_X9_put_45 : List AIn := [(.ireturn, 0, 0, 0)]
theorem s_X9_put_45 {d : Nat} {ls st : List AV} {S : MS} {R : Option AV → MS → Prop} (h : wpI (fun t l s S2 => wpX d mX9_put t l s S2 R) (wpM d) R 46 0 B_X9_put_45 ls st S) : wpX d mX9_put 45 ls st S R := x_step (by decide +kernel) h
def B_X9_put_46 : List AIn := [(.aload_n 0, 0, 0, 0), (.getfield 29, 9, 8, 0), (.bipush 60, 60, 0, 0), (.iload_n 1, 1, 0, 0), (.imul, 0, 0, 0), (.iload_n 2, 2, 0, 0), (.iadd, 0, 0, 0), (.baload, 0, 0, 0), (.istore 4, 4, 0, 0), (.aload_n 0, 0, 0, 0), (.getfield 29, 9, 8, 0), (.bipush 60, 60, 0, 0), (.iload_n 1, 1, 0, 0), (.imul, 0, 0, 0), (.iload_n 2, 2, 0, 0), (.iadd, 0, 0, 0), (.iload_n 3, 3, 0, 0), (.i2b, 0, 0, 0), (.bastore, 0, 0, 0), (.sipush 1000, 1000, 0, 0), (.iload 4, 4, 0, 0), (.iadd, 0, 0, 0), (.ireturn, 0, 0, 0)]
theorem s_X9_put_46 {d : Nat} {ls st : List AV} {S : MS} {R : Option AV → MS → Prop} (h : wpI (fun t l s S2 => wpX d mX9_put t l s S2 R) (wpM d) R 79 0 B_X9_put_46 ls st S) : wpX d mX9_put 46 ls st S R := x_step (by decide +kernel) h
-- NinthDayModel.byteAt(II)I
def B_X9_byteAt_0 : List AIn := [(.iload_n 2, 2, 0, 0), (.aload_n 0, 0, 0, 0), (.getfield 26, 8, 8, 0), (.iload_n 1, 1, 0, 0), (.iaload, 0, 0, 0), (.if_icmp .ge 17, 24, 7, 0), (.aload_n 0, 0, 0, 0), (.getfield 29, 9, 8, 0), (.bipush 60, 60, 0, 0), (.iload_n 1, 1, 0, 0), (.imul, 0, 0, 0), (.iload_n 2, 2, 0, 0), (.iadd, 0, 0, 0), (.baload, 0, 0, 0), (.goto 4, 25, 7, 0)]
theorem s_X9_byteAt_0 {d : Nat} {ls st : List AV} {S : MS} {R : Option AV → MS → Prop} (h : wpI (fun t l s S2 => wpX d mX9_byteAt t l s S2 R) (wpM d) R 24 0 B_X9_byteAt_0 ls st S) : wpX d mX9_byteAt 0 ls st S R := x_step (by decide +kernel) h
def B_X9_byteAt_24 : List AIn := [(.iconst 0, 0, 0, 0)]
theorem s_X9_byteAt_24 {d : Nat} {ls st : List AV} {S : MS} {R : Option AV → MS → Prop} (h : wpI (fun t l s S2 => wpX d mX9_byteAt t l s S2 R) (wpM d) R 25 7 B_X9_byteAt_24 ls st S) : wpX d mX9_byteAt 24 ls st S R := x_step (by decide +kernel) h
def B_X9_byteAt_25 : List AIn := [(.ireturn, 0, 0, 0)]
theorem s_X9_byteAt_25 {d : Nat} {ls st : List AV} {S : MS} {R : Option AV → MS → Prop} (h : wpI (fun t l s S2 => wpX d mX9_byteAt t l s S2 R) (wpM d) R 26 0 B_X9_byteAt_25 ls st S) : wpX d mX9_byteAt 25 ls st S R := x_step (by decide +kernel) h
-- NinthDayModel.kindBy(I)I
def B_X9_kindBy_0 : List AIn := [(.iload_n 0, 0, 0, 0), (.tableswitch 91 100 115 #[79, 91, 89, 91, 87, 91, 91, 91, 91, 85, 91, 91, 91, 91, 81, 83], 1, 1, 0)]
theorem s_X9_kindBy_0 {d : Nat} {ls st : List AV} {S : MS} {R : Option AV → MS → Prop} (h : wpI (fun t l s S2 => wpX d mX9_kindBy t l s S2 R) (wpM d) R 80 0 B_X9_kindBy_0 ls st S) : wpX d mX9_kindBy 0 ls st S R := x_step (by decide +kernel) h
def B_X9_kindBy_80 : List AIn := [(.iconst 0, 0, 0, 0), (.ireturn, 0, 0, 0)]
theorem s_X9_kindBy_80 {d : Nat} {ls st : List AV} {S : MS} {R : Option AV → MS → Prop} (h : wpI (fun t l s S2 => wpX d mX9_kindBy t l s S2 R) (wpM d) R 82 0 B_X9_kindBy_80 ls st S) : wpX d mX9_kindBy 80 ls st S R := x_step (by decide +kernel) h
def B_X9_kindBy_82 : List AIn := [(.iconst 1, 1, 0, 0), (.ireturn, 0, 0, 0)]
theorem s_X9_kindBy_82 {d : Nat} {ls st : List AV} {S : MS} {R : Option AV → MS → Prop} (h : wpI (fun t l s S2 => wpX d mX9_kindBy t l s S2 R) (wpM d) R 84 0 B_X9_kindBy_82 ls st S) : wpX d mX9_kindBy 82 ls st S R := x_step (by decide +kernel) h
def B_X9_kindBy_84 : List AIn := [(.iconst 2, 2, 0, 0), (.ireturn, 0, 0, 0)]
theorem s_X9_kindBy_84 {d : Nat} {ls st : List AV} {S : MS} {R : Option AV → MS → Prop} (h : wpI (fun t l s S2 => wpX d mX9_kindBy t l s S2 R) (wpM d) R 86 0 B_X9_kindBy_84 ls st S) : wpX d mX9_kindBy 84 ls st S R := x_step (by decide +kernel) h
def B_X9_kindBy_86 : List AIn := [(.iconst 3, 3, 0, 0), (.ireturn, 0, 0, 0)]
theorem s_X9_kindBy_86 {d : Nat} {ls st : List AV} {S : MS} {R : Option AV → MS → Prop} (h : wpI (fun t l s S2 => wpX d mX9_kindBy t l s S2 R) (wpM d) R 88 0 B_X9_kindBy_86 ls st S) : wpX d mX9_kindBy 86 ls st S R := x_step (by decide +kernel) h
def B_X9_kindBy_88 : List AIn := [(.iconst 4, 4, 0, 0), (.ireturn, 0, 0, 0)]
theorem s_X9_kindBy_88 {d : Nat} {ls st : List AV} {S : MS} {R : Option AV → MS → Prop} (h : wpI (fun t l s S2 => wpX d mX9_kindBy t l s S2 R) (wpM d) R 90 0 B_X9_kindBy_88 ls st S) : wpX d mX9_kindBy 88 ls st S R := x_step (by decide +kernel) h
def B_X9_kindBy_90 : List AIn := [(.iconst 5, 5, 0, 0), (.ireturn, 0, 0, 0)]
theorem s_X9_kindBy_90 {d : Nat} {ls st : List AV} {S : MS} {R : Option AV → MS → Prop} (h : wpI (fun t l s S2 => wpX d mX9_kindBy t l s S2 R) (wpM d) R 92 0 B_X9_kindBy_90 ls st S) : wpX d mX9_kindBy 90 ls st S R := x_step (by decide +kernel) h
def B_X9_kindBy_92 : List AIn := [(.bipush (-9), 9, 1, 0), (.ireturn, 0, 0, 0)]
theorem s_X9_kindBy_92 {d : Nat} {ls st : List AV} {S : MS} {R : Option AV → MS → Prop} (h : wpI (fun t l s S2 => wpX d mX9_kindBy t l s S2 R) (wpM d) R 95 0 B_X9_kindBy_92 ls st S) : wpX d mX9_kindBy 92 ls st S R := x_step (by decide +kernel) h
-- NinthDayModel.figure(I)I
def B_X9_figure_0 : List AIn := [(.aload_n 0, 0, 0, 0), (.iload_n 1, 1, 0, 0), (.aload_n 0, 0, 0, 0), (.getfield 111, 14, 8, 0), (.invokevirtual 114, 153, 3, 8)]
theorem s_X9_figure_0 {d : Nat} {ls st : List AV} {S : MS} {R : Option AV → MS → Prop} (h : wpI (fun t l s S2 => wpX d mX9_figure t l s S2 R) (wpM d) R 9 6 B_X9_figure_0 ls st S) : wpX d mX9_figure 0 ls st S R := x_step (by decide +kernel) h
def B_X9_figure_9 : List AIn := [(.bipush 48, 48, 0, 0), (.isub, 0, 0, 0), (.istore_n 2, 2, 0, 0), (.iload_n 2, 2, 0, 0), (.iconst 0, 0, 0, 0), (.bipush 9, 9, 0, 0), (.invokestatic 83, 131, 3, 0)]
theorem s_X9_figure_9 {d : Nat} {ls st : List AV} {S : MS} {R : Option AV → MS → Prop} (h : wpI (fun t l s S2 => wpX d mX9_figure t l s S2 R) (wpM d) R 20 2 B_X9_figure_9 ls st S) : wpX d mX9_figure 9 ls st S R := x_step (by decide +kernel) h
def B_X9_figure_20 : List AIn := [(.ifCond .ne 6, 26, 2, 0), (.bipush (-9), 9, 1, 0), (.ireturn, 0, 0, 0)]
theorem s_X9_figure_20 {d : Nat} {ls st : List AV} {S : MS} {R : Option AV → MS → Prop} (h : wpI (fun t l s S2 => wpX d mX9_figure t l s S2 R) (wpM d) R 26 0 B_X9_figure_20 ls st S) : wpX d mX9_figure 20 ls st S R := x_step (by decide +kernel) h
def B_X9_figure_26 : List AIn := [(.aload_n 0, 0, 0, 0), (.dup, 0, 0, 0), (.getfield 111, 14, 8, 0), (.iconst 1, 1, 0, 0), (.iadd, 0, 0, 0), (.putfield 111, 14, 8, 0), (.iload_n 2, 2, 0, 0), (.ireturn, 0, 0, 0)]
theorem s_X9_figure_26 {d : Nat} {ls st : List AV} {S : MS} {R : Option AV → MS → Prop} (h : wpI (fun t l s S2 => wpX d mX9_figure t l s S2 R) (wpM d) R 38 0 B_X9_figure_26 ls st S) : wpX d mX9_figure 26 ls st S R := x_step (by decide +kernel) h
-- NinthDayModel.readsHead(I)Z
def B_X9_readsHead_0 : List AIn := [(.aload_n 0, 0, 0, 0), (.iload_n 1, 1, 0, 0), (.aload_n 0, 0, 0, 0), (.getfield 111, 14, 8, 0), (.invokevirtual 114, 153, 3, 8)]
theorem s_X9_readsHead_0 {d : Nat} {ls st : List AV} {S : MS} {R : Option AV → MS → Prop} (h : wpI (fun t l s S2 => wpX d mX9_readsHead t l s S2 R) (wpM d) R 9 28 B_X9_readsHead_0 ls st S) : wpX d mX9_readsHead 0 ls st S R := x_step (by decide +kernel) h
def B_X9_readsHead_9 : List AIn := [(.bipush 119, 119, 0, 0), (.if_icmp .eq 5, 16, 28, 0), (.iconst 0, 0, 0, 0), (.ireturn, 1, 0, 0)]
theorem s_X9_readsHead_9 {d : Nat} {ls st : List AV} {S : MS} {R : Option AV → MS → Prop} (h : wpI (fun t l s S2 => wpX d mX9_readsHead t l s S2 R) (wpM d) R 16 0 B_X9_readsHead_9 ls st S) : wpX d mX9_readsHead 9 ls st S R := x_step (by decide +kernel) h
def B_X9_readsHead_16 : List AIn := [(.aload_n 0, 0, 0, 0), (.dup, 0, 0, 0), (.getfield 111, 14, 8, 0), (.iconst 1, 1, 0, 0), (.iadd, 0, 0, 0), (.putfield 111, 14, 8, 0), (.aload_n 0, 0, 0, 0), (.getfield 111, 14, 8, 0), (.istore_n 2, 2, 0, 0), (.aload_n 0, 0, 0, 0), (.iload_n 1, 1, 0, 0), (.invokevirtual 117, 155, 2, 8)]
theorem s_X9_readsHead_16 {d : Nat} {ls st : List AV} {S : MS} {R : Option AV → MS → Prop} (h : wpI (fun t l s S2 => wpX d mX9_readsHead t l s S2 R) (wpM d) R 36 24 B_X9_readsHead_16 ls st S) : wpX d mX9_readsHead 16 ls st S R := x_step (by decide +kernel) h
def B_X9_readsHead_36 : List AIn := [(.istore_n 3, 3, 0, 0), (.iload_n 3, 3, 0, 0), (.bipush (-9), 9, 1, 0), (.if_icmp .ne 8, 48, 16, 0), (.bipush (-9), 9, 1, 0), (.goto 8, 53, 16, 0)]
theorem s_X9_readsHead_36 {d : Nat} {ls st : List AV} {S : MS} {R : Option AV → MS → Prop} (h : wpI (fun t l s S2 => wpX d mX9_readsHead t l s S2 R) (wpM d) R 48 0 B_X9_readsHead_36 ls st S) : wpX d mX9_readsHead 36 ls st S R := x_step (by decide +kernel) h
def B_X9_readsHead_48 : List AIn := [(.aload_n 0, 0, 0, 0), (.iload_n 1, 1, 0, 0), (.invokevirtual 117, 155, 2, 8)]
theorem s_X9_readsHead_48 {d : Nat} {ls st : List AV} {S : MS} {R : Option AV → MS → Prop} (h : wpI (fun t l s S2 => wpX d mX9_readsHead t l s S2 R) (wpM d) R 53 16 B_X9_readsHead_48 ls st S) : wpX d mX9_readsHead 48 ls st S R := x_step (by decide +kernel) h
def B_X9_readsHead_53 : List AIn := [(.istore 4, 4, 0, 0), (.iload 4, 4, 0, 0), (.bipush (-9), 9, 1, 0), (.if_icmp .ne 5, 64, 0, 0), (.iconst 0, 0, 0, 0), (.ireturn, 1, 0, 0)]
theorem s_X9_readsHead_53 {d : Nat} {ls st : List AV} {S : MS} {R : Option AV → MS → Prop} (h : wpI (fun t l s S2 => wpX d mX9_readsHead t l s S2 R) (wpM d) R 64 0 B_X9_readsHead_53 ls st S) : wpX d mX9_readsHead 53 ls st S R := x_step (by decide +kernel) h
def B_X9_readsHead_64 : List AIn := [(.aload_n 0, 0, 0, 0), (.bipush 10, 10, 0, 0), (.iload_n 3, 3, 0, 0), (.imul, 0, 0, 0), (.iload 4, 4, 0, 0), (.iadd, 0, 0, 0), (.putfield 120, 16, 8, 0), (.aload_n 0, 0, 0, 0), (.getfield 120, 16, 8, 0), (.bipush 40, 40, 0, 0), (.if_icmp .le 10, 91, 28, 0), (.aload_n 0, 0, 0, 0), (.iload_n 2, 2, 0, 0), (.putfield 111, 14, 8, 0), (.iconst 0, 0, 0, 0), (.ireturn, 1, 0, 0)]
theorem s_X9_readsHead_64 {d : Nat} {ls st : List AV} {S : MS} {R : Option AV → MS → Prop} (h : wpI (fun t l s S2 => wpX d mX9_readsHead t l s S2 R) (wpM d) R 91 0 B_X9_readsHead_64 ls st S) : wpX d mX9_readsHead 64 ls st S R := x_step (by decide +kernel) h
def B_X9_readsHead_91 : List AIn := [(.aload_n 0, 0, 0, 0), (.aload_n 0, 0, 0, 0), (.iload_n 1, 1, 0, 0), (.invokevirtual 117, 155, 2, 8)]
theorem s_X9_readsHead_91 {d : Nat} {ls st : List AV} {S : MS} {R : Option AV → MS → Prop} (h : wpI (fun t l s S2 => wpX d mX9_readsHead t l s S2 R) (wpM d) R 97 30 B_X9_readsHead_91 ls st S) : wpX d mX9_readsHead 91 ls st S R := x_step (by decide +kernel) h
def B_X9_readsHead_97 : List AIn := [(.putfield 123, 17, 8, 0), (.aload_n 0, 0, 0, 0), (.aload_n 0, 0, 0, 0), (.getfield 123, 17, 8, 0), (.bipush (-9), 9, 1, 0), (.if_icmp .eq 7, 114, 30, 0), (.iconst 1, 1, 0, 0), (.goto 4, 115, 30, 0)]
theorem s_X9_readsHead_97 {d : Nat} {ls st : List AV} {S : MS} {R : Option AV → MS → Prop} (h : wpI (fun t l s S2 => wpX d mX9_readsHead t l s S2 R) (wpM d) R 114 0 B_X9_readsHead_97 ls st S) : wpX d mX9_readsHead 97 ls st S R := x_step (by decide +kernel) h
def B_X9_readsHead_114 : List AIn := [(.iconst 0, 0, 0, 0)]
theorem s_X9_readsHead_114 {d : Nat} {ls st : List AV} {S : MS} {R : Option AV → MS → Prop} (h : wpI (fun t l s S2 => wpX d mX9_readsHead t l s S2 R) (wpM d) R 115 30 B_X9_readsHead_114 ls st S) : wpX d mX9_readsHead 114 ls st S R := x_step (by decide +kernel) h
def B_X9_readsHead_115 : List AIn := [(.putfield 126, 18, 8, 0), (.aload_n 0, 0, 0, 0), (.getfield 126, 18, 8, 0), (.ireturn, 1, 0, 0)]
theorem s_X9_readsHead_115 {d : Nat} {ls st : List AV} {S : MS} {R : Option AV → MS → Prop} (h : wpI (fun t l s S2 => wpX d mX9_readsHead t l s S2 R) (wpM d) R 123 0 B_X9_readsHead_115 ls st S) : wpX d mX9_readsHead 115 ls st S R := x_step (by decide +kernel) h
-- NinthDayModel.readsDeed(I)Z
def B_X9_readsDeed_0 : List AIn := [(.aload_n 0, 0, 0, 0), (.iload_n 1, 1, 0, 0), (.aload_n 0, 0, 0, 0), (.getfield 111, 14, 8, 0), (.invokevirtual 114, 153, 3, 8)]
theorem s_X9_readsDeed_0 {d : Nat} {ls st : List AV} {S : MS} {R : Option AV → MS → Prop} (h : wpI (fun t l s S2 => wpX d mX9_readsDeed t l s S2 R) (wpM d) R 9 28 B_X9_readsDeed_0 ls st S) : wpX d mX9_readsDeed 0 ls st S R := x_step (by decide +kernel) h
def B_X9_readsDeed_9 : List AIn := [(.invokestatic 130, 154, 1, 0)]
theorem s_X9_readsDeed_9 {d : Nat} {ls st : List AV} {S : MS} {R : Option AV → MS → Prop} (h : wpI (fun t l s S2 => wpX d mX9_readsDeed t l s S2 R) (wpM d) R 12 28 B_X9_readsDeed_9 ls st S) : wpX d mX9_readsDeed 9 ls st S R := x_step (by decide +kernel) h
def B_X9_readsDeed_12 : List AIn := [(.istore_n 2, 2, 0, 0), (.iload_n 2, 2, 0, 0), (.bipush (-9), 9, 1, 0), (.if_icmp .eq 11, 27, 31, 0), (.aload_n 0, 0, 0, 0), (.getfield 133, 15, 8, 0), (.iconst 5, 5, 0, 0), (.if_icmp .ne 5, 29, 24, 0)]
theorem s_X9_readsDeed_12 {d : Nat} {ls st : List AV} {S : MS} {R : Option AV → MS → Prop} (h : wpI (fun t l s S2 => wpX d mX9_readsDeed t l s S2 R) (wpM d) R 27 31 B_X9_readsDeed_12 ls st S) : wpX d mX9_readsDeed 12 ls st S R := x_step (by decide +kernel) h
def B_X9_readsDeed_27 : List AIn := [(.iconst 0, 0, 0, 0), (.ireturn, 1, 0, 0)]
theorem s_X9_readsDeed_27 {d : Nat} {ls st : List AV} {S : MS} {R : Option AV → MS → Prop} (h : wpI (fun t l s S2 => wpX d mX9_readsDeed t l s S2 R) (wpM d) R 29 0 B_X9_readsDeed_27 ls st S) : wpX d mX9_readsDeed 27 ls st S R := x_step (by decide +kernel) h
def B_X9_readsDeed_29 : List AIn := [(.aload_n 0, 0, 0, 0), (.dup, 0, 0, 0), (.getfield 111, 14, 8, 0), (.iconst 1, 1, 0, 0), (.iadd, 0, 0, 0), (.putfield 111, 14, 8, 0), (.iconst 4, 4, 0, 0), (.aload_n 0, 0, 0, 0), (.getfield 133, 15, 8, 0), (.imul, 0, 0, 0), (.istore_n 3, 3, 0, 0), (.aload_n 0, 0, 0, 0), (.getfield 42, 19, 8, 0), (.iload_n 3, 3, 0, 0), (.iload_n 2, 2, 0, 0), (.iastore, 0, 0, 0), (.iconst 1, 1, 0, 0), (.istore 4, 4, 0, 0)]
theorem s_X9_readsDeed_29 {d : Nat} {ls st : List AV} {S : MS} {R : Option AV → MS → Prop} (h : wpI (fun t l s S2 => wpX d mX9_readsDeed t l s S2 R) (wpM d) R 56 4 B_X9_readsDeed_29 ls st S) : wpX d mX9_readsDeed 29 ls st S R := x_step (by decide +kernel) h
def B_X9_readsDeed_56 : List AIn := [(.iload 4, 4, 0, 0), (.iconst 4, 4, 0, 0), (.if_icmp .ge 39, 98, 30, 0), (.aload_n 0, 0, 0, 0), (.getfield 42, 19, 8, 0), (.iload_n 3, 3, 0, 0), (.iload 4, 4, 0, 0), (.iadd, 0, 0, 0), (.aload_n 0, 0, 0, 0), (.iload_n 1, 1, 0, 0), (.invokevirtual 117, 155, 2, 8)]
theorem s_X9_readsDeed_56 {d : Nat} {ls st : List AV} {S : MS} {R : Option AV → MS → Prop} (h : wpI (fun t l s S2 => wpX d mX9_readsDeed t l s S2 R) (wpM d) R 75 4 B_X9_readsDeed_56 ls st S) : wpX d mX9_readsDeed 56 ls st S R := x_step (by decide +kernel) h
def B_X9_readsDeed_75 : List AIn := [(.iastore, 0, 0, 0), (.aload_n 0, 0, 0, 0), (.getfield 42, 19, 8, 0), (.iload_n 3, 3, 0, 0), (.iload 4, 4, 0, 0), (.iadd, 0, 0, 0), (.iaload, 0, 0, 0), (.bipush (-9), 9, 1, 0), (.if_icmp .ne 5, 92, 4, 0), (.iconst 0, 0, 0, 0), (.ireturn, 1, 0, 0)]
theorem s_X9_readsDeed_75 {d : Nat} {ls st : List AV} {S : MS} {R : Option AV → MS → Prop} (h : wpI (fun t l s S2 => wpX d mX9_readsDeed t l s S2 R) (wpM d) R 92 0 B_X9_readsDeed_75 ls st S) : wpX d mX9_readsDeed 75 ls st S R := x_step (by decide +kernel) h
def B_X9_readsDeed_92 : List AIn := [(.iinc 4 1, 1, 0, 0), (.goto (-39), 56, 4, 0)]
theorem s_X9_readsDeed_92 {d : Nat} {ls st : List AV} {S : MS} {R : Option AV → MS → Prop} (h : wpI (fun t l s S2 => wpX d mX9_readsDeed t l s S2 R) (wpM d) R 98 0 B_X9_readsDeed_92 ls st S) : wpX d mX9_readsDeed 92 ls st S R := x_step (by decide +kernel) h
def B_X9_readsDeed_98 : List AIn := [(.aload_n 0, 0, 0, 0), (.dup, 0, 0, 0), (.getfield 133, 15, 8, 0), (.iconst 1, 1, 0, 0), (.iadd, 0, 0, 0), (.putfield 133, 15, 8, 0), (.iconst 1, 1, 0, 0), (.ireturn, 1, 0, 0)]
theorem s_X9_readsDeed_98 {d : Nat} {ls st : List AV} {S : MS} {R : Option AV → MS → Prop} (h : wpI (fun t l s S2 => wpX d mX9_readsDeed t l s S2 R) (wpM d) R 110 0 B_X9_readsDeed_98 ls st S) : wpX d mX9_readsDeed 98 ls st S R := x_step (by decide +kernel) h
-- NinthDayModel.faultOf(I)I
def B_X9_faultOf_0 : List AIn := [(.aload_n 0, 0, 0, 0), (.iconst 0, 0, 0, 0), (.putfield 111, 14, 8, 0), (.aload_n 0, 0, 0, 0), (.iconst 0, 0, 0, 0), (.putfield 133, 15, 8, 0), (.aload_n 0, 0, 0, 0), (.iconst 0, 0, 0, 0), (.putfield 126, 18, 8, 0)]
theorem s_X9_faultOf_0 {d : Nat} {ls st : List AV} {S : MS} {R : Option AV → MS → Prop} (h : wpI (fun t l s S2 => wpX d mX9_faultOf t l s S2 R) (wpM d) R 15 0 B_X9_faultOf_0 ls st S) : wpX d mX9_faultOf 0 ls st S R := x_step (by decide +kernel) h
def B_X9_faultOf_15 : List AIn := [(.aload_n 0, 0, 0, 0), (.getfield 111, 14, 8, 0), (.aload_n 0, 0, 0, 0), (.getfield 26, 8, 8, 0), (.iload_n 1, 1, 0, 0), (.iaload, 0, 0, 0), (.if_icmp .ge 61, 86, 0, 0), (.aload_n 0, 0, 0, 0), (.iload_n 1, 1, 0, 0), (.aload_n 0, 0, 0, 0), (.getfield 111, 14, 8, 0), (.invokevirtual 114, 153, 3, 8)]
theorem s_X9_faultOf_15 {d : Nat} {ls st : List AV} {S : MS} {R : Option AV → MS → Prop} (h : wpI (fun t l s S2 => wpX d mX9_faultOf t l s S2 R) (wpM d) R 37 0 B_X9_faultOf_15 ls st S) : wpX d mX9_faultOf 15 ls st S R := x_step (by decide +kernel) h
def B_X9_faultOf_37 : List AIn := [(.bipush 32, 32, 0, 0), (.if_icmp .ne 16, 55, 0, 0), (.aload_n 0, 0, 0, 0), (.dup, 0, 0, 0), (.getfield 111, 14, 8, 0), (.iconst 1, 1, 0, 0), (.iadd, 0, 0, 0), (.putfield 111, 14, 8, 0), (.goto (-37), 15, 0, 0)]
theorem s_X9_faultOf_37 {d : Nat} {ls st : List AV} {S : MS} {R : Option AV → MS → Prop} (h : wpI (fun t l s S2 => wpX d mX9_faultOf t l s S2 R) (wpM d) R 55 0 B_X9_faultOf_37 ls st S) : wpX d mX9_faultOf 37 ls st S R := x_step (by decide +kernel) h
def B_X9_faultOf_55 : List AIn := [(.aload_n 0, 0, 0, 0), (.getfield 126, 18, 8, 0), (.ifCond .eq 14, 73, 0, 0), (.aload_n 0, 0, 0, 0), (.iload_n 1, 1, 0, 0), (.invokevirtual 136, 157, 2, 8)]
theorem s_X9_faultOf_55 {d : Nat} {ls st : List AV} {S : MS} {R : Option AV → MS → Prop} (h : wpI (fun t l s S2 => wpX d mX9_faultOf t l s S2 R) (wpM d) R 67 0 B_X9_faultOf_55 ls st S) : wpX d mX9_faultOf 55 ls st S R := x_step (by decide +kernel) h
def B_X9_faultOf_67 : List AIn := [(.ifCond .eq 14, 81, 2, 0), (.goto (-55), 15, 0, 0)]
theorem s_X9_faultOf_67 {d : Nat} {ls st : List AV} {S : MS} {R : Option AV → MS → Prop} (h : wpI (fun t l s S2 => wpX d mX9_faultOf t l s S2 R) (wpM d) R 73 0 B_X9_faultOf_67 ls st S) : wpX d mX9_faultOf 67 ls st S R := x_step (by decide +kernel) h
def B_X9_faultOf_73 : List AIn := [(.aload_n 0, 0, 0, 0), (.iload_n 1, 1, 0, 0), (.invokevirtual 139, 156, 2, 8)]
theorem s_X9_faultOf_73 {d : Nat} {ls st : List AV} {S : MS} {R : Option AV → MS → Prop} (h : wpI (fun t l s S2 => wpX d mX9_faultOf t l s S2 R) (wpM d) R 78 0 B_X9_faultOf_73 ls st S) : wpX d mX9_faultOf 73 ls st S R := x_step (by decide +kernel) h
def B_X9_faultOf_78 : List AIn := [(.ifCond .ne (-63), 15, 0, 0)]
theorem s_X9_faultOf_78 {d : Nat} {ls st : List AV} {S : MS} {R : Option AV → MS → Prop} (h : wpI (fun t l s S2 => wpX d mX9_faultOf t l s S2 R) (wpM d) R 81 2 B_X9_faultOf_78 ls st S) : wpX d mX9_faultOf 78 ls st S R := x_step (by decide +kernel) h
def B_X9_faultOf_81 : List AIn := [(.aload_n 0, 0, 0, 0), (.getfield 111, 14, 8, 0), (.ireturn, 0, 0, 0)]
theorem s_X9_faultOf_81 {d : Nat} {ls st : List AV} {S : MS} {R : Option AV → MS → Prop} (h : wpI (fun t l s S2 => wpX d mX9_faultOf t l s S2 R) (wpM d) R 86 0 B_X9_faultOf_81 ls st S) : wpX d mX9_faultOf 81 ls st S R := x_step (by decide +kernel) h
def B_X9_faultOf_86 : List AIn := [(.aload_n 0, 0, 0, 0), (.getfield 133, 15, 8, 0), (.ifCond .ne 12, 102, 3, 0), (.aload_n 0, 0, 0, 0), (.getfield 26, 8, 8, 0), (.iload_n 1, 1, 0, 0), (.iaload, 0, 0, 0), (.goto 5, 104, 3, 0)]
theorem s_X9_faultOf_86 {d : Nat} {ls st : List AV} {S : MS} {R : Option AV → MS → Prop} (h : wpI (fun t l s S2 => wpX d mX9_faultOf t l s S2 R) (wpM d) R 102 0 B_X9_faultOf_86 ls st S) : wpX d mX9_faultOf 86 ls st S R := x_step (by decide +kernel) h
def B_X9_faultOf_102 : List AIn := [(.bipush (-9), 9, 1, 0)]
theorem s_X9_faultOf_102 {d : Nat} {ls st : List AV} {S : MS} {R : Option AV → MS → Prop} (h : wpI (fun t l s S2 => wpX d mX9_faultOf t l s S2 R) (wpM d) R 104 3 B_X9_faultOf_102 ls st S) : wpX d mX9_faultOf 102 ls st S R := x_step (by decide +kernel) h
def B_X9_faultOf_104 : List AIn := [(.ireturn, 0, 0, 0)]
theorem s_X9_faultOf_104 {d : Nat} {ls st : List AV} {S : MS} {R : Option AV → MS → Prop} (h : wpI (fun t l s S2 => wpX d mX9_faultOf t l s S2 R) (wpM d) R 105 0 B_X9_faultOf_104 ls st S) : wpX d mX9_faultOf 104 ls st S R := x_step (by decide +kernel) h
-- NinthDayModel.fault(I)I
def B_X9_fault_0 : List AIn := [(.iload_n 1, 1, 0, 0), (.invokestatic 108, 150, 1, 0)]
theorem s_X9_fault_0 {d : Nat} {ls st : List AV} {S : MS} {R : Option AV → MS → Prop} (h : wpI (fun t l s S2 => wpX d mX9_fault t l s S2 R) (wpM d) R 4 0 B_X9_fault_0 ls st S) : wpX d mX9_fault 0 ls st S R := x_step (by decide +kernel) h
def B_X9_fault_4 : List AIn := [(.ifCond .ne 5, 9, 0, 0), (.iconst (-1), 1, 1, 0), (.ireturn, 0, 0, 0)]
theorem s_X9_fault_4 {d : Nat} {ls st : List AV} {S : MS} {R : Option AV → MS → Prop} (h : wpI (fun t l s S2 => wpX d mX9_fault t l s S2 R) (wpM d) R 9 0 B_X9_fault_4 ls st S) : wpX d mX9_fault 4 ls st S R := x_step (by decide +kernel) h
def B_X9_fault_9 : List AIn := [(.aload_n 0, 0, 0, 0), (.getfield 26, 8, 8, 0), (.iload_n 1, 1, 0, 0), (.iaload, 0, 0, 0), (.ifCond .ge 11, 26, 0, 0), (.aload_n 0, 0, 0, 0), (.iconst 1, 1, 0, 0), (.invokevirtual 97, 134, 2, 8)]
theorem s_X9_fault_9 {d : Nat} {ls st : List AV} {S : MS} {R : Option AV → MS → Prop} (h : wpI (fun t l s S2 => wpX d mX9_fault t l s S2 R) (wpM d) R 23 3 B_X9_fault_9 ls st S) : wpX d mX9_fault 9 ls st S R := x_step (by decide +kernel) h
def B_X9_fault_23 : List AIn := [(.goto 8, 31, 3, 0)]
theorem s_X9_fault_23 {d : Nat} {ls st : List AV} {S : MS} {R : Option AV → MS → Prop} (h : wpI (fun t l s S2 => wpX d mX9_fault t l s S2 R) (wpM d) R 26 0 B_X9_fault_23 ls st S) : wpX d mX9_fault 23 ls st S R := x_step (by decide +kernel) h
def B_X9_fault_26 : List AIn := [(.aload_n 0, 0, 0, 0), (.iload_n 1, 1, 0, 0), (.invokevirtual 142, 158, 2, 8)]
theorem s_X9_fault_26 {d : Nat} {ls st : List AV} {S : MS} {R : Option AV → MS → Prop} (h : wpI (fun t l s S2 => wpX d mX9_fault t l s S2 R) (wpM d) R 31 3 B_X9_fault_26 ls st S) : wpX d mX9_fault 26 ls st S R := x_step (by decide +kernel) h
def B_X9_fault_31 : List AIn := [(.ireturn, 0, 0, 0)]
theorem s_X9_fault_31 {d : Nat} {ls st : List AV} {S : MS} {R : Option AV → MS → Prop} (h : wpI (fun t l s S2 => wpX d mX9_fault t l s S2 R) (wpM d) R 32 0 B_X9_fault_31 ls st S) : wpX d mX9_fault 31 ls st S R := x_step (by decide +kernel) h
-- NinthDayModel.year(I)I
def B_X9_year_0 : List AIn := [(.iload_n 1, 1, 0, 0), (.invokestatic 108, 150, 1, 0)]
theorem s_X9_year_0 {d : Nat} {ls st : List AV} {S : MS} {R : Option AV → MS → Prop} (h : wpI (fun t l s S2 => wpX d mX9_year t l s S2 R) (wpM d) R 4 4 B_X9_year_0 ls st S) : wpX d mX9_year 0 ls st S R := x_step (by decide +kernel) h
def B_X9_year_4 : List AIn := [(.ifCond .ne 5, 9, 4, 0), (.iconst (-1), 1, 1, 0), (.ireturn, 0, 0, 0)]
theorem s_X9_year_4 {d : Nat} {ls st : List AV} {S : MS} {R : Option AV → MS → Prop} (h : wpI (fun t l s S2 => wpX d mX9_year t l s S2 R) (wpM d) R 9 0 B_X9_year_4 ls st S) : wpX d mX9_year 4 ls st S R := x_step (by decide +kernel) h
def B_X9_year_9 : List AIn := [(.aload_n 0, 0, 0, 0), (.getfield 26, 8, 8, 0), (.iload_n 1, 1, 0, 0), (.iaload, 0, 0, 0), (.ifCond .ge 9, 24, 4, 0), (.aload_n 0, 0, 0, 0), (.iconst 1, 1, 0, 0), (.invokevirtual 97, 134, 2, 8)]
theorem s_X9_year_9 {d : Nat} {ls st : List AV} {S : MS} {R : Option AV → MS → Prop} (h : wpI (fun t l s S2 => wpX d mX9_year t l s S2 R) (wpM d) R 23 7 B_X9_year_9 ls st S) : wpX d mX9_year 9 ls st S R := x_step (by decide +kernel) h
def B_X9_year_23 : List AIn := [(.ireturn, 0, 0, 0)]
theorem s_X9_year_23 {d : Nat} {ls st : List AV} {S : MS} {R : Option AV → MS → Prop} (h : wpI (fun t l s S2 => wpX d mX9_year t l s S2 R) (wpM d) R 24 0 B_X9_year_23 ls st S) : wpX d mX9_year 23 ls st S R := x_step (by decide +kernel) h
def B_X9_year_24 : List AIn := [(.aload_n 0, 0, 0, 0), (.iload_n 1, 1, 0, 0), (.invokevirtual 142, 158, 2, 8)]
theorem s_X9_year_24 {d : Nat} {ls st : List AV} {S : MS} {R : Option AV → MS → Prop} (h : wpI (fun t l s S2 => wpX d mX9_year t l s S2 R) (wpM d) R 29 6 B_X9_year_24 ls st S) : wpX d mX9_year 24 ls st S R := x_step (by decide +kernel) h
def B_X9_year_29 : List AIn := [(.bipush (-9), 9, 1, 0), (.if_icmp .eq 6, 37, 6, 0), (.bipush (-4), 4, 1, 0), (.ireturn, 0, 0, 0)]
theorem s_X9_year_29 {d : Nat} {ls st : List AV} {S : MS} {R : Option AV → MS → Prop} (h : wpI (fun t l s S2 => wpX d mX9_year t l s S2 R) (wpM d) R 37 0 B_X9_year_29 ls st S) : wpX d mX9_year 29 ls st S R := x_step (by decide +kernel) h
def B_X9_year_37 : List AIn := [(.aload_n 0, 0, 0, 0), (.aload_n 0, 0, 0, 0), (.getfield 133, 15, 8, 0), (.putfield 145, 10, 8, 0), (.iconst 0, 0, 0, 0), (.istore_n 2, 2, 0, 0)]
theorem s_X9_year_37 {d : Nat} {ls st : List AV} {S : MS} {R : Option AV → MS → Prop} (h : wpI (fun t l s S2 => wpX d mX9_year t l s S2 R) (wpM d) R 47 2 B_X9_year_37 ls st S) : wpX d mX9_year 37 ls st S R := x_step (by decide +kernel) h
def B_X9_year_47 : List AIn := [(.iload_n 2, 2, 0, 0), (.bipush 19, 19, 0, 0), (.if_icmp .ge 16, 66, 6, 0), (.aload_n 0, 0, 0, 0), (.getfield 45, 20, 8, 0), (.iload_n 2, 2, 0, 0), (.iconst 0, 0, 0, 0), (.iastore, 0, 0, 0), (.iinc 2 1, 1, 0, 0), (.goto (-16), 47, 2, 0)]
theorem s_X9_year_47 {d : Nat} {ls st : List AV} {S : MS} {R : Option AV → MS → Prop} (h : wpI (fun t l s S2 => wpX d mX9_year t l s S2 R) (wpM d) R 66 0 B_X9_year_47 ls st S) : wpX d mX9_year 47 ls st S R := x_step (by decide +kernel) h
def B_X9_year_66 : List AIn := [(.aload_n 0, 0, 0, 0), (.getfield 45, 20, 8, 0), (.iconst 0, 0, 0, 0), (.iconst 1, 1, 0, 0), (.iastore, 0, 0, 0), (.aload_n 0, 0, 0, 0), (.getfield 45, 20, 8, 0), (.iconst 1, 1, 0, 0), (.aload_n 0, 0, 0, 0), (.getfield 120, 16, 8, 0), (.iastore, 0, 0, 0), (.aload_n 0, 0, 0, 0), (.getfield 45, 20, 8, 0), (.iconst 2, 2, 0, 0), (.aload_n 0, 0, 0, 0), (.getfield 123, 17, 8, 0), (.iastore, 0, 0, 0), (.iconst 0, 0, 0, 0), (.istore_n 2, 2, 0, 0)]
theorem s_X9_year_66 {d : Nat} {ls st : List AV} {S : MS} {R : Option AV → MS → Prop} (h : wpI (fun t l s S2 => wpX d mX9_year t l s S2 R) (wpM d) R 95 2 B_X9_year_66 ls st S) : wpX d mX9_year 66 ls st S R := x_step (by decide +kernel) h
def B_X9_year_95 : List AIn := [(.iload_n 2, 2, 0, 0), (.aload_n 0, 0, 0, 0), (.getfield 145, 10, 8, 0), (.if_icmp .ge 73, 173, 6, 0), (.aload_n 0, 0, 0, 0), (.getfield 33, 11, 8, 0), (.iload_n 2, 2, 0, 0), (.aload_n 0, 0, 0, 0), (.getfield 42, 19, 8, 0), (.iconst 4, 4, 0, 0), (.iload_n 2, 2, 0, 0), (.imul, 0, 0, 0), (.iaload, 0, 0, 0), (.iastore, 0, 0, 0), (.aload_n 0, 0, 0, 0), (.getfield 36, 12, 8, 0), (.iload_n 2, 2, 0, 0), (.aload_n 0, 0, 0, 0), (.getfield 42, 19, 8, 0), (.iconst 4, 4, 0, 0), (.iload_n 2, 2, 0, 0), (.imul, 0, 0, 0), (.iconst 1, 1, 0, 0), (.iadd, 0, 0, 0), (.iaload, 0, 0, 0), (.iastore, 0, 0, 0), (.aload_n 0, 0, 0, 0), (.getfield 45, 20, 8, 0), (.iconst 4, 4, 0, 0), (.iload_n 2, 2, 0, 0), (.iadd, 0, 0, 0), (.aload_n 0, 0, 0, 0), (.getfield 42, 19, 8, 0), (.iconst 4, 4, 0, 0), (.iload_n 2, 2, 0, 0), (.imul, 0, 0, 0), (.iconst 2, 2, 0, 0), (.iadd, 0, 0, 0), (.iaload, 0, 0, 0), (.iastore, 0, 0, 0), (.aload_n 0, 0, 0, 0), (.getfield 39, 13, 8, 0), (.iload_n 2, 2, 0, 0), (.aload_n 0, 0, 0, 0), (.getfield 42, 19, 8, 0), (.iconst 4, 4, 0, 0), (.iload_n 2, 2, 0, 0), (.imul, 0, 0, 0), (.iconst 3, 3, 0, 0), (.iadd, 0, 0, 0), (.iaload, 0, 0, 0), (.iastore, 0, 0, 0), (.iinc 2 1, 1, 0, 0), (.goto (-75), 95, 2, 0)]
theorem s_X9_year_95 {d : Nat} {ls st : List AV} {S : MS} {R : Option AV → MS → Prop} (h : wpI (fun t l s S2 => wpX d mX9_year t l s S2 R) (wpM d) R 173 0 B_X9_year_95 ls st S) : wpX d mX9_year 95 ls st S R := x_step (by decide +kernel) h
def B_X9_year_173 : List AIn := [(.aload_n 0, 0, 0, 0), (.iconst 0, 0, 0, 0), (.putfield 148, 22, 8, 0), (.iconst 0, 0, 0, 0), (.istore_n 2, 2, 0, 0)]
theorem s_X9_year_173 {d : Nat} {ls st : List AV} {S : MS} {R : Option AV → MS → Prop} (h : wpI (fun t l s S2 => wpX d mX9_year t l s S2 R) (wpM d) R 180 2 B_X9_year_173 ls st S) : wpX d mX9_year 173 ls st S R := x_step (by decide +kernel) h
def B_X9_year_180 : List AIn := [(.iload_n 2, 2, 0, 0), (.iconst 3, 3, 0, 0), (.if_icmp .ge 16, 198, 6, 0), (.aload_n 0, 0, 0, 0), (.getfield 54, 24, 8, 0), (.iload_n 2, 2, 0, 0), (.iconst 0, 0, 0, 0), (.bastore, 0, 0, 0), (.iinc 2 1, 1, 0, 0), (.goto (-15), 180, 2, 0)]
theorem s_X9_year_180 {d : Nat} {ls st : List AV} {S : MS} {R : Option AV → MS → Prop} (h : wpI (fun t l s S2 => wpX d mX9_year t l s S2 R) (wpM d) R 198 0 B_X9_year_180 ls st S) : wpX d mX9_year 180 ls st S R := x_step (by decide +kernel) h
def B_X9_year_198 : List AIn := [(.aload_n 0, 0, 0, 0), (.getfield 145, 10, 8, 0), (.ireturn, 0, 0, 0)]
theorem s_X9_year_198 {d : Nat} {ls st : List AV} {S : MS} {R : Option AV → MS → Prop} (h : wpI (fun t l s S2 => wpX d mX9_year t l s S2 R) (wpM d) R 203 0 B_X9_year_198 ls st S) : wpX d mX9_year 198 ls st S R := x_step (by decide +kernel) h
-- NinthDayModel.isDeed(I)Z
def B_X9_isDeed_0 : List AIn := [(.iload_n 1, 1, 0, 0), (.iconst 0, 0, 0, 0), (.aload_n 0, 0, 0, 0), (.getfield 145, 10, 8, 0), (.iconst 1, 1, 0, 0), (.isub, 0, 0, 0), (.invokestatic 83, 131, 3, 0)]
theorem s_X9_isDeed_0 {d : Nat} {ls st : List AV} {S : MS} {R : Option AV → MS → Prop} (h : wpI (fun t l s S2 => wpX d mX9_isDeed t l s S2 R) (wpM d) R 11 3 B_X9_isDeed_0 ls st S) : wpX d mX9_isDeed 0 ls st S R := x_step (by decide +kernel) h
def B_X9_isDeed_11 : List AIn := [(.ireturn, 1, 0, 0)]
theorem s_X9_isDeed_11 {d : Nat} {ls st : List AV} {S : MS} {R : Option AV → MS → Prop} (h : wpI (fun t l s S2 => wpX d mX9_isDeed t l s S2 R) (wpM d) R 12 0 B_X9_isDeed_11 ls st S) : wpX d mX9_isDeed 11 ls st S R := x_step (by decide +kernel) h
-- NinthDayModel.isSet(I)Z
def B_X9_isSet_0 : List AIn := [(.iload_n 1, 1, 0, 0), (.iconst 0, 0, 0, 0), (.iconst 1, 1, 0, 0), (.aload_n 0, 0, 0, 0), (.getfield 145, 10, 8, 0), (.ishl, 0, 0, 0), (.iconst 1, 1, 0, 0), (.isub, 0, 0, 0), (.invokestatic 83, 131, 3, 0)]
theorem s_X9_isSet_0 {d : Nat} {ls st : List AV} {S : MS} {R : Option AV → MS → Prop} (h : wpI (fun t l s S2 => wpX d mX9_isSet t l s S2 R) (wpM d) R 13 3 B_X9_isSet_0 ls st S) : wpX d mX9_isSet 0 ls st S R := x_step (by decide +kernel) h
def B_X9_isSet_13 : List AIn := [(.ireturn, 1, 0, 0)]
theorem s_X9_isSet_13 {d : Nat} {ls st : List AV} {S : MS} {R : Option AV → MS → Prop} (h : wpI (fun t l s S2 => wpX d mX9_isSet t l s S2 R) (wpM d) R 14 0 B_X9_isSet_13 ls st S) : wpX d mX9_isSet 13 ls st S R := x_step (by decide +kernel) h
-- NinthDayModel.costBy(IIIIII)I
def B_X9_costBy_0 : List AIn := [(.iload_n 1, 1, 0, 0), (.iload_n 2, 2, 0, 0), (.if_icmp .le 9, 11, 198, 0), (.iload_n 1, 1, 0, 0), (.iload_n 2, 2, 0, 0), (.isub, 0, 0, 0), (.goto 4, 12, 198, 0)]
theorem s_X9_costBy_0 {d : Nat} {ls st : List AV} {S : MS} {R : Option AV → MS → Prop} (h : wpI (fun t l s S2 => wpX d mX9_costBy t l s S2 R) (wpM d) R 11 0 B_X9_costBy_0 ls st S) : wpX d mX9_costBy 0 ls st S R := x_step (by decide +kernel) h
def B_X9_costBy_11 : List AIn := [(.iconst 0, 0, 0, 0)]
theorem s_X9_costBy_11 {d : Nat} {ls st : List AV} {S : MS} {R : Option AV → MS → Prop} (h : wpI (fun t l s S2 => wpX d mX9_costBy t l s S2 R) (wpM d) R 12 198 B_X9_costBy_11 ls st S) : wpX d mX9_costBy 11 ls st S R := x_step (by decide +kernel) h
def B_X9_costBy_12 : List AIn := [(.istore 6, 6, 0, 0), (.iload 6, 6, 0, 0), (.iload 5, 5, 0, 0), (.iconst 3, 3, 0, 0), (.irem, 0, 0, 0), (.ifCond .ne 7, 27, 134, 0), (.iconst 2, 2, 0, 0), (.goto 4, 28, 134, 0)]
theorem s_X9_costBy_12 {d : Nat} {ls st : List AV} {S : MS} {R : Option AV → MS → Prop} (h : wpI (fun t l s S2 => wpX d mX9_costBy t l s S2 R) (wpM d) R 27 0 B_X9_costBy_12 ls st S) : wpX d mX9_costBy 12 ls st S R := x_step (by decide +kernel) h
def B_X9_costBy_27 : List AIn := [(.iconst 0, 0, 0, 0)]
theorem s_X9_costBy_27 {d : Nat} {ls st : List AV} {S : MS} {R : Option AV → MS → Prop} (h : wpI (fun t l s S2 => wpX d mX9_costBy t l s S2 R) (wpM d) R 28 134 B_X9_costBy_27 ls st S) : wpX d mX9_costBy 27 ls st S R := x_step (by decide +kernel) h
def B_X9_costBy_28 : List AIn := [(.iadd, 0, 0, 0), (.istore 7, 7, 0, 0), (.iload_n 0, 0, 0, 0), (.tableswitch 93 1 5 #[36, 53, 72, 39, 77], 32, 7, 0)]
theorem s_X9_costBy_28 {d : Nat} {ls st : List AV} {S : MS} {R : Option AV → MS → Prop} (h : wpI (fun t l s S2 => wpX d mX9_costBy t l s S2 R) (wpM d) R 68 0 B_X9_costBy_28 ls st S) : wpX d mX9_costBy 28 ls st S R := x_step (by decide +kernel) h
def B_X9_costBy_68 : List AIn := [(.iload 7, 7, 0, 0), (.ireturn, 0, 0, 0)]
theorem s_X9_costBy_68 {d : Nat} {ls st : List AV} {S : MS} {R : Option AV → MS → Prop} (h : wpI (fun t l s S2 => wpX d mX9_costBy t l s S2 R) (wpM d) R 71 0 B_X9_costBy_68 ls st S) : wpX d mX9_costBy 68 ls st S R := x_step (by decide +kernel) h
def B_X9_costBy_71 : List AIn := [(.iload 7, 7, 0, 0), (.ifCond .le 10, 83, 255, 0), (.iload 7, 7, 0, 0), (.iconst 1, 1, 0, 0), (.isub, 0, 0, 0), (.goto 4, 84, 255, 0)]
theorem s_X9_costBy_71 {d : Nat} {ls st : List AV} {S : MS} {R : Option AV → MS → Prop} (h : wpI (fun t l s S2 => wpX d mX9_costBy t l s S2 R) (wpM d) R 83 0 B_X9_costBy_71 ls st S) : wpX d mX9_costBy 71 ls st S R := x_step (by decide +kernel) h
def B_X9_costBy_83 : List AIn := [(.iconst 0, 0, 0, 0)]
theorem s_X9_costBy_83 {d : Nat} {ls st : List AV} {S : MS} {R : Option AV → MS → Prop} (h : wpI (fun t l s S2 => wpX d mX9_costBy t l s S2 R) (wpM d) R 84 255 B_X9_costBy_83 ls st S) : wpX d mX9_costBy 83 ls st S R := x_step (by decide +kernel) h
def B_X9_costBy_84 : List AIn := [(.ireturn, 0, 0, 0)]
theorem s_X9_costBy_84 {d : Nat} {ls st : List AV} {S : MS} {R : Option AV → MS → Prop} (h : wpI (fun t l s S2 => wpX d mX9_costBy t l s S2 R) (wpM d) R 85 0 B_X9_costBy_84 ls st S) : wpX d mX9_costBy 84 ls st S R := x_step (by decide +kernel) h
def B_X9_costBy_85 : List AIn := [(.iload 6, 6, 0, 0), (.iload 5, 5, 0, 0), (.bipush 7, 7, 0, 0), (.irem, 0, 0, 0), (.bipush 6, 6, 0, 0), (.if_icmp .ne 7, 101, 255, 0), (.iload_n 3, 3, 0, 0), (.goto 4, 102, 255, 0)]
theorem s_X9_costBy_85 {d : Nat} {ls st : List AV} {S : MS} {R : Option AV → MS → Prop} (h : wpI (fun t l s S2 => wpX d mX9_costBy t l s S2 R) (wpM d) R 101 0 B_X9_costBy_85 ls st S) : wpX d mX9_costBy 85 ls st S R := x_step (by decide +kernel) h
def B_X9_costBy_101 : List AIn := [(.iconst 0, 0, 0, 0)]
theorem s_X9_costBy_101 {d : Nat} {ls st : List AV} {S : MS} {R : Option AV → MS → Prop} (h : wpI (fun t l s S2 => wpX d mX9_costBy t l s S2 R) (wpM d) R 102 255 B_X9_costBy_101 ls st S) : wpX d mX9_costBy 101 ls st S R := x_step (by decide +kernel) h
def B_X9_costBy_102 : List AIn := [(.iadd, 0, 0, 0), (.ireturn, 0, 0, 0)]
theorem s_X9_costBy_102 {d : Nat} {ls st : List AV} {S : MS} {R : Option AV → MS → Prop} (h : wpI (fun t l s S2 => wpX d mX9_costBy t l s S2 R) (wpM d) R 104 0 B_X9_costBy_102 ls st S) : wpX d mX9_costBy 102 ls st S R := x_step (by decide +kernel) h
def B_X9_costBy_104 : List AIn := [(.iload 6, 6, 0, 0), (.iconst 2, 2, 0, 0), (.idiv, 0, 0, 0), (.ireturn, 0, 0, 0)]
theorem s_X9_costBy_104 {d : Nat} {ls st : List AV} {S : MS} {R : Option AV → MS → Prop} (h : wpI (fun t l s S2 => wpX d mX9_costBy t l s S2 R) (wpM d) R 109 0 B_X9_costBy_104 ls st S) : wpX d mX9_costBy 104 ls st S R := x_step (by decide +kernel) h
def B_X9_costBy_109 : List AIn := [(.iload 6, 6, 0, 0), (.iconst 2, 2, 0, 0), (.idiv, 0, 0, 0), (.iload 4, 4, 0, 0), (.ifCond .ne 7, 122, 255, 0), (.iconst 1, 1, 0, 0), (.goto 4, 123, 255, 0)]
theorem s_X9_costBy_109 {d : Nat} {ls st : List AV} {S : MS} {R : Option AV → MS → Prop} (h : wpI (fun t l s S2 => wpX d mX9_costBy t l s S2 R) (wpM d) R 122 0 B_X9_costBy_109 ls st S) : wpX d mX9_costBy 109 ls st S R := x_step (by decide +kernel) h
def B_X9_costBy_122 : List AIn := [(.iconst 0, 0, 0, 0)]
theorem s_X9_costBy_122 {d : Nat} {ls st : List AV} {S : MS} {R : Option AV → MS → Prop} (h : wpI (fun t l s S2 => wpX d mX9_costBy t l s S2 R) (wpM d) R 123 255 B_X9_costBy_122 ls st S) : wpX d mX9_costBy 122 ls st S R := x_step (by decide +kernel) h
def B_X9_costBy_123 : List AIn := [(.iadd, 0, 0, 0), (.ireturn, 0, 0, 0)]
theorem s_X9_costBy_123 {d : Nat} {ls st : List AV} {S : MS} {R : Option AV → MS → Prop} (h : wpI (fun t l s S2 => wpX d mX9_costBy t l s S2 R) (wpM d) R 125 0 B_X9_costBy_123 ls st S) : wpX d mX9_costBy 123 ls st S R := x_step (by decide +kernel) h
def B_X9_costBy_125 : List AIn := [(.iload 6, 6, 0, 0), (.ireturn, 0, 0, 0)]
theorem s_X9_costBy_125 {d : Nat} {ls st : List AV} {S : MS} {R : Option AV → MS → Prop} (h : wpI (fun t l s S2 => wpX d mX9_costBy t l s S2 R) (wpM d) R 128 0 B_X9_costBy_125 ls st S) : wpX d mX9_costBy 125 ls st S R := x_step (by decide +kernel) h
-- NinthDayModel.costOn([II)I
def B_X9_costOn_0 : List AIn := [(.aload_n 0, 0, 0, 0), (.getfield 33, 11, 8, 0), (.iload_n 2, 2, 0, 0), (.iaload, 0, 0, 0), (.aload_n 0, 0, 0, 0), (.getfield 36, 12, 8, 0), (.iload_n 2, 2, 0, 0), (.iaload, 0, 0, 0), (.aload_n 1, 1, 0, 0), (.iconst 4, 4, 0, 0), (.iload_n 2, 2, 0, 0), (.iadd, 0, 0, 0), (.iaload, 0, 0, 0), (.aload_n 0, 0, 0, 0), (.getfield 39, 13, 8, 0), (.iload_n 2, 2, 0, 0), (.iaload, 0, 0, 0), (.aload_n 1, 1, 0, 0), (.bipush 9, 9, 0, 0), (.iload_n 2, 2, 0, 0), (.iadd, 0, 0, 0), (.iaload, 0, 0, 0), (.aload_n 1, 1, 0, 0), (.iconst 0, 0, 0, 0), (.iaload, 0, 0, 0), (.invokestatic 151, 163, 6, 0)]
theorem s_X9_costOn_0 {d : Nat} {ls st : List AV} {S : MS} {R : Option AV → MS → Prop} (h : wpI (fun t l s S2 => wpX d mX9_costOn t l s S2 R) (wpM d) R 35 7 B_X9_costOn_0 ls st S) : wpX d mX9_costOn 0 ls st S R := x_step (by decide +kernel) h
def B_X9_costOn_35 : List AIn := [(.ireturn, 0, 0, 0)]
theorem s_X9_costOn_35 {d : Nat} {ls st : List AV} {S : MS} {R : Option AV → MS → Prop} (h : wpI (fun t l s S2 => wpX d mX9_costOn t l s S2 R) (wpM d) R 36 0 B_X9_costOn_35 ls st S) : wpX d mX9_costOn 35 ls st S R := x_step (by decide +kernel) h
-- NinthDayModel.costsOf([II)I
def B_X9_costsOf_0 : List AIn := [(.iconst 0, 0, 0, 0), (.istore_n 3, 3, 0, 0), (.iconst 0, 0, 0, 0), (.istore 4, 4, 0, 0)]
theorem s_X9_costsOf_0 {d : Nat} {ls st : List AV} {S : MS} {R : Option AV → MS → Prop} (h : wpI (fun t l s S2 => wpX d mX9_costsOf t l s S2 R) (wpM d) R 5 0 B_X9_costsOf_0 ls st S) : wpX d mX9_costsOf 0 ls st S R := x_step (by decide +kernel) h
def B_X9_costsOf_5 : List AIn := [(.iload 4, 4, 0, 0), (.aload_n 0, 0, 0, 0), (.getfield 145, 10, 8, 0), (.if_icmp .ge 32, 43, 23, 0), (.iload_n 3, 3, 0, 0), (.iload_n 2, 2, 0, 0), (.iload 4, 4, 0, 0), (.invokestatic 155, 132, 2, 0)]
theorem s_X9_costsOf_5 {d : Nat} {ls st : List AV} {S : MS} {R : Option AV → MS → Prop} (h : wpI (fun t l s S2 => wpX d mX9_costsOf t l s S2 R) (wpM d) R 21 8 B_X9_costsOf_5 ls st S) : wpX d mX9_costsOf 5 ls st S R := x_step (by decide +kernel) h
def B_X9_costsOf_21 : List AIn := [(.ifCond .eq 13, 34, 8, 0), (.aload_n 0, 0, 0, 0), (.aload_n 1, 1, 0, 0), (.iload 4, 4, 0, 0), (.invokevirtual 159, 164, 3, 8)]
theorem s_X9_costsOf_21 {d : Nat} {ls st : List AV} {S : MS} {R : Option AV → MS → Prop} (h : wpI (fun t l s S2 => wpX d mX9_costsOf t l s S2 R) (wpM d) R 31 8 B_X9_costsOf_21 ls st S) : wpX d mX9_costsOf 21 ls st S R := x_step (by decide +kernel) h
def B_X9_costsOf_31 : List AIn := [(.goto 4, 35, 8, 0)]
theorem s_X9_costsOf_31 {d : Nat} {ls st : List AV} {S : MS} {R : Option AV → MS → Prop} (h : wpI (fun t l s S2 => wpX d mX9_costsOf t l s S2 R) (wpM d) R 34 0 B_X9_costsOf_31 ls st S) : wpX d mX9_costsOf 31 ls st S R := x_step (by decide +kernel) h
def B_X9_costsOf_34 : List AIn := [(.iconst 0, 0, 0, 0)]
theorem s_X9_costsOf_34 {d : Nat} {ls st : List AV} {S : MS} {R : Option AV → MS → Prop} (h : wpI (fun t l s S2 => wpX d mX9_costsOf t l s S2 R) (wpM d) R 35 8 B_X9_costsOf_34 ls st S) : wpX d mX9_costsOf 34 ls st S R := x_step (by decide +kernel) h
def B_X9_costsOf_35 : List AIn := [(.iadd, 0, 0, 0), (.istore_n 3, 3, 0, 0), (.iinc 4 1, 1, 0, 0), (.goto (-35), 5, 0, 0)]
theorem s_X9_costsOf_35 {d : Nat} {ls st : List AV} {S : MS} {R : Option AV → MS → Prop} (h : wpI (fun t l s S2 => wpX d mX9_costsOf t l s S2 R) (wpM d) R 43 0 B_X9_costsOf_35 ls st S) : wpX d mX9_costsOf 35 ls st S R := x_step (by decide +kernel) h
def B_X9_costsOf_43 : List AIn := [(.iload_n 3, 3, 0, 0), (.ireturn, 0, 0, 0)]
theorem s_X9_costsOf_43 {d : Nat} {ls st : List AV} {S : MS} {R : Option AV → MS → Prop} (h : wpI (fun t l s S2 => wpX d mX9_costsOf t l s S2 R) (wpM d) R 45 0 B_X9_costsOf_43 ls st S) : wpX d mX9_costsOf 43 ls st S R := x_step (by decide +kernel) h
-- NinthDayModel.isSmall(I)Z
def B_X9_isSmall_0 : List AIn := [(.aload_n 0, 0, 0, 0), (.getfield 33, 11, 8, 0), (.iload_n 1, 1, 0, 0), (.iaload, 0, 0, 0), (.iconst 3, 3, 0, 0), (.if_icmp .eq 13, 20, 3, 0), (.aload_n 0, 0, 0, 0), (.getfield 33, 11, 8, 0), (.iload_n 1, 1, 0, 0), (.iaload, 0, 0, 0), (.iconst 5, 5, 0, 0), (.if_icmp .ne 7, 24, 3, 0)]
theorem s_X9_isSmall_0 {d : Nat} {ls st : List AV} {S : MS} {R : Option AV → MS → Prop} (h : wpI (fun t l s S2 => wpX d mX9_isSmall t l s S2 R) (wpM d) R 20 3 B_X9_isSmall_0 ls st S) : wpX d mX9_isSmall 0 ls st S R := x_step (by decide +kernel) h
def B_X9_isSmall_20 : List AIn := [(.iconst 1, 1, 0, 0), (.goto 4, 25, 3, 0)]
theorem s_X9_isSmall_20 {d : Nat} {ls st : List AV} {S : MS} {R : Option AV → MS → Prop} (h : wpI (fun t l s S2 => wpX d mX9_isSmall t l s S2 R) (wpM d) R 24 0 B_X9_isSmall_20 ls st S) : wpX d mX9_isSmall 20 ls st S R := x_step (by decide +kernel) h
def B_X9_isSmall_24 : List AIn := [(.iconst 0, 0, 0, 0)]
theorem s_X9_isSmall_24 {d : Nat} {ls st : List AV} {S : MS} {R : Option AV → MS → Prop} (h : wpI (fun t l s S2 => wpX d mX9_isSmall t l s S2 R) (wpM d) R 25 3 B_X9_isSmall_24 ls st S) : wpX d mX9_isSmall 24 ls st S R := x_step (by decide +kernel) h
def B_X9_isSmall_25 : List AIn := [(.ireturn, 1, 0, 0)]
theorem s_X9_isSmall_25 {d : Nat} {ls st : List AV} {S : MS} {R : Option AV → MS → Prop} (h : wpI (fun t l s S2 => wpX d mX9_isSmall t l s S2 R) (wpM d) R 26 0 B_X9_isSmall_25 ls st S) : wpX d mX9_isSmall 25 ls st S R := x_step (by decide +kernel) h
-- NinthDayModel.grown([II)I
def B_X9_grown_0 : List AIn := [(.aload_n 1, 1, 0, 0), (.iconst 4, 4, 0, 0), (.iload_n 2, 2, 0, 0), (.iadd, 0, 0, 0), (.iaload, 0, 0, 0), (.aload_n 0, 0, 0, 0), (.iload_n 2, 2, 0, 0), (.invokevirtual 163, 166, 2, 8)]
theorem s_X9_grown_0 {d : Nat} {ls st : List AV} {S : MS} {R : Option AV → MS → Prop} (h : wpI (fun t l s S2 => wpX d mX9_grown t l s S2 R) (wpM d) R 10 15 B_X9_grown_0 ls st S) : wpX d mX9_grown 0 ls st S R := x_step (by decide +kernel) h
def B_X9_grown_10 : List AIn := [(.ifCond .eq 7, 17, 15, 0), (.iconst 2, 2, 0, 0), (.goto 4, 18, 15, 0)]
theorem s_X9_grown_10 {d : Nat} {ls st : List AV} {S : MS} {R : Option AV → MS → Prop} (h : wpI (fun t l s S2 => wpX d mX9_grown t l s S2 R) (wpM d) R 17 0 B_X9_grown_10 ls st S) : wpX d mX9_grown 10 ls st S R := x_step (by decide +kernel) h
def B_X9_grown_17 : List AIn := [(.iconst 1, 1, 0, 0)]
theorem s_X9_grown_17 {d : Nat} {ls st : List AV} {S : MS} {R : Option AV → MS → Prop} (h : wpI (fun t l s S2 => wpX d mX9_grown t l s S2 R) (wpM d) R 18 15 B_X9_grown_17 ls st S) : wpX d mX9_grown 17 ls st S R := x_step (by decide +kernel) h
def B_X9_grown_18 : List AIn := [(.iadd, 0, 0, 0), (.istore_n 3, 3, 0, 0), (.iload_n 3, 3, 0, 0), (.bipush 9, 9, 0, 0), (.if_icmp .le 8, 31, 7, 0), (.bipush 9, 9, 0, 0), (.goto 4, 32, 15, 0)]
theorem s_X9_grown_18 {d : Nat} {ls st : List AV} {S : MS} {R : Option AV → MS → Prop} (h : wpI (fun t l s S2 => wpX d mX9_grown t l s S2 R) (wpM d) R 31 0 B_X9_grown_18 ls st S) : wpX d mX9_grown 18 ls st S R := x_step (by decide +kernel) h
def B_X9_grown_31 : List AIn := [(.iload_n 3, 3, 0, 0)]
theorem s_X9_grown_31 {d : Nat} {ls st : List AV} {S : MS} {R : Option AV → MS → Prop} (h : wpI (fun t l s S2 => wpX d mX9_grown t l s S2 R) (wpM d) R 32 15 B_X9_grown_31 ls st S) : wpX d mX9_grown 31 ls st S R := x_step (by decide +kernel) h
def B_X9_grown_32 : List AIn := [(.ireturn, 0, 0, 0)]
theorem s_X9_grown_32 {d : Nat} {ls st : List AV} {S : MS} {R : Option AV → MS → Prop} (h : wpI (fun t l s S2 => wpX d mX9_grown t l s S2 R) (wpM d) R 33 0 B_X9_grown_32 ls st S) : wpX d mX9_grown 32 ls st S R := x_step (by decide +kernel) h
-- NinthDayModel.lessened([II)I
def B_X9_lessened_0 : List AIn := [(.aload_n 1, 1, 0, 0), (.iconst 4, 4, 0, 0), (.iload_n 2, 2, 0, 0), (.iadd, 0, 0, 0), (.iaload, 0, 0, 0), (.aload_n 0, 0, 0, 0), (.getfield 33, 11, 8, 0), (.iload_n 2, 2, 0, 0), (.iaload, 0, 0, 0), (.iconst 2, 2, 0, 0), (.if_icmp .ne 7, 19, 15, 0), (.iconst 2, 2, 0, 0), (.goto 4, 20, 15, 0)]
theorem s_X9_lessened_0 {d : Nat} {ls st : List AV} {S : MS} {R : Option AV → MS → Prop} (h : wpI (fun t l s S2 => wpX d mX9_lessened t l s S2 R) (wpM d) R 19 0 B_X9_lessened_0 ls st S) : wpX d mX9_lessened 0 ls st S R := x_step (by decide +kernel) h
def B_X9_lessened_19 : List AIn := [(.iconst 1, 1, 0, 0)]
theorem s_X9_lessened_19 {d : Nat} {ls st : List AV} {S : MS} {R : Option AV → MS → Prop} (h : wpI (fun t l s S2 => wpX d mX9_lessened t l s S2 R) (wpM d) R 20 15 B_X9_lessened_19 ls st S) : wpX d mX9_lessened 19 ls st S R := x_step (by decide +kernel) h
def B_X9_lessened_20 : List AIn := [(.isub, 0, 0, 0), (.istore_n 3, 3, 0, 0), (.iload_n 3, 3, 0, 0), (.ifCond .le 7, 30, 15, 0), (.iload_n 3, 3, 0, 0), (.goto 4, 31, 15, 0)]
theorem s_X9_lessened_20 {d : Nat} {ls st : List AV} {S : MS} {R : Option AV → MS → Prop} (h : wpI (fun t l s S2 => wpX d mX9_lessened t l s S2 R) (wpM d) R 30 0 B_X9_lessened_20 ls st S) : wpX d mX9_lessened 20 ls st S R := x_step (by decide +kernel) h
def B_X9_lessened_30 : List AIn := [(.iconst 0, 0, 0, 0)]
theorem s_X9_lessened_30 {d : Nat} {ls st : List AV} {S : MS} {R : Option AV → MS → Prop} (h : wpI (fun t l s S2 => wpX d mX9_lessened t l s S2 R) (wpM d) R 31 15 B_X9_lessened_30 ls st S) : wpX d mX9_lessened 30 ls st S R := x_step (by decide +kernel) h
def B_X9_lessened_31 : List AIn := [(.ireturn, 0, 0, 0)]
theorem s_X9_lessened_31 {d : Nat} {ls st : List AV} {S : MS} {R : Option AV → MS → Prop} (h : wpI (fun t l s S2 => wpX d mX9_lessened t l s S2 R) (wpM d) R 32 0 B_X9_lessened_31 ls st S) : wpX d mX9_lessened 31 ls st S R := x_step (by decide +kernel) h
-- NinthDayModel.there([I)I
def B_X9_there_0 : List AIn := [(.iconst 1, 1, 0, 0), (.aload_n 0, 0, 0, 0), (.getfield 145, 10, 8, 0), (.ishl, 0, 0, 0), (.iconst 1, 1, 0, 0), (.isub, 0, 0, 0), (.aload_n 1, 1, 0, 0), (.iconst 3, 3, 0, 0), (.iaload, 0, 0, 0), (.iconst (-1), 1, 1, 0), (.ixor, 0, 0, 0), (.iand, 0, 0, 0), (.ireturn, 0, 0, 0)]
theorem s_X9_there_0 {d : Nat} {ls st : List AV} {S : MS} {R : Option AV → MS → Prop} (h : wpI (fun t l s S2 => wpX d mX9_there t l s S2 R) (wpM d) R 15 0 B_X9_there_0 ls st S) : wpX d mX9_there 0 ls st S R := x_step (by decide +kernel) h
-- NinthDayModel.passes([III)V
def B_X9_passes_0 : List AIn := [(.iconst 0, 0, 0, 0), (.istore 4, 4, 0, 0)]
theorem s_X9_passes_0 {d : Nat} {ls st : List AV} {S : MS} {R : Option AV → MS → Prop} (h : wpI (fun t l s S2 => wpX d mX9_passes t l s S2 R) (wpM d) R 3 0 B_X9_passes_0 ls st S) : wpX d mX9_passes 0 ls st S R := x_step (by decide +kernel) h
def B_X9_passes_3 : List AIn := [(.iload 4, 4, 0, 0), (.aload_n 0, 0, 0, 0), (.getfield 145, 10, 8, 0), (.if_icmp .ge 99, 108, 21, 0), (.iload_n 2, 2, 0, 0), (.iload 4, 4, 0, 0), (.invokestatic 155, 132, 2, 0)]
theorem s_X9_passes_3 {d : Nat} {ls st : List AV} {S : MS} {R : Option AV → MS → Prop} (h : wpI (fun t l s S2 => wpX d mX9_passes t l s S2 R) (wpM d) R 18 0 B_X9_passes_3 ls st S) : wpX d mX9_passes 3 ls st S R := x_step (by decide +kernel) h
def B_X9_passes_18 : List AIn := [(.ifCond .eq 41, 59, 0, 0), (.aload_n 1, 1, 0, 0), (.iconst 4, 4, 0, 0), (.iload 4, 4, 0, 0), (.iadd, 0, 0, 0), (.aload_n 0, 0, 0, 0), (.aload_n 1, 1, 0, 0), (.iload 4, 4, 0, 0), (.invokevirtual 166, 167, 3, 8)]
theorem s_X9_passes_18 {d : Nat} {ls st : List AV} {S : MS} {R : Option AV → MS → Prop} (h : wpI (fun t l s S2 => wpX d mX9_passes t l s S2 R) (wpM d) R 33 0 B_X9_passes_18 ls st S) : wpX d mX9_passes 18 ls st S R := x_step (by decide +kernel) h
def B_X9_passes_33 : List AIn := [(.iastore, 0, 0, 0), (.aload_n 1, 1, 0, 0), (.bipush 9, 9, 0, 0), (.iload 4, 4, 0, 0), (.iadd, 0, 0, 0), (.dup2, 0, 0, 0), (.iaload, 0, 0, 0), (.iconst 1, 1, 0, 0), (.iadd, 0, 0, 0), (.iastore, 0, 0, 0), (.aload_n 1, 1, 0, 0), (.bipush 14, 14, 0, 0), (.iload 4, 4, 0, 0), (.iadd, 0, 0, 0), (.dup2, 0, 0, 0), (.iaload, 0, 0, 0), (.iconst 1, 1, 0, 0), (.iadd, 0, 0, 0), (.iastore, 0, 0, 0), (.goto 46, 102, 0, 0)]
theorem s_X9_passes_33 {d : Nat} {ls st : List AV} {S : MS} {R : Option AV → MS → Prop} (h : wpI (fun t l s S2 => wpX d mX9_passes t l s S2 R) (wpM d) R 59 0 B_X9_passes_33 ls st S) : wpX d mX9_passes 33 ls st S R := x_step (by decide +kernel) h
def B_X9_passes_59 : List AIn := [(.aload_n 0, 0, 0, 0), (.aload_n 1, 1, 0, 0), (.invokevirtual 169, 169, 2, 8)]
theorem s_X9_passes_59 {d : Nat} {ls st : List AV} {S : MS} {R : Option AV → MS → Prop} (h : wpI (fun t l s S2 => wpX d mX9_passes t l s S2 R) (wpM d) R 64 0 B_X9_passes_59 ls st S) : wpX d mX9_passes 59 ls st S R := x_step (by decide +kernel) h
def B_X9_passes_64 : List AIn := [(.iload 4, 4, 0, 0), (.invokestatic 155, 132, 2, 0)]
theorem s_X9_passes_64 {d : Nat} {ls st : List AV} {S : MS} {R : Option AV → MS → Prop} (h : wpI (fun t l s S2 => wpX d mX9_passes t l s S2 R) (wpM d) R 69 0 B_X9_passes_64 ls st S) : wpX d mX9_passes 64 ls st S R := x_step (by decide +kernel) h
def B_X9_passes_69 : List AIn := [(.ifCond .eq 33, 102, 0, 0), (.iload_n 3, 3, 0, 0), (.iload 4, 4, 0, 0), (.invokestatic 155, 132, 2, 0)]
theorem s_X9_passes_69 {d : Nat} {ls st : List AV} {S : MS} {R : Option AV → MS → Prop} (h : wpI (fun t l s S2 => wpX d mX9_passes t l s S2 R) (wpM d) R 78 0 B_X9_passes_69 ls st S) : wpX d mX9_passes 69 ls st S R := x_step (by decide +kernel) h
def B_X9_passes_78 : List AIn := [(.ifCond .ne 24, 102, 0, 0), (.aload_n 1, 1, 0, 0), (.iconst 4, 4, 0, 0), (.iload 4, 4, 0, 0), (.iadd, 0, 0, 0), (.aload_n 0, 0, 0, 0), (.aload_n 1, 1, 0, 0), (.iload 4, 4, 0, 0), (.invokevirtual 173, 168, 3, 8)]
theorem s_X9_passes_78 {d : Nat} {ls st : List AV} {S : MS} {R : Option AV → MS → Prop} (h : wpI (fun t l s S2 => wpX d mX9_passes t l s S2 R) (wpM d) R 93 0 B_X9_passes_78 ls st S) : wpX d mX9_passes 78 ls st S R := x_step (by decide +kernel) h
def B_X9_passes_93 : List AIn := [(.iastore, 0, 0, 0), (.aload_n 1, 1, 0, 0), (.bipush 9, 9, 0, 0), (.iload 4, 4, 0, 0), (.iadd, 0, 0, 0), (.iconst 0, 0, 0, 0), (.iastore, 0, 0, 0)]
theorem s_X9_passes_93 {d : Nat} {ls st : List AV} {S : MS} {R : Option AV → MS → Prop} (h : wpI (fun t l s S2 => wpX d mX9_passes t l s S2 R) (wpM d) R 102 0 B_X9_passes_93 ls st S) : wpX d mX9_passes 93 ls st S R := x_step (by decide +kernel) h
def B_X9_passes_102 : List AIn := [(.iinc 4 1, 1, 0, 0), (.goto (-102), 3, 0, 0)]
theorem s_X9_passes_102 {d : Nat} {ls st : List AV} {S : MS} {R : Option AV → MS → Prop} (h : wpI (fun t l s S2 => wpX d mX9_passes t l s S2 R) (wpM d) R 108 0 B_X9_passes_102 ls st S) : wpX d mX9_passes 102 ls st S R := x_step (by decide +kernel) h
def B_X9_passes_108 : List AIn := [(.aload_n 1, 1, 0, 0), (.iconst 2, 2, 0, 0), (.dup2, 0, 0, 0), (.iaload, 0, 0, 0), (.iload_n 3, 3, 0, 0), (.invokestatic 176, 133, 1, 0)]
theorem s_X9_passes_108 {d : Nat} {ls st : List AV} {S : MS} {R : Option AV → MS → Prop} (h : wpI (fun t l s S2 => wpX d mX9_passes t l s S2 R) (wpM d) R 116 29 B_X9_passes_108 ls st S) : wpX d mX9_passes 108 ls st S R := x_step (by decide +kernel) h
def B_X9_passes_116 : List AIn := [(.isub, 0, 0, 0), (.iastore, 0, 0, 0), (.aload_n 1, 1, 0, 0), (.iconst 0, 0, 0, 0), (.dup2, 0, 0, 0), (.iaload, 0, 0, 0), (.iconst 1, 1, 0, 0), (.iadd, 0, 0, 0), (.iastore, 0, 0, 0), (.return_, 0, 0, 0)]
theorem s_X9_passes_116 {d : Nat} {ls st : List AV} {S : MS} {R : Option AV → MS → Prop} (h : wpI (fun t l s S2 => wpX d mX9_passes t l s S2 R) (wpM d) R 126 0 B_X9_passes_116 ls st S) : wpX d mX9_passes 116 ls st S R := x_step (by decide +kernel) h
-- NinthDayModel.rankOn([III)I
def B_X9_rankOn_0 : List AIn := [(.iload_n 2, 2, 0, 0), (.ifCond .ne 12, 13, 1, 0), (.aload_n 0, 0, 0, 0), (.aload_n 1, 1, 0, 0), (.iload_n 3, 3, 0, 0), (.invokevirtual 159, 164, 3, 8)]
theorem s_X9_rankOn_0 {d : Nat} {ls st : List AV} {S : MS} {R : Option AV → MS → Prop} (h : wpI (fun t l s S2 => wpX d mX9_rankOn t l s S2 R) (wpM d) R 10 15 B_X9_rankOn_0 ls st S) : wpX d mX9_rankOn 0 ls st S R := x_step (by decide +kernel) h
def B_X9_rankOn_10 : List AIn := [(.goto 32, 42, 15, 0)]
theorem s_X9_rankOn_10 {d : Nat} {ls st : List AV} {S : MS} {R : Option AV → MS → Prop} (h : wpI (fun t l s S2 => wpX d mX9_rankOn t l s S2 R) (wpM d) R 13 0 B_X9_rankOn_10 ls st S) : wpX d mX9_rankOn 10 ls st S R := x_step (by decide +kernel) h
def B_X9_rankOn_13 : List AIn := [(.iload_n 2, 2, 0, 0), (.iconst 1, 1, 0, 0), (.if_icmp .ne 7, 22, 1, 0), (.iconst 0, 0, 0, 0), (.goto 23, 42, 15, 0)]
theorem s_X9_rankOn_13 {d : Nat} {ls st : List AV} {S : MS} {R : Option AV → MS → Prop} (h : wpI (fun t l s S2 => wpX d mX9_rankOn t l s S2 R) (wpM d) R 22 0 B_X9_rankOn_13 ls st S) : wpX d mX9_rankOn 13 ls st S R := x_step (by decide +kernel) h
def B_X9_rankOn_22 : List AIn := [(.iload_n 2, 2, 0, 0), (.iconst 2, 2, 0, 0), (.if_icmp .ne 13, 37, 5, 0), (.aload_n 1, 1, 0, 0), (.bipush 9, 9, 0, 0), (.iload_n 3, 3, 0, 0), (.iadd, 0, 0, 0), (.iaload, 0, 0, 0), (.ineg, 0, 0, 0), (.goto 8, 42, 15, 0)]
theorem s_X9_rankOn_22 {d : Nat} {ls st : List AV} {S : MS} {R : Option AV → MS → Prop} (h : wpI (fun t l s S2 => wpX d mX9_rankOn t l s S2 R) (wpM d) R 37 0 B_X9_rankOn_22 ls st S) : wpX d mX9_rankOn 22 ls st S R := x_step (by decide +kernel) h
def B_X9_rankOn_37 : List AIn := [(.aload_n 1, 1, 0, 0), (.iconst 4, 4, 0, 0), (.iload_n 3, 3, 0, 0), (.iadd, 0, 0, 0), (.iaload, 0, 0, 0)]
theorem s_X9_rankOn_37 {d : Nat} {ls st : List AV} {S : MS} {R : Option AV → MS → Prop} (h : wpI (fun t l s S2 => wpX d mX9_rankOn t l s S2 R) (wpM d) R 42 15 B_X9_rankOn_37 ls st S) : wpX d mX9_rankOn 37 ls st S R := x_step (by decide +kernel) h
def B_X9_rankOn_42 : List AIn := [(.ireturn, 0, 0, 0)]
theorem s_X9_rankOn_42 {d : Nat} {ls st : List AV} {S : MS} {R : Option AV → MS → Prop} (h : wpI (fun t l s S2 => wpX d mX9_rankOn t l s S2 R) (wpM d) R 43 0 B_X9_rankOn_42 ls st S) : wpX d mX9_rankOn 42 ls st S R := x_step (by decide +kernel) h
-- NinthDayModel.byRule([II)I
def B_X9_byRule_0 : List AIn := [(.aload_n 1, 1, 0, 0), (.iconst 1, 1, 0, 0), (.iaload, 0, 0, 0), (.istore_n 3, 3, 0, 0), (.aload_n 0, 0, 0, 0), (.aload_n 1, 1, 0, 0), (.invokevirtual 169, 169, 2, 8)]
theorem s_X9_byRule_0 {d : Nat} {ls st : List AV} {S : MS} {R : Option AV → MS → Prop} (h : wpI (fun t l s S2 => wpX d mX9_byRule t l s S2 R) (wpM d) R 9 240 B_X9_byRule_0 ls st S) : wpX d mX9_byRule 0 ls st S R := x_step (by decide +kernel) h
def B_X9_byRule_9 : List AIn := [(.istore 4, 4, 0, 0), (.iconst 0, 0, 0, 0), (.istore 5, 5, 0, 0)]
theorem s_X9_byRule_9 {d : Nat} {ls st : List AV} {S : MS} {R : Option AV → MS → Prop} (h : wpI (fun t l s S2 => wpX d mX9_byRule t l s S2 R) (wpM d) R 14 192 B_X9_byRule_9 ls st S) : wpX d mX9_byRule 9 ls st S R := x_step (by decide +kernel) h
def B_X9_byRule_14 : List AIn := [(.iload 4, 4, 0, 0), (.ifCond .eq 127, 143, 223, 0), (.bipush (-9), 9, 1, 0), (.istore 6, 6, 0, 0), (.iconst 0, 0, 0, 0), (.istore 7, 7, 0, 0)]
theorem s_X9_byRule_14 {d : Nat} {ls st : List AV} {S : MS} {R : Option AV → MS → Prop} (h : wpI (fun t l s S2 => wpX d mX9_byRule t l s S2 R) (wpM d) R 26 0 B_X9_byRule_14 ls st S) : wpX d mX9_byRule 14 ls st S R := x_step (by decide +kernel) h
def B_X9_byRule_26 : List AIn := [(.iload 7, 7, 0, 0), (.aload_n 0, 0, 0, 0), (.getfield 145, 10, 8, 0), (.if_icmp .ge 54, 86, 128, 0), (.iload 4, 4, 0, 0), (.iload 7, 7, 0, 0), (.invokestatic 155, 132, 2, 0)]
theorem s_X9_byRule_26 {d : Nat} {ls st : List AV} {S : MS} {R : Option AV → MS → Prop} (h : wpI (fun t l s S2 => wpX d mX9_byRule t l s S2 R) (wpM d) R 42 0 B_X9_byRule_26 ls st S) : wpX d mX9_byRule 26 ls st S R := x_step (by decide +kernel) h
def B_X9_byRule_42 : List AIn := [(.ifCond .eq 34, 76, 0, 0), (.iload 6, 6, 0, 0), (.bipush (-9), 9, 1, 0), (.if_icmp .eq 22, 71, 64, 0), (.aload_n 0, 0, 0, 0), (.aload_n 1, 1, 0, 0), (.iload_n 2, 2, 0, 0), (.iload 7, 7, 0, 0), (.invokevirtual 179, 171, 4, 8)]
theorem s_X9_byRule_42 {d : Nat} {ls st : List AV} {S : MS} {R : Option AV → MS → Prop} (h : wpI (fun t l s S2 => wpX d mX9_byRule t l s S2 R) (wpM d) R 60 0 B_X9_byRule_42 ls st S) : wpX d mX9_byRule 42 ls st S R := x_step (by decide +kernel) h
def B_X9_byRule_60 : List AIn := [(.aload_n 0, 0, 0, 0), (.aload_n 1, 1, 0, 0), (.iload_n 2, 2, 0, 0), (.iload 6, 6, 0, 0), (.invokevirtual 179, 171, 4, 8)]
theorem s_X9_byRule_60 {d : Nat} {ls st : List AV} {S : MS} {R : Option AV → MS → Prop} (h : wpI (fun t l s S2 => wpX d mX9_byRule t l s S2 R) (wpM d) R 68 0 B_X9_byRule_60 ls st S) : wpX d mX9_byRule 60 ls st S R := x_step (by decide +kernel) h
def B_X9_byRule_68 : List AIn := [(.if_icmp .ge 8, 76, 0, 0)]
theorem s_X9_byRule_68 {d : Nat} {ls st : List AV} {S : MS} {R : Option AV → MS → Prop} (h : wpI (fun t l s S2 => wpX d mX9_byRule t l s S2 R) (wpM d) R 71 64 B_X9_byRule_68 ls st S) : wpX d mX9_byRule 68 ls st S R := x_step (by decide +kernel) h
def B_X9_byRule_71 : List AIn := [(.iload 7, 7, 0, 0), (.goto 5, 78, 64, 0)]
theorem s_X9_byRule_71 {d : Nat} {ls st : List AV} {S : MS} {R : Option AV → MS → Prop} (h : wpI (fun t l s S2 => wpX d mX9_byRule t l s S2 R) (wpM d) R 76 0 B_X9_byRule_71 ls st S) : wpX d mX9_byRule 71 ls st S R := x_step (by decide +kernel) h
def B_X9_byRule_76 : List AIn := [(.iload 6, 6, 0, 0)]
theorem s_X9_byRule_76 {d : Nat} {ls st : List AV} {S : MS} {R : Option AV → MS → Prop} (h : wpI (fun t l s S2 => wpX d mX9_byRule t l s S2 R) (wpM d) R 78 64 B_X9_byRule_76 ls st S) : wpX d mX9_byRule 76 ls st S R := x_step (by decide +kernel) h
def B_X9_byRule_78 : List AIn := [(.istore 6, 6, 0, 0), (.iinc 7 1, 1, 0, 0), (.goto (-57), 26, 0, 0)]
theorem s_X9_byRule_78 {d : Nat} {ls st : List AV} {S : MS} {R : Option AV → MS → Prop} (h : wpI (fun t l s S2 => wpX d mX9_byRule t l s S2 R) (wpM d) R 86 0 B_X9_byRule_78 ls st S) : wpX d mX9_byRule 78 ls st S R := x_step (by decide +kernel) h
def B_X9_byRule_86 : List AIn := [(.aload_n 0, 0, 0, 0), (.aload_n 1, 1, 0, 0), (.iload 6, 6, 0, 0), (.invokevirtual 159, 164, 3, 8)]
theorem s_X9_byRule_86 {d : Nat} {ls st : List AV} {S : MS} {R : Option AV → MS → Prop} (h : wpI (fun t l s S2 => wpX d mX9_byRule t l s S2 R) (wpM d) R 93 128 B_X9_byRule_86 ls st S) : wpX d mX9_byRule 86 ls st S R := x_step (by decide +kernel) h
def B_X9_byRule_93 : List AIn := [(.istore 7, 7, 0, 0), (.iload 5, 5, 0, 0), (.iload 7, 7, 0, 0), (.iload_n 3, 3, 0, 0), (.if_icmp .gt 10, 110, 32, 0), (.iconst 1, 1, 0, 0), (.iload 6, 6, 0, 0), (.ishl, 0, 0, 0), (.goto 4, 111, 32, 0)]
theorem s_X9_byRule_93 {d : Nat} {ls st : List AV} {S : MS} {R : Option AV → MS → Prop} (h : wpI (fun t l s S2 => wpX d mX9_byRule t l s S2 R) (wpM d) R 110 0 B_X9_byRule_93 ls st S) : wpX d mX9_byRule 93 ls st S R := x_step (by decide +kernel) h
def B_X9_byRule_110 : List AIn := [(.iconst 0, 0, 0, 0)]
theorem s_X9_byRule_110 {d : Nat} {ls st : List AV} {S : MS} {R : Option AV → MS → Prop} (h : wpI (fun t l s S2 => wpX d mX9_byRule t l s S2 R) (wpM d) R 111 32 B_X9_byRule_110 ls st S) : wpX d mX9_byRule 110 ls st S R := x_step (by decide +kernel) h
def B_X9_byRule_111 : List AIn := [(.ior, 0, 0, 0), (.istore 5, 5, 0, 0), (.iload_n 3, 3, 0, 0), (.iload 7, 7, 0, 0), (.iload_n 3, 3, 0, 0), (.if_icmp .gt 8, 126, 136, 0), (.iload 7, 7, 0, 0), (.goto 4, 127, 136, 0)]
theorem s_X9_byRule_111 {d : Nat} {ls st : List AV} {S : MS} {R : Option AV → MS → Prop} (h : wpI (fun t l s S2 => wpX d mX9_byRule t l s S2 R) (wpM d) R 126 0 B_X9_byRule_111 ls st S) : wpX d mX9_byRule 111 ls st S R := x_step (by decide +kernel) h
def B_X9_byRule_126 : List AIn := [(.iconst 0, 0, 0, 0)]
theorem s_X9_byRule_126 {d : Nat} {ls st : List AV} {S : MS} {R : Option AV → MS → Prop} (h : wpI (fun t l s S2 => wpX d mX9_byRule t l s S2 R) (wpM d) R 127 136 B_X9_byRule_126 ls st S) : wpX d mX9_byRule 126 ls st S R := x_step (by decide +kernel) h
def B_X9_byRule_127 : List AIn := [(.isub, 0, 0, 0), (.istore_n 3, 3, 0, 0), (.iload 4, 4, 0, 0), (.iconst 1, 1, 0, 0), (.iload 6, 6, 0, 0), (.ishl, 0, 0, 0), (.iconst (-1), 1, 1, 0), (.ixor, 0, 0, 0), (.iand, 0, 0, 0), (.istore 4, 4, 0, 0), (.goto (-126), 14, 192, 0)]
theorem s_X9_byRule_127 {d : Nat} {ls st : List AV} {S : MS} {R : Option AV → MS → Prop} (h : wpI (fun t l s S2 => wpX d mX9_byRule t l s S2 R) (wpM d) R 143 0 B_X9_byRule_127 ls st S) : wpX d mX9_byRule 127 ls st S R := x_step (by decide +kernel) h
def B_X9_byRule_143 : List AIn := [(.iload 5, 5, 0, 0), (.ireturn, 0, 0, 0)]
theorem s_X9_byRule_143 {d : Nat} {ls st : List AV} {S : MS} {R : Option AV → MS → Prop} (h : wpI (fun t l s S2 => wpX d mX9_byRule t l s S2 R) (wpM d) R 146 0 B_X9_byRule_143 ls st S) : wpX d mX9_byRule 143 ls st S R := x_step (by decide +kernel) h
-- NinthDayModel.copyNow()V
def B_X9_copyNow_0 : List AIn := [(.iconst 0, 0, 0, 0), (.istore_n 1, 1, 0, 0)]
theorem s_X9_copyNow_0 {d : Nat} {ls st : List AV} {S : MS} {R : Option AV → MS → Prop} (h : wpI (fun t l s S2 => wpX d mX9_copyNow t l s S2 R) (wpM d) R 2 0 B_X9_copyNow_0 ls st S) : wpX d mX9_copyNow 0 ls st S R := x_step (by decide +kernel) h
def B_X9_copyNow_2 : List AIn := [(.iload_n 1, 1, 0, 0), (.bipush 19, 19, 0, 0), (.if_icmp .ge 21, 26, 3, 0), (.aload_n 0, 0, 0, 0), (.getfield 48, 21, 8, 0), (.iload_n 1, 1, 0, 0), (.aload_n 0, 0, 0, 0), (.getfield 45, 20, 8, 0), (.iload_n 1, 1, 0, 0), (.iaload, 0, 0, 0), (.iastore, 0, 0, 0), (.iinc 1 1, 1, 0, 0), (.goto (-21), 2, 0, 0)]
theorem s_X9_copyNow_2 {d : Nat} {ls st : List AV} {S : MS} {R : Option AV → MS → Prop} (h : wpI (fun t l s S2 => wpX d mX9_copyNow t l s S2 R) (wpM d) R 26 0 B_X9_copyNow_2 ls st S) : wpX d mX9_copyNow 2 ls st S R := x_step (by decide +kernel) h
def B_X9_copyNow_26 : List AIn := [(.return_, 0, 0, 0)]
theorem s_X9_copyNow_26 {d : Nat} {ls st : List AV} {S : MS} {R : Option AV → MS → Prop} (h : wpI (fun t l s S2 => wpX d mX9_copyNow t l s S2 R) (wpM d) R 27 0 B_X9_copyNow_26 ls st S) : wpX d mX9_copyNow 26 ls st S R := x_step (by decide +kernel) h
-- NinthDayModel.deedTells(II)I
def B_X9_deedTells_0 : List AIn := [(.iload_n 2, 2, 0, 0), (.tableswitch 104 0 6 #[43, 50, 57, 66, 73, 83, 93], 1, 4, 0)]
theorem s_X9_deedTells_0 {d : Nat} {ls st : List AV} {S : MS} {R : Option AV → MS → Prop} (h : wpI (fun t l s S2 => wpX d mX9_deedTells t l s S2 R) (wpM d) R 44 0 B_X9_deedTells_0 ls st S) : wpX d mX9_deedTells 0 ls st S R := x_step (by decide +kernel) h
def B_X9_deedTells_44 : List AIn := [(.aload_n 0, 0, 0, 0), (.getfield 33, 11, 8, 0), (.iload_n 1, 1, 0, 0), (.iaload, 0, 0, 0), (.ireturn, 0, 0, 0)]
theorem s_X9_deedTells_44 {d : Nat} {ls st : List AV} {S : MS} {R : Option AV → MS → Prop} (h : wpI (fun t l s S2 => wpX d mX9_deedTells t l s S2 R) (wpM d) R 51 0 B_X9_deedTells_44 ls st S) : wpX d mX9_deedTells 44 ls st S R := x_step (by decide +kernel) h
def B_X9_deedTells_51 : List AIn := [(.aload_n 0, 0, 0, 0), (.getfield 36, 12, 8, 0), (.iload_n 1, 1, 0, 0), (.iaload, 0, 0, 0), (.ireturn, 0, 0, 0)]
theorem s_X9_deedTells_51 {d : Nat} {ls st : List AV} {S : MS} {R : Option AV → MS → Prop} (h : wpI (fun t l s S2 => wpX d mX9_deedTells t l s S2 R) (wpM d) R 58 0 B_X9_deedTells_51 ls st S) : wpX d mX9_deedTells 51 ls st S R := x_step (by decide +kernel) h
def B_X9_deedTells_58 : List AIn := [(.aload_n 0, 0, 0, 0), (.getfield 45, 20, 8, 0), (.iconst 4, 4, 0, 0), (.iload_n 1, 1, 0, 0), (.iadd, 0, 0, 0), (.iaload, 0, 0, 0), (.ireturn, 0, 0, 0)]
theorem s_X9_deedTells_58 {d : Nat} {ls st : List AV} {S : MS} {R : Option AV → MS → Prop} (h : wpI (fun t l s S2 => wpX d mX9_deedTells t l s S2 R) (wpM d) R 67 0 B_X9_deedTells_58 ls st S) : wpX d mX9_deedTells 58 ls st S R := x_step (by decide +kernel) h
def B_X9_deedTells_67 : List AIn := [(.aload_n 0, 0, 0, 0), (.getfield 39, 13, 8, 0), (.iload_n 1, 1, 0, 0), (.iaload, 0, 0, 0), (.ireturn, 0, 0, 0)]
theorem s_X9_deedTells_67 {d : Nat} {ls st : List AV} {S : MS} {R : Option AV → MS → Prop} (h : wpI (fun t l s S2 => wpX d mX9_deedTells t l s S2 R) (wpM d) R 74 0 B_X9_deedTells_67 ls st S) : wpX d mX9_deedTells 67 ls st S R := x_step (by decide +kernel) h
def B_X9_deedTells_74 : List AIn := [(.aload_n 0, 0, 0, 0), (.aload_n 0, 0, 0, 0), (.getfield 45, 20, 8, 0), (.iload_n 1, 1, 0, 0), (.invokevirtual 159, 164, 3, 8)]
theorem s_X9_deedTells_74 {d : Nat} {ls st : List AV} {S : MS} {R : Option AV → MS → Prop} (h : wpI (fun t l s S2 => wpX d mX9_deedTells t l s S2 R) (wpM d) R 83 7 B_X9_deedTells_74 ls st S) : wpX d mX9_deedTells 74 ls st S R := x_step (by decide +kernel) h
def B_X9_deedTells_83 : List AIn := [(.ireturn, 0, 0, 0)]
theorem s_X9_deedTells_83 {d : Nat} {ls st : List AV} {S : MS} {R : Option AV → MS → Prop} (h : wpI (fun t l s S2 => wpX d mX9_deedTells t l s S2 R) (wpM d) R 84 0 B_X9_deedTells_83 ls st S) : wpX d mX9_deedTells 83 ls st S R := x_step (by decide +kernel) h
def B_X9_deedTells_84 : List AIn := [(.aload_n 0, 0, 0, 0), (.getfield 45, 20, 8, 0), (.bipush 9, 9, 0, 0), (.iload_n 1, 1, 0, 0), (.iadd, 0, 0, 0), (.iaload, 0, 0, 0), (.ireturn, 0, 0, 0)]
theorem s_X9_deedTells_84 {d : Nat} {ls st : List AV} {S : MS} {R : Option AV → MS → Prop} (h : wpI (fun t l s S2 => wpX d mX9_deedTells t l s S2 R) (wpM d) R 94 0 B_X9_deedTells_84 ls st S) : wpX d mX9_deedTells 84 ls st S R := x_step (by decide +kernel) h
def B_X9_deedTells_94 : List AIn := [(.aload_n 0, 0, 0, 0), (.getfield 45, 20, 8, 0), (.iconst 3, 3, 0, 0), (.iaload, 0, 0, 0), (.iload_n 1, 1, 0, 0), (.ishr, 0, 0, 0), (.iconst 1, 1, 0, 0), (.iand, 0, 0, 0), (.ireturn, 0, 0, 0)]
theorem s_X9_deedTells_94 {d : Nat} {ls st : List AV} {S : MS} {R : Option AV → MS → Prop} (h : wpI (fun t l s S2 => wpX d mX9_deedTells t l s S2 R) (wpM d) R 105 0 B_X9_deedTells_94 ls st S) : wpX d mX9_deedTells 94 ls st S R := x_step (by decide +kernel) h
def B_X9_deedTells_105 : List AIn := [(.aload_n 0, 0, 0, 0), (.getfield 45, 20, 8, 0), (.bipush 14, 14, 0, 0), (.iload_n 1, 1, 0, 0), (.iadd, 0, 0, 0), (.iaload, 0, 0, 0), (.ireturn, 0, 0, 0)]
theorem s_X9_deedTells_105 {d : Nat} {ls st : List AV} {S : MS} {R : Option AV → MS → Prop} (h : wpI (fun t l s S2 => wpX d mX9_deedTells t l s S2 R) (wpM d) R 115 0 B_X9_deedTells_105 ls st S) : wpX d mX9_deedTells 105 ls st S R := x_step (by decide +kernel) h
-- NinthDayModel.deed(II)I
def B_X9_deed_0 : List AIn := [(.aload_n 0, 0, 0, 0), (.iload_n 1, 1, 0, 0), (.invokevirtual 183, 161, 2, 8)]
theorem s_X9_deed_0 {d : Nat} {ls st : List AV} {S : MS} {R : Option AV → MS → Prop} (h : wpI (fun t l s S2 => wpX d mX9_deed t l s S2 R) (wpM d) R 5 0 B_X9_deed_0 ls st S) : wpX d mX9_deed 0 ls st S R := x_step (by decide +kernel) h
def B_X9_deed_5 : List AIn := [(.ifCond .eq 27, 32, 7, 0), (.iload_n 2, 2, 0, 0), (.iconst 0, 0, 0, 0), (.bipush 7, 7, 0, 0), (.invokestatic 83, 131, 3, 0)]
theorem s_X9_deed_5 {d : Nat} {ls st : List AV} {S : MS} {R : Option AV → MS → Prop} (h : wpI (fun t l s S2 => wpX d mX9_deed t l s S2 R) (wpM d) R 15 0 B_X9_deed_5 ls st S) : wpX d mX9_deed 5 ls st S R := x_step (by decide +kernel) h
def B_X9_deed_15 : List AIn := [(.ifCond .eq 17, 32, 7, 0), (.aload_n 0, 0, 0, 0), (.aload_n 0, 0, 0, 0), (.iload_n 1, 1, 0, 0), (.iload_n 2, 2, 0, 0), (.invokevirtual 186, 174, 3, 8)]
theorem s_X9_deed_15 {d : Nat} {ls st : List AV} {S : MS} {R : Option AV → MS → Prop} (h : wpI (fun t l s S2 => wpX d mX9_deed t l s S2 R) (wpM d) R 25 7 B_X9_deed_15 ls st S) : wpX d mX9_deed 15 ls st S R := x_step (by decide +kernel) h
def B_X9_deed_25 : List AIn := [(.iconst 1, 1, 0, 0), (.invokevirtual 105, 137, 3, 8)]
theorem s_X9_deed_25 {d : Nat} {ls st : List AV} {S : MS} {R : Option AV → MS → Prop} (h : wpI (fun t l s S2 => wpX d mX9_deed t l s S2 R) (wpM d) R 29 7 B_X9_deed_25 ls st S) : wpX d mX9_deed 25 ls st S R := x_step (by decide +kernel) h
def B_X9_deed_29 : List AIn := [(.goto 4, 33, 7, 0)]
theorem s_X9_deed_29 {d : Nat} {ls st : List AV} {S : MS} {R : Option AV → MS → Prop} (h : wpI (fun t l s S2 => wpX d mX9_deed t l s S2 R) (wpM d) R 32 0 B_X9_deed_29 ls st S) : wpX d mX9_deed 29 ls st S R := x_step (by decide +kernel) h
def B_X9_deed_32 : List AIn := [(.iconst (-1), 1, 1, 0)]
theorem s_X9_deed_32 {d : Nat} {ls st : List AV} {S : MS} {R : Option AV → MS → Prop} (h : wpI (fun t l s S2 => wpX d mX9_deed t l s S2 R) (wpM d) R 33 7 B_X9_deed_32 ls st S) : wpX d mX9_deed 32 ls st S R := x_step (by decide +kernel) h
def B_X9_deed_33 : List AIn := [(.ireturn, 0, 0, 0)]
theorem s_X9_deed_33 {d : Nat} {ls st : List AV} {S : MS} {R : Option AV → MS → Prop} (h : wpI (fun t l s S2 => wpX d mX9_deed t l s S2 R) (wpM d) R 34 0 B_X9_deed_33 ls st S) : wpX d mX9_deed 33 ls st S R := x_step (by decide +kernel) h
-- NinthDayModel.asKind(II)I
def B_X9_asKind_0 : List AIn := [(.iload_n 2, 2, 0, 0), (.aload_n 0, 0, 0, 0), (.getfield 36, 12, 8, 0), (.iload_n 1, 1, 0, 0), (.iaload, 0, 0, 0), (.aload_n 0, 0, 0, 0), (.getfield 45, 20, 8, 0), (.iconst 4, 4, 0, 0), (.iload_n 1, 1, 0, 0), (.iadd, 0, 0, 0), (.iaload, 0, 0, 0), (.aload_n 0, 0, 0, 0), (.getfield 39, 13, 8, 0), (.iload_n 1, 1, 0, 0), (.iaload, 0, 0, 0), (.aload_n 0, 0, 0, 0), (.getfield 45, 20, 8, 0), (.bipush 9, 9, 0, 0), (.iload_n 1, 1, 0, 0), (.iadd, 0, 0, 0), (.iaload, 0, 0, 0), (.aload_n 0, 0, 0, 0), (.getfield 45, 20, 8, 0), (.iconst 0, 0, 0, 0), (.iaload, 0, 0, 0), (.invokestatic 151, 163, 6, 0)]
theorem s_X9_asKind_0 {d : Nat} {ls st : List AV} {S : MS} {R : Option AV → MS → Prop} (h : wpI (fun t l s S2 => wpX d mX9_asKind t l s S2 R) (wpM d) R 39 7 B_X9_asKind_0 ls st S) : wpX d mX9_asKind 0 ls st S R := x_step (by decide +kernel) h
def B_X9_asKind_39 : List AIn := [(.ireturn, 0, 0, 0)]
theorem s_X9_asKind_39 {d : Nat} {ls st : List AV} {S : MS} {R : Option AV → MS → Prop} (h : wpI (fun t l s S2 => wpX d mX9_asKind t l s S2 R) (wpM d) R 40 0 B_X9_asKind_39 ls st S) : wpX d mX9_asKind 39 ls st S R := x_step (by decide +kernel) h
-- NinthDayModel.mark(II)I
def B_X9_mark_0 : List AIn := [(.aload_n 0, 0, 0, 0), (.iload_n 1, 1, 0, 0), (.invokevirtual 183, 161, 2, 8)]
theorem s_X9_mark_0 {d : Nat} {ls st : List AV} {S : MS} {R : Option AV → MS → Prop} (h : wpI (fun t l s S2 => wpX d mX9_mark t l s S2 R) (wpM d) R 5 24 B_X9_mark_0 ls st S) : wpX d mX9_mark 0 ls st S R := x_step (by decide +kernel) h
def B_X9_mark_5 : List AIn := [(.ifCond .eq 12, 17, 31, 0), (.iload_n 2, 2, 0, 0), (.iconst 1, 1, 0, 0), (.iconst 5, 5, 0, 0), (.invokestatic 83, 131, 3, 0)]
theorem s_X9_mark_5 {d : Nat} {ls st : List AV} {S : MS} {R : Option AV → MS → Prop} (h : wpI (fun t l s S2 => wpX d mX9_mark t l s S2 R) (wpM d) R 14 24 B_X9_mark_5 ls st S) : wpX d mX9_mark 5 ls st S R := x_step (by decide +kernel) h
def B_X9_mark_14 : List AIn := [(.ifCond .ne 5, 19, 24, 0)]
theorem s_X9_mark_14 {d : Nat} {ls st : List AV} {S : MS} {R : Option AV → MS → Prop} (h : wpI (fun t l s S2 => wpX d mX9_mark t l s S2 R) (wpM d) R 17 31 B_X9_mark_14 ls st S) : wpX d mX9_mark 14 ls st S R := x_step (by decide +kernel) h
def B_X9_mark_17 : List AIn := [(.iconst (-1), 1, 1, 0), (.ireturn, 0, 0, 0)]
theorem s_X9_mark_17 {d : Nat} {ls st : List AV} {S : MS} {R : Option AV → MS → Prop} (h : wpI (fun t l s S2 => wpX d mX9_mark t l s S2 R) (wpM d) R 19 0 B_X9_mark_17 ls st S) : wpX d mX9_mark 17 ls st S R := x_step (by decide +kernel) h
def B_X9_mark_19 : List AIn := [(.aload_n 0, 0, 0, 0), (.getfield 33, 11, 8, 0), (.iload_n 1, 1, 0, 0), (.iaload, 0, 0, 0), (.istore_n 3, 3, 0, 0), (.iload_n 3, 3, 0, 0), (.iload_n 2, 2, 0, 0), (.if_icmp .eq 29, 57, 24, 0), (.iload_n 2, 2, 0, 0), (.iconst 1, 1, 0, 0), (.if_icmp .ne 8, 41, 16, 0), (.iload_n 3, 3, 0, 0), (.iconst 4, 4, 0, 0), (.if_icmp .eq 19, 57, 24, 0)]
theorem s_X9_mark_19 {d : Nat} {ls st : List AV} {S : MS} {R : Option AV → MS → Prop} (h : wpI (fun t l s S2 => wpX d mX9_mark t l s S2 R) (wpM d) R 41 16 B_X9_mark_19 ls st S) : wpX d mX9_mark 19 ls st S R := x_step (by decide +kernel) h
def B_X9_mark_41 : List AIn := [(.iload_n 2, 2, 0, 0), (.iconst 3, 3, 0, 0), (.if_icmp .ne 8, 51, 30, 0), (.iload_n 3, 3, 0, 0), (.iconst 5, 5, 0, 0), (.if_icmp .eq 9, 57, 24, 0)]
theorem s_X9_mark_41 {d : Nat} {ls st : List AV} {S : MS} {R : Option AV → MS → Prop} (h : wpI (fun t l s S2 => wpX d mX9_mark t l s S2 R) (wpM d) R 51 30 B_X9_mark_41 ls st S) : wpX d mX9_mark 41 ls st S R := x_step (by decide +kernel) h
def B_X9_mark_51 : List AIn := [(.aload_n 0, 0, 0, 0), (.iconst 3, 3, 0, 0), (.invokevirtual 97, 134, 2, 8)]
theorem s_X9_mark_51 {d : Nat} {ls st : List AV} {S : MS} {R : Option AV → MS → Prop} (h : wpI (fun t l s S2 => wpX d mX9_mark t l s S2 R) (wpM d) R 56 31 B_X9_mark_51 ls st S) : wpX d mX9_mark 51 ls st S R := x_step (by decide +kernel) h
def B_X9_mark_56 : List AIn := [(.ireturn, 0, 0, 0)]
theorem s_X9_mark_56 {d : Nat} {ls st : List AV} {S : MS} {R : Option AV → MS → Prop} (h : wpI (fun t l s S2 => wpX d mX9_mark t l s S2 R) (wpM d) R 57 0 B_X9_mark_56 ls st S) : wpX d mX9_mark 56 ls st S R := x_step (by decide +kernel) h
def B_X9_mark_57 : List AIn := [(.aload_n 0, 0, 0, 0), (.aload_n 0, 0, 0, 0), (.getfield 45, 20, 8, 0), (.iload_n 1, 1, 0, 0), (.invokevirtual 159, 164, 3, 8)]
theorem s_X9_mark_57 {d : Nat} {ls st : List AV} {S : MS} {R : Option AV → MS → Prop} (h : wpI (fun t l s S2 => wpX d mX9_mark t l s S2 R) (wpM d) R 66 24 B_X9_mark_57 ls st S) : wpX d mX9_mark 57 ls st S R := x_step (by decide +kernel) h
def B_X9_mark_66 : List AIn := [(.istore 4, 4, 0, 0), (.iload_n 2, 2, 0, 0), (.tableswitch 89 1 4 #[31, 44, 54, 79], 69, 12, 0)]
theorem s_X9_mark_66 {d : Nat} {ls st : List AV} {S : MS} {R : Option AV → MS → Prop} (h : wpI (fun t l s S2 => wpX d mX9_mark t l s S2 R) (wpM d) R 100 0 B_X9_mark_66 ls st S) : wpX d mX9_mark 66 ls st S R := x_step (by decide +kernel) h
def B_X9_mark_100 : List AIn := [(.iconst 3, 3, 0, 0), (.aload_n 0, 0, 0, 0), (.getfield 45, 20, 8, 0), (.iconst 0, 0, 0, 0), (.iaload, 0, 0, 0), (.iconst 3, 3, 0, 0), (.irem, 0, 0, 0), (.isub, 0, 0, 0), (.iconst 3, 3, 0, 0), (.irem, 0, 0, 0), (.ireturn, 0, 0, 0)]
theorem s_X9_mark_100 {d : Nat} {ls st : List AV} {S : MS} {R : Option AV → MS → Prop} (h : wpI (fun t l s S2 => wpX d mX9_mark t l s S2 R) (wpM d) R 113 0 B_X9_mark_100 ls st S) : wpX d mX9_mark 100 ls st S R := x_step (by decide +kernel) h
def B_X9_mark_113 : List AIn := [(.iload 4, 4, 0, 0), (.aload_n 0, 0, 0, 0), (.iload_n 1, 1, 0, 0), (.iconst 0, 0, 0, 0), (.invokevirtual 189, 176, 3, 8)]
theorem s_X9_mark_113 {d : Nat} {ls st : List AV} {S : MS} {R : Option AV → MS → Prop} (h : wpI (fun t l s S2 => wpX d mX9_mark t l s S2 R) (wpM d) R 121 31 B_X9_mark_113 ls st S) : wpX d mX9_mark 113 ls st S R := x_step (by decide +kernel) h
def B_X9_mark_121 : List AIn := [(.isub, 0, 0, 0), (.ireturn, 0, 0, 0)]
theorem s_X9_mark_121 {d : Nat} {ls st : List AV} {S : MS} {R : Option AV → MS → Prop} (h : wpI (fun t l s S2 => wpX d mX9_mark t l s S2 R) (wpM d) R 123 0 B_X9_mark_121 ls st S) : wpX d mX9_mark 121 ls st S R := x_step (by decide +kernel) h
def B_X9_mark_123 : List AIn := [(.aload_n 0, 0, 0, 0), (.iload_n 1, 1, 0, 0), (.iconst 0, 0, 0, 0), (.invokevirtual 189, 176, 3, 8)]
theorem s_X9_mark_123 {d : Nat} {ls st : List AV} {S : MS} {R : Option AV → MS → Prop} (h : wpI (fun t l s S2 => wpX d mX9_mark t l s S2 R) (wpM d) R 129 12 B_X9_mark_123 ls st S) : wpX d mX9_mark 123 ls st S R := x_step (by decide +kernel) h
def B_X9_mark_129 : List AIn := [(.iload 4, 4, 0, 0), (.if_icmp .le 15, 146, 31, 0), (.aload_n 0, 0, 0, 0), (.iload_n 1, 1, 0, 0), (.iconst 0, 0, 0, 0), (.invokevirtual 189, 176, 3, 8)]
theorem s_X9_mark_129 {d : Nat} {ls st : List AV} {S : MS} {R : Option AV → MS → Prop} (h : wpI (fun t l s S2 => wpX d mX9_mark t l s S2 R) (wpM d) R 140 15 B_X9_mark_129 ls st S) : wpX d mX9_mark 129 ls st S R := x_step (by decide +kernel) h
def B_X9_mark_140 : List AIn := [(.iload 4, 4, 0, 0), (.isub, 0, 0, 0), (.goto 4, 147, 31, 0)]
theorem s_X9_mark_140 {d : Nat} {ls st : List AV} {S : MS} {R : Option AV → MS → Prop} (h : wpI (fun t l s S2 => wpX d mX9_mark t l s S2 R) (wpM d) R 146 0 B_X9_mark_140 ls st S) : wpX d mX9_mark 140 ls st S R := x_step (by decide +kernel) h
def B_X9_mark_146 : List AIn := [(.iconst 0, 0, 0, 0)]
theorem s_X9_mark_146 {d : Nat} {ls st : List AV} {S : MS} {R : Option AV → MS → Prop} (h : wpI (fun t l s S2 => wpX d mX9_mark t l s S2 R) (wpM d) R 147 31 B_X9_mark_146 ls st S) : wpX d mX9_mark 146 ls st S R := x_step (by decide +kernel) h
def B_X9_mark_147 : List AIn := [(.ireturn, 0, 0, 0)]
theorem s_X9_mark_147 {d : Nat} {ls st : List AV} {S : MS} {R : Option AV → MS → Prop} (h : wpI (fun t l s S2 => wpX d mX9_mark t l s S2 R) (wpM d) R 148 0 B_X9_mark_147 ls st S) : wpX d mX9_mark 147 ls st S R := x_step (by decide +kernel) h
def B_X9_mark_148 : List AIn := [(.aload_n 0, 0, 0, 0), (.iload_n 1, 1, 0, 0), (.iconst 1, 1, 0, 0), (.invokevirtual 189, 176, 3, 8)]
theorem s_X9_mark_148 {d : Nat} {ls st : List AV} {S : MS} {R : Option AV → MS → Prop} (h : wpI (fun t l s S2 => wpX d mX9_mark t l s S2 R) (wpM d) R 154 15 B_X9_mark_148 ls st S) : wpX d mX9_mark 148 ls st S R := x_step (by decide +kernel) h
def B_X9_mark_154 : List AIn := [(.iload 4, 4, 0, 0), (.isub, 0, 0, 0), (.ireturn, 0, 0, 0)]
theorem s_X9_mark_154 {d : Nat} {ls st : List AV} {S : MS} {R : Option AV → MS → Prop} (h : wpI (fun t l s S2 => wpX d mX9_mark t l s S2 R) (wpM d) R 158 0 B_X9_mark_154 ls st S) : wpX d mX9_mark 154 ls st S R := x_step (by decide +kernel) h
def B_X9_mark_158 : List AIn := [(.aload_n 0, 0, 0, 0), (.getfield 45, 20, 8, 0), (.bipush 9, 9, 0, 0), (.iload_n 1, 1, 0, 0), (.iadd, 0, 0, 0), (.iaload, 0, 0, 0), (.ifCond .ne 7, 174, 31, 0), (.iconst 1, 1, 0, 0), (.goto 4, 175, 31, 0)]
theorem s_X9_mark_158 {d : Nat} {ls st : List AV} {S : MS} {R : Option AV → MS → Prop} (h : wpI (fun t l s S2 => wpX d mX9_mark t l s S2 R) (wpM d) R 174 0 B_X9_mark_158 ls st S) : wpX d mX9_mark 158 ls st S R := x_step (by decide +kernel) h
def B_X9_mark_174 : List AIn := [(.iconst 0, 0, 0, 0)]
theorem s_X9_mark_174 {d : Nat} {ls st : List AV} {S : MS} {R : Option AV → MS → Prop} (h : wpI (fun t l s S2 => wpX d mX9_mark t l s S2 R) (wpM d) R 175 31 B_X9_mark_174 ls st S) : wpX d mX9_mark 174 ls st S R := x_step (by decide +kernel) h
def B_X9_mark_175 : List AIn := [(.ireturn, 0, 0, 0)]
theorem s_X9_mark_175 {d : Nat} {ls st : List AV} {S : MS} {R : Option AV → MS → Prop} (h : wpI (fun t l s S2 => wpX d mX9_mark t l s S2 R) (wpM d) R 176 0 B_X9_mark_175 ls st S) : wpX d mX9_mark 175 ls st S R := x_step (by decide +kernel) h
-- NinthDayModel.remember()V
def B_X9_remember_0 : List AIn := [(.iconst 0, 0, 0, 0), (.istore_n 1, 1, 0, 0)]
theorem s_X9_remember_0 {d : Nat} {ls st : List AV} {S : MS} {R : Option AV → MS → Prop} (h : wpI (fun t l s S2 => wpX d mX9_remember t l s S2 R) (wpM d) R 2 0 B_X9_remember_0 ls st S) : wpX d mX9_remember 0 ls st S R := x_step (by decide +kernel) h
def B_X9_remember_2 : List AIn := [(.iload_n 1, 1, 0, 0), (.bipush 19, 19, 0, 0), (.if_icmp .ge 29, 34, 2, 0), (.aload_n 0, 0, 0, 0), (.getfield 51, 23, 8, 0), (.bipush 19, 19, 0, 0), (.aload_n 0, 0, 0, 0), (.getfield 148, 22, 8, 0), (.imul, 0, 0, 0), (.iload_n 1, 1, 0, 0), (.iadd, 0, 0, 0), (.aload_n 0, 0, 0, 0), (.getfield 45, 20, 8, 0), (.iload_n 1, 1, 0, 0), (.iaload, 0, 0, 0), (.iastore, 0, 0, 0), (.iinc 1 1, 1, 0, 0), (.goto (-29), 2, 0, 0)]
theorem s_X9_remember_2 {d : Nat} {ls st : List AV} {S : MS} {R : Option AV → MS → Prop} (h : wpI (fun t l s S2 => wpX d mX9_remember t l s S2 R) (wpM d) R 34 0 B_X9_remember_2 ls st S) : wpX d mX9_remember 2 ls st S R := x_step (by decide +kernel) h
def B_X9_remember_34 : List AIn := [(.aload_n 0, 0, 0, 0), (.dup, 0, 0, 0), (.getfield 148, 22, 8, 0), (.iconst 1, 1, 0, 0), (.iadd, 0, 0, 0), (.putfield 148, 22, 8, 0), (.return_, 0, 0, 0)]
theorem s_X9_remember_34 {d : Nat} {ls st : List AV} {S : MS} {R : Option AV → MS → Prop} (h : wpI (fun t l s S2 => wpX d mX9_remember t l s S2 R) (wpM d) R 45 0 B_X9_remember_34 ls st S) : wpX d mX9_remember 34 ls st S R := x_step (by decide +kernel) h
-- NinthDayModel.day(II)I
def B_X9_day_0 : List AIn := [(.aload_n 0, 0, 0, 0), (.iload_n 1, 1, 0, 0), (.invokevirtual 192, 162, 2, 8)]
theorem s_X9_day_0 {d : Nat} {ls st : List AV} {S : MS} {R : Option AV → MS → Prop} (h : wpI (fun t l s S2 => wpX d mX9_day t l s S2 R) (wpM d) R 5 8 B_X9_day_0 ls st S) : wpX d mX9_day 0 ls st S R := x_step (by decide +kernel) h
def B_X9_day_5 : List AIn := [(.ifCond .eq 34, 39, 8, 0), (.aload_n 0, 0, 0, 0), (.iload_n 2, 2, 0, 0), (.invokevirtual 192, 162, 2, 8)]
theorem s_X9_day_5 {d : Nat} {ls st : List AV} {S : MS} {R : Option AV → MS → Prop} (h : wpI (fun t l s S2 => wpX d mX9_day t l s S2 R) (wpM d) R 13 8 B_X9_day_5 ls st S) : wpX d mX9_day 5 ls st S R := x_step (by decide +kernel) h
def B_X9_day_13 : List AIn := [(.ifCond .eq 26, 39, 8, 0), (.iload_n 1, 1, 0, 0), (.iload_n 2, 2, 0, 0), (.iand, 0, 0, 0), (.ifCond .ne 20, 39, 8, 0), (.iload_n 1, 1, 0, 0), (.iload_n 2, 2, 0, 0), (.ior, 0, 0, 0), (.aload_n 0, 0, 0, 0), (.getfield 45, 20, 8, 0), (.iconst 3, 3, 0, 0), (.iaload, 0, 0, 0), (.iand, 0, 0, 0), (.ifCond .ne 7, 39, 8, 0), (.iconst 1, 1, 0, 0), (.goto 4, 40, 8, 0)]
theorem s_X9_day_13 {d : Nat} {ls st : List AV} {S : MS} {R : Option AV → MS → Prop} (h : wpI (fun t l s S2 => wpX d mX9_day t l s S2 R) (wpM d) R 39 0 B_X9_day_13 ls st S) : wpX d mX9_day 13 ls st S R := x_step (by decide +kernel) h
def B_X9_day_39 : List AIn := [(.iconst 0, 0, 0, 0)]
theorem s_X9_day_39 {d : Nat} {ls st : List AV} {S : MS} {R : Option AV → MS → Prop} (h : wpI (fun t l s S2 => wpX d mX9_day t l s S2 R) (wpM d) R 40 8 B_X9_day_39 ls st S) : wpX d mX9_day 39 ls st S R := x_step (by decide +kernel) h
def B_X9_day_40 : List AIn := [(.istore_n 3, 3, 0, 0), (.iload_n 3, 3, 0, 0), (.ifCond .ne 5, 47, 8, 0), (.iconst (-1), 1, 1, 0), (.ireturn, 0, 0, 0)]
theorem s_X9_day_40 {d : Nat} {ls st : List AV} {S : MS} {R : Option AV → MS → Prop} (h : wpI (fun t l s S2 => wpX d mX9_day t l s S2 R) (wpM d) R 47 0 B_X9_day_40 ls st S) : wpX d mX9_day 40 ls st S R := x_step (by decide +kernel) h
def B_X9_day_47 : List AIn := [(.aload_n 0, 0, 0, 0), (.getfield 145, 10, 8, 0), (.ifCond .ne 6, 57, 8, 0), (.bipush (-4), 4, 1, 0), (.ireturn, 0, 0, 0)]
theorem s_X9_day_47 {d : Nat} {ls st : List AV} {S : MS} {R : Option AV → MS → Prop} (h : wpI (fun t l s S2 => wpX d mX9_day t l s S2 R) (wpM d) R 57 0 B_X9_day_47 ls st S) : wpX d mX9_day 47 ls st S R := x_step (by decide +kernel) h
def B_X9_day_57 : List AIn := [(.aload_n 0, 0, 0, 0), (.aload_n 0, 0, 0, 0), (.getfield 45, 20, 8, 0), (.iload_n 1, 1, 0, 0), (.invokevirtual 195, 165, 3, 8)]
theorem s_X9_day_57 {d : Nat} {ls st : List AV} {S : MS} {R : Option AV → MS → Prop} (h : wpI (fun t l s S2 => wpX d mX9_day t l s S2 R) (wpM d) R 66 8 B_X9_day_57 ls st S) : wpX d mX9_day 57 ls st S R := x_step (by decide +kernel) h
def B_X9_day_66 : List AIn := [(.aload_n 0, 0, 0, 0), (.getfield 45, 20, 8, 0), (.iconst 1, 1, 0, 0), (.iaload, 0, 0, 0), (.if_icmp .gt 16, 88, 15, 0), (.iload_n 2, 2, 0, 0), (.invokestatic 176, 133, 1, 0)]
theorem s_X9_day_66 {d : Nat} {ls st : List AV} {S : MS} {R : Option AV → MS → Prop} (h : wpI (fun t l s S2 => wpX d mX9_day t l s S2 R) (wpM d) R 79 8 B_X9_day_66 ls st S) : wpX d mX9_day 66 ls st S R := x_step (by decide +kernel) h
def B_X9_day_79 : List AIn := [(.aload_n 0, 0, 0, 0), (.getfield 45, 20, 8, 0), (.iconst 2, 2, 0, 0), (.iaload, 0, 0, 0), (.if_icmp .le 6, 91, 8, 0)]
theorem s_X9_day_79 {d : Nat} {ls st : List AV} {S : MS} {R : Option AV → MS → Prop} (h : wpI (fun t l s S2 => wpX d mX9_day t l s S2 R) (wpM d) R 88 15 B_X9_day_79 ls st S) : wpX d mX9_day 79 ls st S R := x_step (by decide +kernel) h
def B_X9_day_88 : List AIn := [(.bipush (-6), 6, 1, 0), (.ireturn, 0, 0, 0)]
theorem s_X9_day_88 {d : Nat} {ls st : List AV} {S : MS} {R : Option AV → MS → Prop} (h : wpI (fun t l s S2 => wpX d mX9_day t l s S2 R) (wpM d) R 91 0 B_X9_day_88 ls st S) : wpX d mX9_day 88 ls st S R := x_step (by decide +kernel) h
def B_X9_day_91 : List AIn := [(.aload_n 0, 0, 0, 0), (.getfield 148, 22, 8, 0), (.bipush 40, 40, 0, 0), (.if_icmp .ne 6, 103, 8, 0), (.bipush (-2), 2, 1, 0), (.ireturn, 0, 0, 0)]
theorem s_X9_day_91 {d : Nat} {ls st : List AV} {S : MS} {R : Option AV → MS → Prop} (h : wpI (fun t l s S2 => wpX d mX9_day t l s S2 R) (wpM d) R 103 0 B_X9_day_91 ls st S) : wpX d mX9_day 91 ls st S R := x_step (by decide +kernel) h
def B_X9_day_103 : List AIn := [(.aload_n 0, 0, 0, 0), (.invokevirtual 198, 178, 1, 8)]
theorem s_X9_day_103 {d : Nat} {ls st : List AV} {S : MS} {R : Option AV → MS → Prop} (h : wpI (fun t l s S2 => wpX d mX9_day t l s S2 R) (wpM d) R 107 8 B_X9_day_103 ls st S) : wpX d mX9_day 103 ls st S R := x_step (by decide +kernel) h
def B_X9_day_107 : List AIn := [(.aload_n 0, 0, 0, 0), (.aload_n 0, 0, 0, 0), (.getfield 45, 20, 8, 0), (.iload_n 1, 1, 0, 0), (.iload_n 2, 2, 0, 0), (.invokevirtual 201, 170, 4, 8)]
theorem s_X9_day_107 {d : Nat} {ls st : List AV} {S : MS} {R : Option AV → MS → Prop} (h : wpI (fun t l s S2 => wpX d mX9_day t l s S2 R) (wpM d) R 117 13 B_X9_day_107 ls st S) : wpX d mX9_day 107 ls st S R := x_step (by decide +kernel) h
def B_X9_day_117 : List AIn := [(.iload_n 1, 1, 0, 0), (.invokestatic 176, 133, 1, 0)]
theorem s_X9_day_117 {d : Nat} {ls st : List AV} {S : MS} {R : Option AV → MS → Prop} (h : wpI (fun t l s S2 => wpX d mX9_day t l s S2 R) (wpM d) R 121 15 B_X9_day_117 ls st S) : wpX d mX9_day 117 ls st S R := x_step (by decide +kernel) h
def B_X9_day_121 : List AIn := [(.ireturn, 0, 0, 0)]
theorem s_X9_day_121 {d : Nat} {ls st : List AV} {S : MS} {R : Option AV → MS → Prop} (h : wpI (fun t l s S2 => wpX d mX9_day t l s S2 R) (wpM d) R 122 0 B_X9_day_121 ls st S) : wpX d mX9_day 121 ls st S R := x_step (by decide +kernel) h
-- NinthDayModel.drop(I)I
def B_X9_drop_0 : List AIn := [(.aload_n 0, 0, 0, 0), (.iload_n 1, 1, 0, 0), (.invokevirtual 183, 161, 2, 8)]
theorem s_X9_drop_0 {d : Nat} {ls st : List AV} {S : MS} {R : Option AV → MS → Prop} (h : wpI (fun t l s S2 => wpX d mX9_drop t l s S2 R) (wpM d) R 5 0 B_X9_drop_0 ls st S) : wpX d mX9_drop 0 ls st S R := x_step (by decide +kernel) h
def B_X9_drop_5 : List AIn := [(.ifCond .ne 5, 10, 0, 0), (.iconst (-1), 1, 1, 0), (.ireturn, 0, 0, 0)]
theorem s_X9_drop_5 {d : Nat} {ls st : List AV} {S : MS} {R : Option AV → MS → Prop} (h : wpI (fun t l s S2 => wpX d mX9_drop t l s S2 R) (wpM d) R 10 0 B_X9_drop_5 ls st S) : wpX d mX9_drop 5 ls st S R := x_step (by decide +kernel) h
def B_X9_drop_10 : List AIn := [(.aload_n 0, 0, 0, 0), (.getfield 45, 20, 8, 0), (.iconst 3, 3, 0, 0), (.iaload, 0, 0, 0), (.iload_n 1, 1, 0, 0), (.invokestatic 155, 132, 2, 0)]
theorem s_X9_drop_10 {d : Nat} {ls st : List AV} {S : MS} {R : Option AV → MS → Prop} (h : wpI (fun t l s S2 => wpX d mX9_drop t l s S2 R) (wpM d) R 20 0 B_X9_drop_10 ls st S) : wpX d mX9_drop 10 ls st S R := x_step (by decide +kernel) h
def B_X9_drop_20 : List AIn := [(.ifCond .eq 6, 26, 0, 0), (.bipush (-4), 4, 1, 0), (.ireturn, 0, 0, 0)]
theorem s_X9_drop_20 {d : Nat} {ls st : List AV} {S : MS} {R : Option AV → MS → Prop} (h : wpI (fun t l s S2 => wpX d mX9_drop t l s S2 R) (wpM d) R 26 0 B_X9_drop_20 ls st S) : wpX d mX9_drop 20 ls st S R := x_step (by decide +kernel) h
def B_X9_drop_26 : List AIn := [(.aload_n 0, 0, 0, 0), (.getfield 148, 22, 8, 0), (.bipush 40, 40, 0, 0), (.if_icmp .ne 6, 38, 0, 0), (.bipush (-2), 2, 1, 0), (.ireturn, 0, 0, 0)]
theorem s_X9_drop_26 {d : Nat} {ls st : List AV} {S : MS} {R : Option AV → MS → Prop} (h : wpI (fun t l s S2 => wpX d mX9_drop t l s S2 R) (wpM d) R 38 0 B_X9_drop_26 ls st S) : wpX d mX9_drop 26 ls st S R := x_step (by decide +kernel) h
def B_X9_drop_38 : List AIn := [(.aload_n 0, 0, 0, 0), (.invokevirtual 198, 178, 1, 8)]
theorem s_X9_drop_38 {d : Nat} {ls st : List AV} {S : MS} {R : Option AV → MS → Prop} (h : wpI (fun t l s S2 => wpX d mX9_drop t l s S2 R) (wpM d) R 42 0 B_X9_drop_38 ls st S) : wpX d mX9_drop 38 ls st S R := x_step (by decide +kernel) h
def B_X9_drop_42 : List AIn := [(.aload_n 0, 0, 0, 0), (.getfield 45, 20, 8, 0), (.iconst 3, 3, 0, 0), (.dup2, 0, 0, 0), (.iaload, 0, 0, 0), (.iconst 1, 1, 0, 0), (.iload_n 1, 1, 0, 0), (.ishl, 0, 0, 0), (.ior, 0, 0, 0), (.iastore, 0, 0, 0), (.aload_n 0, 0, 0, 0), (.aload_n 0, 0, 0, 0), (.getfield 45, 20, 8, 0), (.invokevirtual 169, 169, 2, 8)]
theorem s_X9_drop_42 {d : Nat} {ls st : List AV} {S : MS} {R : Option AV → MS → Prop} (h : wpI (fun t l s S2 => wpX d mX9_drop t l s S2 R) (wpM d) R 62 3 B_X9_drop_42 ls st S) : wpX d mX9_drop 42 ls st S R := x_step (by decide +kernel) h
def B_X9_drop_62 : List AIn := [(.invokestatic 176, 133, 1, 0)]
theorem s_X9_drop_62 {d : Nat} {ls st : List AV} {S : MS} {R : Option AV → MS → Prop} (h : wpI (fun t l s S2 => wpX d mX9_drop t l s S2 R) (wpM d) R 65 3 B_X9_drop_62 ls st S) : wpX d mX9_drop 62 ls st S R := x_step (by decide +kernel) h
def B_X9_drop_65 : List AIn := [(.ireturn, 0, 0, 0)]
theorem s_X9_drop_65 {d : Nat} {ls st : List AV} {S : MS} {R : Option AV → MS → Prop} (h : wpI (fun t l s S2 => wpX d mX9_drop t l s S2 R) (wpM d) R 66 0 B_X9_drop_65 ls st S) : wpX d mX9_drop 65 ls st S R := x_step (by decide +kernel) h
-- NinthDayModel.take(I)I
def B_X9_take_0 : List AIn := [(.aload_n 0, 0, 0, 0), (.iload_n 1, 1, 0, 0), (.invokevirtual 183, 161, 2, 8)]
theorem s_X9_take_0 {d : Nat} {ls st : List AV} {S : MS} {R : Option AV → MS → Prop} (h : wpI (fun t l s S2 => wpX d mX9_take t l s S2 R) (wpM d) R 5 0 B_X9_take_0 ls st S) : wpX d mX9_take 0 ls st S R := x_step (by decide +kernel) h
def B_X9_take_5 : List AIn := [(.ifCond .ne 5, 10, 0, 0), (.iconst (-1), 1, 1, 0), (.ireturn, 0, 0, 0)]
theorem s_X9_take_5 {d : Nat} {ls st : List AV} {S : MS} {R : Option AV → MS → Prop} (h : wpI (fun t l s S2 => wpX d mX9_take t l s S2 R) (wpM d) R 10 0 B_X9_take_5 ls st S) : wpX d mX9_take 5 ls st S R := x_step (by decide +kernel) h
def B_X9_take_10 : List AIn := [(.aload_n 0, 0, 0, 0), (.getfield 45, 20, 8, 0), (.iconst 3, 3, 0, 0), (.iaload, 0, 0, 0), (.iload_n 1, 1, 0, 0), (.invokestatic 155, 132, 2, 0)]
theorem s_X9_take_10 {d : Nat} {ls st : List AV} {S : MS} {R : Option AV → MS → Prop} (h : wpI (fun t l s S2 => wpX d mX9_take t l s S2 R) (wpM d) R 20 0 B_X9_take_10 ls st S) : wpX d mX9_take 10 ls st S R := x_step (by decide +kernel) h
def B_X9_take_20 : List AIn := [(.ifCond .ne 6, 26, 0, 0), (.bipush (-4), 4, 1, 0), (.ireturn, 0, 0, 0)]
theorem s_X9_take_20 {d : Nat} {ls st : List AV} {S : MS} {R : Option AV → MS → Prop} (h : wpI (fun t l s S2 => wpX d mX9_take t l s S2 R) (wpM d) R 26 0 B_X9_take_20 ls st S) : wpX d mX9_take 20 ls st S R := x_step (by decide +kernel) h
def B_X9_take_26 : List AIn := [(.aload_n 0, 0, 0, 0), (.getfield 148, 22, 8, 0), (.bipush 40, 40, 0, 0), (.if_icmp .ne 6, 38, 0, 0), (.bipush (-2), 2, 1, 0), (.ireturn, 0, 0, 0)]
theorem s_X9_take_26 {d : Nat} {ls st : List AV} {S : MS} {R : Option AV → MS → Prop} (h : wpI (fun t l s S2 => wpX d mX9_take t l s S2 R) (wpM d) R 38 0 B_X9_take_26 ls st S) : wpX d mX9_take 26 ls st S R := x_step (by decide +kernel) h
def B_X9_take_38 : List AIn := [(.aload_n 0, 0, 0, 0), (.invokevirtual 198, 178, 1, 8)]
theorem s_X9_take_38 {d : Nat} {ls st : List AV} {S : MS} {R : Option AV → MS → Prop} (h : wpI (fun t l s S2 => wpX d mX9_take t l s S2 R) (wpM d) R 42 0 B_X9_take_38 ls st S) : wpX d mX9_take 38 ls st S R := x_step (by decide +kernel) h
def B_X9_take_42 : List AIn := [(.aload_n 0, 0, 0, 0), (.getfield 45, 20, 8, 0), (.iconst 3, 3, 0, 0), (.dup2, 0, 0, 0), (.iaload, 0, 0, 0), (.iconst 1, 1, 0, 0), (.iload_n 1, 1, 0, 0), (.ishl, 0, 0, 0), (.iconst (-1), 1, 1, 0), (.ixor, 0, 0, 0), (.iand, 0, 0, 0), (.iastore, 0, 0, 0), (.aload_n 0, 0, 0, 0), (.getfield 45, 20, 8, 0), (.bipush 9, 9, 0, 0), (.iload_n 1, 1, 0, 0), (.iadd, 0, 0, 0), (.iconst 0, 0, 0, 0), (.iastore, 0, 0, 0), (.aload_n 0, 0, 0, 0), (.aload_n 0, 0, 0, 0), (.getfield 45, 20, 8, 0), (.invokevirtual 169, 169, 2, 8)]
theorem s_X9_take_42 {d : Nat} {ls st : List AV} {S : MS} {R : Option AV → MS → Prop} (h : wpI (fun t l s S2 => wpX d mX9_take t l s S2 R) (wpM d) R 74 3 B_X9_take_42 ls st S) : wpX d mX9_take 42 ls st S R := x_step (by decide +kernel) h
def B_X9_take_74 : List AIn := [(.invokestatic 176, 133, 1, 0)]
theorem s_X9_take_74 {d : Nat} {ls st : List AV} {S : MS} {R : Option AV → MS → Prop} (h : wpI (fun t l s S2 => wpX d mX9_take t l s S2 R) (wpM d) R 77 3 B_X9_take_74 ls st S) : wpX d mX9_take 74 ls st S R := x_step (by decide +kernel) h
def B_X9_take_77 : List AIn := [(.ireturn, 0, 0, 0)]
theorem s_X9_take_77 {d : Nat} {ls st : List AV} {S : MS} {R : Option AV → MS → Prop} (h : wpI (fun t l s S2 => wpX d mX9_take t l s S2 R) (wpM d) R 78 0 B_X9_take_77 ls st S) : wpX d mX9_take 77 ls st S R := x_step (by decide +kernel) h
-- NinthDayModel.will(I)I
def B_X9_will_0 : List AIn := [(.iload_n 1, 1, 0, 0), (.iconst 0, 0, 0, 0), (.bipush 40, 40, 0, 0), (.invokestatic 83, 131, 3, 0)]
theorem s_X9_will_0 {d : Nat} {ls st : List AV} {S : MS} {R : Option AV → MS → Prop} (h : wpI (fun t l s S2 => wpX d mX9_will t l s S2 R) (wpM d) R 7 4 B_X9_will_0 ls st S) : wpX d mX9_will 0 ls st S R := x_step (by decide +kernel) h
def B_X9_will_7 : List AIn := [(.ifCond .ne 5, 12, 4, 0), (.iconst (-1), 1, 1, 0), (.ireturn, 0, 0, 0)]
theorem s_X9_will_7 {d : Nat} {ls st : List AV} {S : MS} {R : Option AV → MS → Prop} (h : wpI (fun t l s S2 => wpX d mX9_will t l s S2 R) (wpM d) R 12 0 B_X9_will_7 ls st S) : wpX d mX9_will 7 ls st S R := x_step (by decide +kernel) h
def B_X9_will_12 : List AIn := [(.aload_n 0, 0, 0, 0), (.getfield 145, 10, 8, 0), (.ifCond .eq 13, 29, 7, 0), (.aload_n 0, 0, 0, 0), (.getfield 45, 20, 8, 0), (.iconst 1, 1, 0, 0), (.iaload, 0, 0, 0), (.iload_n 1, 1, 0, 0), (.if_icmp .ne 6, 32, 4, 0)]
theorem s_X9_will_12 {d : Nat} {ls st : List AV} {S : MS} {R : Option AV → MS → Prop} (h : wpI (fun t l s S2 => wpX d mX9_will t l s S2 R) (wpM d) R 29 7 B_X9_will_12 ls st S) : wpX d mX9_will 12 ls st S R := x_step (by decide +kernel) h
def B_X9_will_29 : List AIn := [(.bipush (-4), 4, 1, 0), (.ireturn, 0, 0, 0)]
theorem s_X9_will_29 {d : Nat} {ls st : List AV} {S : MS} {R : Option AV → MS → Prop} (h : wpI (fun t l s S2 => wpX d mX9_will t l s S2 R) (wpM d) R 32 0 B_X9_will_29 ls st S) : wpX d mX9_will 29 ls st S R := x_step (by decide +kernel) h
def B_X9_will_32 : List AIn := [(.aload_n 0, 0, 0, 0), (.getfield 148, 22, 8, 0), (.bipush 40, 40, 0, 0), (.if_icmp .ne 6, 44, 4, 0), (.bipush (-2), 2, 1, 0), (.ireturn, 0, 0, 0)]
theorem s_X9_will_32 {d : Nat} {ls st : List AV} {S : MS} {R : Option AV → MS → Prop} (h : wpI (fun t l s S2 => wpX d mX9_will t l s S2 R) (wpM d) R 44 0 B_X9_will_32 ls st S) : wpX d mX9_will 32 ls st S R := x_step (by decide +kernel) h
def B_X9_will_44 : List AIn := [(.aload_n 0, 0, 0, 0), (.invokevirtual 198, 178, 1, 8)]
theorem s_X9_will_44 {d : Nat} {ls st : List AV} {S : MS} {R : Option AV → MS → Prop} (h : wpI (fun t l s S2 => wpX d mX9_will t l s S2 R) (wpM d) R 48 4 B_X9_will_44 ls st S) : wpX d mX9_will 44 ls st S R := x_step (by decide +kernel) h
def B_X9_will_48 : List AIn := [(.aload_n 0, 0, 0, 0), (.getfield 45, 20, 8, 0), (.iconst 1, 1, 0, 0), (.iaload, 0, 0, 0), (.istore_n 2, 2, 0, 0), (.aload_n 0, 0, 0, 0), (.getfield 45, 20, 8, 0), (.iconst 1, 1, 0, 0), (.iload_n 1, 1, 0, 0), (.iastore, 0, 0, 0), (.iload_n 2, 2, 0, 0), (.ireturn, 0, 0, 0)]
theorem s_X9_will_48 {d : Nat} {ls st : List AV} {S : MS} {R : Option AV → MS → Prop} (h : wpI (fun t l s S2 => wpX d mX9_will t l s S2 R) (wpM d) R 64 0 B_X9_will_48 ls st S) : wpX d mX9_will 48 ls st S R := x_step (by decide +kernel) h
-- NinthDayModel.undo(I)I
def B_X9_undo_0 : List AIn := [(.iload_n 1, 1, 0, 0), (.iconst 0, 0, 0, 0), (.aload_n 0, 0, 0, 0), (.getfield 148, 22, 8, 0), (.invokestatic 83, 131, 3, 0)]
theorem s_X9_undo_0 {d : Nat} {ls st : List AV} {S : MS} {R : Option AV → MS → Prop} (h : wpI (fun t l s S2 => wpX d mX9_undo t l s S2 R) (wpM d) R 9 12 B_X9_undo_0 ls st S) : wpX d mX9_undo 0 ls st S R := x_step (by decide +kernel) h
def B_X9_undo_9 : List AIn := [(.ifCond .ne 5, 14, 12, 0), (.iconst (-1), 1, 1, 0), (.ireturn, 0, 0, 0)]
theorem s_X9_undo_9 {d : Nat} {ls st : List AV} {S : MS} {R : Option AV → MS → Prop} (h : wpI (fun t l s S2 => wpX d mX9_undo t l s S2 R) (wpM d) R 14 0 B_X9_undo_9 ls st S) : wpX d mX9_undo 9 ls st S R := x_step (by decide +kernel) h
def B_X9_undo_14 : List AIn := [(.aload_n 0, 0, 0, 0), (.getfield 148, 22, 8, 0), (.iload_n 1, 1, 0, 0), (.isub, 0, 0, 0), (.istore_n 2, 2, 0, 0), (.iconst 0, 0, 0, 0), (.istore_n 3, 3, 0, 0)]
theorem s_X9_undo_14 {d : Nat} {ls st : List AV} {S : MS} {R : Option AV → MS → Prop} (h : wpI (fun t l s S2 => wpX d mX9_undo t l s S2 R) (wpM d) R 23 0 B_X9_undo_14 ls st S) : wpX d mX9_undo 14 ls st S R := x_step (by decide +kernel) h
def B_X9_undo_23 : List AIn := [(.iload_n 3, 3, 0, 0), (.bipush 19, 19, 0, 0), (.if_icmp .ge 30, 56, 8, 0), (.iload_n 2, 2, 0, 0), (.ifCond .le 26, 56, 8, 0), (.aload_n 0, 0, 0, 0), (.getfield 45, 20, 8, 0), (.iload_n 3, 3, 0, 0), (.aload_n 0, 0, 0, 0), (.getfield 51, 23, 8, 0), (.bipush 19, 19, 0, 0), (.iload_n 1, 1, 0, 0), (.imul, 0, 0, 0), (.iload_n 3, 3, 0, 0), (.iadd, 0, 0, 0), (.iaload, 0, 0, 0), (.iastore, 0, 0, 0), (.iinc 3 1, 1, 0, 0), (.goto (-30), 23, 0, 0)]
theorem s_X9_undo_23 {d : Nat} {ls st : List AV} {S : MS} {R : Option AV → MS → Prop} (h : wpI (fun t l s S2 => wpX d mX9_undo t l s S2 R) (wpM d) R 56 0 B_X9_undo_23 ls st S) : wpX d mX9_undo 23 ls st S R := x_step (by decide +kernel) h
def B_X9_undo_56 : List AIn := [(.aload_n 0, 0, 0, 0), (.iload_n 1, 1, 0, 0), (.putfield 148, 22, 8, 0), (.iload_n 2, 2, 0, 0), (.ireturn, 0, 0, 0)]
theorem s_X9_undo_56 {d : Nat} {ls st : List AV} {S : MS} {R : Option AV → MS → Prop} (h : wpI (fun t l s S2 => wpX d mX9_undo t l s S2 R) (wpM d) R 63 0 B_X9_undo_56 ls st S) : wpX d mX9_undo 56 ls st S R := x_step (by decide +kernel) h
-- NinthDayModel.keep(I)I
def B_X9_keep_0 : List AIn := [(.iload_n 1, 1, 0, 0), (.iconst 0, 0, 0, 0), (.iconst 2, 2, 0, 0), (.invokestatic 83, 131, 3, 0)]
theorem s_X9_keep_0 {d : Nat} {ls st : List AV} {S : MS} {R : Option AV → MS → Prop} (h : wpI (fun t l s S2 => wpX d mX9_keep t l s S2 R) (wpM d) R 6 4 B_X9_keep_0 ls st S) : wpX d mX9_keep 0 ls st S R := x_step (by decide +kernel) h
def B_X9_keep_6 : List AIn := [(.ifCond .ne 5, 11, 4, 0), (.iconst (-1), 1, 1, 0), (.ireturn, 0, 0, 0)]
theorem s_X9_keep_6 {d : Nat} {ls st : List AV} {S : MS} {R : Option AV → MS → Prop} (h : wpI (fun t l s S2 => wpX d mX9_keep t l s S2 R) (wpM d) R 11 0 B_X9_keep_6 ls st S) : wpX d mX9_keep 6 ls st S R := x_step (by decide +kernel) h
def B_X9_keep_11 : List AIn := [(.aload_n 0, 0, 0, 0), (.getfield 145, 10, 8, 0), (.ifCond .ne 6, 21, 4, 0), (.bipush (-4), 4, 1, 0), (.ireturn, 0, 0, 0)]
theorem s_X9_keep_11 {d : Nat} {ls st : List AV} {S : MS} {R : Option AV → MS → Prop} (h : wpI (fun t l s S2 => wpX d mX9_keep t l s S2 R) (wpM d) R 21 0 B_X9_keep_11 ls st S) : wpX d mX9_keep 11 ls st S R := x_step (by decide +kernel) h
def B_X9_keep_21 : List AIn := [(.aload_n 0, 0, 0, 0), (.getfield 54, 24, 8, 0), (.iload_n 1, 1, 0, 0), (.iconst 1, 1, 0, 0), (.bastore, 0, 0, 0), (.aload_n 0, 0, 0, 0), (.getfield 58, 25, 8, 0), (.iload_n 1, 1, 0, 0), (.aload_n 0, 0, 0, 0), (.getfield 148, 22, 8, 0), (.iastore, 0, 0, 0), (.iconst 0, 0, 0, 0), (.istore_n 2, 2, 0, 0)]
theorem s_X9_keep_21 {d : Nat} {ls st : List AV} {S : MS} {R : Option AV → MS → Prop} (h : wpI (fun t l s S2 => wpX d mX9_keep t l s S2 R) (wpM d) R 40 0 B_X9_keep_21 ls st S) : wpX d mX9_keep 21 ls st S R := x_step (by decide +kernel) h
def B_X9_keep_40 : List AIn := [(.iload_n 2, 2, 0, 0), (.bipush 19, 19, 0, 0), (.if_icmp .ge 26, 69, 4, 0), (.aload_n 0, 0, 0, 0), (.getfield 61, 26, 8, 0), (.bipush 19, 19, 0, 0), (.iload_n 1, 1, 0, 0), (.imul, 0, 0, 0), (.iload_n 2, 2, 0, 0), (.iadd, 0, 0, 0), (.aload_n 0, 0, 0, 0), (.getfield 45, 20, 8, 0), (.iload_n 2, 2, 0, 0), (.iaload, 0, 0, 0), (.iastore, 0, 0, 0), (.iinc 2 1, 1, 0, 0), (.goto (-26), 40, 0, 0)]
theorem s_X9_keep_40 {d : Nat} {ls st : List AV} {S : MS} {R : Option AV → MS → Prop} (h : wpI (fun t l s S2 => wpX d mX9_keep t l s S2 R) (wpM d) R 69 0 B_X9_keep_40 ls st S) : wpX d mX9_keep 40 ls st S R := x_step (by decide +kernel) h
def B_X9_keep_69 : List AIn := [(.iconst 0, 0, 0, 0), (.istore_n 2, 2, 0, 0)]
theorem s_X9_keep_69 {d : Nat} {ls st : List AV} {S : MS} {R : Option AV → MS → Prop} (h : wpI (fun t l s S2 => wpX d mX9_keep t l s S2 R) (wpM d) R 71 0 B_X9_keep_69 ls st S) : wpX d mX9_keep 69 ls st S R := x_step (by decide +kernel) h
def B_X9_keep_71 : List AIn := [(.iload_n 2, 2, 0, 0), (.bipush 19, 19, 0, 0), (.aload_n 0, 0, 0, 0), (.getfield 148, 22, 8, 0), (.imul, 0, 0, 0), (.if_icmp .ge 27, 106, 6, 0), (.aload_n 0, 0, 0, 0), (.getfield 64, 27, 8, 0), (.sipush 760, 760, 0, 0), (.iload_n 1, 1, 0, 0), (.imul, 0, 0, 0), (.iload_n 2, 2, 0, 0), (.iadd, 0, 0, 0), (.aload_n 0, 0, 0, 0), (.getfield 51, 23, 8, 0), (.iload_n 2, 2, 0, 0), (.iaload, 0, 0, 0), (.iastore, 0, 0, 0), (.iinc 2 1, 1, 0, 0), (.goto (-32), 71, 0, 0)]
theorem s_X9_keep_71 {d : Nat} {ls st : List AV} {S : MS} {R : Option AV → MS → Prop} (h : wpI (fun t l s S2 => wpX d mX9_keep t l s S2 R) (wpM d) R 106 0 B_X9_keep_71 ls st S) : wpX d mX9_keep 71 ls st S R := x_step (by decide +kernel) h
def B_X9_keep_106 : List AIn := [(.aload_n 0, 0, 0, 0), (.getfield 148, 22, 8, 0), (.ireturn, 0, 0, 0)]
theorem s_X9_keep_106 {d : Nat} {ls st : List AV} {S : MS} {R : Option AV → MS → Prop} (h : wpI (fun t l s S2 => wpX d mX9_keep t l s S2 R) (wpM d) R 111 0 B_X9_keep_106 ls st S) : wpX d mX9_keep 106 ls st S R := x_step (by decide +kernel) h
-- NinthDayModel.on(I)I
def B_X9_on_0 : List AIn := [(.iload_n 1, 1, 0, 0), (.iconst 0, 0, 0, 0), (.iconst 2, 2, 0, 0), (.invokestatic 83, 131, 3, 0)]
theorem s_X9_on_0 {d : Nat} {ls st : List AV} {S : MS} {R : Option AV → MS → Prop} (h : wpI (fun t l s S2 => wpX d mX9_on t l s S2 R) (wpM d) R 6 4 B_X9_on_0 ls st S) : wpX d mX9_on 0 ls st S R := x_step (by decide +kernel) h
def B_X9_on_6 : List AIn := [(.ifCond .ne 5, 11, 4, 0), (.iconst (-1), 1, 1, 0), (.ireturn, 0, 0, 0)]
theorem s_X9_on_6 {d : Nat} {ls st : List AV} {S : MS} {R : Option AV → MS → Prop} (h : wpI (fun t l s S2 => wpX d mX9_on t l s S2 R) (wpM d) R 11 0 B_X9_on_6 ls st S) : wpX d mX9_on 6 ls st S R := x_step (by decide +kernel) h
def B_X9_on_11 : List AIn := [(.aload_n 0, 0, 0, 0), (.getfield 54, 24, 8, 0), (.iload_n 1, 1, 0, 0), (.baload, 0, 0, 0), (.ifCond .ne 9, 26, 4, 0), (.aload_n 0, 0, 0, 0), (.iconst 1, 1, 0, 0), (.invokevirtual 97, 134, 2, 8)]
theorem s_X9_on_11 {d : Nat} {ls st : List AV} {S : MS} {R : Option AV → MS → Prop} (h : wpI (fun t l s S2 => wpX d mX9_on t l s S2 R) (wpM d) R 25 7 B_X9_on_11 ls st S) : wpX d mX9_on 11 ls st S R := x_step (by decide +kernel) h
def B_X9_on_25 : List AIn := [(.ireturn, 0, 0, 0)]
theorem s_X9_on_25 {d : Nat} {ls st : List AV} {S : MS} {R : Option AV → MS → Prop} (h : wpI (fun t l s S2 => wpX d mX9_on t l s S2 R) (wpM d) R 26 0 B_X9_on_25 ls st S) : wpX d mX9_on 25 ls st S R := x_step (by decide +kernel) h
def B_X9_on_26 : List AIn := [(.aload_n 0, 0, 0, 0), (.aload_n 0, 0, 0, 0), (.getfield 58, 25, 8, 0), (.iload_n 1, 1, 0, 0), (.iaload, 0, 0, 0), (.putfield 148, 22, 8, 0), (.iconst 0, 0, 0, 0), (.istore_n 2, 2, 0, 0)]
theorem s_X9_on_26 {d : Nat} {ls st : List AV} {S : MS} {R : Option AV → MS → Prop} (h : wpI (fun t l s S2 => wpX d mX9_on t l s S2 R) (wpM d) R 38 0 B_X9_on_26 ls st S) : wpX d mX9_on 26 ls st S R := x_step (by decide +kernel) h
def B_X9_on_38 : List AIn := [(.iload_n 2, 2, 0, 0), (.bipush 19, 19, 0, 0), (.if_icmp .ge 26, 67, 4, 0), (.aload_n 0, 0, 0, 0), (.getfield 45, 20, 8, 0), (.iload_n 2, 2, 0, 0), (.aload_n 0, 0, 0, 0), (.getfield 61, 26, 8, 0), (.bipush 19, 19, 0, 0), (.iload_n 1, 1, 0, 0), (.imul, 0, 0, 0), (.iload_n 2, 2, 0, 0), (.iadd, 0, 0, 0), (.iaload, 0, 0, 0), (.iastore, 0, 0, 0), (.iinc 2 1, 1, 0, 0), (.goto (-26), 38, 0, 0)]
theorem s_X9_on_38 {d : Nat} {ls st : List AV} {S : MS} {R : Option AV → MS → Prop} (h : wpI (fun t l s S2 => wpX d mX9_on t l s S2 R) (wpM d) R 67 0 B_X9_on_38 ls st S) : wpX d mX9_on 38 ls st S R := x_step (by decide +kernel) h
def B_X9_on_67 : List AIn := [(.iconst 0, 0, 0, 0), (.istore_n 2, 2, 0, 0)]
theorem s_X9_on_67 {d : Nat} {ls st : List AV} {S : MS} {R : Option AV → MS → Prop} (h : wpI (fun t l s S2 => wpX d mX9_on t l s S2 R) (wpM d) R 69 0 B_X9_on_67 ls st S) : wpX d mX9_on 67 ls st S R := x_step (by decide +kernel) h
def B_X9_on_69 : List AIn := [(.iload_n 2, 2, 0, 0), (.bipush 19, 19, 0, 0), (.aload_n 0, 0, 0, 0), (.getfield 148, 22, 8, 0), (.imul, 0, 0, 0), (.if_icmp .ge 27, 104, 6, 0), (.aload_n 0, 0, 0, 0), (.getfield 51, 23, 8, 0), (.iload_n 2, 2, 0, 0), (.aload_n 0, 0, 0, 0), (.getfield 64, 27, 8, 0), (.sipush 760, 760, 0, 0), (.iload_n 1, 1, 0, 0), (.imul, 0, 0, 0), (.iload_n 2, 2, 0, 0), (.iadd, 0, 0, 0), (.iaload, 0, 0, 0), (.iastore, 0, 0, 0), (.iinc 2 1, 1, 0, 0), (.goto (-32), 69, 0, 0)]
theorem s_X9_on_69 {d : Nat} {ls st : List AV} {S : MS} {R : Option AV → MS → Prop} (h : wpI (fun t l s S2 => wpX d mX9_on t l s S2 R) (wpM d) R 104 0 B_X9_on_69 ls st S) : wpX d mX9_on 69 ls st S R := x_step (by decide +kernel) h
def B_X9_on_104 : List AIn := [(.aload_n 0, 0, 0, 0), (.getfield 148, 22, 8, 0), (.ireturn, 0, 0, 0)]
theorem s_X9_on_104 {d : Nat} {ls st : List AV} {S : MS} {R : Option AV → MS → Prop} (h : wpI (fun t l s S2 => wpX d mX9_on t l s S2 R) (wpM d) R 109 0 B_X9_on_104 ls st S) : wpX d mX9_on 104 ls st S R := x_step (by decide +kernel) h
-- NinthDayModel.need(Z)I
def B_X9_need_0 : List AIn := [(.iload_n 1, 1, 0, 0), (.ifCond .ne 7, 8, 2, 0), (.iconst (-1), 1, 1, 0), (.goto 16, 21, 3, 0)]
theorem s_X9_need_0 {d : Nat} {ls st : List AV} {S : MS} {R : Option AV → MS → Prop} (h : wpI (fun t l s S2 => wpX d mX9_need t l s S2 R) (wpM d) R 8 0 B_X9_need_0 ls st S) : wpX d mX9_need 0 ls st S R := x_step (by decide +kernel) h
def B_X9_need_8 : List AIn := [(.aload_n 0, 0, 0, 0), (.getfield 145, 10, 8, 0), (.ifCond .ne 8, 20, 3, 0), (.bipush (-4), 4, 1, 0), (.goto 4, 21, 3, 0)]
theorem s_X9_need_8 {d : Nat} {ls st : List AV} {S : MS} {R : Option AV → MS → Prop} (h : wpI (fun t l s S2 => wpX d mX9_need t l s S2 R) (wpM d) R 20 0 B_X9_need_8 ls st S) : wpX d mX9_need 8 ls st S R := x_step (by decide +kernel) h
def B_X9_need_20 : List AIn := [(.iconst 0, 0, 0, 0)]
theorem s_X9_need_20 {d : Nat} {ls st : List AV} {S : MS} {R : Option AV → MS → Prop} (h : wpI (fun t l s S2 => wpX d mX9_need t l s S2 R) (wpM d) R 21 3 B_X9_need_20 ls st S) : wpX d mX9_need 20 ls st S R := x_step (by decide +kernel) h
def B_X9_need_21 : List AIn := [(.ireturn, 0, 0, 0)]
theorem s_X9_need_21 {d : Nat} {ls st : List AV} {S : MS} {R : Option AV → MS → Prop} (h : wpI (fun t l s S2 => wpX d mX9_need t l s S2 R) (wpM d) R 22 0 B_X9_need_21 ls st S) : wpX d mX9_need 21 ls st S R := x_step (by decide +kernel) h
-- NinthDayModel.cost(I)I
def B_X9_cost_0 : List AIn := [(.aload_n 0, 0, 0, 0), (.iload_n 1, 1, 0, 0), (.invokevirtual 192, 162, 2, 8)]
theorem s_X9_cost_0 {d : Nat} {ls st : List AV} {S : MS} {R : Option AV → MS → Prop} (h : wpI (fun t l s S2 => wpX d mX9_cost t l s S2 R) (wpM d) R 5 0 B_X9_cost_0 ls st S) : wpX d mX9_cost 0 ls st S R := x_step (by decide +kernel) h
def B_X9_cost_5 : List AIn := [(.ifCond .eq 15, 20, 3, 0), (.aload_n 0, 0, 0, 0), (.aload_n 0, 0, 0, 0), (.getfield 45, 20, 8, 0), (.iload_n 1, 1, 0, 0), (.invokevirtual 195, 165, 3, 8)]
theorem s_X9_cost_5 {d : Nat} {ls st : List AV} {S : MS} {R : Option AV → MS → Prop} (h : wpI (fun t l s S2 => wpX d mX9_cost t l s S2 R) (wpM d) R 17 3 B_X9_cost_5 ls st S) : wpX d mX9_cost 5 ls st S R := x_step (by decide +kernel) h
def B_X9_cost_17 : List AIn := [(.goto 4, 21, 3, 0)]
theorem s_X9_cost_17 {d : Nat} {ls st : List AV} {S : MS} {R : Option AV → MS → Prop} (h : wpI (fun t l s S2 => wpX d mX9_cost t l s S2 R) (wpM d) R 20 0 B_X9_cost_17 ls st S) : wpX d mX9_cost 17 ls st S R := x_step (by decide +kernel) h
def B_X9_cost_20 : List AIn := [(.iconst (-1), 1, 1, 0)]
theorem s_X9_cost_20 {d : Nat} {ls st : List AV} {S : MS} {R : Option AV → MS → Prop} (h : wpI (fun t l s S2 => wpX d mX9_cost t l s S2 R) (wpM d) R 21 3 B_X9_cost_20 ls st S) : wpX d mX9_cost 20 ls st S R := x_step (by decide +kernel) h
def B_X9_cost_21 : List AIn := [(.ireturn, 0, 0, 0)]
theorem s_X9_cost_21 {d : Nat} {ls st : List AV} {S : MS} {R : Option AV → MS → Prop} (h : wpI (fun t l s S2 => wpX d mX9_cost t l s S2 R) (wpM d) R 22 0 B_X9_cost_21 ls st S) : wpX d mX9_cost 21 ls st S R := x_step (by decide +kernel) h
-- NinthDayModel.most()I
def B_X9_most_0 : List AIn := [(.aload_n 0, 0, 0, 0), (.getfield 145, 10, 8, 0), (.ifCond .ne 6, 10, 62, 0), (.bipush (-4), 4, 1, 0), (.ireturn, 0, 0, 0)]
theorem s_X9_most_0 {d : Nat} {ls st : List AV} {S : MS} {R : Option AV → MS → Prop} (h : wpI (fun t l s S2 => wpX d mX9_most t l s S2 R) (wpM d) R 10 0 B_X9_most_0 ls st S) : wpX d mX9_most 0 ls st S R := x_step (by decide +kernel) h
def B_X9_most_10 : List AIn := [(.iconst 0, 0, 0, 0), (.istore_n 1, 1, 0, 0), (.iconst 1, 1, 0, 0), (.istore_n 2, 2, 0, 0)]
theorem s_X9_most_10 {d : Nat} {ls st : List AV} {S : MS} {R : Option AV → MS → Prop} (h : wpI (fun t l s S2 => wpX d mX9_most t l s S2 R) (wpM d) R 14 56 B_X9_most_10 ls st S) : wpX d mX9_most 10 ls st S R := x_step (by decide +kernel) h
def B_X9_most_14 : List AIn := [(.iload_n 2, 2, 0, 0), (.iconst 1, 1, 0, 0), (.aload_n 0, 0, 0, 0), (.getfield 145, 10, 8, 0), (.ishl, 0, 0, 0), (.if_icmp .ge 105, 126, 60, 0), (.aload_n 0, 0, 0, 0), (.aload_n 0, 0, 0, 0), (.getfield 45, 20, 8, 0), (.iload_n 2, 2, 0, 0), (.invokevirtual 195, 165, 3, 8)]
theorem s_X9_most_14 {d : Nat} {ls st : List AV} {S : MS} {R : Option AV → MS → Prop} (h : wpI (fun t l s S2 => wpX d mX9_most t l s S2 R) (wpM d) R 33 56 B_X9_most_14 ls st S) : wpX d mX9_most 14 ls st S R := x_step (by decide +kernel) h
def B_X9_most_33 : List AIn := [(.istore_n 3, 3, 0, 0), (.iload_n 2, 2, 0, 0), (.aload_n 0, 0, 0, 0), (.getfield 45, 20, 8, 0), (.iconst 3, 3, 0, 0), (.iaload, 0, 0, 0), (.iand, 0, 0, 0), (.ifCond .ne 17, 59, 48, 0), (.iload_n 3, 3, 0, 0), (.aload_n 0, 0, 0, 0), (.getfield 45, 20, 8, 0), (.iconst 1, 1, 0, 0), (.iaload, 0, 0, 0), (.if_icmp .gt 7, 59, 48, 0), (.iconst 1, 1, 0, 0), (.goto 4, 60, 48, 0)]
theorem s_X9_most_33 {d : Nat} {ls st : List AV} {S : MS} {R : Option AV → MS → Prop} (h : wpI (fun t l s S2 => wpX d mX9_most t l s S2 R) (wpM d) R 59 0 B_X9_most_33 ls st S) : wpX d mX9_most 33 ls st S R := x_step (by decide +kernel) h
def B_X9_most_59 : List AIn := [(.iconst 0, 0, 0, 0)]
theorem s_X9_most_59 {d : Nat} {ls st : List AV} {S : MS} {R : Option AV → MS → Prop} (h : wpI (fun t l s S2 => wpX d mX9_most t l s S2 R) (wpM d) R 60 48 B_X9_most_59 ls st S) : wpX d mX9_most 59 ls st S R := x_step (by decide +kernel) h
def B_X9_most_60 : List AIn := [(.istore 4, 4, 0, 0), (.iload_n 2, 2, 0, 0), (.invokestatic 176, 133, 1, 0)]
theorem s_X9_most_60 {d : Nat} {ls st : List AV} {S : MS} {R : Option AV → MS → Prop} (h : wpI (fun t l s S2 => wpX d mX9_most t l s S2 R) (wpM d) R 66 32 B_X9_most_60 ls st S) : wpX d mX9_most 60 ls st S R := x_step (by decide +kernel) h
def B_X9_most_66 : List AIn := [(.iload_n 1, 1, 0, 0), (.invokestatic 176, 133, 1, 0)]
theorem s_X9_most_66 {d : Nat} {ls st : List AV} {S : MS} {R : Option AV → MS → Prop} (h : wpI (fun t l s S2 => wpX d mX9_most t l s S2 R) (wpM d) R 70 32 B_X9_most_66 ls st S) : wpX d mX9_most 66 ls st S R := x_step (by decide +kernel) h
def B_X9_most_70 : List AIn := [(.if_icmp .gt 27, 97, 40, 0), (.iload_n 2, 2, 0, 0), (.invokestatic 176, 133, 1, 0)]
theorem s_X9_most_70 {d : Nat} {ls st : List AV} {S : MS} {R : Option AV → MS → Prop} (h : wpI (fun t l s S2 => wpX d mX9_most t l s S2 R) (wpM d) R 77 32 B_X9_most_70 ls st S) : wpX d mX9_most 70 ls st S R := x_step (by decide +kernel) h
def B_X9_most_77 : List AIn := [(.iload_n 1, 1, 0, 0), (.invokestatic 176, 133, 1, 0)]
theorem s_X9_most_77 {d : Nat} {ls st : List AV} {S : MS} {R : Option AV → MS → Prop} (h : wpI (fun t l s S2 => wpX d mX9_most t l s S2 R) (wpM d) R 81 32 B_X9_most_77 ls st S) : wpX d mX9_most 77 ls st S R := x_step (by decide +kernel) h
def B_X9_most_81 : List AIn := [(.if_icmp .ne 20, 101, 40, 0), (.iload_n 3, 3, 0, 0), (.aload_n 0, 0, 0, 0), (.aload_n 0, 0, 0, 0), (.getfield 45, 20, 8, 0), (.iload_n 1, 1, 0, 0), (.invokevirtual 195, 165, 3, 8)]
theorem s_X9_most_81 {d : Nat} {ls st : List AV} {S : MS} {R : Option AV → MS → Prop} (h : wpI (fun t l s S2 => wpX d mX9_most t l s S2 R) (wpM d) R 94 40 B_X9_most_81 ls st S) : wpX d mX9_most 81 ls st S R := x_step (by decide +kernel) h
def B_X9_most_94 : List AIn := [(.if_icmp .ge 7, 101, 40, 0)]
theorem s_X9_most_94 {d : Nat} {ls st : List AV} {S : MS} {R : Option AV → MS → Prop} (h : wpI (fun t l s S2 => wpX d mX9_most t l s S2 R) (wpM d) R 97 40 B_X9_most_94 ls st S) : wpX d mX9_most 94 ls st S R := x_step (by decide +kernel) h
def B_X9_most_97 : List AIn := [(.iconst 1, 1, 0, 0), (.goto 4, 102, 40, 0)]
theorem s_X9_most_97 {d : Nat} {ls st : List AV} {S : MS} {R : Option AV → MS → Prop} (h : wpI (fun t l s S2 => wpX d mX9_most t l s S2 R) (wpM d) R 101 0 B_X9_most_97 ls st S) : wpX d mX9_most 97 ls st S R := x_step (by decide +kernel) h
def B_X9_most_101 : List AIn := [(.iconst 0, 0, 0, 0)]
theorem s_X9_most_101 {d : Nat} {ls st : List AV} {S : MS} {R : Option AV → MS → Prop} (h : wpI (fun t l s S2 => wpX d mX9_most t l s S2 R) (wpM d) R 102 40 B_X9_most_101 ls st S) : wpX d mX9_most 101 ls st S R := x_step (by decide +kernel) h
def B_X9_most_102 : List AIn := [(.istore 5, 5, 0, 0), (.iload 4, 4, 0, 0), (.ifCond .eq 12, 118, 56, 0), (.iload 5, 5, 0, 0), (.ifCond .eq 7, 118, 56, 0), (.iload_n 2, 2, 0, 0), (.goto 4, 119, 58, 0)]
theorem s_X9_most_102 {d : Nat} {ls st : List AV} {S : MS} {R : Option AV → MS → Prop} (h : wpI (fun t l s S2 => wpX d mX9_most t l s S2 R) (wpM d) R 118 0 B_X9_most_102 ls st S) : wpX d mX9_most 102 ls st S R := x_step (by decide +kernel) h
def B_X9_most_118 : List AIn := [(.iload_n 1, 1, 0, 0)]
theorem s_X9_most_118 {d : Nat} {ls st : List AV} {S : MS} {R : Option AV → MS → Prop} (h : wpI (fun t l s S2 => wpX d mX9_most t l s S2 R) (wpM d) R 119 58 B_X9_most_118 ls st S) : wpX d mX9_most 118 ls st S R := x_step (by decide +kernel) h
def B_X9_most_119 : List AIn := [(.istore_n 1, 1, 0, 0), (.iinc 2 1, 1, 0, 0), (.goto (-109), 14, 56, 0)]
theorem s_X9_most_119 {d : Nat} {ls st : List AV} {S : MS} {R : Option AV → MS → Prop} (h : wpI (fun t l s S2 => wpX d mX9_most t l s S2 R) (wpM d) R 126 0 B_X9_most_119 ls st S) : wpX d mX9_most 119 ls st S R := x_step (by decide +kernel) h
def B_X9_most_126 : List AIn := [(.aload_n 0, 0, 0, 0), (.iload_n 1, 1, 0, 0), (.iload_n 1, 1, 0, 0), (.invokestatic 176, 133, 1, 0)]
theorem s_X9_most_126 {d : Nat} {ls st : List AV} {S : MS} {R : Option AV → MS → Prop} (h : wpI (fun t l s S2 => wpX d mX9_most t l s S2 R) (wpM d) R 132 63 B_X9_most_126 ls st S) : wpX d mX9_most 126 ls st S R := x_step (by decide +kernel) h
def B_X9_most_132 : List AIn := [(.invokevirtual 105, 137, 3, 8)]
theorem s_X9_most_132 {d : Nat} {ls st : List AV} {S : MS} {R : Option AV → MS → Prop} (h : wpI (fun t l s S2 => wpX d mX9_most t l s S2 R) (wpM d) R 135 63 B_X9_most_132 ls st S) : wpX d mX9_most 132 ls st S R := x_step (by decide +kernel) h
def B_X9_most_135 : List AIn := [(.ireturn, 0, 0, 0)]
theorem s_X9_most_135 {d : Nat} {ls st : List AV} {S : MS} {R : Option AV → MS → Prop} (h : wpI (fun t l s S2 => wpX d mX9_most t l s S2 R) (wpM d) R 136 0 B_X9_most_135 ls st S) : wpX d mX9_most 135 ls st S R := x_step (by decide +kernel) h
-- NinthDayModel.rule(I)I
def B_X9_rule_0 : List AIn := [(.aload_n 0, 0, 0, 0), (.iload_n 1, 1, 0, 0), (.iconst 0, 0, 0, 0), (.iconst 3, 3, 0, 0), (.invokestatic 83, 131, 3, 0)]
theorem s_X9_rule_0 {d : Nat} {ls st : List AV} {S : MS} {R : Option AV → MS → Prop} (h : wpI (fun t l s S2 => wpX d mX9_rule t l s S2 R) (wpM d) R 7 12 B_X9_rule_0 ls st S) : wpX d mX9_rule 0 ls st S R := x_step (by decide +kernel) h
def B_X9_rule_7 : List AIn := [(.invokevirtual 205, 186, 2, 8)]
theorem s_X9_rule_7 {d : Nat} {ls st : List AV} {S : MS} {R : Option AV → MS → Prop} (h : wpI (fun t l s S2 => wpX d mX9_rule t l s S2 R) (wpM d) R 10 12 B_X9_rule_7 ls st S) : wpX d mX9_rule 7 ls st S R := x_step (by decide +kernel) h
def B_X9_rule_10 : List AIn := [(.istore_n 2, 2, 0, 0), (.iload_n 2, 2, 0, 0), (.ifCond .ge 5, 17, 12, 0), (.iload_n 2, 2, 0, 0), (.ireturn, 0, 0, 0)]
theorem s_X9_rule_10 {d : Nat} {ls st : List AV} {S : MS} {R : Option AV → MS → Prop} (h : wpI (fun t l s S2 => wpX d mX9_rule t l s S2 R) (wpM d) R 17 0 B_X9_rule_10 ls st S) : wpX d mX9_rule 10 ls st S R := x_step (by decide +kernel) h
def B_X9_rule_17 : List AIn := [(.aload_n 0, 0, 0, 0), (.aload_n 0, 0, 0, 0), (.getfield 45, 20, 8, 0), (.iload_n 1, 1, 0, 0), (.invokevirtual 209, 172, 3, 8)]
theorem s_X9_rule_17 {d : Nat} {ls st : List AV} {S : MS} {R : Option AV → MS → Prop} (h : wpI (fun t l s S2 => wpX d mX9_rule t l s S2 R) (wpM d) R 26 14 B_X9_rule_17 ls st S) : wpX d mX9_rule 17 ls st S R := x_step (by decide +kernel) h
def B_X9_rule_26 : List AIn := [(.istore_n 3, 3, 0, 0), (.aload_n 0, 0, 0, 0), (.aload_n 0, 0, 0, 0), (.aload_n 0, 0, 0, 0), (.getfield 45, 20, 8, 0), (.iload_n 3, 3, 0, 0), (.invokevirtual 195, 165, 3, 8)]
theorem s_X9_rule_26 {d : Nat} {ls st : List AV} {S : MS} {R : Option AV → MS → Prop} (h : wpI (fun t l s S2 => wpX d mX9_rule t l s S2 R) (wpM d) R 37 7 B_X9_rule_26 ls st S) : wpX d mX9_rule 26 ls st S R := x_step (by decide +kernel) h
def B_X9_rule_37 : List AIn := [(.iload_n 3, 3, 0, 0), (.invokevirtual 105, 137, 3, 8)]
theorem s_X9_rule_37 {d : Nat} {ls st : List AV} {S : MS} {R : Option AV → MS → Prop} (h : wpI (fun t l s S2 => wpX d mX9_rule t l s S2 R) (wpM d) R 41 15 B_X9_rule_37 ls st S) : wpX d mX9_rule 37 ls st S R := x_step (by decide +kernel) h
def B_X9_rule_41 : List AIn := [(.ireturn, 0, 0, 0)]
theorem s_X9_rule_41 {d : Nat} {ls st : List AV} {S : MS} {R : Option AV → MS → Prop} (h : wpI (fun t l s S2 => wpX d mX9_rule t l s S2 R) (wpM d) R 42 0 B_X9_rule_41 ls st S) : wpX d mX9_rule 41 ls st S R := x_step (by decide +kernel) h
-- NinthDayModel.keptBy(II)I
def B_X9_keptBy_0 : List AIn := [(.iload_n 1, 1, 0, 0), (.istore_n 3, 3, 0, 0), (.iload_n 2, 2, 0, 0), (.iconst 1, 1, 0, 0), (.isub, 0, 0, 0), (.istore 4, 4, 0, 0)]
theorem s_X9_keptBy_0 {d : Nat} {ls st : List AV} {S : MS} {R : Option AV → MS → Prop} (h : wpI (fun t l s S2 => wpX d mX9_keptBy t l s S2 R) (wpM d) R 7 98 B_X9_keptBy_0 ls st S) : wpX d mX9_keptBy 0 ls st S R := x_step (by decide +kernel) h
def B_X9_keptBy_7 : List AIn := [(.iload 4, 4, 0, 0), (.ifCond .lt 33, 42, 122, 0), (.aload_n 0, 0, 0, 0), (.getfield 67, 28, 8, 0), (.iload 4, 4, 0, 0), (.iload_n 3, 3, 0, 0), (.iconst 1, 1, 0, 0), (.aload_n 0, 0, 0, 0), (.getfield 145, 10, 8, 0), (.ishl, 0, 0, 0), (.irem, 0, 0, 0), (.iastore, 0, 0, 0), (.iload_n 3, 3, 0, 0), (.iconst 1, 1, 0, 0), (.aload_n 0, 0, 0, 0), (.getfield 145, 10, 8, 0), (.ishl, 0, 0, 0), (.idiv, 0, 0, 0), (.istore_n 3, 3, 0, 0), (.iinc 4 (-1), 1, 1, 0), (.goto (-32), 7, 98, 0)]
theorem s_X9_keptBy_7 {d : Nat} {ls st : List AV} {S : MS} {R : Option AV → MS → Prop} (h : wpI (fun t l s S2 => wpX d mX9_keptBy t l s S2 R) (wpM d) R 42 0 B_X9_keptBy_7 ls st S) : wpX d mX9_keptBy 7 ls st S R := x_step (by decide +kernel) h
def B_X9_keptBy_42 : List AIn := [(.iconst 0, 0, 0, 0), (.istore 4, 4, 0, 0), (.aload_n 0, 0, 0, 0), (.invokevirtual 212, 173, 1, 8)]
theorem s_X9_keptBy_42 {d : Nat} {ls st : List AV} {S : MS} {R : Option AV → MS → Prop} (h : wpI (fun t l s S2 => wpX d mX9_keptBy t l s S2 R) (wpM d) R 49 106 B_X9_keptBy_42 ls st S) : wpX d mX9_keptBy 42 ls st S R := x_step (by decide +kernel) h
def B_X9_keptBy_49 : List AIn := [(.iconst 0, 0, 0, 0), (.istore 5, 5, 0, 0)]
theorem s_X9_keptBy_49 {d : Nat} {ls st : List AV} {S : MS} {R : Option AV → MS → Prop} (h : wpI (fun t l s S2 => wpX d mX9_keptBy t l s S2 R) (wpM d) R 52 74 B_X9_keptBy_49 ls st S) : wpX d mX9_keptBy 49 ls st S R := x_step (by decide +kernel) h
def B_X9_keptBy_52 : List AIn := [(.iload 5, 5, 0, 0), (.iload_n 2, 2, 0, 0), (.if_icmp .ge 102, 157, 111, 0), (.iload 4, 4, 0, 0), (.ifCond .lt 97, 157, 111, 0), (.aload_n 0, 0, 0, 0), (.getfield 67, 28, 8, 0), (.iload 5, 5, 0, 0), (.iaload, 0, 0, 0), (.aload_n 0, 0, 0, 0), (.getfield 45, 20, 8, 0), (.iconst 3, 3, 0, 0), (.iaload, 0, 0, 0), (.iand, 0, 0, 0), (.ifCond .ne 31, 108, 74, 0), (.aload_n 0, 0, 0, 0), (.aload_n 0, 0, 0, 0), (.getfield 48, 21, 8, 0), (.aload_n 0, 0, 0, 0), (.getfield 67, 28, 8, 0), (.iload 5, 5, 0, 0), (.iaload, 0, 0, 0), (.invokevirtual 195, 165, 3, 8)]
theorem s_X9_keptBy_52 {d : Nat} {ls st : List AV} {S : MS} {R : Option AV → MS → Prop} (h : wpI (fun t l s S2 => wpX d mX9_keptBy t l s S2 R) (wpM d) R 95 74 B_X9_keptBy_52 ls st S) : wpX d mX9_keptBy 52 ls st S R := x_step (by decide +kernel) h
def B_X9_keptBy_95 : List AIn := [(.aload_n 0, 0, 0, 0), (.getfield 48, 21, 8, 0), (.iconst 1, 1, 0, 0), (.iaload, 0, 0, 0), (.if_icmp .gt 7, 108, 74, 0), (.iconst 1, 1, 0, 0), (.goto 4, 109, 74, 0)]
theorem s_X9_keptBy_95 {d : Nat} {ls st : List AV} {S : MS} {R : Option AV → MS → Prop} (h : wpI (fun t l s S2 => wpX d mX9_keptBy t l s S2 R) (wpM d) R 108 0 B_X9_keptBy_95 ls st S) : wpX d mX9_keptBy 95 ls st S R := x_step (by decide +kernel) h
def B_X9_keptBy_108 : List AIn := [(.iconst 0, 0, 0, 0)]
theorem s_X9_keptBy_108 {d : Nat} {ls st : List AV} {S : MS} {R : Option AV → MS → Prop} (h : wpI (fun t l s S2 => wpX d mX9_keptBy t l s S2 R) (wpM d) R 109 74 B_X9_keptBy_108 ls st S) : wpX d mX9_keptBy 108 ls st S R := x_step (by decide +kernel) h
def B_X9_keptBy_109 : List AIn := [(.istore 6, 6, 0, 0), (.aload_n 0, 0, 0, 0), (.aload_n 0, 0, 0, 0), (.getfield 48, 21, 8, 0), (.aload_n 0, 0, 0, 0), (.getfield 67, 28, 8, 0), (.iload 5, 5, 0, 0), (.iaload, 0, 0, 0), (.iconst 0, 0, 0, 0), (.invokevirtual 201, 170, 4, 8)]
theorem s_X9_keptBy_109 {d : Nat} {ls st : List AV} {S : MS} {R : Option AV → MS → Prop} (h : wpI (fun t l s S2 => wpX d mX9_keptBy t l s S2 R) (wpM d) R 127 10 B_X9_keptBy_109 ls st S) : wpX d mX9_keptBy 109 ls st S R := x_step (by decide +kernel) h
def B_X9_keptBy_127 : List AIn := [(.iload 6, 6, 0, 0), (.ifCond .eq 19, 148, 90, 0), (.iload 4, 4, 0, 0), (.aload_n 0, 0, 0, 0), (.getfield 67, 28, 8, 0), (.iload 5, 5, 0, 0), (.iaload, 0, 0, 0), (.invokestatic 176, 133, 1, 0)]
theorem s_X9_keptBy_127 {d : Nat} {ls st : List AV} {S : MS} {R : Option AV → MS → Prop} (h : wpI (fun t l s S2 => wpX d mX9_keptBy t l s S2 R) (wpM d) R 144 90 B_X9_keptBy_127 ls st S) : wpX d mX9_keptBy 127 ls st S R := x_step (by decide +kernel) h
def B_X9_keptBy_144 : List AIn := [(.iadd, 0, 0, 0), (.goto 4, 149, 90, 0)]
theorem s_X9_keptBy_144 {d : Nat} {ls st : List AV} {S : MS} {R : Option AV → MS → Prop} (h : wpI (fun t l s S2 => wpX d mX9_keptBy t l s S2 R) (wpM d) R 148 0 B_X9_keptBy_144 ls st S) : wpX d mX9_keptBy 144 ls st S R := x_step (by decide +kernel) h
def B_X9_keptBy_148 : List AIn := [(.iconst (-1), 1, 1, 0)]
theorem s_X9_keptBy_148 {d : Nat} {ls st : List AV} {S : MS} {R : Option AV → MS → Prop} (h : wpI (fun t l s S2 => wpX d mX9_keptBy t l s S2 R) (wpM d) R 149 90 B_X9_keptBy_148 ls st S) : wpX d mX9_keptBy 148 ls st S R := x_step (by decide +kernel) h
def B_X9_keptBy_149 : List AIn := [(.istore 4, 4, 0, 0), (.iinc 5 1, 1, 0, 0), (.goto (-102), 52, 74, 0)]
theorem s_X9_keptBy_149 {d : Nat} {ls st : List AV} {S : MS} {R : Option AV → MS → Prop} (h : wpI (fun t l s S2 => wpX d mX9_keptBy t l s S2 R) (wpM d) R 157 0 B_X9_keptBy_149 ls st S) : wpX d mX9_keptBy 149 ls st S R := x_step (by decide +kernel) h
def B_X9_keptBy_157 : List AIn := [(.iload 4, 4, 0, 0), (.ireturn, 0, 0, 0)]
theorem s_X9_keptBy_157 {d : Nat} {ls st : List AV} {S : MS} {R : Option AV → MS → Prop} (h : wpI (fun t l s S2 => wpX d mX9_keptBy t l s S2 R) (wpM d) R 160 0 B_X9_keptBy_157 ls st S) : wpX d mX9_keptBy 157 ls st S R := x_step (by decide +kernel) h
-- NinthDayModel.plan(II)I
def B_X9_plan_0 : List AIn := [(.aload_n 0, 0, 0, 0), (.iload_n 1, 1, 0, 0), (.iconst 0, 0, 0, 0), (.iconst 3, 3, 0, 0), (.invokestatic 83, 131, 3, 0)]
theorem s_X9_plan_0 {d : Nat} {ls st : List AV} {S : MS} {R : Option AV → MS → Prop} (h : wpI (fun t l s S2 => wpX d mX9_plan t l s S2 R) (wpM d) R 7 504 B_X9_plan_0 ls st S) : wpX d mX9_plan 0 ls st S R := x_step (by decide +kernel) h
def B_X9_plan_7 : List AIn := [(.ifCond .eq 14, 21, 504, 0), (.iload_n 2, 2, 0, 0), (.invokestatic 93, 142, 1, 0)]
theorem s_X9_plan_7 {d : Nat} {ls st : List AV} {S : MS} {R : Option AV → MS → Prop} (h : wpI (fun t l s S2 => wpX d mX9_plan t l s S2 R) (wpM d) R 14 504 B_X9_plan_7 ls st S) : wpX d mX9_plan 7 ls st S R := x_step (by decide +kernel) h
def B_X9_plan_14 : List AIn := [(.ifCond .eq 7, 21, 504, 0), (.iconst 1, 1, 0, 0), (.goto 4, 22, 504, 0)]
theorem s_X9_plan_14 {d : Nat} {ls st : List AV} {S : MS} {R : Option AV → MS → Prop} (h : wpI (fun t l s S2 => wpX d mX9_plan t l s S2 R) (wpM d) R 21 0 B_X9_plan_14 ls st S) : wpX d mX9_plan 14 ls st S R := x_step (by decide +kernel) h
def B_X9_plan_21 : List AIn := [(.iconst 0, 0, 0, 0)]
theorem s_X9_plan_21 {d : Nat} {ls st : List AV} {S : MS} {R : Option AV → MS → Prop} (h : wpI (fun t l s S2 => wpX d mX9_plan t l s S2 R) (wpM d) R 22 504 B_X9_plan_21 ls st S) : wpX d mX9_plan 21 ls st S R := x_step (by decide +kernel) h
def B_X9_plan_22 : List AIn := [(.invokevirtual 205, 186, 2, 8)]
theorem s_X9_plan_22 {d : Nat} {ls st : List AV} {S : MS} {R : Option AV → MS → Prop} (h : wpI (fun t l s S2 => wpX d mX9_plan t l s S2 R) (wpM d) R 25 504 B_X9_plan_22 ls st S) : wpX d mX9_plan 22 ls st S R := x_step (by decide +kernel) h
def B_X9_plan_25 : List AIn := [(.istore_n 3, 3, 0, 0), (.iload_n 3, 3, 0, 0), (.ifCond .ge 5, 32, 504, 0), (.iload_n 3, 3, 0, 0), (.ireturn, 0, 0, 0)]
theorem s_X9_plan_25 {d : Nat} {ls st : List AV} {S : MS} {R : Option AV → MS → Prop} (h : wpI (fun t l s S2 => wpX d mX9_plan t l s S2 R) (wpM d) R 32 0 B_X9_plan_25 ls st S) : wpX d mX9_plan 25 ls st S R := x_step (by decide +kernel) h
def B_X9_plan_32 : List AIn := [(.iconst 1, 1, 0, 0), (.istore 4, 4, 0, 0), (.iconst 0, 0, 0, 0), (.istore 5, 5, 0, 0)]
theorem s_X9_plan_32 {d : Nat} {ls st : List AV} {S : MS} {R : Option AV → MS → Prop} (h : wpI (fun t l s S2 => wpX d mX9_plan t l s S2 R) (wpM d) R 38 456 B_X9_plan_32 ls st S) : wpX d mX9_plan 32 ls st S R := x_step (by decide +kernel) h
def B_X9_plan_38 : List AIn := [(.iload 5, 5, 0, 0), (.iload_n 1, 1, 0, 0), (.if_icmp .ge 20, 61, 488, 0), (.iload 4, 4, 0, 0), (.iconst 1, 1, 0, 0), (.aload_n 0, 0, 0, 0), (.getfield 145, 10, 8, 0), (.ishl, 0, 0, 0), (.imul, 0, 0, 0), (.istore 4, 4, 0, 0), (.iinc 5 1, 1, 0, 0), (.goto (-20), 38, 456, 0)]
theorem s_X9_plan_38 {d : Nat} {ls st : List AV} {S : MS} {R : Option AV → MS → Prop} (h : wpI (fun t l s S2 => wpX d mX9_plan t l s S2 R) (wpM d) R 61 0 B_X9_plan_38 ls st S) : wpX d mX9_plan 38 ls st S R := x_step (by decide +kernel) h
def B_X9_plan_61 : List AIn := [(.iconst 0, 0, 0, 0), (.istore 5, 5, 0, 0), (.iconst (-1), 1, 1, 0), (.istore 6, 6, 0, 0), (.iconst 0, 0, 0, 0), (.istore 7, 7, 0, 0)]
theorem s_X9_plan_61 {d : Nat} {ls st : List AV} {S : MS} {R : Option AV → MS → Prop} (h : wpI (fun t l s S2 => wpX d mX9_plan t l s S2 R) (wpM d) R 70 264 B_X9_plan_61 ls st S) : wpX d mX9_plan 61 ls st S R := x_step (by decide +kernel) h
def B_X9_plan_70 : List AIn := [(.iload 7, 7, 0, 0), (.iload 4, 4, 0, 0), (.if_icmp .ge 50, 124, 408, 0), (.aload_n 0, 0, 0, 0), (.iload 7, 7, 0, 0), (.iload_n 1, 1, 0, 0), (.invokevirtual 215, 190, 3, 8)]
theorem s_X9_plan_70 {d : Nat} {ls st : List AV} {S : MS} {R : Option AV → MS → Prop} (h : wpI (fun t l s S2 => wpX d mX9_plan t l s S2 R) (wpM d) R 84 264 B_X9_plan_70 ls st S) : wpX d mX9_plan 70 ls st S R := x_step (by decide +kernel) h
def B_X9_plan_84 : List AIn := [(.istore 8, 8, 0, 0), (.iload 8, 8, 0, 0), (.iload 6, 6, 0, 0), (.if_icmp .le 8, 98, 8, 0), (.iload 7, 7, 0, 0), (.goto 5, 100, 40, 0)]
theorem s_X9_plan_84 {d : Nat} {ls st : List AV} {S : MS} {R : Option AV → MS → Prop} (h : wpI (fun t l s S2 => wpX d mX9_plan t l s S2 R) (wpM d) R 98 0 B_X9_plan_84 ls st S) : wpX d mX9_plan 84 ls st S R := x_step (by decide +kernel) h
def B_X9_plan_98 : List AIn := [(.iload 5, 5, 0, 0)]
theorem s_X9_plan_98 {d : Nat} {ls st : List AV} {S : MS} {R : Option AV → MS → Prop} (h : wpI (fun t l s S2 => wpX d mX9_plan t l s S2 R) (wpM d) R 100 40 B_X9_plan_98 ls st S) : wpX d mX9_plan 98 ls st S R := x_step (by decide +kernel) h
def B_X9_plan_100 : List AIn := [(.istore 5, 5, 0, 0), (.iload 8, 8, 0, 0), (.iload 6, 6, 0, 0), (.if_icmp .le 8, 114, 264, 0), (.iload 8, 8, 0, 0), (.goto 5, 116, 328, 0)]
theorem s_X9_plan_100 {d : Nat} {ls st : List AV} {S : MS} {R : Option AV → MS → Prop} (h : wpI (fun t l s S2 => wpX d mX9_plan t l s S2 R) (wpM d) R 114 0 B_X9_plan_100 ls st S) : wpX d mX9_plan 100 ls st S R := x_step (by decide +kernel) h
def B_X9_plan_114 : List AIn := [(.iload 6, 6, 0, 0)]
theorem s_X9_plan_114 {d : Nat} {ls st : List AV} {S : MS} {R : Option AV → MS → Prop} (h : wpI (fun t l s S2 => wpX d mX9_plan t l s S2 R) (wpM d) R 116 328 B_X9_plan_114 ls st S) : wpX d mX9_plan 114 ls st S R := x_step (by decide +kernel) h
def B_X9_plan_116 : List AIn := [(.istore 6, 6, 0, 0), (.iinc 7 1, 1, 0, 0), (.goto (-51), 70, 264, 0)]
theorem s_X9_plan_116 {d : Nat} {ls st : List AV} {S : MS} {R : Option AV → MS → Prop} (h : wpI (fun t l s S2 => wpX d mX9_plan t l s S2 R) (wpM d) R 124 0 B_X9_plan_116 ls st S) : wpX d mX9_plan 116 ls st S R := x_step (by decide +kernel) h
def B_X9_plan_124 : List AIn := [(.aload_n 0, 0, 0, 0), (.iload 5, 5, 0, 0), (.iload_n 1, 1, 0, 0), (.invokevirtual 215, 190, 3, 8)]
theorem s_X9_plan_124 {d : Nat} {ls st : List AV} {S : MS} {R : Option AV → MS → Prop} (h : wpI (fun t l s S2 => wpX d mX9_plan t l s S2 R) (wpM d) R 131 440 B_X9_plan_124 ls st S) : wpX d mX9_plan 124 ls st S R := x_step (by decide +kernel) h
def B_X9_plan_131 : List AIn := [(.pop, 0, 0, 0), (.aload_n 0, 0, 0, 0), (.getfield 17, 5, 8, 0), (.iload_n 2, 2, 0, 0), (.iload_n 1, 1, 0, 0), (.iastore, 0, 0, 0), (.iconst 0, 0, 0, 0), (.istore 7, 7, 0, 0)]
theorem s_X9_plan_131 {d : Nat} {ls st : List AV} {S : MS} {R : Option AV → MS → Prop} (h : wpI (fun t l s S2 => wpX d mX9_plan t l s S2 R) (wpM d) R 142 312 B_X9_plan_131 ls st S) : wpX d mX9_plan 131 ls st S R := x_step (by decide +kernel) h
def B_X9_plan_142 : List AIn := [(.iload 7, 7, 0, 0), (.iload_n 1, 1, 0, 0), (.if_icmp .ge 28, 173, 447, 0), (.aload_n 0, 0, 0, 0), (.getfield 20, 6, 8, 0), (.bipush 40, 40, 0, 0), (.iload_n 2, 2, 0, 0), (.imul, 0, 0, 0), (.iload 7, 7, 0, 0), (.iadd, 0, 0, 0), (.aload_n 0, 0, 0, 0), (.getfield 67, 28, 8, 0), (.iload 7, 7, 0, 0), (.iaload, 0, 0, 0), (.iastore, 0, 0, 0), (.iinc 7 1, 1, 0, 0), (.goto (-28), 142, 312, 0)]
theorem s_X9_plan_142 {d : Nat} {ls st : List AV} {S : MS} {R : Option AV → MS → Prop} (h : wpI (fun t l s S2 => wpX d mX9_plan t l s S2 R) (wpM d) R 173 0 B_X9_plan_142 ls st S) : wpX d mX9_plan 142 ls st S R := x_step (by decide +kernel) h
def B_X9_plan_173 : List AIn := [(.iload 6, 6, 0, 0), (.ireturn, 0, 0, 0)]
theorem s_X9_plan_173 {d : Nat} {ls st : List AV} {S : MS} {R : Option AV → MS → Prop} (h : wpI (fun t l s S2 => wpX d mX9_plan t l s S2 R) (wpM d) R 176 0 B_X9_plan_173 ls st S) : wpX d mX9_plan 173 ls st S R := x_step (by decide +kernel) h
-- NinthDayModel.isDone([I)Z
def B_X9_isDone_0 : List AIn := [(.iconst 1, 1, 0, 0), (.istore_n 2, 2, 0, 0), (.iconst 0, 0, 0, 0), (.istore_n 3, 3, 0, 0)]
theorem s_X9_isDone_0 {d : Nat} {ls st : List AV} {S : MS} {R : Option AV → MS → Prop} (h : wpI (fun t l s S2 => wpX d mX9_isDone t l s S2 R) (wpM d) R 4 0 B_X9_isDone_0 ls st S) : wpX d mX9_isDone 0 ls st S R := x_step (by decide +kernel) h
def B_X9_isDone_4 : List AIn := [(.iload_n 3, 3, 0, 0), (.aload_n 0, 0, 0, 0), (.getfield 145, 10, 8, 0), (.if_icmp .ge 45, 54, 11, 0), (.iload_n 2, 2, 0, 0), (.ifCond .eq 33, 46, 4, 0), (.aload_n 0, 0, 0, 0), (.aload_n 1, 1, 0, 0), (.invokevirtual 169, 169, 2, 8)]
theorem s_X9_isDone_4 {d : Nat} {ls st : List AV} {S : MS} {R : Option AV → MS → Prop} (h : wpI (fun t l s S2 => wpX d mX9_isDone t l s S2 R) (wpM d) R 21 4 B_X9_isDone_4 ls st S) : wpX d mX9_isDone 4 ls st S R := x_step (by decide +kernel) h
def B_X9_isDone_21 : List AIn := [(.iload_n 3, 3, 0, 0), (.invokestatic 155, 132, 2, 0)]
theorem s_X9_isDone_21 {d : Nat} {ls st : List AV} {S : MS} {R : Option AV → MS → Prop} (h : wpI (fun t l s S2 => wpX d mX9_isDone t l s S2 R) (wpM d) R 25 4 B_X9_isDone_21 ls st S) : wpX d mX9_isDone 21 ls st S R := x_step (by decide +kernel) h
def B_X9_isDone_25 : List AIn := [(.ifCond .eq 17, 42, 4, 0), (.aload_n 1, 1, 0, 0), (.iconst 4, 4, 0, 0), (.iload_n 3, 3, 0, 0), (.iadd, 0, 0, 0), (.iaload, 0, 0, 0), (.aload_n 0, 0, 0, 0), (.getfield 36, 12, 8, 0), (.iload_n 3, 3, 0, 0), (.iaload, 0, 0, 0), (.if_icmp .lt 7, 46, 4, 0)]
theorem s_X9_isDone_25 {d : Nat} {ls st : List AV} {S : MS} {R : Option AV → MS → Prop} (h : wpI (fun t l s S2 => wpX d mX9_isDone t l s S2 R) (wpM d) R 42 4 B_X9_isDone_25 ls st S) : wpX d mX9_isDone 25 ls st S R := x_step (by decide +kernel) h
def B_X9_isDone_42 : List AIn := [(.iconst 1, 1, 0, 0), (.goto 4, 47, 4, 0)]
theorem s_X9_isDone_42 {d : Nat} {ls st : List AV} {S : MS} {R : Option AV → MS → Prop} (h : wpI (fun t l s S2 => wpX d mX9_isDone t l s S2 R) (wpM d) R 46 0 B_X9_isDone_42 ls st S) : wpX d mX9_isDone 42 ls st S R := x_step (by decide +kernel) h
def B_X9_isDone_46 : List AIn := [(.iconst 0, 0, 0, 0)]
theorem s_X9_isDone_46 {d : Nat} {ls st : List AV} {S : MS} {R : Option AV → MS → Prop} (h : wpI (fun t l s S2 => wpX d mX9_isDone t l s S2 R) (wpM d) R 47 4 B_X9_isDone_46 ls st S) : wpX d mX9_isDone 46 ls st S R := x_step (by decide +kernel) h
def B_X9_isDone_47 : List AIn := [(.istore_n 2, 2, 0, 0), (.iinc 3 1, 1, 0, 0), (.goto (-47), 4, 0, 0)]
theorem s_X9_isDone_47 {d : Nat} {ls st : List AV} {S : MS} {R : Option AV → MS → Prop} (h : wpI (fun t l s S2 => wpX d mX9_isDone t l s S2 R) (wpM d) R 54 0 B_X9_isDone_47 ls st S) : wpX d mX9_isDone 47 ls st S R := x_step (by decide +kernel) h
def B_X9_isDone_54 : List AIn := [(.iload_n 2, 2, 0, 0), (.ireturn, 1, 0, 0)]
theorem s_X9_isDone_54 {d : Nat} {ls st : List AV} {S : MS} {R : Option AV → MS → Prop} (h : wpI (fun t l s S2 => wpX d mX9_isDone t l s S2 R) (wpM d) R 56 0 B_X9_isDone_54 ls st S) : wpX d mX9_isDone 54 ls st S R := x_step (by decide +kernel) h
-- NinthDayModel.till(I)I
def B_X9_till_0 : List AIn := [(.aload_n 0, 0, 0, 0), (.iload_n 1, 1, 0, 0), (.iconst 0, 0, 0, 0), (.iconst 3, 3, 0, 0), (.invokestatic 83, 131, 3, 0)]
theorem s_X9_till_0 {d : Nat} {ls st : List AV} {S : MS} {R : Option AV → MS → Prop} (h : wpI (fun t l s S2 => wpX d mX9_till t l s S2 R) (wpM d) R 7 60 B_X9_till_0 ls st S) : wpX d mX9_till 0 ls st S R := x_step (by decide +kernel) h
def B_X9_till_7 : List AIn := [(.invokevirtual 205, 186, 2, 8)]
theorem s_X9_till_7 {d : Nat} {ls st : List AV} {S : MS} {R : Option AV → MS → Prop} (h : wpI (fun t l s S2 => wpX d mX9_till t l s S2 R) (wpM d) R 10 60 B_X9_till_7 ls st S) : wpX d mX9_till 7 ls st S R := x_step (by decide +kernel) h
def B_X9_till_10 : List AIn := [(.istore_n 2, 2, 0, 0), (.iload_n 2, 2, 0, 0), (.ifCond .ge 5, 17, 60, 0), (.iload_n 2, 2, 0, 0), (.ireturn, 0, 0, 0)]
theorem s_X9_till_10 {d : Nat} {ls st : List AV} {S : MS} {R : Option AV → MS → Prop} (h : wpI (fun t l s S2 => wpX d mX9_till t l s S2 R) (wpM d) R 17 0 B_X9_till_10 ls st S) : wpX d mX9_till 10 ls st S R := x_step (by decide +kernel) h
def B_X9_till_17 : List AIn := [(.aload_n 0, 0, 0, 0), (.invokevirtual 212, 173, 1, 8)]
theorem s_X9_till_17 {d : Nat} {ls st : List AV} {S : MS} {R : Option AV → MS → Prop} (h : wpI (fun t l s S2 => wpX d mX9_till t l s S2 R) (wpM d) R 21 60 B_X9_till_17 ls st S) : wpX d mX9_till 17 ls st S R := x_step (by decide +kernel) h
def B_X9_till_21 : List AIn := [(.iconst 0, 0, 0, 0), (.istore_n 3, 3, 0, 0), (.iconst 0, 0, 0, 0), (.istore 4, 4, 0, 0)]
theorem s_X9_till_21 {d : Nat} {ls st : List AV} {S : MS} {R : Option AV → MS → Prop} (h : wpI (fun t l s S2 => wpX d mX9_till t l s S2 R) (wpM d) R 26 36 B_X9_till_21 ls st S) : wpX d mX9_till 21 ls st S R := x_step (by decide +kernel) h
def B_X9_till_26 : List AIn := [(.iload 4, 4, 0, 0), (.bipush 60, 60, 0, 0), (.if_icmp .gt 58, 88, 63, 0), (.aload_n 0, 0, 0, 0), (.aload_n 0, 0, 0, 0), (.getfield 48, 21, 8, 0), (.invokevirtual 218, 192, 2, 8)]
theorem s_X9_till_26 {d : Nat} {ls st : List AV} {S : MS} {R : Option AV → MS → Prop} (h : wpI (fun t l s S2 => wpX d mX9_till t l s S2 R) (wpM d) R 41 36 B_X9_till_26 ls st S) : wpX d mX9_till 26 ls st S R := x_step (by decide +kernel) h
def B_X9_till_41 : List AIn := [(.ifCond .eq 11, 52, 36, 0), (.aload_n 0, 0, 0, 0), (.iload_n 3, 3, 0, 0), (.iload 4, 4, 0, 0), (.invokevirtual 105, 137, 3, 8)]
theorem s_X9_till_41 {d : Nat} {ls st : List AV} {S : MS} {R : Option AV → MS → Prop} (h : wpI (fun t l s S2 => wpX d mX9_till t l s S2 R) (wpM d) R 51 63 B_X9_till_41 ls st S) : wpX d mX9_till 41 ls st S R := x_step (by decide +kernel) h
def B_X9_till_51 : List AIn := [(.ireturn, 0, 0, 0)]
theorem s_X9_till_51 {d : Nat} {ls st : List AV} {S : MS} {R : Option AV → MS → Prop} (h : wpI (fun t l s S2 => wpX d mX9_till t l s S2 R) (wpM d) R 52 0 B_X9_till_51 ls st S) : wpX d mX9_till 51 ls st S R := x_step (by decide +kernel) h
def B_X9_till_52 : List AIn := [(.aload_n 0, 0, 0, 0), (.aload_n 0, 0, 0, 0), (.getfield 48, 21, 8, 0), (.iload_n 1, 1, 0, 0), (.invokevirtual 209, 172, 3, 8)]
theorem s_X9_till_52 {d : Nat} {ls st : List AV} {S : MS} {R : Option AV → MS → Prop} (h : wpI (fun t l s S2 => wpX d mX9_till t l s S2 R) (wpM d) R 61 36 B_X9_till_52 ls st S) : wpX d mX9_till 52 ls st S R := x_step (by decide +kernel) h
def B_X9_till_61 : List AIn := [(.istore 5, 5, 0, 0), (.iload_n 3, 3, 0, 0), (.iload 5, 5, 0, 0), (.invokestatic 176, 133, 1, 0)]
theorem s_X9_till_61 {d : Nat} {ls st : List AV} {S : MS} {R : Option AV → MS → Prop} (h : wpI (fun t l s S2 => wpX d mX9_till t l s S2 R) (wpM d) R 69 12 B_X9_till_61 ls st S) : wpX d mX9_till 61 ls st S R := x_step (by decide +kernel) h
def B_X9_till_69 : List AIn := [(.iadd, 0, 0, 0), (.istore_n 3, 3, 0, 0), (.aload_n 0, 0, 0, 0), (.aload_n 0, 0, 0, 0), (.getfield 48, 21, 8, 0), (.iload 5, 5, 0, 0), (.iconst 0, 0, 0, 0), (.invokevirtual 201, 170, 4, 8)]
theorem s_X9_till_69 {d : Nat} {ls st : List AV} {S : MS} {R : Option AV → MS → Prop} (h : wpI (fun t l s S2 => wpX d mX9_till t l s S2 R) (wpM d) R 82 36 B_X9_till_69 ls st S) : wpX d mX9_till 69 ls st S R := x_step (by decide +kernel) h
def B_X9_till_82 : List AIn := [(.iinc 4 1, 1, 0, 0), (.goto (-59), 26, 36, 0)]
theorem s_X9_till_82 {d : Nat} {ls st : List AV} {S : MS} {R : Option AV → MS → Prop} (h : wpI (fun t l s S2 => wpX d mX9_till t l s S2 R) (wpM d) R 88 0 B_X9_till_82 ls st S) : wpX d mX9_till 82 ls st S R := x_step (by decide +kernel) h
def B_X9_till_88 : List AIn := [(.bipush (-9), 9, 1, 0), (.ireturn, 0, 0, 0)]
theorem s_X9_till_88 {d : Nat} {ls st : List AV} {S : MS} {R : Option AV → MS → Prop} (h : wpI (fun t l s S2 => wpX d mX9_till t l s S2 R) (wpM d) R 91 0 B_X9_till_88 ls st S) : wpX d mX9_till 88 ls st S R := x_step (by decide +kernel) h
-- NinthDayModel.keptIn(II)I
def B_X9_keptIn_0 : List AIn := [(.aload_n 0, 0, 0, 0), (.invokevirtual 212, 173, 1, 8)]
theorem s_X9_keptIn_0 {d : Nat} {ls st : List AV} {S : MS} {R : Option AV → MS → Prop} (h : wpI (fun t l s S2 => wpX d mX9_keptIn t l s S2 R) (wpM d) R 4 56 B_X9_keptIn_0 ls st S) : wpX d mX9_keptIn 0 ls st S R := x_step (by decide +kernel) h
def B_X9_keptIn_4 : List AIn := [(.iconst 0, 0, 0, 0), (.istore_n 3, 3, 0, 0), (.iconst 0, 0, 0, 0), (.istore 4, 4, 0, 0)]
theorem s_X9_keptIn_4 {d : Nat} {ls st : List AV} {S : MS} {R : Option AV → MS → Prop} (h : wpI (fun t l s S2 => wpX d mX9_keptIn t l s S2 R) (wpM d) R 9 32 B_X9_keptIn_4 ls st S) : wpX d mX9_keptIn 4 ls st S R := x_step (by decide +kernel) h
def B_X9_keptIn_9 : List AIn := [(.iload 4, 4, 0, 0), (.iload_n 1, 1, 0, 0), (.if_icmp .ge 39, 51, 55, 0), (.aload_n 0, 0, 0, 0), (.aload_n 0, 0, 0, 0), (.getfield 48, 21, 8, 0), (.iload_n 2, 2, 0, 0), (.invokevirtual 209, 172, 3, 8)]
theorem s_X9_keptIn_9 {d : Nat} {ls st : List AV} {S : MS} {R : Option AV → MS → Prop} (h : wpI (fun t l s S2 => wpX d mX9_keptIn t l s S2 R) (wpM d) R 24 32 B_X9_keptIn_9 ls st S) : wpX d mX9_keptIn 9 ls st S R := x_step (by decide +kernel) h
def B_X9_keptIn_24 : List AIn := [(.istore 5, 5, 0, 0), (.iload_n 3, 3, 0, 0), (.iload 5, 5, 0, 0), (.invokestatic 176, 133, 1, 0)]
theorem s_X9_keptIn_24 {d : Nat} {ls st : List AV} {S : MS} {R : Option AV → MS → Prop} (h : wpI (fun t l s S2 => wpX d mX9_keptIn t l s S2 R) (wpM d) R 32 8 B_X9_keptIn_24 ls st S) : wpX d mX9_keptIn 24 ls st S R := x_step (by decide +kernel) h
def B_X9_keptIn_32 : List AIn := [(.iadd, 0, 0, 0), (.istore_n 3, 3, 0, 0), (.aload_n 0, 0, 0, 0), (.aload_n 0, 0, 0, 0), (.getfield 48, 21, 8, 0), (.iload 5, 5, 0, 0), (.iconst 0, 0, 0, 0), (.invokevirtual 201, 170, 4, 8)]
theorem s_X9_keptIn_32 {d : Nat} {ls st : List AV} {S : MS} {R : Option AV → MS → Prop} (h : wpI (fun t l s S2 => wpX d mX9_keptIn t l s S2 R) (wpM d) R 45 32 B_X9_keptIn_32 ls st S) : wpX d mX9_keptIn 32 ls st S R := x_step (by decide +kernel) h
def B_X9_keptIn_45 : List AIn := [(.iinc 4 1, 1, 0, 0), (.goto (-39), 9, 32, 0)]
theorem s_X9_keptIn_45 {d : Nat} {ls st : List AV} {S : MS} {R : Option AV → MS → Prop} (h : wpI (fun t l s S2 => wpX d mX9_keptIn t l s S2 R) (wpM d) R 51 0 B_X9_keptIn_45 ls st S) : wpX d mX9_keptIn 45 ls st S R := x_step (by decide +kernel) h
def B_X9_keptIn_51 : List AIn := [(.iload_n 3, 3, 0, 0), (.ireturn, 0, 0, 0)]
theorem s_X9_keptIn_51 {d : Nat} {ls st : List AV} {S : MS} {R : Option AV → MS → Prop} (h : wpI (fun t l s S2 => wpX d mX9_keptIn t l s S2 R) (wpM d) R 53 0 B_X9_keptIn_51 ls st S) : wpX d mX9_keptIn 51 ls st S R := x_step (by decide +kernel) h
-- NinthDayModel.better(I)I
def B_X9_better_0 : List AIn := [(.aload_n 0, 0, 0, 0), (.iload_n 1, 1, 0, 0), (.iconst 0, 0, 0, 0), (.bipush 60, 60, 0, 0), (.invokestatic 83, 131, 3, 0)]
theorem s_X9_better_0 {d : Nat} {ls st : List AV} {S : MS} {R : Option AV → MS → Prop} (h : wpI (fun t l s S2 => wpX d mX9_better t l s S2 R) (wpM d) R 8 124 B_X9_better_0 ls st S) : wpX d mX9_better 0 ls st S R := x_step (by decide +kernel) h
def B_X9_better_8 : List AIn := [(.invokevirtual 205, 186, 2, 8)]
theorem s_X9_better_8 {d : Nat} {ls st : List AV} {S : MS} {R : Option AV → MS → Prop} (h : wpI (fun t l s S2 => wpX d mX9_better t l s S2 R) (wpM d) R 11 124 B_X9_better_8 ls st S) : wpX d mX9_better 8 ls st S R := x_step (by decide +kernel) h
def B_X9_better_11 : List AIn := [(.istore_n 2, 2, 0, 0), (.iload_n 2, 2, 0, 0), (.ifCond .ge 5, 18, 124, 0), (.iload_n 2, 2, 0, 0), (.ireturn, 0, 0, 0)]
theorem s_X9_better_11 {d : Nat} {ls st : List AV} {S : MS} {R : Option AV → MS → Prop} (h : wpI (fun t l s S2 => wpX d mX9_better t l s S2 R) (wpM d) R 18 0 B_X9_better_11 ls st S) : wpX d mX9_better 11 ls st S R := x_step (by decide +kernel) h
def B_X9_better_18 : List AIn := [(.iconst 0, 0, 0, 0), (.istore_n 3, 3, 0, 0), (.iconst (-1), 1, 1, 0), (.istore 4, 4, 0, 0), (.iconst 0, 0, 0, 0), (.istore 5, 5, 0, 0)]
theorem s_X9_better_18 {d : Nat} {ls st : List AV} {S : MS} {R : Option AV → MS → Prop} (h : wpI (fun t l s S2 => wpX d mX9_better t l s S2 R) (wpM d) R 26 68 B_X9_better_18 ls st S) : wpX d mX9_better 18 ls st S R := x_step (by decide +kernel) h
def B_X9_better_26 : List AIn := [(.iload 5, 5, 0, 0), (.iconst 3, 3, 0, 0), (.if_icmp .gt 48, 77, 102, 0), (.aload_n 0, 0, 0, 0), (.iload_n 1, 1, 0, 0), (.iload 5, 5, 0, 0), (.invokevirtual 222, 194, 3, 8)]
theorem s_X9_better_26 {d : Nat} {ls st : List AV} {S : MS} {R : Option AV → MS → Prop} (h : wpI (fun t l s S2 => wpX d mX9_better t l s S2 R) (wpM d) R 39 68 B_X9_better_26 ls st S) : wpX d mX9_better 26 ls st S R := x_step (by decide +kernel) h
def B_X9_better_39 : List AIn := [(.istore 6, 6, 0, 0), (.iload 6, 6, 0, 0), (.iload 4, 4, 0, 0), (.if_icmp .le 8, 53, 4, 0), (.iload 5, 5, 0, 0), (.goto 4, 54, 12, 0)]
theorem s_X9_better_39 {d : Nat} {ls st : List AV} {S : MS} {R : Option AV → MS → Prop} (h : wpI (fun t l s S2 => wpX d mX9_better t l s S2 R) (wpM d) R 53 0 B_X9_better_39 ls st S) : wpX d mX9_better 39 ls st S R := x_step (by decide +kernel) h
def B_X9_better_53 : List AIn := [(.iload_n 3, 3, 0, 0)]
theorem s_X9_better_53 {d : Nat} {ls st : List AV} {S : MS} {R : Option AV → MS → Prop} (h : wpI (fun t l s S2 => wpX d mX9_better t l s S2 R) (wpM d) R 54 12 B_X9_better_53 ls st S) : wpX d mX9_better 53 ls st S R := x_step (by decide +kernel) h
def B_X9_better_54 : List AIn := [(.istore_n 3, 3, 0, 0), (.iload 6, 6, 0, 0), (.iload 4, 4, 0, 0), (.if_icmp .le 8, 67, 68, 0), (.iload 6, 6, 0, 0), (.goto 5, 69, 84, 0)]
theorem s_X9_better_54 {d : Nat} {ls st : List AV} {S : MS} {R : Option AV → MS → Prop} (h : wpI (fun t l s S2 => wpX d mX9_better t l s S2 R) (wpM d) R 67 0 B_X9_better_54 ls st S) : wpX d mX9_better 54 ls st S R := x_step (by decide +kernel) h
def B_X9_better_67 : List AIn := [(.iload 4, 4, 0, 0)]
theorem s_X9_better_67 {d : Nat} {ls st : List AV} {S : MS} {R : Option AV → MS → Prop} (h : wpI (fun t l s S2 => wpX d mX9_better t l s S2 R) (wpM d) R 69 84 B_X9_better_67 ls st S) : wpX d mX9_better 67 ls st S R := x_step (by decide +kernel) h
def B_X9_better_69 : List AIn := [(.istore 4, 4, 0, 0), (.iinc 5 1, 1, 0, 0), (.goto (-48), 26, 68, 0)]
theorem s_X9_better_69 {d : Nat} {ls st : List AV} {S : MS} {R : Option AV → MS → Prop} (h : wpI (fun t l s S2 => wpX d mX9_better t l s S2 R) (wpM d) R 77 0 B_X9_better_69 ls st S) : wpX d mX9_better 69 ls st S R := x_step (by decide +kernel) h
def B_X9_better_77 : List AIn := [(.aload_n 0, 0, 0, 0), (.iload 4, 4, 0, 0), (.iload_n 3, 3, 0, 0), (.invokevirtual 105, 137, 3, 8)]
theorem s_X9_better_77 {d : Nat} {ls st : List AV} {S : MS} {R : Option AV → MS → Prop} (h : wpI (fun t l s S2 => wpX d mX9_better t l s S2 R) (wpM d) R 84 127 B_X9_better_77 ls st S) : wpX d mX9_better 77 ls st S R := x_step (by decide +kernel) h
def B_X9_better_84 : List AIn := [(.ireturn, 0, 0, 0)]
theorem s_X9_better_84 {d : Nat} {ls st : List AV} {S : MS} {R : Option AV → MS → Prop} (h : wpI (fun t l s S2 => wpX d mX9_better t l s S2 R) (wpM d) R 85 0 B_X9_better_84 ls st S) : wpX d mX9_better 84 ls st S R := x_step (by decide +kernel) h
-- NinthDayModel.least(II)I
def B_X9_least_0 : List AIn := [(.aload_n 0, 0, 0, 0), (.iload_n 1, 1, 0, 0), (.invokevirtual 183, 161, 2, 8)]
theorem s_X9_least_0 {d : Nat} {ls st : List AV} {S : MS} {R : Option AV → MS → Prop} (h : wpI (fun t l s S2 => wpX d mX9_least t l s S2 R) (wpM d) R 5 56 B_X9_least_0 ls st S) : wpX d mX9_least 0 ls st S R := x_step (by decide +kernel) h
def B_X9_least_5 : List AIn := [(.ifCond .eq 13, 18, 63, 0), (.iload_n 2, 2, 0, 0), (.iconst 0, 0, 0, 0), (.bipush 30, 30, 0, 0), (.invokestatic 83, 131, 3, 0)]
theorem s_X9_least_5 {d : Nat} {ls st : List AV} {S : MS} {R : Option AV → MS → Prop} (h : wpI (fun t l s S2 => wpX d mX9_least t l s S2 R) (wpM d) R 15 56 B_X9_least_5 ls st S) : wpX d mX9_least 5 ls st S R := x_step (by decide +kernel) h
def B_X9_least_15 : List AIn := [(.ifCond .ne 5, 20, 56, 0)]
theorem s_X9_least_15 {d : Nat} {ls st : List AV} {S : MS} {R : Option AV → MS → Prop} (h : wpI (fun t l s S2 => wpX d mX9_least t l s S2 R) (wpM d) R 18 63 B_X9_least_15 ls st S) : wpX d mX9_least 15 ls st S R := x_step (by decide +kernel) h
def B_X9_least_18 : List AIn := [(.iconst (-1), 1, 1, 0), (.ireturn, 0, 0, 0)]
theorem s_X9_least_18 {d : Nat} {ls st : List AV} {S : MS} {R : Option AV → MS → Prop} (h : wpI (fun t l s S2 => wpX d mX9_least t l s S2 R) (wpM d) R 20 0 B_X9_least_18 ls st S) : wpX d mX9_least 18 ls st S R := x_step (by decide +kernel) h
def B_X9_least_20 : List AIn := [(.aload_n 0, 0, 0, 0), (.invokevirtual 212, 173, 1, 8)]
theorem s_X9_least_20 {d : Nat} {ls st : List AV} {S : MS} {R : Option AV → MS → Prop} (h : wpI (fun t l s S2 => wpX d mX9_least t l s S2 R) (wpM d) R 24 56 B_X9_least_20 ls st S) : wpX d mX9_least 20 ls st S R := x_step (by decide +kernel) h
def B_X9_least_24 : List AIn := [(.iconst 0, 0, 0, 0), (.istore_n 3, 3, 0, 0), (.iconst 0, 0, 0, 0), (.istore 4, 4, 0, 0)]
theorem s_X9_least_24 {d : Nat} {ls st : List AV} {S : MS} {R : Option AV → MS → Prop} (h : wpI (fun t l s S2 => wpX d mX9_least t l s S2 R) (wpM d) R 29 32 B_X9_least_24 ls st S) : wpX d mX9_least 24 ls st S R := x_step (by decide +kernel) h
def B_X9_least_29 : List AIn := [(.iload 4, 4, 0, 0), (.iload_n 2, 2, 0, 0), (.if_icmp .ge 73, 105, 55, 0), (.aload_n 0, 0, 0, 0), (.aload_n 0, 0, 0, 0), (.getfield 48, 21, 8, 0), (.iload_n 1, 1, 0, 0), (.invokevirtual 159, 164, 3, 8)]
theorem s_X9_least_29 {d : Nat} {ls st : List AV} {S : MS} {R : Option AV → MS → Prop} (h : wpI (fun t l s S2 => wpX d mX9_least t l s S2 R) (wpM d) R 44 32 B_X9_least_29 ls st S) : wpX d mX9_least 29 ls st S R := x_step (by decide +kernel) h
def B_X9_least_44 : List AIn := [(.istore 5, 5, 0, 0), (.iload 5, 5, 0, 0), (.iload_n 3, 3, 0, 0), (.if_icmp .le 8, 57, 32, 0), (.iload 5, 5, 0, 0), (.goto 4, 58, 40, 0)]
theorem s_X9_least_44 {d : Nat} {ls st : List AV} {S : MS} {R : Option AV → MS → Prop} (h : wpI (fun t l s S2 => wpX d mX9_least t l s S2 R) (wpM d) R 57 0 B_X9_least_44 ls st S) : wpX d mX9_least 44 ls st S R := x_step (by decide +kernel) h
def B_X9_least_57 : List AIn := [(.iload_n 3, 3, 0, 0)]
theorem s_X9_least_57 {d : Nat} {ls st : List AV} {S : MS} {R : Option AV → MS → Prop} (h : wpI (fun t l s S2 => wpX d mX9_least t l s S2 R) (wpM d) R 58 40 B_X9_least_57 ls st S) : wpX d mX9_least 57 ls st S R := x_step (by decide +kernel) h
def B_X9_least_58 : List AIn := [(.istore_n 3, 3, 0, 0), (.aload_n 0, 0, 0, 0), (.getfield 48, 21, 8, 0), (.iconst 4, 4, 0, 0), (.iload_n 1, 1, 0, 0), (.iadd, 0, 0, 0), (.aload_n 0, 0, 0, 0), (.aload_n 0, 0, 0, 0), (.getfield 48, 21, 8, 0), (.iload_n 1, 1, 0, 0), (.invokevirtual 166, 167, 3, 8)]
theorem s_X9_least_58 {d : Nat} {ls st : List AV} {S : MS} {R : Option AV → MS → Prop} (h : wpI (fun t l s S2 => wpX d mX9_least t l s S2 R) (wpM d) R 75 32 B_X9_least_58 ls st S) : wpX d mX9_least 58 ls st S R := x_step (by decide +kernel) h
def B_X9_least_75 : List AIn := [(.iastore, 0, 0, 0), (.aload_n 0, 0, 0, 0), (.getfield 48, 21, 8, 0), (.bipush 9, 9, 0, 0), (.iload_n 1, 1, 0, 0), (.iadd, 0, 0, 0), (.dup2, 0, 0, 0), (.iaload, 0, 0, 0), (.iconst 1, 1, 0, 0), (.iadd, 0, 0, 0), (.iastore, 0, 0, 0), (.aload_n 0, 0, 0, 0), (.getfield 48, 21, 8, 0), (.iconst 0, 0, 0, 0), (.dup2, 0, 0, 0), (.iaload, 0, 0, 0), (.iconst 1, 1, 0, 0), (.iadd, 0, 0, 0), (.iastore, 0, 0, 0), (.iinc 4 1, 1, 0, 0), (.goto (-73), 29, 32, 0)]
theorem s_X9_least_75 {d : Nat} {ls st : List AV} {S : MS} {R : Option AV → MS → Prop} (h : wpI (fun t l s S2 => wpX d mX9_least t l s S2 R) (wpM d) R 105 0 B_X9_least_75 ls st S) : wpX d mX9_least 75 ls st S R := x_step (by decide +kernel) h
def B_X9_least_105 : List AIn := [(.iload_n 3, 3, 0, 0), (.ireturn, 0, 0, 0)]
theorem s_X9_least_105 {d : Nat} {ls st : List AV} {S : MS} {R : Option AV → MS → Prop} (h : wpI (fun t l s S2 => wpX d mX9_least t l s S2 R) (wpM d) R 107 0 B_X9_least_105 ls st S) : wpX d mX9_least 105 ls st S R := x_step (by decide +kernel) h
-- NinthDayModel.chain(III)I
def B_X9_chain_0 : List AIn := [(.aload_n 0, 0, 0, 0), (.iload_n 1, 1, 0, 0), (.invokevirtual 183, 161, 2, 8)]
theorem s_X9_chain_0 {d : Nat} {ls st : List AV} {S : MS} {R : Option AV → MS → Prop} (h : wpI (fun t l s S2 => wpX d mX9_chain t l s S2 R) (wpM d) R 5 240 B_X9_chain_0 ls st S) : wpX d mX9_chain 0 ls st S R := x_step (by decide +kernel) h
def B_X9_chain_5 : List AIn := [(.ifCond .eq 22, 27, 255, 0), (.iload_n 2, 2, 0, 0), (.iconst 0, 0, 0, 0), (.bipush 60, 60, 0, 0), (.invokestatic 83, 131, 3, 0)]
theorem s_X9_chain_5 {d : Nat} {ls st : List AV} {S : MS} {R : Option AV → MS → Prop} (h : wpI (fun t l s S2 => wpX d mX9_chain t l s S2 R) (wpM d) R 15 240 B_X9_chain_5 ls st S) : wpX d mX9_chain 5 ls st S R := x_step (by decide +kernel) h
def B_X9_chain_15 : List AIn := [(.ifCond .eq 12, 27, 255, 0), (.iload_n 3, 3, 0, 0), (.iconst 0, 0, 0, 0), (.iconst 3, 3, 0, 0), (.invokestatic 83, 131, 3, 0)]
theorem s_X9_chain_15 {d : Nat} {ls st : List AV} {S : MS} {R : Option AV → MS → Prop} (h : wpI (fun t l s S2 => wpX d mX9_chain t l s S2 R) (wpM d) R 24 240 B_X9_chain_15 ls st S) : wpX d mX9_chain 15 ls st S R := x_step (by decide +kernel) h
def B_X9_chain_24 : List AIn := [(.ifCond .ne 5, 29, 240, 0)]
theorem s_X9_chain_24 {d : Nat} {ls st : List AV} {S : MS} {R : Option AV → MS → Prop} (h : wpI (fun t l s S2 => wpX d mX9_chain t l s S2 R) (wpM d) R 27 255 B_X9_chain_24 ls st S) : wpX d mX9_chain 24 ls st S R := x_step (by decide +kernel) h
def B_X9_chain_27 : List AIn := [(.iconst (-1), 1, 1, 0), (.ireturn, 0, 0, 0)]
theorem s_X9_chain_27 {d : Nat} {ls st : List AV} {S : MS} {R : Option AV → MS → Prop} (h : wpI (fun t l s S2 => wpX d mX9_chain t l s S2 R) (wpM d) R 29 0 B_X9_chain_27 ls st S) : wpX d mX9_chain 27 ls st S R := x_step (by decide +kernel) h
def B_X9_chain_29 : List AIn := [(.aload_n 0, 0, 0, 0), (.invokevirtual 212, 173, 1, 8)]
theorem s_X9_chain_29 {d : Nat} {ls st : List AV} {S : MS} {R : Option AV → MS → Prop} (h : wpI (fun t l s S2 => wpX d mX9_chain t l s S2 R) (wpM d) R 33 240 B_X9_chain_29 ls st S) : wpX d mX9_chain 29 ls st S R := x_step (by decide +kernel) h
def B_X9_chain_33 : List AIn := [(.aload_n 0, 0, 0, 0), (.getfield 45, 20, 8, 0), (.bipush 9, 9, 0, 0), (.iload_n 1, 1, 0, 0), (.iadd, 0, 0, 0), (.iaload, 0, 0, 0), (.istore 4, 4, 0, 0), (.iconst 0, 0, 0, 0), (.istore 5, 5, 0, 0), (.iconst 0, 0, 0, 0), (.istore 6, 6, 0, 0)]
theorem s_X9_chain_33 {d : Nat} {ls st : List AV} {S : MS} {R : Option AV → MS → Prop} (h : wpI (fun t l s S2 => wpX d mX9_chain t l s S2 R) (wpM d) R 50 128 B_X9_chain_33 ls st S) : wpX d mX9_chain 33 ls st S R := x_step (by decide +kernel) h
def B_X9_chain_50 : List AIn := [(.iload 6, 6, 0, 0), (.iload_n 2, 2, 0, 0), (.if_icmp .ge 80, 133, 206, 0), (.aload_n 0, 0, 0, 0), (.aload_n 0, 0, 0, 0), (.getfield 48, 21, 8, 0), (.iload_n 3, 3, 0, 0), (.invokevirtual 209, 172, 3, 8)]
theorem s_X9_chain_50 {d : Nat} {ls st : List AV} {S : MS} {R : Option AV → MS → Prop} (h : wpI (fun t l s S2 => wpX d mX9_chain t l s S2 R) (wpM d) R 65 128 B_X9_chain_50 ls st S) : wpX d mX9_chain 50 ls st S R := x_step (by decide +kernel) h
def B_X9_chain_65 : List AIn := [(.istore 7, 7, 0, 0), (.iload 5, 5, 0, 0), (.iload 7, 7, 0, 0), (.iload_n 1, 1, 0, 0), (.invokestatic 155, 132, 2, 0)]
theorem s_X9_chain_65 {d : Nat} {ls st : List AV} {S : MS} {R : Option AV → MS → Prop} (h : wpI (fun t l s S2 => wpX d mX9_chain t l s S2 R) (wpM d) R 75 32 B_X9_chain_65 ls st S) : wpX d mX9_chain 65 ls st S R := x_step (by decide +kernel) h
def B_X9_chain_75 : List AIn := [(.ifCond .eq 7, 82, 32, 0), (.iconst 1, 1, 0, 0), (.goto 4, 83, 32, 0)]
theorem s_X9_chain_75 {d : Nat} {ls st : List AV} {S : MS} {R : Option AV → MS → Prop} (h : wpI (fun t l s S2 => wpX d mX9_chain t l s S2 R) (wpM d) R 82 0 B_X9_chain_75 ls st S) : wpX d mX9_chain 75 ls st S R := x_step (by decide +kernel) h
def B_X9_chain_82 : List AIn := [(.iconst 0, 0, 0, 0)]
theorem s_X9_chain_82 {d : Nat} {ls st : List AV} {S : MS} {R : Option AV → MS → Prop} (h : wpI (fun t l s S2 => wpX d mX9_chain t l s S2 R) (wpM d) R 83 32 B_X9_chain_82 ls st S) : wpX d mX9_chain 82 ls st S R := x_step (by decide +kernel) h
def B_X9_chain_83 : List AIn := [(.iadd, 0, 0, 0), (.istore 5, 5, 0, 0), (.aload_n 0, 0, 0, 0), (.aload_n 0, 0, 0, 0), (.getfield 48, 21, 8, 0), (.iload 7, 7, 0, 0), (.iconst 0, 0, 0, 0), (.invokevirtual 201, 170, 4, 8)]
theorem s_X9_chain_83 {d : Nat} {ls st : List AV} {S : MS} {R : Option AV → MS → Prop} (h : wpI (fun t l s S2 => wpX d mX9_chain t l s S2 R) (wpM d) R 97 128 B_X9_chain_83 ls st S) : wpX d mX9_chain 83 ls st S R := x_step (by decide +kernel) h
def B_X9_chain_97 : List AIn := [(.aload_n 0, 0, 0, 0), (.getfield 48, 21, 8, 0), (.bipush 9, 9, 0, 0), (.iload_n 1, 1, 0, 0), (.iadd, 0, 0, 0), (.iaload, 0, 0, 0), (.iload 4, 4, 0, 0), (.if_icmp .le 15, 123, 128, 0), (.aload_n 0, 0, 0, 0), (.getfield 48, 21, 8, 0), (.bipush 9, 9, 0, 0), (.iload_n 1, 1, 0, 0), (.iadd, 0, 0, 0), (.iaload, 0, 0, 0), (.goto 5, 125, 144, 0)]
theorem s_X9_chain_97 {d : Nat} {ls st : List AV} {S : MS} {R : Option AV → MS → Prop} (h : wpI (fun t l s S2 => wpX d mX9_chain t l s S2 R) (wpM d) R 123 0 B_X9_chain_97 ls st S) : wpX d mX9_chain 97 ls st S R := x_step (by decide +kernel) h
def B_X9_chain_123 : List AIn := [(.iload 4, 4, 0, 0)]
theorem s_X9_chain_123 {d : Nat} {ls st : List AV} {S : MS} {R : Option AV → MS → Prop} (h : wpI (fun t l s S2 => wpX d mX9_chain t l s S2 R) (wpM d) R 125 144 B_X9_chain_123 ls st S) : wpX d mX9_chain 123 ls st S R := x_step (by decide +kernel) h
def B_X9_chain_125 : List AIn := [(.istore 4, 4, 0, 0), (.iinc 6 1, 1, 0, 0), (.goto (-80), 50, 128, 0)]
theorem s_X9_chain_125 {d : Nat} {ls st : List AV} {S : MS} {R : Option AV → MS → Prop} (h : wpI (fun t l s S2 => wpX d mX9_chain t l s S2 R) (wpM d) R 133 0 B_X9_chain_125 ls st S) : wpX d mX9_chain 125 ls st S R := x_step (by decide +kernel) h
def B_X9_chain_133 : List AIn := [(.aload_n 0, 0, 0, 0), (.iload 5, 5, 0, 0), (.iload 4, 4, 0, 0), (.invokevirtual 105, 137, 3, 8)]
theorem s_X9_chain_133 {d : Nat} {ls st : List AV} {S : MS} {R : Option AV → MS → Prop} (h : wpI (fun t l s S2 => wpX d mX9_chain t l s S2 R) (wpM d) R 141 255 B_X9_chain_133 ls st S) : wpX d mX9_chain 133 ls st S R := x_step (by decide +kernel) h
def B_X9_chain_141 : List AIn := [(.ireturn, 0, 0, 0)]
theorem s_X9_chain_141 {d : Nat} {ls st : List AV} {S : MS} {R : Option AV → MS → Prop} (h : wpI (fun t l s S2 => wpX d mX9_chain t l s S2 R) (wpM d) R 142 0 B_X9_chain_141 ls st S) : wpX d mX9_chain 141 ls st S R := x_step (by decide +kernel) h
-- NinthDayModel.layFits(I)V
def B_X9_layFits_0 : List AIn := [(.aload_n 0, 0, 0, 0), (.iconst 0, 0, 0, 0), (.putfield 225, 29, 8, 0), (.aload_n 0, 0, 0, 0), (.bipush (-9), 9, 1, 0), (.putfield 228, 30, 8, 0), (.aload_n 0, 0, 0, 0), (.aload_n 0, 0, 0, 0), (.aload_n 0, 0, 0, 0), (.getfield 45, 20, 8, 0), (.invokevirtual 169, 169, 2, 8)]
theorem s_X9_layFits_0 {d : Nat} {ls st : List AV} {S : MS} {R : Option AV → MS → Prop} (h : wpI (fun t l s S2 => wpX d mX9_layFits t l s S2 R) (wpM d) R 20 12 B_X9_layFits_0 ls st S) : wpX d mX9_layFits 0 ls st S R := x_step (by decide +kernel) h
def B_X9_layFits_20 : List AIn := [(.putfield 231, 31, 8, 0), (.aload_n 0, 0, 0, 0), (.iconst 0, 0, 0, 0), (.putfield 234, 32, 8, 0), (.iconst 0, 0, 0, 0), (.istore_n 2, 2, 0, 0)]
theorem s_X9_layFits_20 {d : Nat} {ls st : List AV} {S : MS} {R : Option AV → MS → Prop} (h : wpI (fun t l s S2 => wpX d mX9_layFits t l s S2 R) (wpM d) R 30 8 B_X9_layFits_20 ls st S) : wpX d mX9_layFits 20 ls st S R := x_step (by decide +kernel) h
def B_X9_layFits_30 : List AIn := [(.iload_n 2, 2, 0, 0), (.aload_n 0, 0, 0, 0), (.getfield 145, 10, 8, 0), (.if_icmp .ge 16, 51, 12, 0), (.aload_n 0, 0, 0, 0), (.getfield 70, 33, 8, 0), (.iload_n 2, 2, 0, 0), (.iconst 0, 0, 0, 0), (.iastore, 0, 0, 0), (.iinc 2 1, 1, 0, 0), (.goto (-18), 30, 8, 0)]
theorem s_X9_layFits_30 {d : Nat} {ls st : List AV} {S : MS} {R : Option AV → MS → Prop} (h : wpI (fun t l s S2 => wpX d mX9_layFits t l s S2 R) (wpM d) R 51 0 B_X9_layFits_30 ls st S) : wpX d mX9_layFits 30 ls st S R := x_step (by decide +kernel) h
def B_X9_layFits_51 : List AIn := [(.iconst 0, 0, 0, 0), (.istore_n 2, 2, 0, 0)]
theorem s_X9_layFits_51 {d : Nat} {ls st : List AV} {S : MS} {R : Option AV → MS → Prop} (h : wpI (fun t l s S2 => wpX d mX9_layFits t l s S2 R) (wpM d) R 53 8 B_X9_layFits_51 ls st S) : wpX d mX9_layFits 51 ls st S R := x_step (by decide +kernel) h
def B_X9_layFits_53 : List AIn := [(.iload_n 2, 2, 0, 0), (.iconst 1, 1, 0, 0), (.aload_n 0, 0, 0, 0), (.getfield 145, 10, 8, 0), (.ishl, 0, 0, 0), (.if_icmp .ge 120, 180, 15, 0), (.iload_n 2, 2, 0, 0), (.aload_n 0, 0, 0, 0), (.getfield 45, 20, 8, 0), (.iconst 3, 3, 0, 0), (.iaload, 0, 0, 0), (.iand, 0, 0, 0), (.ifCond .ne 103, 174, 8, 0), (.aload_n 0, 0, 0, 0), (.aload_n 0, 0, 0, 0), (.getfield 45, 20, 8, 0), (.iload_n 2, 2, 0, 0), (.invokevirtual 195, 165, 3, 8)]
theorem s_X9_layFits_53 {d : Nat} {ls st : List AV} {S : MS} {R : Option AV → MS → Prop} (h : wpI (fun t l s S2 => wpX d mX9_layFits t l s S2 R) (wpM d) R 83 8 B_X9_layFits_53 ls st S) : wpX d mX9_layFits 53 ls st S R := x_step (by decide +kernel) h
def B_X9_layFits_83 : List AIn := [(.iload_n 1, 1, 0, 0), (.if_icmp .ne 90, 174, 8, 0), (.aload_n 0, 0, 0, 0), (.aload_n 0, 0, 0, 0), (.getfield 225, 29, 8, 0), (.ifCond .ne 7, 99, 8, 0), (.iload_n 2, 2, 0, 0), (.goto 7, 103, 8, 0)]
theorem s_X9_layFits_83 {d : Nat} {ls st : List AV} {S : MS} {R : Option AV → MS → Prop} (h : wpI (fun t l s S2 => wpX d mX9_layFits t l s S2 R) (wpM d) R 99 0 B_X9_layFits_83 ls st S) : wpX d mX9_layFits 83 ls st S R := x_step (by decide +kernel) h
def B_X9_layFits_99 : List AIn := [(.aload_n 0, 0, 0, 0), (.getfield 228, 30, 8, 0)]
theorem s_X9_layFits_99 {d : Nat} {ls st : List AV} {S : MS} {R : Option AV → MS → Prop} (h : wpI (fun t l s S2 => wpX d mX9_layFits t l s S2 R) (wpM d) R 103 8 B_X9_layFits_99 ls st S) : wpX d mX9_layFits 99 ls st S R := x_step (by decide +kernel) h
def B_X9_layFits_103 : List AIn := [(.putfield 228, 30, 8, 0), (.aload_n 0, 0, 0, 0), (.dup, 0, 0, 0), (.getfield 225, 29, 8, 0), (.iconst 1, 1, 0, 0), (.iadd, 0, 0, 0), (.putfield 225, 29, 8, 0), (.aload_n 0, 0, 0, 0), (.dup, 0, 0, 0), (.getfield 231, 31, 8, 0), (.iload_n 2, 2, 0, 0), (.iand, 0, 0, 0), (.putfield 231, 31, 8, 0), (.aload_n 0, 0, 0, 0), (.dup, 0, 0, 0), (.getfield 234, 32, 8, 0), (.iload_n 2, 2, 0, 0), (.ior, 0, 0, 0), (.putfield 234, 32, 8, 0), (.iconst 0, 0, 0, 0), (.istore_n 3, 3, 0, 0)]
theorem s_X9_layFits_103 {d : Nat} {ls st : List AV} {S : MS} {R : Option AV → MS → Prop} (h : wpI (fun t l s S2 => wpX d mX9_layFits t l s S2 R) (wpM d) R 138 0 B_X9_layFits_103 ls st S) : wpX d mX9_layFits 103 ls st S R := x_step (by decide +kernel) h
def B_X9_layFits_138 : List AIn := [(.iload_n 3, 3, 0, 0), (.aload_n 0, 0, 0, 0), (.getfield 145, 10, 8, 0), (.if_icmp .ge 31, 174, 8, 0), (.aload_n 0, 0, 0, 0), (.getfield 70, 33, 8, 0), (.iload_n 3, 3, 0, 0), (.dup2, 0, 0, 0), (.iaload, 0, 0, 0), (.iload_n 2, 2, 0, 0), (.iload_n 3, 3, 0, 0), (.invokestatic 155, 132, 2, 0)]
theorem s_X9_layFits_138 {d : Nat} {ls st : List AV} {S : MS} {R : Option AV → MS → Prop} (h : wpI (fun t l s S2 => wpX d mX9_layFits t l s S2 R) (wpM d) R 158 0 B_X9_layFits_138 ls st S) : wpX d mX9_layFits 138 ls st S R := x_step (by decide +kernel) h
def B_X9_layFits_158 : List AIn := [(.ifCond .eq 7, 165, 0, 0), (.iconst 1, 1, 0, 0), (.goto 4, 166, 0, 0)]
theorem s_X9_layFits_158 {d : Nat} {ls st : List AV} {S : MS} {R : Option AV → MS → Prop} (h : wpI (fun t l s S2 => wpX d mX9_layFits t l s S2 R) (wpM d) R 165 0 B_X9_layFits_158 ls st S) : wpX d mX9_layFits 158 ls st S R := x_step (by decide +kernel) h
def B_X9_layFits_165 : List AIn := [(.iconst 0, 0, 0, 0)]
theorem s_X9_layFits_165 {d : Nat} {ls st : List AV} {S : MS} {R : Option AV → MS → Prop} (h : wpI (fun t l s S2 => wpX d mX9_layFits t l s S2 R) (wpM d) R 166 0 B_X9_layFits_165 ls st S) : wpX d mX9_layFits 165 ls st S R := x_step (by decide +kernel) h
def B_X9_layFits_166 : List AIn := [(.iadd, 0, 0, 0), (.iastore, 0, 0, 0), (.iinc 3 1, 1, 0, 0), (.goto (-33), 138, 0, 0)]
theorem s_X9_layFits_166 {d : Nat} {ls st : List AV} {S : MS} {R : Option AV → MS → Prop} (h : wpI (fun t l s S2 => wpX d mX9_layFits t l s S2 R) (wpM d) R 174 0 B_X9_layFits_166 ls st S) : wpX d mX9_layFits 166 ls st S R := x_step (by decide +kernel) h
def B_X9_layFits_174 : List AIn := [(.iinc 2 1, 1, 0, 0), (.goto (-124), 53, 8, 0)]
theorem s_X9_layFits_174 {d : Nat} {ls st : List AV} {S : MS} {R : Option AV → MS → Prop} (h : wpI (fun t l s S2 => wpX d mX9_layFits t l s S2 R) (wpM d) R 180 0 B_X9_layFits_174 ls st S) : wpX d mX9_layFits 174 ls st S R := x_step (by decide +kernel) h
def B_X9_layFits_180 : List AIn := [(.return_, 0, 0, 0)]
theorem s_X9_layFits_180 {d : Nat} {ls st : List AV} {S : MS} {R : Option AV → MS → Prop} (h : wpI (fun t l s S2 => wpX d mX9_layFits t l s S2 R) (wpM d) R 181 0 B_X9_layFits_180 ls st S) : wpX d mX9_layFits 180 ls st S R := x_step (by decide +kernel) h
-- NinthDayModel.fits(I)I
def B_X9_fits_0 : List AIn := [(.aload_n 0, 0, 0, 0), (.iload_n 1, 1, 0, 0), (.iconst 0, 0, 0, 0), (.bipush 99, 99, 0, 0), (.invokestatic 83, 131, 3, 0)]
theorem s_X9_fits_0 {d : Nat} {ls st : List AV} {S : MS} {R : Option AV → MS → Prop} (h : wpI (fun t l s S2 => wpX d mX9_fits t l s S2 R) (wpM d) R 8 4 B_X9_fits_0 ls st S) : wpX d mX9_fits 0 ls st S R := x_step (by decide +kernel) h
def B_X9_fits_8 : List AIn := [(.invokevirtual 205, 186, 2, 8)]
theorem s_X9_fits_8 {d : Nat} {ls st : List AV} {S : MS} {R : Option AV → MS → Prop} (h : wpI (fun t l s S2 => wpX d mX9_fits t l s S2 R) (wpM d) R 11 4 B_X9_fits_8 ls st S) : wpX d mX9_fits 8 ls st S R := x_step (by decide +kernel) h
def B_X9_fits_11 : List AIn := [(.istore_n 2, 2, 0, 0), (.iload_n 2, 2, 0, 0), (.ifCond .ge 5, 18, 4, 0), (.iload_n 2, 2, 0, 0), (.ireturn, 0, 0, 0)]
theorem s_X9_fits_11 {d : Nat} {ls st : List AV} {S : MS} {R : Option AV → MS → Prop} (h : wpI (fun t l s S2 => wpX d mX9_fits t l s S2 R) (wpM d) R 18 0 B_X9_fits_11 ls st S) : wpX d mX9_fits 11 ls st S R := x_step (by decide +kernel) h
def B_X9_fits_18 : List AIn := [(.aload_n 0, 0, 0, 0), (.iload_n 1, 1, 0, 0), (.invokevirtual 237, 198, 2, 8)]
theorem s_X9_fits_18 {d : Nat} {ls st : List AV} {S : MS} {R : Option AV → MS → Prop} (h : wpI (fun t l s S2 => wpX d mX9_fits t l s S2 R) (wpM d) R 23 6 B_X9_fits_18 ls st S) : wpX d mX9_fits 18 ls st S R := x_step (by decide +kernel) h
def B_X9_fits_23 : List AIn := [(.aload_n 0, 0, 0, 0), (.aload_n 0, 0, 0, 0), (.getfield 225, 29, 8, 0), (.i2l, 0, 0, 0), (.lconst 1, 1, 0, 0), (.invokevirtual 241, 139, 3, 8)]
theorem s_X9_fits_23 {d : Nat} {ls st : List AV} {S : MS} {R : Option AV → MS → Prop} (h : wpI (fun t l s S2 => wpX d mX9_fits t l s S2 R) (wpM d) R 33 6 B_X9_fits_23 ls st S) : wpX d mX9_fits 23 ls st S R := x_step (by decide +kernel) h
def B_X9_fits_33 : List AIn := [(.pop, 0, 0, 0), (.aload_n 0, 0, 0, 0), (.aload_n 0, 0, 0, 0), (.getfield 228, 30, 8, 0), (.iconst 1, 1, 0, 0), (.invokevirtual 105, 137, 3, 8)]
theorem s_X9_fits_33 {d : Nat} {ls st : List AV} {S : MS} {R : Option AV → MS → Prop} (h : wpI (fun t l s S2 => wpX d mX9_fits t l s S2 R) (wpM d) R 43 7 B_X9_fits_33 ls st S) : wpX d mX9_fits 33 ls st S R := x_step (by decide +kernel) h
def B_X9_fits_43 : List AIn := [(.ireturn, 0, 0, 0)]
theorem s_X9_fits_43 {d : Nat} {ls st : List AV} {S : MS} {R : Option AV → MS → Prop} (h : wpI (fun t l s S2 => wpX d mX9_fits t l s S2 R) (wpM d) R 44 0 B_X9_fits_43 ls st S) : wpX d mX9_fits 43 ls st S R := x_step (by decide +kernel) h
-- NinthDayModel.sure(I)I
def B_X9_sure_0 : List AIn := [(.aload_n 0, 0, 0, 0), (.iload_n 1, 1, 0, 0), (.iconst 0, 0, 0, 0), (.bipush 99, 99, 0, 0), (.invokestatic 83, 131, 3, 0)]
theorem s_X9_sure_0 {d : Nat} {ls st : List AV} {S : MS} {R : Option AV → MS → Prop} (h : wpI (fun t l s S2 => wpX d mX9_sure t l s S2 R) (wpM d) R 8 4 B_X9_sure_0 ls st S) : wpX d mX9_sure 0 ls st S R := x_step (by decide +kernel) h
def B_X9_sure_8 : List AIn := [(.invokevirtual 205, 186, 2, 8)]
theorem s_X9_sure_8 {d : Nat} {ls st : List AV} {S : MS} {R : Option AV → MS → Prop} (h : wpI (fun t l s S2 => wpX d mX9_sure t l s S2 R) (wpM d) R 11 4 B_X9_sure_8 ls st S) : wpX d mX9_sure 8 ls st S R := x_step (by decide +kernel) h
def B_X9_sure_11 : List AIn := [(.istore_n 2, 2, 0, 0), (.iload_n 2, 2, 0, 0), (.ifCond .ge 5, 18, 4, 0), (.iload_n 2, 2, 0, 0), (.ireturn, 0, 0, 0)]
theorem s_X9_sure_11 {d : Nat} {ls st : List AV} {S : MS} {R : Option AV → MS → Prop} (h : wpI (fun t l s S2 => wpX d mX9_sure t l s S2 R) (wpM d) R 18 0 B_X9_sure_11 ls st S) : wpX d mX9_sure 11 ls st S R := x_step (by decide +kernel) h
def B_X9_sure_18 : List AIn := [(.aload_n 0, 0, 0, 0), (.iload_n 1, 1, 0, 0), (.invokevirtual 237, 198, 2, 8)]
theorem s_X9_sure_18 {d : Nat} {ls st : List AV} {S : MS} {R : Option AV → MS → Prop} (h : wpI (fun t l s S2 => wpX d mX9_sure t l s S2 R) (wpM d) R 23 6 B_X9_sure_18 ls st S) : wpX d mX9_sure 18 ls st S R := x_step (by decide +kernel) h
def B_X9_sure_23 : List AIn := [(.aload_n 0, 0, 0, 0), (.getfield 225, 29, 8, 0), (.ifCond .ne 11, 38, 6, 0), (.aload_n 0, 0, 0, 0), (.iconst 4, 4, 0, 0), (.invokevirtual 97, 134, 2, 8)]
theorem s_X9_sure_23 {d : Nat} {ls st : List AV} {S : MS} {R : Option AV → MS → Prop} (h : wpI (fun t l s S2 => wpX d mX9_sure t l s S2 R) (wpM d) R 35 7 B_X9_sure_23 ls st S) : wpX d mX9_sure 23 ls st S R := x_step (by decide +kernel) h
def B_X9_sure_35 : List AIn := [(.goto 26, 61, 7, 0)]
theorem s_X9_sure_35 {d : Nat} {ls st : List AV} {S : MS} {R : Option AV → MS → Prop} (h : wpI (fun t l s S2 => wpX d mX9_sure t l s S2 R) (wpM d) R 38 0 B_X9_sure_35 ls st S) : wpX d mX9_sure 35 ls st S R := x_step (by decide +kernel) h
def B_X9_sure_38 : List AIn := [(.aload_n 0, 0, 0, 0), (.aload_n 0, 0, 0, 0), (.aload_n 0, 0, 0, 0), (.getfield 45, 20, 8, 0), (.invokevirtual 169, 169, 2, 8)]
theorem s_X9_sure_38 {d : Nat} {ls st : List AV} {S : MS} {R : Option AV → MS → Prop} (h : wpI (fun t l s S2 => wpX d mX9_sure t l s S2 R) (wpM d) R 47 6 B_X9_sure_38 ls st S) : wpX d mX9_sure 38 ls st S R := x_step (by decide +kernel) h
def B_X9_sure_47 : List AIn := [(.aload_n 0, 0, 0, 0), (.getfield 234, 32, 8, 0), (.iconst (-1), 1, 1, 0), (.ixor, 0, 0, 0), (.iand, 0, 0, 0), (.aload_n 0, 0, 0, 0), (.getfield 231, 31, 8, 0), (.invokevirtual 105, 137, 3, 8)]
theorem s_X9_sure_47 {d : Nat} {ls st : List AV} {S : MS} {R : Option AV → MS → Prop} (h : wpI (fun t l s S2 => wpX d mX9_sure t l s S2 R) (wpM d) R 61 7 B_X9_sure_47 ls st S) : wpX d mX9_sure 47 ls st S R := x_step (by decide +kernel) h
def B_X9_sure_61 : List AIn := [(.ireturn, 0, 0, 0)]
theorem s_X9_sure_61 {d : Nat} {ls st : List AV} {S : MS} {R : Option AV → MS → Prop} (h : wpI (fun t l s S2 => wpX d mX9_sure t l s S2 R) (wpM d) R 62 0 B_X9_sure_61 ls st S) : wpX d mX9_sure 61 ls st S R := x_step (by decide +kernel) h
-- NinthDayModel.ask(I)I
def B_X9_ask_0 : List AIn := [(.aload_n 0, 0, 0, 0), (.iload_n 1, 1, 0, 0), (.iconst 0, 0, 0, 0), (.bipush 99, 99, 0, 0), (.invokestatic 83, 131, 3, 0)]
theorem s_X9_ask_0 {d : Nat} {ls st : List AV} {S : MS} {R : Option AV → MS → Prop} (h : wpI (fun t l s S2 => wpX d mX9_ask t l s S2 R) (wpM d) R 8 508 B_X9_ask_0 ls st S) : wpX d mX9_ask 0 ls st S R := x_step (by decide +kernel) h
def B_X9_ask_8 : List AIn := [(.invokevirtual 205, 186, 2, 8)]
theorem s_X9_ask_8 {d : Nat} {ls st : List AV} {S : MS} {R : Option AV → MS → Prop} (h : wpI (fun t l s S2 => wpX d mX9_ask t l s S2 R) (wpM d) R 11 508 B_X9_ask_8 ls st S) : wpX d mX9_ask 8 ls st S R := x_step (by decide +kernel) h
def B_X9_ask_11 : List AIn := [(.istore_n 2, 2, 0, 0), (.iload_n 2, 2, 0, 0), (.ifCond .ge 5, 18, 508, 0), (.iload_n 2, 2, 0, 0), (.ireturn, 0, 0, 0)]
theorem s_X9_ask_11 {d : Nat} {ls st : List AV} {S : MS} {R : Option AV → MS → Prop} (h : wpI (fun t l s S2 => wpX d mX9_ask t l s S2 R) (wpM d) R 18 0 B_X9_ask_11 ls st S) : wpX d mX9_ask 11 ls st S R := x_step (by decide +kernel) h
def B_X9_ask_18 : List AIn := [(.aload_n 0, 0, 0, 0), (.iload_n 1, 1, 0, 0), (.invokevirtual 237, 198, 2, 8)]
theorem s_X9_ask_18 {d : Nat} {ls st : List AV} {S : MS} {R : Option AV → MS → Prop} (h : wpI (fun t l s S2 => wpX d mX9_ask t l s S2 R) (wpM d) R 23 510 B_X9_ask_18 ls st S) : wpX d mX9_ask 18 ls st S R := x_step (by decide +kernel) h
def B_X9_ask_23 : List AIn := [(.aload_n 0, 0, 0, 0), (.getfield 225, 29, 8, 0), (.ifCond .ne 9, 36, 510, 0), (.aload_n 0, 0, 0, 0), (.iconst 4, 4, 0, 0), (.invokevirtual 97, 134, 2, 8)]
theorem s_X9_ask_23 {d : Nat} {ls st : List AV} {S : MS} {R : Option AV → MS → Prop} (h : wpI (fun t l s S2 => wpX d mX9_ask t l s S2 R) (wpM d) R 35 511 B_X9_ask_23 ls st S) : wpX d mX9_ask 23 ls st S R := x_step (by decide +kernel) h
def B_X9_ask_35 : List AIn := [(.ireturn, 0, 0, 0)]
theorem s_X9_ask_35 {d : Nat} {ls st : List AV} {S : MS} {R : Option AV → MS → Prop} (h : wpI (fun t l s S2 => wpX d mX9_ask t l s S2 R) (wpM d) R 36 0 B_X9_ask_35 ls st S) : wpX d mX9_ask 35 ls st S R := x_step (by decide +kernel) h
def B_X9_ask_36 : List AIn := [(.bipush (-9), 9, 1, 0), (.istore_n 3, 3, 0, 0), (.ldc 245, 1000000, 0, 0), (.istore 4, 4, 0, 0), (.iconst 0, 0, 0, 0), (.istore 5, 5, 0, 0)]
theorem s_X9_ask_36 {d : Nat} {ls st : List AV} {S : MS} {R : Option AV → MS → Prop} (h : wpI (fun t l s S2 => wpX d mX9_ask t l s S2 R) (wpM d) R 46 454 B_X9_ask_36 ls st S) : wpX d mX9_ask 36 ls st S R := x_step (by decide +kernel) h
def B_X9_ask_46 : List AIn := [(.iload 5, 5, 0, 0), (.aload_n 0, 0, 0, 0), (.getfield 145, 10, 8, 0), (.if_icmp .ge 105, 157, 486, 0), (.aload_n 0, 0, 0, 0), (.getfield 225, 29, 8, 0), (.aload_n 0, 0, 0, 0), (.getfield 70, 33, 8, 0), (.iload 5, 5, 0, 0), (.iaload, 0, 0, 0), (.isub, 0, 0, 0), (.istore 6, 6, 0, 0), (.aload_n 0, 0, 0, 0), (.getfield 70, 33, 8, 0), (.iload 5, 5, 0, 0), (.iaload, 0, 0, 0), (.iload 6, 6, 0, 0), (.if_icmp .le 13, 91, 390, 0), (.aload_n 0, 0, 0, 0), (.getfield 70, 33, 8, 0), (.iload 5, 5, 0, 0), (.iaload, 0, 0, 0), (.goto 5, 93, 454, 0)]
theorem s_X9_ask_46 {d : Nat} {ls st : List AV} {S : MS} {R : Option AV → MS → Prop} (h : wpI (fun t l s S2 => wpX d mX9_ask t l s S2 R) (wpM d) R 91 0 B_X9_ask_46 ls st S) : wpX d mX9_ask 46 ls st S R := x_step (by decide +kernel) h
def B_X9_ask_91 : List AIn := [(.iload 6, 6, 0, 0)]
theorem s_X9_ask_91 {d : Nat} {ls st : List AV} {S : MS} {R : Option AV → MS → Prop} (h : wpI (fun t l s S2 => wpX d mX9_ask t l s S2 R) (wpM d) R 93 454 B_X9_ask_91 ls st S) : wpX d mX9_ask 91 ls st S R := x_step (by decide +kernel) h
def B_X9_ask_93 : List AIn := [(.istore 7, 7, 0, 0), (.aload_n 0, 0, 0, 0), (.aload_n 0, 0, 0, 0), (.getfield 45, 20, 8, 0), (.invokevirtual 169, 169, 2, 8)]
theorem s_X9_ask_93 {d : Nat} {ls st : List AV} {S : MS} {R : Option AV → MS → Prop} (h : wpI (fun t l s S2 => wpX d mX9_ask t l s S2 R) (wpM d) R 103 326 B_X9_ask_93 ls st S) : wpX d mX9_ask 93 ls st S R := x_step (by decide +kernel) h
def B_X9_ask_103 : List AIn := [(.iload 5, 5, 0, 0), (.invokestatic 155, 132, 2, 0)]
theorem s_X9_ask_103 {d : Nat} {ls st : List AV} {S : MS} {R : Option AV → MS → Prop} (h : wpI (fun t l s S2 => wpX d mX9_ask t l s S2 R) (wpM d) R 108 326 B_X9_ask_103 ls st S) : wpX d mX9_ask 103 ls st S R := x_step (by decide +kernel) h
def B_X9_ask_108 : List AIn := [(.ifCond .eq 14, 122, 326, 0), (.iload 7, 7, 0, 0), (.iload 4, 4, 0, 0), (.if_icmp .ge 7, 122, 326, 0), (.iconst 1, 1, 0, 0), (.goto 4, 123, 326, 0)]
theorem s_X9_ask_108 {d : Nat} {ls st : List AV} {S : MS} {R : Option AV → MS → Prop} (h : wpI (fun t l s S2 => wpX d mX9_ask t l s S2 R) (wpM d) R 122 0 B_X9_ask_108 ls st S) : wpX d mX9_ask 108 ls st S R := x_step (by decide +kernel) h
def B_X9_ask_122 : List AIn := [(.iconst 0, 0, 0, 0)]
theorem s_X9_ask_122 {d : Nat} {ls st : List AV} {S : MS} {R : Option AV → MS → Prop} (h : wpI (fun t l s S2 => wpX d mX9_ask t l s S2 R) (wpM d) R 123 326 B_X9_ask_122 ls st S) : wpX d mX9_ask 122 ls st S R := x_step (by decide +kernel) h
def B_X9_ask_123 : List AIn := [(.istore 8, 8, 0, 0), (.iload 8, 8, 0, 0), (.ifCond .eq 8, 135, 70, 0), (.iload 5, 5, 0, 0), (.goto 4, 136, 78, 0)]
theorem s_X9_ask_123 {d : Nat} {ls st : List AV} {S : MS} {R : Option AV → MS → Prop} (h : wpI (fun t l s S2 => wpX d mX9_ask t l s S2 R) (wpM d) R 135 0 B_X9_ask_123 ls st S) : wpX d mX9_ask 123 ls st S R := x_step (by decide +kernel) h
def B_X9_ask_135 : List AIn := [(.iload_n 3, 3, 0, 0)]
theorem s_X9_ask_135 {d : Nat} {ls st : List AV} {S : MS} {R : Option AV → MS → Prop} (h : wpI (fun t l s S2 => wpX d mX9_ask t l s S2 R) (wpM d) R 136 78 B_X9_ask_135 ls st S) : wpX d mX9_ask 135 ls st S R := x_step (by decide +kernel) h
def B_X9_ask_136 : List AIn := [(.istore_n 3, 3, 0, 0), (.iload 8, 8, 0, 0), (.ifCond .eq 8, 147, 454, 0), (.iload 7, 7, 0, 0), (.goto 5, 149, 470, 0)]
theorem s_X9_ask_136 {d : Nat} {ls st : List AV} {S : MS} {R : Option AV → MS → Prop} (h : wpI (fun t l s S2 => wpX d mX9_ask t l s S2 R) (wpM d) R 147 0 B_X9_ask_136 ls st S) : wpX d mX9_ask 136 ls st S R := x_step (by decide +kernel) h
def B_X9_ask_147 : List AIn := [(.iload 4, 4, 0, 0)]
theorem s_X9_ask_147 {d : Nat} {ls st : List AV} {S : MS} {R : Option AV → MS → Prop} (h : wpI (fun t l s S2 => wpX d mX9_ask t l s S2 R) (wpM d) R 149 470 B_X9_ask_147 ls st S) : wpX d mX9_ask 147 ls st S R := x_step (by decide +kernel) h
def B_X9_ask_149 : List AIn := [(.istore 4, 4, 0, 0), (.iinc 5 1, 1, 0, 0), (.goto (-108), 46, 454, 0)]
theorem s_X9_ask_149 {d : Nat} {ls st : List AV} {S : MS} {R : Option AV → MS → Prop} (h : wpI (fun t l s S2 => wpX d mX9_ask t l s S2 R) (wpM d) R 157 0 B_X9_ask_149 ls st S) : wpX d mX9_ask 149 ls st S R := x_step (by decide +kernel) h
def B_X9_ask_157 : List AIn := [(.iload_n 3, 3, 0, 0), (.bipush (-9), 9, 1, 0), (.if_icmp .ne 8, 168, 486, 0), (.bipush (-9), 9, 1, 0), (.goto 10, 175, 511, 0)]
theorem s_X9_ask_157 {d : Nat} {ls st : List AV} {S : MS} {R : Option AV → MS → Prop} (h : wpI (fun t l s S2 => wpX d mX9_ask t l s S2 R) (wpM d) R 168 0 B_X9_ask_157 ls st S) : wpX d mX9_ask 157 ls st S R := x_step (by decide +kernel) h
def B_X9_ask_168 : List AIn := [(.aload_n 0, 0, 0, 0), (.iload 4, 4, 0, 0), (.iload_n 3, 3, 0, 0), (.invokevirtual 105, 137, 3, 8)]
theorem s_X9_ask_168 {d : Nat} {ls st : List AV} {S : MS} {R : Option AV → MS → Prop} (h : wpI (fun t l s S2 => wpX d mX9_ask t l s S2 R) (wpM d) R 175 511 B_X9_ask_168 ls st S) : wpX d mX9_ask 168 ls st S R := x_step (by decide +kernel) h
def B_X9_ask_175 : List AIn := [(.ireturn, 0, 0, 0)]
theorem s_X9_ask_175 {d : Nat} {ls st : List AV} {S : MS} {R : Option AV → MS → Prop} (h : wpI (fun t l s S2 => wpX d mX9_ask t l s S2 R) (wpM d) R 176 0 B_X9_ask_175 ls st S) : wpX d mX9_ask 175 ls st S R := x_step (by decide +kernel) h
-- NinthDayModel.needPairs(II)I
def B_X9_needPairs_0 : List AIn := [(.aload_n 0, 0, 0, 0), (.iload_n 1, 1, 0, 0), (.invokevirtual 183, 161, 2, 8)]
theorem s_X9_needPairs_0 {d : Nat} {ls st : List AV} {S : MS} {R : Option AV → MS → Prop} (h : wpI (fun t l s S2 => wpX d mX9_needPairs t l s S2 R) (wpM d) R 5 26 B_X9_needPairs_0 ls st S) : wpX d mX9_needPairs 0 ls st S R := x_step (by decide +kernel) h
def B_X9_needPairs_5 : List AIn := [(.ifCond .eq 10, 15, 31, 0), (.iload_n 2, 2, 0, 0), (.invokestatic 93, 142, 1, 0)]
theorem s_X9_needPairs_5 {d : Nat} {ls st : List AV} {S : MS} {R : Option AV → MS → Prop} (h : wpI (fun t l s S2 => wpX d mX9_needPairs t l s S2 R) (wpM d) R 12 26 B_X9_needPairs_5 ls st S) : wpX d mX9_needPairs 5 ls st S R := x_step (by decide +kernel) h
def B_X9_needPairs_12 : List AIn := [(.ifCond .ne 5, 17, 26, 0)]
theorem s_X9_needPairs_12 {d : Nat} {ls st : List AV} {S : MS} {R : Option AV → MS → Prop} (h : wpI (fun t l s S2 => wpX d mX9_needPairs t l s S2 R) (wpM d) R 15 31 B_X9_needPairs_12 ls st S) : wpX d mX9_needPairs 12 ls st S R := x_step (by decide +kernel) h
def B_X9_needPairs_15 : List AIn := [(.iconst (-1), 1, 1, 0), (.ireturn, 0, 0, 0)]
theorem s_X9_needPairs_15 {d : Nat} {ls st : List AV} {S : MS} {R : Option AV → MS → Prop} (h : wpI (fun t l s S2 => wpX d mX9_needPairs t l s S2 R) (wpM d) R 17 0 B_X9_needPairs_15 ls st S) : wpX d mX9_needPairs 15 ls st S R := x_step (by decide +kernel) h
def B_X9_needPairs_17 : List AIn := [(.aload_n 0, 0, 0, 0), (.getfield 17, 5, 8, 0), (.iload_n 2, 2, 0, 0), (.iaload, 0, 0, 0), (.ifCond .ge 9, 32, 26, 0), (.aload_n 0, 0, 0, 0), (.iconst 1, 1, 0, 0), (.invokevirtual 97, 134, 2, 8)]
theorem s_X9_needPairs_17 {d : Nat} {ls st : List AV} {S : MS} {R : Option AV → MS → Prop} (h : wpI (fun t l s S2 => wpX d mX9_needPairs t l s S2 R) (wpM d) R 31 31 B_X9_needPairs_17 ls st S) : wpX d mX9_needPairs 17 ls st S R := x_step (by decide +kernel) h
def B_X9_needPairs_31 : List AIn := [(.ireturn, 0, 0, 0)]
theorem s_X9_needPairs_31 {d : Nat} {ls st : List AV} {S : MS} {R : Option AV → MS → Prop} (h : wpI (fun t l s S2 => wpX d mX9_needPairs t l s S2 R) (wpM d) R 32 0 B_X9_needPairs_31 ls st S) : wpX d mX9_needPairs 31 ls st S R := x_step (by decide +kernel) h
def B_X9_needPairs_32 : List AIn := [(.aload_n 0, 0, 0, 0), (.getfield 17, 5, 8, 0), (.iload_n 2, 2, 0, 0), (.iaload, 0, 0, 0), (.iconst 2, 2, 0, 0), (.irem, 0, 0, 0), (.ifCond .eq 9, 49, 26, 0), (.aload_n 0, 0, 0, 0), (.iconst 5, 5, 0, 0), (.invokevirtual 97, 134, 2, 8)]
theorem s_X9_needPairs_32 {d : Nat} {ls st : List AV} {S : MS} {R : Option AV → MS → Prop} (h : wpI (fun t l s S2 => wpX d mX9_needPairs t l s S2 R) (wpM d) R 48 31 B_X9_needPairs_32 ls st S) : wpX d mX9_needPairs 32 ls st S R := x_step (by decide +kernel) h
def B_X9_needPairs_48 : List AIn := [(.ireturn, 0, 0, 0)]
theorem s_X9_needPairs_48 {d : Nat} {ls st : List AV} {S : MS} {R : Option AV → MS → Prop} (h : wpI (fun t l s S2 => wpX d mX9_needPairs t l s S2 R) (wpM d) R 49 0 B_X9_needPairs_48 ls st S) : wpX d mX9_needPairs 48 ls st S R := x_step (by decide +kernel) h
def B_X9_needPairs_49 : List AIn := [(.iconst 1, 1, 0, 0), (.istore_n 3, 3, 0, 0), (.iconst 0, 0, 0, 0), (.istore 4, 4, 0, 0)]
theorem s_X9_needPairs_49 {d : Nat} {ls st : List AV} {S : MS} {R : Option AV → MS → Prop} (h : wpI (fun t l s S2 => wpX d mX9_needPairs t l s S2 R) (wpM d) R 54 2 B_X9_needPairs_49 ls st S) : wpX d mX9_needPairs 49 ls st S R := x_step (by decide +kernel) h
def B_X9_needPairs_54 : List AIn := [(.iload 4, 4, 0, 0), (.aload_n 0, 0, 0, 0), (.getfield 17, 5, 8, 0), (.iload_n 2, 2, 0, 0), (.iaload, 0, 0, 0), (.if_icmp .ge 53, 115, 22, 0), (.iload_n 3, 3, 0, 0), (.ifCond .eq 41, 107, 10, 0), (.aload_n 0, 0, 0, 0), (.iload_n 2, 2, 0, 0), (.iload 4, 4, 0, 0), (.invokevirtual 101, 143, 3, 8)]
theorem s_X9_needPairs_54 {d : Nat} {ls st : List AV} {S : MS} {R : Option AV → MS → Prop} (h : wpI (fun t l s S2 => wpX d mX9_needPairs t l s S2 R) (wpM d) R 76 10 B_X9_needPairs_54 ls st S) : wpX d mX9_needPairs 54 ls st S R := x_step (by decide +kernel) h
def B_X9_needPairs_76 : List AIn := [(.iconst 1, 1, 0, 0), (.bipush 99, 99, 0, 0), (.invokestatic 83, 131, 3, 0)]
theorem s_X9_needPairs_76 {d : Nat} {ls st : List AV} {S : MS} {R : Option AV → MS → Prop} (h : wpI (fun t l s S2 => wpX d mX9_needPairs t l s S2 R) (wpM d) R 82 10 B_X9_needPairs_76 ls st S) : wpX d mX9_needPairs 76 ls st S R := x_step (by decide +kernel) h
def B_X9_needPairs_82 : List AIn := [(.ifCond .eq 25, 107, 10, 0), (.aload_n 0, 0, 0, 0), (.iload_n 2, 2, 0, 0), (.iload 4, 4, 0, 0), (.iconst 1, 1, 0, 0), (.iadd, 0, 0, 0), (.invokevirtual 101, 143, 3, 8)]
theorem s_X9_needPairs_82 {d : Nat} {ls st : List AV} {S : MS} {R : Option AV → MS → Prop} (h : wpI (fun t l s S2 => wpX d mX9_needPairs t l s S2 R) (wpM d) R 94 10 B_X9_needPairs_82 ls st S) : wpX d mX9_needPairs 82 ls st S R := x_step (by decide +kernel) h
def B_X9_needPairs_94 : List AIn := [(.iconst 0, 0, 0, 0), (.bipush 20, 20, 0, 0), (.invokestatic 83, 131, 3, 0)]
theorem s_X9_needPairs_94 {d : Nat} {ls st : List AV} {S : MS} {R : Option AV → MS → Prop} (h : wpI (fun t l s S2 => wpX d mX9_needPairs t l s S2 R) (wpM d) R 100 10 B_X9_needPairs_94 ls st S) : wpX d mX9_needPairs 94 ls st S R := x_step (by decide +kernel) h
def B_X9_needPairs_100 : List AIn := [(.ifCond .eq 7, 107, 10, 0), (.iconst 1, 1, 0, 0), (.goto 4, 108, 10, 0)]
theorem s_X9_needPairs_100 {d : Nat} {ls st : List AV} {S : MS} {R : Option AV → MS → Prop} (h : wpI (fun t l s S2 => wpX d mX9_needPairs t l s S2 R) (wpM d) R 107 0 B_X9_needPairs_100 ls st S) : wpX d mX9_needPairs 100 ls st S R := x_step (by decide +kernel) h
def B_X9_needPairs_107 : List AIn := [(.iconst 0, 0, 0, 0)]
theorem s_X9_needPairs_107 {d : Nat} {ls st : List AV} {S : MS} {R : Option AV → MS → Prop} (h : wpI (fun t l s S2 => wpX d mX9_needPairs t l s S2 R) (wpM d) R 108 10 B_X9_needPairs_107 ls st S) : wpX d mX9_needPairs 107 ls st S R := x_step (by decide +kernel) h
def B_X9_needPairs_108 : List AIn := [(.istore_n 3, 3, 0, 0), (.iinc 4 2, 2, 0, 0), (.goto (-58), 54, 2, 0)]
theorem s_X9_needPairs_108 {d : Nat} {ls st : List AV} {S : MS} {R : Option AV → MS → Prop} (h : wpI (fun t l s S2 => wpX d mX9_needPairs t l s S2 R) (wpM d) R 115 0 B_X9_needPairs_108 ls st S) : wpX d mX9_needPairs 108 ls st S R := x_step (by decide +kernel) h
def B_X9_needPairs_115 : List AIn := [(.iload_n 3, 3, 0, 0), (.ifCond .eq 7, 123, 30, 0), (.iconst 0, 0, 0, 0), (.goto 8, 128, 31, 0)]
theorem s_X9_needPairs_115 {d : Nat} {ls st : List AV} {S : MS} {R : Option AV → MS → Prop} (h : wpI (fun t l s S2 => wpX d mX9_needPairs t l s S2 R) (wpM d) R 123 0 B_X9_needPairs_115 ls st S) : wpX d mX9_needPairs 115 ls st S R := x_step (by decide +kernel) h
def B_X9_needPairs_123 : List AIn := [(.aload_n 0, 0, 0, 0), (.iconst 3, 3, 0, 0), (.invokevirtual 97, 134, 2, 8)]
theorem s_X9_needPairs_123 {d : Nat} {ls st : List AV} {S : MS} {R : Option AV → MS → Prop} (h : wpI (fun t l s S2 => wpX d mX9_needPairs t l s S2 R) (wpM d) R 128 31 B_X9_needPairs_123 ls st S) : wpX d mX9_needPairs 123 ls st S R := x_step (by decide +kernel) h
def B_X9_needPairs_128 : List AIn := [(.ireturn, 0, 0, 0)]
theorem s_X9_needPairs_128 {d : Nat} {ls st : List AV} {S : MS} {R : Option AV → MS → Prop} (h : wpI (fun t l s S2 => wpX d mX9_needPairs t l s S2 R) (wpM d) R 129 0 B_X9_needPairs_128 ls st S) : wpX d mX9_needPairs 128 ls st S R := x_step (by decide +kernel) h
-- NinthDayModel.isTold(IIIII)Z
def B_X9_isTold_0 : List AIn := [(.iconst 1, 1, 0, 0), (.istore 6, 6, 0, 0), (.iconst 0, 0, 0, 0), (.istore 7, 7, 0, 0)]
theorem s_X9_isTold_0 {d : Nat} {ls st : List AV} {S : MS} {R : Option AV → MS → Prop} (h : wpI (fun t l s S2 => wpX d mX9_isTold t l s S2 R) (wpM d) R 6 0 B_X9_isTold_0 ls st S) : wpX d mX9_isTold 0 ls st S R := x_step (by decide +kernel) h
def B_X9_isTold_6 : List AIn := [(.iload 7, 7, 0, 0), (.aload_n 0, 0, 0, 0), (.getfield 17, 5, 8, 0), (.iload 5, 5, 0, 0), (.iaload, 0, 0, 0), (.if_icmp .ge 64, 79, 191, 0), (.iload 6, 6, 0, 0), (.ifCond .eq 50, 70, 64, 0), (.iload_n 2, 2, 0, 0), (.iload_n 3, 3, 0, 0), (.iload 4, 4, 0, 0), (.aload_n 0, 0, 0, 0), (.getfield 39, 13, 8, 0), (.iload_n 1, 1, 0, 0), (.iaload, 0, 0, 0), (.aload_n 0, 0, 0, 0), (.getfield 45, 20, 8, 0), (.bipush 9, 9, 0, 0), (.iload_n 1, 1, 0, 0), (.iadd, 0, 0, 0), (.iaload, 0, 0, 0), (.aload_n 0, 0, 0, 0), (.iload 5, 5, 0, 0), (.iload 7, 7, 0, 0), (.invokevirtual 101, 143, 3, 8)]
theorem s_X9_isTold_6 {d : Nat} {ls st : List AV} {S : MS} {R : Option AV → MS → Prop} (h : wpI (fun t l s S2 => wpX d mX9_isTold t l s S2 R) (wpM d) R 50 64 B_X9_isTold_6 ls st S) : wpX d mX9_isTold 6 ls st S R := x_step (by decide +kernel) h
def B_X9_isTold_50 : List AIn := [(.invokestatic 151, 163, 6, 0)]
theorem s_X9_isTold_50 {d : Nat} {ls st : List AV} {S : MS} {R : Option AV → MS → Prop} (h : wpI (fun t l s S2 => wpX d mX9_isTold t l s S2 R) (wpM d) R 53 64 B_X9_isTold_50 ls st S) : wpX d mX9_isTold 50 ls st S R := x_step (by decide +kernel) h
def B_X9_isTold_53 : List AIn := [(.aload_n 0, 0, 0, 0), (.iload 5, 5, 0, 0), (.iload 7, 7, 0, 0), (.iconst 1, 1, 0, 0), (.iadd, 0, 0, 0), (.invokevirtual 101, 143, 3, 8)]
theorem s_X9_isTold_53 {d : Nat} {ls st : List AV} {S : MS} {R : Option AV → MS → Prop} (h : wpI (fun t l s S2 => wpX d mX9_isTold t l s S2 R) (wpM d) R 63 64 B_X9_isTold_53 ls st S) : wpX d mX9_isTold 53 ls st S R := x_step (by decide +kernel) h
def B_X9_isTold_63 : List AIn := [(.if_icmp .ne 7, 70, 64, 0), (.iconst 1, 1, 0, 0), (.goto 4, 71, 64, 0)]
theorem s_X9_isTold_63 {d : Nat} {ls st : List AV} {S : MS} {R : Option AV → MS → Prop} (h : wpI (fun t l s S2 => wpX d mX9_isTold t l s S2 R) (wpM d) R 70 0 B_X9_isTold_63 ls st S) : wpX d mX9_isTold 63 ls st S R := x_step (by decide +kernel) h
def B_X9_isTold_70 : List AIn := [(.iconst 0, 0, 0, 0)]
theorem s_X9_isTold_70 {d : Nat} {ls st : List AV} {S : MS} {R : Option AV → MS → Prop} (h : wpI (fun t l s S2 => wpX d mX9_isTold t l s S2 R) (wpM d) R 71 64 B_X9_isTold_70 ls st S) : wpX d mX9_isTold 70 ls st S R := x_step (by decide +kernel) h
def B_X9_isTold_71 : List AIn := [(.istore 6, 6, 0, 0), (.iinc 7 2, 2, 0, 0), (.goto (-70), 6, 0, 0)]
theorem s_X9_isTold_71 {d : Nat} {ls st : List AV} {S : MS} {R : Option AV → MS → Prop} (h : wpI (fun t l s S2 => wpX d mX9_isTold t l s S2 R) (wpM d) R 79 0 B_X9_isTold_71 ls st S) : wpX d mX9_isTold 71 ls st S R := x_step (by decide +kernel) h
def B_X9_isTold_79 : List AIn := [(.iload 6, 6, 0, 0), (.ireturn, 1, 0, 0)]
theorem s_X9_isTold_79 {d : Nat} {ls st : List AV} {S : MS} {R : Option AV → MS → Prop} (h : wpI (fun t l s S2 => wpX d mX9_isTold t l s S2 R) (wpM d) R 82 0 B_X9_isTold_79 ls st S) : wpX d mX9_isTold 79 ls st S R := x_step (by decide +kernel) h
-- NinthDayModel.habits(II)I
def B_X9_habits_0 : List AIn := [(.aload_n 0, 0, 0, 0), (.iload_n 1, 1, 0, 0), (.iload_n 2, 2, 0, 0), (.invokevirtual 246, 202, 3, 8)]
theorem s_X9_habits_0 {d : Nat} {ls st : List AV} {S : MS} {R : Option AV → MS → Prop} (h : wpI (fun t l s S2 => wpX d mX9_habits t l s S2 R) (wpM d) R 6 120 B_X9_habits_0 ls st S) : wpX d mX9_habits 0 ls st S R := x_step (by decide +kernel) h
def B_X9_habits_6 : List AIn := [(.istore_n 3, 3, 0, 0), (.iload_n 3, 3, 0, 0), (.ifCond .ge 5, 13, 120, 0), (.iload_n 3, 3, 0, 0), (.ireturn, 0, 0, 0)]
theorem s_X9_habits_6 {d : Nat} {ls st : List AV} {S : MS} {R : Option AV → MS → Prop} (h : wpI (fun t l s S2 => wpX d mX9_habits t l s S2 R) (wpM d) R 13 0 B_X9_habits_6 ls st S) : wpX d mX9_habits 6 ls st S R := x_step (by decide +kernel) h
def B_X9_habits_13 : List AIn := [(.iconst 0, 0, 0, 0), (.istore 4, 4, 0, 0), (.iconst 0, 0, 0, 0), (.istore 5, 5, 0, 0), (.iconst 0, 0, 0, 0), (.istore 6, 6, 0, 0)]
theorem s_X9_habits_13 {d : Nat} {ls st : List AV} {S : MS} {R : Option AV → MS → Prop} (h : wpI (fun t l s S2 => wpX d mX9_habits t l s S2 R) (wpM d) R 22 8 B_X9_habits_13 ls st S) : wpX d mX9_habits 13 ls st S R := x_step (by decide +kernel) h
def B_X9_habits_22 : List AIn := [(.iload 6, 6, 0, 0), (.bipush 9, 9, 0, 0), (.if_icmp .gt 83, 109, 78, 0), (.iload 4, 4, 0, 0), (.aload_n 0, 0, 0, 0), (.iload_n 1, 1, 0, 0), (.aload_n 0, 0, 0, 0), (.getfield 33, 11, 8, 0), (.iload_n 1, 1, 0, 0), (.iaload, 0, 0, 0), (.aload_n 0, 0, 0, 0), (.getfield 36, 12, 8, 0), (.iload_n 1, 1, 0, 0), (.iaload, 0, 0, 0), (.iload 6, 6, 0, 0), (.iload_n 2, 2, 0, 0), (.invokevirtual 249, 203, 6, 8)]
theorem s_X9_habits_22 {d : Nat} {ls st : List AV} {S : MS} {R : Option AV → MS → Prop} (h : wpI (fun t l s S2 => wpX d mX9_habits t l s S2 R) (wpM d) R 51 24 B_X9_habits_22 ls st S) : wpX d mX9_habits 22 ls st S R := x_step (by decide +kernel) h
def B_X9_habits_51 : List AIn := [(.ifCond .eq 10, 61, 24, 0), (.iconst 1, 1, 0, 0), (.iload 6, 6, 0, 0), (.ishl, 0, 0, 0), (.goto 4, 62, 24, 0)]
theorem s_X9_habits_51 {d : Nat} {ls st : List AV} {S : MS} {R : Option AV → MS → Prop} (h : wpI (fun t l s S2 => wpX d mX9_habits t l s S2 R) (wpM d) R 61 0 B_X9_habits_51 ls st S) : wpX d mX9_habits 51 ls st S R := x_step (by decide +kernel) h
def B_X9_habits_61 : List AIn := [(.iconst 0, 0, 0, 0)]
theorem s_X9_habits_61 {d : Nat} {ls st : List AV} {S : MS} {R : Option AV → MS → Prop} (h : wpI (fun t l s S2 => wpX d mX9_habits t l s S2 R) (wpM d) R 62 24 B_X9_habits_61 ls st S) : wpX d mX9_habits 61 ls st S R := x_step (by decide +kernel) h
def B_X9_habits_62 : List AIn := [(.ior, 0, 0, 0), (.istore 4, 4, 0, 0), (.iload 5, 5, 0, 0), (.aload_n 0, 0, 0, 0), (.iload_n 1, 1, 0, 0), (.aload_n 0, 0, 0, 0), (.getfield 33, 11, 8, 0), (.iload_n 1, 1, 0, 0), (.iaload, 0, 0, 0), (.iload 6, 6, 0, 0), (.aload_n 0, 0, 0, 0), (.getfield 45, 20, 8, 0), (.iconst 4, 4, 0, 0), (.iload_n 1, 1, 0, 0), (.iadd, 0, 0, 0), (.iaload, 0, 0, 0), (.iload_n 2, 2, 0, 0), (.invokevirtual 249, 203, 6, 8)]
theorem s_X9_habits_62 {d : Nat} {ls st : List AV} {S : MS} {R : Option AV → MS → Prop} (h : wpI (fun t l s S2 => wpX d mX9_habits t l s S2 R) (wpM d) R 89 40 B_X9_habits_62 ls st S) : wpX d mX9_habits 62 ls st S R := x_step (by decide +kernel) h
def B_X9_habits_89 : List AIn := [(.ifCond .eq 10, 99, 40, 0), (.iconst 1, 1, 0, 0), (.iload 6, 6, 0, 0), (.ishl, 0, 0, 0), (.goto 4, 100, 40, 0)]
theorem s_X9_habits_89 {d : Nat} {ls st : List AV} {S : MS} {R : Option AV → MS → Prop} (h : wpI (fun t l s S2 => wpX d mX9_habits t l s S2 R) (wpM d) R 99 0 B_X9_habits_89 ls st S) : wpX d mX9_habits 89 ls st S R := x_step (by decide +kernel) h
def B_X9_habits_99 : List AIn := [(.iconst 0, 0, 0, 0)]
theorem s_X9_habits_99 {d : Nat} {ls st : List AV} {S : MS} {R : Option AV → MS → Prop} (h : wpI (fun t l s S2 => wpX d mX9_habits t l s S2 R) (wpM d) R 100 40 B_X9_habits_99 ls st S) : wpX d mX9_habits 99 ls st S R := x_step (by decide +kernel) h
def B_X9_habits_100 : List AIn := [(.ior, 0, 0, 0), (.istore 5, 5, 0, 0), (.iinc 6 1, 1, 0, 0), (.goto (-84), 22, 8, 0)]
theorem s_X9_habits_100 {d : Nat} {ls st : List AV} {S : MS} {R : Option AV → MS → Prop} (h : wpI (fun t l s S2 => wpX d mX9_habits t l s S2 R) (wpM d) R 109 0 B_X9_habits_100 ls st S) : wpX d mX9_habits 100 ls st S R := x_step (by decide +kernel) h
def B_X9_habits_109 : List AIn := [(.aload_n 0, 0, 0, 0), (.iload 5, 5, 0, 0), (.iload 4, 4, 0, 0), (.invokevirtual 105, 137, 3, 8)]
theorem s_X9_habits_109 {d : Nat} {ls st : List AV} {S : MS} {R : Option AV → MS → Prop} (h : wpI (fun t l s S2 => wpX d mX9_habits t l s S2 R) (wpM d) R 117 127 B_X9_habits_109 ls st S) : wpX d mX9_habits 109 ls st S R := x_step (by decide +kernel) h
def B_X9_habits_117 : List AIn := [(.ireturn, 0, 0, 0)]
theorem s_X9_habits_117 {d : Nat} {ls st : List AV} {S : MS} {R : Option AV → MS → Prop} (h : wpI (fun t l s S2 => wpX d mX9_habits t l s S2 R) (wpM d) R 118 0 B_X9_habits_117 ls st S) : wpX d mX9_habits 117 ls st S R := x_step (by decide +kernel) h
-- NinthDayModel.kindSet(II)I
def B_X9_kindSet_0 : List AIn := [(.iconst 0, 0, 0, 0), (.istore_n 3, 3, 0, 0), (.iconst 0, 0, 0, 0), (.istore 4, 4, 0, 0)]
theorem s_X9_kindSet_0 {d : Nat} {ls st : List AV} {S : MS} {R : Option AV → MS → Prop} (h : wpI (fun t l s S2 => wpX d mX9_kindSet t l s S2 R) (wpM d) R 5 0 B_X9_kindSet_0 ls st S) : wpX d mX9_kindSet 0 ls st S R := x_step (by decide +kernel) h
def B_X9_kindSet_5 : List AIn := [(.iload 4, 4, 0, 0), (.iconst 5, 5, 0, 0), (.if_icmp .gt 45, 53, 23, 0), (.iload_n 3, 3, 0, 0), (.aload_n 0, 0, 0, 0), (.iload_n 1, 1, 0, 0), (.iload 4, 4, 0, 0), (.aload_n 0, 0, 0, 0), (.getfield 36, 12, 8, 0), (.iload_n 1, 1, 0, 0), (.iaload, 0, 0, 0), (.aload_n 0, 0, 0, 0), (.getfield 45, 20, 8, 0), (.iconst 4, 4, 0, 0), (.iload_n 1, 1, 0, 0), (.iadd, 0, 0, 0), (.iaload, 0, 0, 0), (.iload_n 2, 2, 0, 0), (.invokevirtual 249, 203, 6, 8)]
theorem s_X9_kindSet_5 {d : Nat} {ls st : List AV} {S : MS} {R : Option AV → MS → Prop} (h : wpI (fun t l s S2 => wpX d mX9_kindSet t l s S2 R) (wpM d) R 34 8 B_X9_kindSet_5 ls st S) : wpX d mX9_kindSet 5 ls st S R := x_step (by decide +kernel) h
def B_X9_kindSet_34 : List AIn := [(.ifCond .eq 10, 44, 8, 0), (.iconst 1, 1, 0, 0), (.iload 4, 4, 0, 0), (.ishl, 0, 0, 0), (.goto 4, 45, 8, 0)]
theorem s_X9_kindSet_34 {d : Nat} {ls st : List AV} {S : MS} {R : Option AV → MS → Prop} (h : wpI (fun t l s S2 => wpX d mX9_kindSet t l s S2 R) (wpM d) R 44 0 B_X9_kindSet_34 ls st S) : wpX d mX9_kindSet 34 ls st S R := x_step (by decide +kernel) h
def B_X9_kindSet_44 : List AIn := [(.iconst 0, 0, 0, 0)]
theorem s_X9_kindSet_44 {d : Nat} {ls st : List AV} {S : MS} {R : Option AV → MS → Prop} (h : wpI (fun t l s S2 => wpX d mX9_kindSet t l s S2 R) (wpM d) R 45 8 B_X9_kindSet_44 ls st S) : wpX d mX9_kindSet 44 ls st S R := x_step (by decide +kernel) h
def B_X9_kindSet_45 : List AIn := [(.ior, 0, 0, 0), (.istore_n 3, 3, 0, 0), (.iinc 4 1, 1, 0, 0), (.goto (-45), 5, 0, 0)]
theorem s_X9_kindSet_45 {d : Nat} {ls st : List AV} {S : MS} {R : Option AV → MS → Prop} (h : wpI (fun t l s S2 => wpX d mX9_kindSet t l s S2 R) (wpM d) R 53 0 B_X9_kindSet_45 ls st S) : wpX d mX9_kindSet 45 ls st S R := x_step (by decide +kernel) h
def B_X9_kindSet_53 : List AIn := [(.iload_n 3, 3, 0, 0), (.ireturn, 0, 0, 0)]
theorem s_X9_kindSet_53 {d : Nat} {ls st : List AV} {S : MS} {R : Option AV → MS → Prop} (h : wpI (fun t l s S2 => wpX d mX9_kindSet t l s S2 R) (wpM d) R 55 0 B_X9_kindSet_53 ls st S) : wpX d mX9_kindSet 53 ls st S R := x_step (by decide +kernel) h
-- NinthDayModel.kinds(II)I
def B_X9_kinds_0 : List AIn := [(.aload_n 0, 0, 0, 0), (.iload_n 1, 1, 0, 0), (.iload_n 2, 2, 0, 0), (.invokevirtual 246, 202, 3, 8)]
theorem s_X9_kinds_0 {d : Nat} {ls st : List AV} {S : MS} {R : Option AV → MS → Prop} (h : wpI (fun t l s S2 => wpX d mX9_kinds t l s S2 R) (wpM d) R 6 8 B_X9_kinds_0 ls st S) : wpX d mX9_kinds 0 ls st S R := x_step (by decide +kernel) h
def B_X9_kinds_6 : List AIn := [(.istore_n 3, 3, 0, 0), (.iload_n 3, 3, 0, 0), (.ifCond .ge 7, 15, 8, 0), (.iload_n 3, 3, 0, 0), (.goto 9, 21, 15, 0)]
theorem s_X9_kinds_6 {d : Nat} {ls st : List AV} {S : MS} {R : Option AV → MS → Prop} (h : wpI (fun t l s S2 => wpX d mX9_kinds t l s S2 R) (wpM d) R 15 0 B_X9_kinds_6 ls st S) : wpX d mX9_kinds 6 ls st S R := x_step (by decide +kernel) h
def B_X9_kinds_15 : List AIn := [(.aload_n 0, 0, 0, 0), (.iload_n 1, 1, 0, 0), (.iload_n 2, 2, 0, 0), (.invokevirtual 253, 205, 3, 8)]
theorem s_X9_kinds_15 {d : Nat} {ls st : List AV} {S : MS} {R : Option AV → MS → Prop} (h : wpI (fun t l s S2 => wpX d mX9_kinds t l s S2 R) (wpM d) R 21 15 B_X9_kinds_15 ls st S) : wpX d mX9_kinds 15 ls st S R := x_step (by decide +kernel) h
def B_X9_kinds_21 : List AIn := [(.ireturn, 0, 0, 0)]
theorem s_X9_kinds_21 {d : Nat} {ls st : List AV} {S : MS} {R : Option AV → MS → Prop} (h : wpI (fun t l s S2 => wpX d mX9_kinds t l s S2 R) (wpM d) R 22 0 B_X9_kinds_21 ls st S) : wpX d mX9_kinds 21 ls st S R := x_step (by decide +kernel) h
-- NinthDayModel.alike(III)I
def B_X9_alike_0 : List AIn := [(.iconst 0, 0, 0, 0), (.istore 4, 4, 0, 0), (.iconst 0, 0, 0, 0), (.istore 5, 5, 0, 0)]
theorem s_X9_alike_0 {d : Nat} {ls st : List AV} {S : MS} {R : Option AV → MS → Prop} (h : wpI (fun t l s S2 => wpX d mX9_alike t l s S2 R) (wpM d) R 6 448 B_X9_alike_0 ls st S) : wpX d mX9_alike 0 ls st S R := x_step (by decide +kernel) h
def B_X9_alike_6 : List AIn := [(.iload 5, 5, 0, 0), (.iconst 5, 5, 0, 0), (.if_icmp .gt 148, 157, 495, 0), (.iconst 0, 0, 0, 0), (.istore 6, 6, 0, 0), (.iload 5, 5, 0, 0), (.aload_n 0, 0, 0, 0), (.getfield 36, 12, 8, 0), (.iload_n 1, 1, 0, 0), (.iaload, 0, 0, 0), (.aload_n 0, 0, 0, 0), (.getfield 45, 20, 8, 0), (.iconst 4, 4, 0, 0), (.iload_n 1, 1, 0, 0), (.iadd, 0, 0, 0), (.iaload, 0, 0, 0), (.aload_n 0, 0, 0, 0), (.getfield 39, 13, 8, 0), (.iload_n 1, 1, 0, 0), (.iaload, 0, 0, 0), (.aload_n 0, 0, 0, 0), (.getfield 45, 20, 8, 0), (.bipush 9, 9, 0, 0), (.iload_n 1, 1, 0, 0), (.iadd, 0, 0, 0), (.iaload, 0, 0, 0), (.iload_n 3, 3, 0, 0), (.invokestatic 151, 163, 6, 0)]
theorem s_X9_alike_6 {d : Nat} {ls st : List AV} {S : MS} {R : Option AV → MS → Prop} (h : wpI (fun t l s S2 => wpX d mX9_alike t l s S2 R) (wpM d) R 50 384 B_X9_alike_6 ls st S) : wpX d mX9_alike 6 ls st S R := x_step (by decide +kernel) h
def B_X9_alike_50 : List AIn := [(.istore 7, 7, 0, 0), (.iconst 0, 0, 0, 0), (.istore 8, 8, 0, 0)]
theorem s_X9_alike_50 {d : Nat} {ls st : List AV} {S : MS} {R : Option AV → MS → Prop} (h : wpI (fun t l s S2 => wpX d mX9_alike t l s S2 R) (wpM d) R 55 0 B_X9_alike_50 ls st S) : wpX d mX9_alike 50 ls st S R := x_step (by decide +kernel) h
def B_X9_alike_55 : List AIn := [(.iload 8, 8, 0, 0), (.iconst 5, 5, 0, 0), (.if_icmp .gt 68, 126, 384, 0), (.iload 6, 6, 0, 0), (.iload_n 2, 2, 0, 0), (.iload 8, 8, 0, 0), (.invokestatic 155, 132, 2, 0)]
theorem s_X9_alike_55 {d : Nat} {ls st : List AV} {S : MS} {R : Option AV → MS → Prop} (h : wpI (fun t l s S2 => wpX d mX9_alike t l s S2 R) (wpM d) R 69 64 B_X9_alike_55 ls st S) : wpX d mX9_alike 55 ls st S R := x_step (by decide +kernel) h
def B_X9_alike_69 : List AIn := [(.ifCond .eq 47, 116, 64, 0), (.iload 8, 8, 0, 0), (.aload_n 0, 0, 0, 0), (.getfield 36, 12, 8, 0), (.iload_n 1, 1, 0, 0), (.iaload, 0, 0, 0), (.aload_n 0, 0, 0, 0), (.getfield 45, 20, 8, 0), (.iconst 4, 4, 0, 0), (.iload_n 1, 1, 0, 0), (.iadd, 0, 0, 0), (.iaload, 0, 0, 0), (.aload_n 0, 0, 0, 0), (.getfield 39, 13, 8, 0), (.iload_n 1, 1, 0, 0), (.iaload, 0, 0, 0), (.aload_n 0, 0, 0, 0), (.getfield 45, 20, 8, 0), (.bipush 9, 9, 0, 0), (.iload_n 1, 1, 0, 0), (.iadd, 0, 0, 0), (.iaload, 0, 0, 0), (.iload_n 3, 3, 0, 0), (.invokestatic 151, 163, 6, 0)]
theorem s_X9_alike_69 {d : Nat} {ls st : List AV} {S : MS} {R : Option AV → MS → Prop} (h : wpI (fun t l s S2 => wpX d mX9_alike t l s S2 R) (wpM d) R 107 64 B_X9_alike_69 ls st S) : wpX d mX9_alike 69 ls st S R := x_step (by decide +kernel) h
def B_X9_alike_107 : List AIn := [(.iload 7, 7, 0, 0), (.if_icmp .ne 7, 116, 64, 0), (.iconst 1, 1, 0, 0), (.goto 4, 117, 64, 0)]
theorem s_X9_alike_107 {d : Nat} {ls st : List AV} {S : MS} {R : Option AV → MS → Prop} (h : wpI (fun t l s S2 => wpX d mX9_alike t l s S2 R) (wpM d) R 116 0 B_X9_alike_107 ls st S) : wpX d mX9_alike 107 ls st S R := x_step (by decide +kernel) h
def B_X9_alike_116 : List AIn := [(.iconst 0, 0, 0, 0)]
theorem s_X9_alike_116 {d : Nat} {ls st : List AV} {S : MS} {R : Option AV → MS → Prop} (h : wpI (fun t l s S2 => wpX d mX9_alike t l s S2 R) (wpM d) R 117 64 B_X9_alike_116 ls st S) : wpX d mX9_alike 116 ls st S R := x_step (by decide +kernel) h
def B_X9_alike_117 : List AIn := [(.iadd, 0, 0, 0), (.istore 6, 6, 0, 0), (.iinc 8 1, 1, 0, 0), (.goto (-68), 55, 0, 0)]
theorem s_X9_alike_117 {d : Nat} {ls st : List AV} {S : MS} {R : Option AV → MS → Prop} (h : wpI (fun t l s S2 => wpX d mX9_alike t l s S2 R) (wpM d) R 126 0 B_X9_alike_117 ls st S) : wpX d mX9_alike 117 ls st S R := x_step (by decide +kernel) h
def B_X9_alike_126 : List AIn := [(.iload_n 2, 2, 0, 0), (.iload 5, 5, 0, 0), (.invokestatic 155, 132, 2, 0)]
theorem s_X9_alike_126 {d : Nat} {ls st : List AV} {S : MS} {R : Option AV → MS → Prop} (h : wpI (fun t l s S2 => wpX d mX9_alike t l s S2 R) (wpM d) R 132 384 B_X9_alike_126 ls st S) : wpX d mX9_alike 126 ls st S R := x_step (by decide +kernel) h
def B_X9_alike_132 : List AIn := [(.ifCond .eq 15, 147, 448, 0), (.iload 6, 6, 0, 0), (.iload 4, 4, 0, 0), (.if_icmp .le 8, 147, 448, 0), (.iload 6, 6, 0, 0), (.goto 5, 149, 464, 0)]
theorem s_X9_alike_132 {d : Nat} {ls st : List AV} {S : MS} {R : Option AV → MS → Prop} (h : wpI (fun t l s S2 => wpX d mX9_alike t l s S2 R) (wpM d) R 147 0 B_X9_alike_132 ls st S) : wpX d mX9_alike 132 ls st S R := x_step (by decide +kernel) h
def B_X9_alike_147 : List AIn := [(.iload 4, 4, 0, 0)]
theorem s_X9_alike_147 {d : Nat} {ls st : List AV} {S : MS} {R : Option AV → MS → Prop} (h : wpI (fun t l s S2 => wpX d mX9_alike t l s S2 R) (wpM d) R 149 464 B_X9_alike_147 ls st S) : wpX d mX9_alike 147 ls st S R := x_step (by decide +kernel) h
def B_X9_alike_149 : List AIn := [(.istore 4, 4, 0, 0), (.iinc 5 1, 1, 0, 0), (.goto (-148), 6, 448, 0)]
theorem s_X9_alike_149 {d : Nat} {ls st : List AV} {S : MS} {R : Option AV → MS → Prop} (h : wpI (fun t l s S2 => wpX d mX9_alike t l s S2 R) (wpM d) R 157 0 B_X9_alike_149 ls st S) : wpX d mX9_alike 149 ls st S R := x_step (by decide +kernel) h
def B_X9_alike_157 : List AIn := [(.iload 4, 4, 0, 0), (.ireturn, 0, 0, 0)]
theorem s_X9_alike_157 {d : Nat} {ls st : List AV} {S : MS} {R : Option AV → MS → Prop} (h : wpI (fun t l s S2 => wpX d mX9_alike t l s S2 R) (wpM d) R 160 0 B_X9_alike_157 ls st S) : wpX d mX9_alike 157 ls st S R := x_step (by decide +kernel) h
-- NinthDayModel.test(II)I
def B_X9_test_0 : List AIn := [(.aload_n 0, 0, 0, 0), (.iload_n 1, 1, 0, 0), (.iload_n 2, 2, 0, 0), (.invokevirtual 246, 202, 3, 8)]
theorem s_X9_test_0 {d : Nat} {ls st : List AV} {S : MS} {R : Option AV → MS → Prop} (h : wpI (fun t l s S2 => wpX d mX9_test t l s S2 R) (wpM d) R 6 504 B_X9_test_0 ls st S) : wpX d mX9_test 0 ls st S R := x_step (by decide +kernel) h
def B_X9_test_6 : List AIn := [(.istore_n 3, 3, 0, 0), (.iload_n 3, 3, 0, 0), (.ifCond .ge 5, 13, 504, 0), (.iload_n 3, 3, 0, 0), (.ireturn, 0, 0, 0)]
theorem s_X9_test_6 {d : Nat} {ls st : List AV} {S : MS} {R : Option AV → MS → Prop} (h : wpI (fun t l s S2 => wpX d mX9_test t l s S2 R) (wpM d) R 13 0 B_X9_test_6 ls st S) : wpX d mX9_test 6 ls st S R := x_step (by decide +kernel) h
def B_X9_test_13 : List AIn := [(.aload_n 0, 0, 0, 0), (.iload_n 1, 1, 0, 0), (.iload_n 2, 2, 0, 0), (.invokevirtual 253, 205, 3, 8)]
theorem s_X9_test_13 {d : Nat} {ls st : List AV} {S : MS} {R : Option AV → MS → Prop} (h : wpI (fun t l s S2 => wpX d mX9_test t l s S2 R) (wpM d) R 19 508 B_X9_test_13 ls st S) : wpX d mX9_test 13 ls st S R := x_step (by decide +kernel) h
def B_X9_test_19 : List AIn := [(.istore 4, 4, 0, 0), (.iload 4, 4, 0, 0), (.ifCond .ne 6, 29, 492, 0), (.bipush (-9), 9, 1, 0), (.ireturn, 0, 0, 0)]
theorem s_X9_test_19 {d : Nat} {ls st : List AV} {S : MS} {R : Option AV → MS → Prop} (h : wpI (fun t l s S2 => wpX d mX9_test t l s S2 R) (wpM d) R 29 0 B_X9_test_19 ls st S) : wpX d mX9_test 19 ls st S R := x_step (by decide +kernel) h
def B_X9_test_29 : List AIn := [(.iconst 0, 0, 0, 0), (.istore 5, 5, 0, 0), (.ldc 245, 1000000, 0, 0), (.istore 6, 6, 0, 0), (.iconst 1, 1, 0, 0), (.istore 7, 7, 0, 0)]
theorem s_X9_test_29 {d : Nat} {ls st : List AV} {S : MS} {R : Option AV → MS → Prop} (h : wpI (fun t l s S2 => wpX d mX9_test t l s S2 R) (wpM d) R 39 268 B_X9_test_29 ls st S) : wpX d mX9_test 29 ls st S R := x_step (by decide +kernel) h
def B_X9_test_39 : List AIn := [(.iload 7, 7, 0, 0), (.bipush 42, 42, 0, 0), (.if_icmp .gt 52, 95, 414, 0), (.aload_n 0, 0, 0, 0), (.iload_n 1, 1, 0, 0), (.iload 4, 4, 0, 0), (.iload 7, 7, 0, 0), (.invokevirtual 256, 207, 4, 8)]
theorem s_X9_test_39 {d : Nat} {ls st : List AV} {S : MS} {R : Option AV → MS → Prop} (h : wpI (fun t l s S2 => wpX d mX9_test t l s S2 R) (wpM d) R 55 268 B_X9_test_39 ls st S) : wpX d mX9_test 39 ls st S R := x_step (by decide +kernel) h
def B_X9_test_55 : List AIn := [(.istore 8, 8, 0, 0), (.iload 8, 8, 0, 0), (.iload 6, 6, 0, 0), (.if_icmp .ge 8, 69, 12, 0), (.iload 7, 7, 0, 0), (.goto 5, 71, 44, 0)]
theorem s_X9_test_55 {d : Nat} {ls st : List AV} {S : MS} {R : Option AV → MS → Prop} (h : wpI (fun t l s S2 => wpX d mX9_test t l s S2 R) (wpM d) R 69 0 B_X9_test_55 ls st S) : wpX d mX9_test 55 ls st S R := x_step (by decide +kernel) h
def B_X9_test_69 : List AIn := [(.iload 5, 5, 0, 0)]
theorem s_X9_test_69 {d : Nat} {ls st : List AV} {S : MS} {R : Option AV → MS → Prop} (h : wpI (fun t l s S2 => wpX d mX9_test t l s S2 R) (wpM d) R 71 44 B_X9_test_69 ls st S) : wpX d mX9_test 69 ls st S R := x_step (by decide +kernel) h
def B_X9_test_71 : List AIn := [(.istore 5, 5, 0, 0), (.iload 8, 8, 0, 0), (.iload 6, 6, 0, 0), (.if_icmp .ge 8, 85, 268, 0), (.iload 8, 8, 0, 0), (.goto 5, 87, 332, 0)]
theorem s_X9_test_71 {d : Nat} {ls st : List AV} {S : MS} {R : Option AV → MS → Prop} (h : wpI (fun t l s S2 => wpX d mX9_test t l s S2 R) (wpM d) R 85 0 B_X9_test_71 ls st S) : wpX d mX9_test 71 ls st S R := x_step (by decide +kernel) h
def B_X9_test_85 : List AIn := [(.iload 6, 6, 0, 0)]
theorem s_X9_test_85 {d : Nat} {ls st : List AV} {S : MS} {R : Option AV → MS → Prop} (h : wpI (fun t l s S2 => wpX d mX9_test t l s S2 R) (wpM d) R 87 332 B_X9_test_85 ls st S) : wpX d mX9_test 85 ls st S R := x_step (by decide +kernel) h
def B_X9_test_87 : List AIn := [(.istore 6, 6, 0, 0), (.iinc 7 1, 1, 0, 0), (.goto (-53), 39, 268, 0)]
theorem s_X9_test_87 {d : Nat} {ls st : List AV} {S : MS} {R : Option AV → MS → Prop} (h : wpI (fun t l s S2 => wpX d mX9_test t l s S2 R) (wpM d) R 95 0 B_X9_test_87 ls st S) : wpX d mX9_test 87 ls st S R := x_step (by decide +kernel) h
def B_X9_test_95 : List AIn := [(.aload_n 0, 0, 0, 0), (.iload 6, 6, 0, 0), (.iload 5, 5, 0, 0), (.invokevirtual 105, 137, 3, 8)]
theorem s_X9_test_95 {d : Nat} {ls st : List AV} {S : MS} {R : Option AV → MS → Prop} (h : wpI (fun t l s S2 => wpX d mX9_test t l s S2 R) (wpM d) R 103 511 B_X9_test_95 ls st S) : wpX d mX9_test 95 ls st S R := x_step (by decide +kernel) h
def B_X9_test_103 : List AIn := [(.ireturn, 0, 0, 0)]
theorem s_X9_test_103 {d : Nat} {ls st : List AV} {S : MS} {R : Option AV → MS → Prop} (h : wpI (fun t l s S2 => wpX d mX9_test t l s S2 R) (wpM d) R 104 0 B_X9_test_103 ls st S) : wpX d mX9_test 103 ls st S R := x_step (by decide +kernel) h
-- NinthDayModel.savedBy(I)I
def B_X9_savedBy_0 : List AIn := [(.iconst 0, 0, 0, 0), (.istore_n 2, 2, 0, 0), (.iconst 0, 0, 0, 0), (.istore_n 3, 3, 0, 0)]
theorem s_X9_savedBy_0 {d : Nat} {ls st : List AV} {S : MS} {R : Option AV → MS → Prop} (h : wpI (fun t l s S2 => wpX d mX9_savedBy t l s S2 R) (wpM d) R 4 0 B_X9_savedBy_0 ls st S) : wpX d mX9_savedBy 0 ls st S R := x_step (by decide +kernel) h
def B_X9_savedBy_4 : List AIn := [(.iload_n 3, 3, 0, 0), (.aload_n 0, 0, 0, 0), (.getfield 145, 10, 8, 0), (.if_icmp .ge 42, 51, 11, 0), (.iload_n 2, 2, 0, 0), (.iload_n 1, 1, 0, 0), (.iload_n 3, 3, 0, 0), (.invokestatic 155, 132, 2, 0)]
theorem s_X9_savedBy_4 {d : Nat} {ls st : List AV} {S : MS} {R : Option AV → MS → Prop} (h : wpI (fun t l s S2 => wpX d mX9_savedBy t l s S2 R) (wpM d) R 18 4 B_X9_savedBy_4 ls st S) : wpX d mX9_savedBy 4 ls st S R := x_step (by decide +kernel) h
def B_X9_savedBy_18 : List AIn := [(.ifCond .eq 24, 42, 4, 0), (.aload_n 0, 0, 0, 0), (.getfield 45, 20, 8, 0), (.iconst 4, 4, 0, 0), (.iload_n 3, 3, 0, 0), (.iadd, 0, 0, 0), (.iaload, 0, 0, 0), (.aload_n 0, 0, 0, 0), (.aload_n 0, 0, 0, 0), (.getfield 45, 20, 8, 0), (.iload_n 3, 3, 0, 0), (.invokevirtual 173, 168, 3, 8)]
theorem s_X9_savedBy_18 {d : Nat} {ls st : List AV} {S : MS} {R : Option AV → MS → Prop} (h : wpI (fun t l s S2 => wpX d mX9_savedBy t l s S2 R) (wpM d) R 38 4 B_X9_savedBy_18 ls st S) : wpX d mX9_savedBy 18 ls st S R := x_step (by decide +kernel) h
def B_X9_savedBy_38 : List AIn := [(.isub, 0, 0, 0), (.goto 4, 43, 4, 0)]
theorem s_X9_savedBy_38 {d : Nat} {ls st : List AV} {S : MS} {R : Option AV → MS → Prop} (h : wpI (fun t l s S2 => wpX d mX9_savedBy t l s S2 R) (wpM d) R 42 0 B_X9_savedBy_38 ls st S) : wpX d mX9_savedBy 38 ls st S R := x_step (by decide +kernel) h
def B_X9_savedBy_42 : List AIn := [(.iconst 0, 0, 0, 0)]
theorem s_X9_savedBy_42 {d : Nat} {ls st : List AV} {S : MS} {R : Option AV → MS → Prop} (h : wpI (fun t l s S2 => wpX d mX9_savedBy t l s S2 R) (wpM d) R 43 4 B_X9_savedBy_42 ls st S) : wpX d mX9_savedBy 42 ls st S R := x_step (by decide +kernel) h
def B_X9_savedBy_43 : List AIn := [(.iadd, 0, 0, 0), (.istore_n 2, 2, 0, 0), (.iinc 3 1, 1, 0, 0), (.goto (-44), 4, 0, 0)]
theorem s_X9_savedBy_43 {d : Nat} {ls st : List AV} {S : MS} {R : Option AV → MS → Prop} (h : wpI (fun t l s S2 => wpX d mX9_savedBy t l s S2 R) (wpM d) R 51 0 B_X9_savedBy_43 ls st S) : wpX d mX9_savedBy 43 ls st S R := x_step (by decide +kernel) h
def B_X9_savedBy_51 : List AIn := [(.iload_n 2, 2, 0, 0), (.ireturn, 0, 0, 0)]
theorem s_X9_savedBy_51 {d : Nat} {ls st : List AV} {S : MS} {R : Option AV → MS → Prop} (h : wpI (fun t l s S2 => wpX d mX9_savedBy t l s S2 R) (wpM d) R 53 0 B_X9_savedBy_51 ls st S) : wpX d mX9_savedBy 51 ls st S R := x_step (by decide +kernel) h
-- NinthDayModel.spare(I)I
def B_X9_spare_0 : List AIn := [(.aload_n 0, 0, 0, 0), (.iload_n 1, 1, 0, 0), (.iconst 0, 0, 0, 0), (.iconst 5, 5, 0, 0), (.invokestatic 83, 131, 3, 0)]
theorem s_X9_spare_0 {d : Nat} {ls st : List AV} {S : MS} {R : Option AV → MS → Prop} (h : wpI (fun t l s S2 => wpX d mX9_spare t l s S2 R) (wpM d) R 7 60 B_X9_spare_0 ls st S) : wpX d mX9_spare 0 ls st S R := x_step (by decide +kernel) h
def B_X9_spare_7 : List AIn := [(.invokevirtual 205, 186, 2, 8)]
theorem s_X9_spare_7 {d : Nat} {ls st : List AV} {S : MS} {R : Option AV → MS → Prop} (h : wpI (fun t l s S2 => wpX d mX9_spare t l s S2 R) (wpM d) R 10 60 B_X9_spare_7 ls st S) : wpX d mX9_spare 7 ls st S R := x_step (by decide +kernel) h
def B_X9_spare_10 : List AIn := [(.istore_n 2, 2, 0, 0), (.iload_n 2, 2, 0, 0), (.ifCond .ge 5, 17, 60, 0), (.iload_n 2, 2, 0, 0), (.ireturn, 0, 0, 0)]
theorem s_X9_spare_10 {d : Nat} {ls st : List AV} {S : MS} {R : Option AV → MS → Prop} (h : wpI (fun t l s S2 => wpX d mX9_spare t l s S2 R) (wpM d) R 17 0 B_X9_spare_10 ls st S) : wpX d mX9_spare 10 ls st S R := x_step (by decide +kernel) h
def B_X9_spare_17 : List AIn := [(.bipush (-9), 9, 1, 0), (.istore_n 3, 3, 0, 0), (.iconst 0, 0, 0, 0), (.istore 4, 4, 0, 0)]
theorem s_X9_spare_17 {d : Nat} {ls st : List AV} {S : MS} {R : Option AV → MS → Prop} (h : wpI (fun t l s S2 => wpX d mX9_spare t l s S2 R) (wpM d) R 23 36 B_X9_spare_17 ls st S) : wpX d mX9_spare 17 ls st S R := x_step (by decide +kernel) h
def B_X9_spare_23 : List AIn := [(.iload 4, 4, 0, 0), (.iconst 1, 1, 0, 0), (.aload_n 0, 0, 0, 0), (.getfield 145, 10, 8, 0), (.ishl, 0, 0, 0), (.if_icmp .ge 69, 100, 54, 0), (.iload 4, 4, 0, 0), (.invokestatic 176, 133, 1, 0)]
theorem s_X9_spare_23 {d : Nat} {ls st : List AV} {S : MS} {R : Option AV → MS → Prop} (h : wpI (fun t l s S2 => wpX d mX9_spare t l s S2 R) (wpM d) R 39 36 B_X9_spare_23 ls st S) : wpX d mX9_spare 23 ls st S R := x_step (by decide +kernel) h
def B_X9_spare_39 : List AIn := [(.iload_n 1, 1, 0, 0), (.if_icmp .ne 19, 59, 36, 0), (.iload 4, 4, 0, 0), (.aload_n 0, 0, 0, 0), (.getfield 45, 20, 8, 0), (.iconst 3, 3, 0, 0), (.iaload, 0, 0, 0), (.iand, 0, 0, 0), (.ifCond .ne 7, 59, 36, 0), (.iconst 1, 1, 0, 0), (.goto 4, 60, 36, 0)]
theorem s_X9_spare_39 {d : Nat} {ls st : List AV} {S : MS} {R : Option AV → MS → Prop} (h : wpI (fun t l s S2 => wpX d mX9_spare t l s S2 R) (wpM d) R 59 0 B_X9_spare_39 ls st S) : wpX d mX9_spare 39 ls st S R := x_step (by decide +kernel) h
def B_X9_spare_59 : List AIn := [(.iconst 0, 0, 0, 0)]
theorem s_X9_spare_59 {d : Nat} {ls st : List AV} {S : MS} {R : Option AV → MS → Prop} (h : wpI (fun t l s S2 => wpX d mX9_spare t l s S2 R) (wpM d) R 60 36 B_X9_spare_59 ls st S) : wpX d mX9_spare 59 ls st S R := x_step (by decide +kernel) h
def B_X9_spare_60 : List AIn := [(.istore 5, 5, 0, 0), (.iload 5, 5, 0, 0), (.ifCond .eq 28, 92, 36, 0), (.iload_n 3, 3, 0, 0), (.bipush (-9), 9, 1, 0), (.if_icmp .eq 17, 87, 44, 0), (.aload_n 0, 0, 0, 0), (.iload 4, 4, 0, 0), (.invokevirtual 260, 209, 2, 8)]
theorem s_X9_spare_60 {d : Nat} {ls st : List AV} {S : MS} {R : Option AV → MS → Prop} (h : wpI (fun t l s S2 => wpX d mX9_spare t l s S2 R) (wpM d) R 79 36 B_X9_spare_60 ls st S) : wpX d mX9_spare 60 ls st S R := x_step (by decide +kernel) h
def B_X9_spare_79 : List AIn := [(.aload_n 0, 0, 0, 0), (.iload_n 3, 3, 0, 0), (.invokevirtual 260, 209, 2, 8)]
theorem s_X9_spare_79 {d : Nat} {ls st : List AV} {S : MS} {R : Option AV → MS → Prop} (h : wpI (fun t l s S2 => wpX d mX9_spare t l s S2 R) (wpM d) R 84 36 B_X9_spare_79 ls st S) : wpX d mX9_spare 79 ls st S R := x_step (by decide +kernel) h
def B_X9_spare_84 : List AIn := [(.if_icmp .le 8, 92, 36, 0)]
theorem s_X9_spare_84 {d : Nat} {ls st : List AV} {S : MS} {R : Option AV → MS → Prop} (h : wpI (fun t l s S2 => wpX d mX9_spare t l s S2 R) (wpM d) R 87 44 B_X9_spare_84 ls st S) : wpX d mX9_spare 84 ls st S R := x_step (by decide +kernel) h
def B_X9_spare_87 : List AIn := [(.iload 4, 4, 0, 0), (.goto 4, 93, 44, 0)]
theorem s_X9_spare_87 {d : Nat} {ls st : List AV} {S : MS} {R : Option AV → MS → Prop} (h : wpI (fun t l s S2 => wpX d mX9_spare t l s S2 R) (wpM d) R 92 0 B_X9_spare_87 ls st S) : wpX d mX9_spare 87 ls st S R := x_step (by decide +kernel) h
def B_X9_spare_92 : List AIn := [(.iload_n 3, 3, 0, 0)]
theorem s_X9_spare_92 {d : Nat} {ls st : List AV} {S : MS} {R : Option AV → MS → Prop} (h : wpI (fun t l s S2 => wpX d mX9_spare t l s S2 R) (wpM d) R 93 44 B_X9_spare_92 ls st S) : wpX d mX9_spare 92 ls st S R := x_step (by decide +kernel) h
def B_X9_spare_93 : List AIn := [(.istore_n 3, 3, 0, 0), (.iinc 4 1, 1, 0, 0), (.goto (-74), 23, 36, 0)]
theorem s_X9_spare_93 {d : Nat} {ls st : List AV} {S : MS} {R : Option AV → MS → Prop} (h : wpI (fun t l s S2 => wpX d mX9_spare t l s S2 R) (wpM d) R 100 0 B_X9_spare_93 ls st S) : wpX d mX9_spare 93 ls st S R := x_step (by decide +kernel) h
def B_X9_spare_100 : List AIn := [(.iload_n 3, 3, 0, 0), (.bipush (-9), 9, 1, 0), (.if_icmp .ne 8, 111, 54, 0), (.bipush (-9), 9, 1, 0), (.goto 13, 121, 63, 0)]
theorem s_X9_spare_100 {d : Nat} {ls st : List AV} {S : MS} {R : Option AV → MS → Prop} (h : wpI (fun t l s S2 => wpX d mX9_spare t l s S2 R) (wpM d) R 111 0 B_X9_spare_100 ls st S) : wpX d mX9_spare 100 ls st S R := x_step (by decide +kernel) h
def B_X9_spare_111 : List AIn := [(.aload_n 0, 0, 0, 0), (.aload_n 0, 0, 0, 0), (.iload_n 3, 3, 0, 0), (.invokevirtual 260, 209, 2, 8)]
theorem s_X9_spare_111 {d : Nat} {ls st : List AV} {S : MS} {R : Option AV → MS → Prop} (h : wpI (fun t l s S2 => wpX d mX9_spare t l s S2 R) (wpM d) R 117 55 B_X9_spare_111 ls st S) : wpX d mX9_spare 111 ls st S R := x_step (by decide +kernel) h
def B_X9_spare_117 : List AIn := [(.iload_n 3, 3, 0, 0), (.invokevirtual 105, 137, 3, 8)]
theorem s_X9_spare_117 {d : Nat} {ls st : List AV} {S : MS} {R : Option AV → MS → Prop} (h : wpI (fun t l s S2 => wpX d mX9_spare t l s S2 R) (wpM d) R 121 63 B_X9_spare_117 ls st S) : wpX d mX9_spare 117 ls st S R := x_step (by decide +kernel) h
def B_X9_spare_121 : List AIn := [(.ireturn, 0, 0, 0)]
theorem s_X9_spare_121 {d : Nat} {ls st : List AV} {S : MS} {R : Option AV → MS → Prop} (h : wpI (fun t l s S2 => wpX d mX9_spare t l s S2 R) (wpM d) R 122 0 B_X9_spare_121 ls st S) : wpX d mX9_spare 121 ls st S R := x_step (by decide +kernel) h
-- NinthDayModel.codes()I
def B_X9_codes_0 : List AIn := [(.iconst 1, 1, 0, 0), (.istore_n 1, 1, 0, 0), (.iconst 0, 0, 0, 0), (.istore_n 2, 2, 0, 0)]
theorem s_X9_codes_0 {d : Nat} {ls st : List AV} {S : MS} {R : Option AV → MS → Prop} (h : wpI (fun t l s S2 => wpX d mX9_codes t l s S2 R) (wpM d) R 4 0 B_X9_codes_0 ls st S) : wpX d mX9_codes 0 ls st S R := x_step (by decide +kernel) h
def B_X9_codes_4 : List AIn := [(.iload_n 2, 2, 0, 0), (.aload_n 0, 0, 0, 0), (.getfield 145, 10, 8, 0), (.if_icmp .ge 13, 22, 5, 0), (.iload_n 1, 1, 0, 0), (.iconst 3, 3, 0, 0), (.imul, 0, 0, 0), (.istore_n 1, 1, 0, 0), (.iinc 2 1, 1, 0, 0), (.goto (-15), 4, 0, 0)]
theorem s_X9_codes_4 {d : Nat} {ls st : List AV} {S : MS} {R : Option AV → MS → Prop} (h : wpI (fun t l s S2 => wpX d mX9_codes t l s S2 R) (wpM d) R 22 0 B_X9_codes_4 ls st S) : wpX d mX9_codes 4 ls st S R := x_step (by decide +kernel) h
def B_X9_codes_22 : List AIn := [(.iload_n 1, 1, 0, 0), (.ireturn, 0, 0, 0)]
theorem s_X9_codes_22 {d : Nat} {ls st : List AV} {S : MS} {R : Option AV → MS → Prop} (h : wpI (fun t l s S2 => wpX d mX9_codes t l s S2 R) (wpM d) R 24 0 B_X9_codes_22 ls st S) : wpX d mX9_codes 22 ls st S R := x_step (by decide +kernel) h
-- NinthDayModel.setOf(II)I
def B_X9_setOf_0 : List AIn := [(.iload_n 1, 1, 0, 0), (.istore_n 3, 3, 0, 0), (.iconst 0, 0, 0, 0), (.istore 4, 4, 0, 0), (.iconst 0, 0, 0, 0), (.istore 5, 5, 0, 0)]
theorem s_X9_setOf_0 {d : Nat} {ls st : List AV} {S : MS} {R : Option AV → MS → Prop} (h : wpI (fun t l s S2 => wpX d mX9_setOf t l s S2 R) (wpM d) R 8 2 B_X9_setOf_0 ls st S) : wpX d mX9_setOf 0 ls st S R := x_step (by decide +kernel) h
def B_X9_setOf_8 : List AIn := [(.iload 5, 5, 0, 0), (.aload_n 0, 0, 0, 0), (.getfield 145, 10, 8, 0), (.if_icmp .ge 33, 47, 47, 0), (.iload 4, 4, 0, 0), (.iload_n 3, 3, 0, 0), (.iconst 3, 3, 0, 0), (.irem, 0, 0, 0), (.iload_n 2, 2, 0, 0), (.if_icmp .ne 10, 33, 18, 0), (.iconst 1, 1, 0, 0), (.iload 5, 5, 0, 0), (.ishl, 0, 0, 0), (.goto 4, 34, 18, 0)]
theorem s_X9_setOf_8 {d : Nat} {ls st : List AV} {S : MS} {R : Option AV → MS → Prop} (h : wpI (fun t l s S2 => wpX d mX9_setOf t l s S2 R) (wpM d) R 33 0 B_X9_setOf_8 ls st S) : wpX d mX9_setOf 8 ls st S R := x_step (by decide +kernel) h
def B_X9_setOf_33 : List AIn := [(.iconst 0, 0, 0, 0)]
theorem s_X9_setOf_33 {d : Nat} {ls st : List AV} {S : MS} {R : Option AV → MS → Prop} (h : wpI (fun t l s S2 => wpX d mX9_setOf t l s S2 R) (wpM d) R 34 18 B_X9_setOf_33 ls st S) : wpX d mX9_setOf 33 ls st S R := x_step (by decide +kernel) h
def B_X9_setOf_34 : List AIn := [(.ior, 0, 0, 0), (.istore 4, 4, 0, 0), (.iload_n 3, 3, 0, 0), (.iconst 3, 3, 0, 0), (.idiv, 0, 0, 0), (.istore_n 3, 3, 0, 0), (.iinc 5 1, 1, 0, 0), (.goto (-36), 8, 2, 0)]
theorem s_X9_setOf_34 {d : Nat} {ls st : List AV} {S : MS} {R : Option AV → MS → Prop} (h : wpI (fun t l s S2 => wpX d mX9_setOf t l s S2 R) (wpM d) R 47 0 B_X9_setOf_34 ls st S) : wpX d mX9_setOf 34 ls st S R := x_step (by decide +kernel) h
def B_X9_setOf_47 : List AIn := [(.iload 4, 4, 0, 0), (.ireturn, 0, 0, 0)]
theorem s_X9_setOf_47 {d : Nat} {ls st : List AV} {S : MS} {R : Option AV → MS → Prop} (h : wpI (fun t l s S2 => wpX d mX9_setOf t l s S2 R) (wpM d) R 50 0 B_X9_setOf_47 ls st S) : wpX d mX9_setOf 47 ls st S R := x_step (by decide +kernel) h
-- NinthDayModel.turned(IZ)I
def B_X9_turned_0 : List AIn := [(.aload_n 0, 0, 0, 0), (.iload_n 1, 1, 0, 0), (.iconst 0, 0, 0, 0), (.invokevirtual 263, 212, 3, 8)]
theorem s_X9_turned_0 {d : Nat} {ls st : List AV} {S : MS} {R : Option AV → MS → Prop} (h : wpI (fun t l s S2 => wpX d mX9_turned t l s S2 R) (wpM d) R 6 2040 B_X9_turned_0 ls st S) : wpX d mX9_turned 0 ls st S R := x_step (by decide +kernel) h
def B_X9_turned_6 : List AIn := [(.istore_n 3, 3, 0, 0), (.aload_n 0, 0, 0, 0), (.getfield 45, 20, 8, 0), (.iconst 1, 1, 0, 0), (.iaload, 0, 0, 0), (.aload_n 0, 0, 0, 0), (.aload_n 0, 0, 0, 0), (.getfield 45, 20, 8, 0), (.aload_n 0, 0, 0, 0), (.iload_n 1, 1, 0, 0), (.iconst 2, 2, 0, 0), (.invokevirtual 263, 212, 3, 8)]
theorem s_X9_turned_6 {d : Nat} {ls st : List AV} {S : MS} {R : Option AV → MS → Prop} (h : wpI (fun t l s S2 => wpX d mX9_turned t l s S2 R) (wpM d) R 24 2032 B_X9_turned_6 ls st S) : wpX d mX9_turned 6 ls st S R := x_step (by decide +kernel) h
def B_X9_turned_24 : List AIn := [(.invokevirtual 195, 165, 3, 8)]
theorem s_X9_turned_24 {d : Nat} {ls st : List AV} {S : MS} {R : Option AV → MS → Prop} (h : wpI (fun t l s S2 => wpX d mX9_turned t l s S2 R) (wpM d) R 27 2032 B_X9_turned_24 ls st S) : wpX d mX9_turned 24 ls st S R := x_step (by decide +kernel) h
def B_X9_turned_27 : List AIn := [(.isub, 0, 0, 0), (.istore 4, 4, 0, 0), (.bipush (-9), 9, 1, 0), (.istore 5, 5, 0, 0), (.iconst 1, 1, 0, 0), (.istore 6, 6, 0, 0), (.iconst 0, 0, 0, 0), (.istore 7, 7, 0, 0)]
theorem s_X9_turned_27 {d : Nat} {ls st : List AV} {S : MS} {R : Option AV → MS → Prop} (h : wpI (fun t l s S2 => wpX d mX9_turned t l s S2 R) (wpM d) R 40 1792 B_X9_turned_27 ls st S) : wpX d mX9_turned 27 ls st S R := x_step (by decide +kernel) h
def B_X9_turned_40 : List AIn := [(.iload 7, 7, 0, 0), (.aload_n 0, 0, 0, 0), (.getfield 145, 10, 8, 0), (.if_icmp .ge 135, 181, 2012, 0), (.iload_n 3, 3, 0, 0), (.iload 7, 7, 0, 0), (.invokestatic 155, 132, 2, 0)]
theorem s_X9_turned_40 {d : Nat} {ls st : List AV} {S : MS} {R : Option AV → MS → Prop} (h : wpI (fun t l s S2 => wpX d mX9_turned t l s S2 R) (wpM d) R 55 1792 B_X9_turned_40 ls st S) : wpX d mX9_turned 40 ls st S R := x_step (by decide +kernel) h
def B_X9_turned_55 : List AIn := [(.ifCond .eq 26, 81, 1792, 0), (.iload_n 2, 2, 0, 0), (.ifCond .ne 18, 77, 1792, 0), (.aload_n 0, 0, 0, 0), (.aload_n 0, 0, 0, 0), (.getfield 45, 20, 8, 0), (.iload 7, 7, 0, 0), (.invokevirtual 159, 164, 3, 8)]
theorem s_X9_turned_55 {d : Nat} {ls st : List AV} {S : MS} {R : Option AV → MS → Prop} (h : wpI (fun t l s S2 => wpX d mX9_turned t l s S2 R) (wpM d) R 72 1792 B_X9_turned_55 ls st S) : wpX d mX9_turned 55 ls st S R := x_step (by decide +kernel) h
def B_X9_turned_72 : List AIn := [(.iload 4, 4, 0, 0), (.if_icmp .gt 7, 81, 1792, 0)]
theorem s_X9_turned_72 {d : Nat} {ls st : List AV} {S : MS} {R : Option AV → MS → Prop} (h : wpI (fun t l s S2 => wpX d mX9_turned t l s S2 R) (wpM d) R 77 1792 B_X9_turned_72 ls st S) : wpX d mX9_turned 72 ls st S R := x_step (by decide +kernel) h
def B_X9_turned_77 : List AIn := [(.iconst 1, 1, 0, 0), (.goto 4, 82, 1792, 0)]
theorem s_X9_turned_77 {d : Nat} {ls st : List AV} {S : MS} {R : Option AV → MS → Prop} (h : wpI (fun t l s S2 => wpX d mX9_turned t l s S2 R) (wpM d) R 81 0 B_X9_turned_77 ls st S) : wpX d mX9_turned 77 ls st S R := x_step (by decide +kernel) h
def B_X9_turned_81 : List AIn := [(.iconst 0, 0, 0, 0)]
theorem s_X9_turned_81 {d : Nat} {ls st : List AV} {S : MS} {R : Option AV → MS → Prop} (h : wpI (fun t l s S2 => wpX d mX9_turned t l s S2 R) (wpM d) R 82 1792 B_X9_turned_81 ls st S) : wpX d mX9_turned 81 ls st S R := x_step (by decide +kernel) h
def B_X9_turned_82 : List AIn := [(.istore 8, 8, 0, 0), (.iload 8, 8, 0, 0), (.ifCond .eq 26, 112, 1536, 0), (.aload_n 0, 0, 0, 0), (.getfield 73, 34, 8, 0), (.iload_n 1, 1, 0, 0), (.iload_n 2, 2, 0, 0), (.ifCond .eq 8, 103, 1536, 0), (.iload 6, 6, 0, 0), (.goto 7, 107, 1536, 0)]
theorem s_X9_turned_82 {d : Nat} {ls st : List AV} {S : MS} {R : Option AV → MS → Prop} (h : wpI (fun t l s S2 => wpX d mX9_turned t l s S2 R) (wpM d) R 103 0 B_X9_turned_82 ls st S) : wpX d mX9_turned 82 ls st S R := x_step (by decide +kernel) h
def B_X9_turned_103 : List AIn := [(.iconst 2, 2, 0, 0), (.iload 6, 6, 0, 0), (.imul, 0, 0, 0)]
theorem s_X9_turned_103 {d : Nat} {ls st : List AV} {S : MS} {R : Option AV → MS → Prop} (h : wpI (fun t l s S2 => wpX d mX9_turned t l s S2 R) (wpM d) R 107 1536 B_X9_turned_103 ls st S) : wpX d mX9_turned 103 ls st S R := x_step (by decide +kernel) h
def B_X9_turned_107 : List AIn := [(.iadd, 0, 0, 0), (.iaload, 0, 0, 0), (.goto 4, 113, 1536, 0)]
theorem s_X9_turned_107 {d : Nat} {ls st : List AV} {S : MS} {R : Option AV → MS → Prop} (h : wpI (fun t l s S2 => wpX d mX9_turned t l s S2 R) (wpM d) R 112 0 B_X9_turned_107 ls st S) : wpX d mX9_turned 107 ls st S R := x_step (by decide +kernel) h
def B_X9_turned_112 : List AIn := [(.iconst 0, 0, 0, 0)]
theorem s_X9_turned_112 {d : Nat} {ls st : List AV} {S : MS} {R : Option AV → MS → Prop} (h : wpI (fun t l s S2 => wpX d mX9_turned t l s S2 R) (wpM d) R 113 1536 B_X9_turned_112 ls st S) : wpX d mX9_turned 112 ls st S R := x_step (by decide +kernel) h
def B_X9_turned_113 : List AIn := [(.istore 9, 9, 0, 0), (.iload 8, 8, 0, 0), (.ifCond .eq 35, 152, 1280, 0), (.iload 5, 5, 0, 0), (.bipush (-9), 9, 1, 0), (.if_icmp .eq 24, 148, 1280, 0), (.iload_n 2, 2, 0, 0), (.ifCond .eq 13, 141, 1280, 0), (.iload 9, 9, 0, 0), (.iload 5, 5, 0, 0), (.if_icmp .ge 17, 152, 1280, 0), (.goto 10, 148, 1280, 0)]
theorem s_X9_turned_113 {d : Nat} {ls st : List AV} {S : MS} {R : Option AV → MS → Prop} (h : wpI (fun t l s S2 => wpX d mX9_turned t l s S2 R) (wpM d) R 141 0 B_X9_turned_113 ls st S) : wpX d mX9_turned 113 ls st S R := x_step (by decide +kernel) h
def B_X9_turned_141 : List AIn := [(.iload 9, 9, 0, 0), (.iload 5, 5, 0, 0), (.if_icmp .le 7, 152, 1280, 0)]
theorem s_X9_turned_141 {d : Nat} {ls st : List AV} {S : MS} {R : Option AV → MS → Prop} (h : wpI (fun t l s S2 => wpX d mX9_turned t l s S2 R) (wpM d) R 148 1280 B_X9_turned_141 ls st S) : wpX d mX9_turned 141 ls st S R := x_step (by decide +kernel) h
def B_X9_turned_148 : List AIn := [(.iconst 1, 1, 0, 0), (.goto 4, 153, 1280, 0)]
theorem s_X9_turned_148 {d : Nat} {ls st : List AV} {S : MS} {R : Option AV → MS → Prop} (h : wpI (fun t l s S2 => wpX d mX9_turned t l s S2 R) (wpM d) R 152 0 B_X9_turned_148 ls st S) : wpX d mX9_turned 148 ls st S R := x_step (by decide +kernel) h
def B_X9_turned_152 : List AIn := [(.iconst 0, 0, 0, 0)]
theorem s_X9_turned_152 {d : Nat} {ls st : List AV} {S : MS} {R : Option AV → MS → Prop} (h : wpI (fun t l s S2 => wpX d mX9_turned t l s S2 R) (wpM d) R 153 1280 B_X9_turned_152 ls st S) : wpX d mX9_turned 152 ls st S R := x_step (by decide +kernel) h
def B_X9_turned_153 : List AIn := [(.istore 10, 10, 0, 0), (.iload 10, 10, 0, 0), (.ifCond .eq 8, 165, 1792, 0), (.iload 9, 9, 0, 0), (.goto 5, 167, 1824, 0)]
theorem s_X9_turned_153 {d : Nat} {ls st : List AV} {S : MS} {R : Option AV → MS → Prop} (h : wpI (fun t l s S2 => wpX d mX9_turned t l s S2 R) (wpM d) R 165 0 B_X9_turned_153 ls st S) : wpX d mX9_turned 153 ls st S R := x_step (by decide +kernel) h
def B_X9_turned_165 : List AIn := [(.iload 5, 5, 0, 0)]
theorem s_X9_turned_165 {d : Nat} {ls st : List AV} {S : MS} {R : Option AV → MS → Prop} (h : wpI (fun t l s S2 => wpX d mX9_turned t l s S2 R) (wpM d) R 167 1824 B_X9_turned_165 ls st S) : wpX d mX9_turned 165 ls st S R := x_step (by decide +kernel) h
def B_X9_turned_167 : List AIn := [(.istore 5, 5, 0, 0), (.iload 6, 6, 0, 0), (.iconst 3, 3, 0, 0), (.imul, 0, 0, 0), (.istore 6, 6, 0, 0), (.iinc 7 1, 1, 0, 0), (.goto (-138), 40, 1792, 0)]
theorem s_X9_turned_167 {d : Nat} {ls st : List AV} {S : MS} {R : Option AV → MS → Prop} (h : wpI (fun t l s S2 => wpX d mX9_turned t l s S2 R) (wpM d) R 181 0 B_X9_turned_167 ls st S) : wpX d mX9_turned 167 ls st S R := x_step (by decide +kernel) h
def B_X9_turned_181 : List AIn := [(.iload 5, 5, 0, 0), (.bipush (-9), 9, 1, 0), (.if_icmp .ne 12, 197, 2015, 0), (.aload_n 0, 0, 0, 0), (.getfield 73, 34, 8, 0), (.iload_n 1, 1, 0, 0), (.iaload, 0, 0, 0), (.goto 5, 199, 2047, 0)]
theorem s_X9_turned_181 {d : Nat} {ls st : List AV} {S : MS} {R : Option AV → MS → Prop} (h : wpI (fun t l s S2 => wpX d mX9_turned t l s S2 R) (wpM d) R 197 0 B_X9_turned_181 ls st S) : wpX d mX9_turned 181 ls st S R := x_step (by decide +kernel) h
def B_X9_turned_197 : List AIn := [(.iload 5, 5, 0, 0)]
theorem s_X9_turned_197 {d : Nat} {ls st : List AV} {S : MS} {R : Option AV → MS → Prop} (h : wpI (fun t l s S2 => wpX d mX9_turned t l s S2 R) (wpM d) R 199 2047 B_X9_turned_197 ls st S) : wpX d mX9_turned 197 ls st S R := x_step (by decide +kernel) h
def B_X9_turned_199 : List AIn := [(.ireturn, 0, 0, 0)]
theorem s_X9_turned_199 {d : Nat} {ls st : List AV} {S : MS} {R : Option AV → MS → Prop} (h : wpI (fun t l s S2 => wpX d mX9_turned t l s S2 R) (wpM d) R 200 0 B_X9_turned_199 ls st S) : wpX d mX9_turned 199 ls st S R := x_step (by decide +kernel) h
-- NinthDayModel.tempt(I)I
def B_X9_tempt_0 : List AIn := [(.aload_n 0, 0, 0, 0), (.iload_n 1, 1, 0, 0), (.iconst 0, 0, 0, 0), (.iconst 5, 5, 0, 0), (.invokestatic 83, 131, 3, 0)]
theorem s_X9_tempt_0 {d : Nat} {ls st : List AV} {S : MS} {R : Option AV → MS → Prop} (h : wpI (fun t l s S2 => wpX d mX9_tempt t l s S2 R) (wpM d) R 7 28 B_X9_tempt_0 ls st S) : wpX d mX9_tempt 0 ls st S R := x_step (by decide +kernel) h
def B_X9_tempt_7 : List AIn := [(.invokevirtual 205, 186, 2, 8)]
theorem s_X9_tempt_7 {d : Nat} {ls st : List AV} {S : MS} {R : Option AV → MS → Prop} (h : wpI (fun t l s S2 => wpX d mX9_tempt t l s S2 R) (wpM d) R 10 28 B_X9_tempt_7 ls st S) : wpX d mX9_tempt 7 ls st S R := x_step (by decide +kernel) h
def B_X9_tempt_10 : List AIn := [(.istore_n 2, 2, 0, 0), (.iload_n 2, 2, 0, 0), (.ifCond .ge 5, 17, 28, 0), (.iload_n 2, 2, 0, 0), (.ireturn, 0, 0, 0)]
theorem s_X9_tempt_10 {d : Nat} {ls st : List AV} {S : MS} {R : Option AV → MS → Prop} (h : wpI (fun t l s S2 => wpX d mX9_tempt t l s S2 R) (wpM d) R 17 0 B_X9_tempt_10 ls st S) : wpX d mX9_tempt 10 ls st S R := x_step (by decide +kernel) h
def B_X9_tempt_17 : List AIn := [(.iconst 0, 0, 0, 0), (.istore_n 3, 3, 0, 0)]
theorem s_X9_tempt_17 {d : Nat} {ls st : List AV} {S : MS} {R : Option AV → MS → Prop} (h : wpI (fun t l s S2 => wpX d mX9_tempt t l s S2 R) (wpM d) R 19 20 B_X9_tempt_17 ls st S) : wpX d mX9_tempt 17 ls st S R := x_step (by decide +kernel) h
def B_X9_tempt_19 : List AIn := [(.iload_n 3, 3, 0, 0), (.aload_n 0, 0, 0, 0), (.invokevirtual 266, 211, 1, 8)]
theorem s_X9_tempt_19 {d : Nat} {ls st : List AV} {S : MS} {R : Option AV → MS → Prop} (h : wpI (fun t l s S2 => wpX d mX9_tempt t l s S2 R) (wpM d) R 24 20 B_X9_tempt_19 ls st S) : wpX d mX9_tempt 19 ls st S R := x_step (by decide +kernel) h
def B_X9_tempt_24 : List AIn := [(.if_icmp .ge 24, 48, 28, 0), (.aload_n 0, 0, 0, 0), (.getfield 73, 34, 8, 0), (.iload_n 3, 3, 0, 0), (.aload_n 0, 0, 0, 0), (.iload_n 3, 3, 0, 0), (.iconst 2, 2, 0, 0), (.invokevirtual 263, 212, 3, 8)]
theorem s_X9_tempt_24 {d : Nat} {ls st : List AV} {S : MS} {R : Option AV → MS → Prop} (h : wpI (fun t l s S2 => wpX d mX9_tempt t l s S2 R) (wpM d) R 38 20 B_X9_tempt_24 ls st S) : wpX d mX9_tempt 24 ls st S R := x_step (by decide +kernel) h
def B_X9_tempt_38 : List AIn := [(.invokestatic 176, 133, 1, 0)]
theorem s_X9_tempt_38 {d : Nat} {ls st : List AV} {S : MS} {R : Option AV → MS → Prop} (h : wpI (fun t l s S2 => wpX d mX9_tempt t l s S2 R) (wpM d) R 41 20 B_X9_tempt_38 ls st S) : wpX d mX9_tempt 38 ls st S R := x_step (by decide +kernel) h
def B_X9_tempt_41 : List AIn := [(.iastore, 0, 0, 0), (.iinc 3 1, 1, 0, 0), (.goto (-26), 19, 20, 0)]
theorem s_X9_tempt_41 {d : Nat} {ls st : List AV} {S : MS} {R : Option AV → MS → Prop} (h : wpI (fun t l s S2 => wpX d mX9_tempt t l s S2 R) (wpM d) R 48 0 B_X9_tempt_41 ls st S) : wpX d mX9_tempt 41 ls st S R := x_step (by decide +kernel) h
def B_X9_tempt_48 : List AIn := [(.iload_n 1, 1, 0, 0), (.iconst 1, 1, 0, 0), (.isub, 0, 0, 0), (.istore_n 3, 3, 0, 0)]
theorem s_X9_tempt_48 {d : Nat} {ls st : List AV} {S : MS} {R : Option AV → MS → Prop} (h : wpI (fun t l s S2 => wpX d mX9_tempt t l s S2 R) (wpM d) R 52 22 B_X9_tempt_48 ls st S) : wpX d mX9_tempt 48 ls st S R := x_step (by decide +kernel) h
def B_X9_tempt_52 : List AIn := [(.iload_n 3, 3, 0, 0), (.ifCond .lt 83, 136, 30, 0), (.iconst 0, 0, 0, 0), (.istore 4, 4, 0, 0)]
theorem s_X9_tempt_52 {d : Nat} {ls st : List AV} {S : MS} {R : Option AV → MS → Prop} (h : wpI (fun t l s S2 => wpX d mX9_tempt t l s S2 R) (wpM d) R 59 6 B_X9_tempt_52 ls st S) : wpX d mX9_tempt 52 ls st S R := x_step (by decide +kernel) h
def B_X9_tempt_59 : List AIn := [(.iload 4, 4, 0, 0), (.aload_n 0, 0, 0, 0), (.invokevirtual 266, 211, 1, 8)]
theorem s_X9_tempt_59 {d : Nat} {ls st : List AV} {S : MS} {R : Option AV → MS → Prop} (h : wpI (fun t l s S2 => wpX d mX9_tempt t l s S2 R) (wpM d) R 65 6 B_X9_tempt_59 ls st S) : wpX d mX9_tempt 59 ls st S R := x_step (by decide +kernel) h
def B_X9_tempt_65 : List AIn := [(.if_icmp .ge 33, 98, 22, 0), (.aload_n 0, 0, 0, 0), (.getfield 76, 35, 8, 0), (.iload 4, 4, 0, 0), (.aload_n 0, 0, 0, 0), (.iload 4, 4, 0, 0), (.iload_n 3, 3, 0, 0), (.iconst 2, 2, 0, 0), (.irem, 0, 0, 0), (.ifCond .ne 7, 87, 6, 0), (.iconst 1, 1, 0, 0), (.goto 4, 88, 6, 0)]
theorem s_X9_tempt_65 {d : Nat} {ls st : List AV} {S : MS} {R : Option AV → MS → Prop} (h : wpI (fun t l s S2 => wpX d mX9_tempt t l s S2 R) (wpM d) R 87 0 B_X9_tempt_65 ls st S) : wpX d mX9_tempt 65 ls st S R := x_step (by decide +kernel) h
def B_X9_tempt_87 : List AIn := [(.iconst 0, 0, 0, 0)]
theorem s_X9_tempt_87 {d : Nat} {ls st : List AV} {S : MS} {R : Option AV → MS → Prop} (h : wpI (fun t l s S2 => wpX d mX9_tempt t l s S2 R) (wpM d) R 88 6 B_X9_tempt_87 ls st S) : wpX d mX9_tempt 87 ls st S R := x_step (by decide +kernel) h
def B_X9_tempt_88 : List AIn := [(.invokevirtual 270, 213, 3, 8)]
theorem s_X9_tempt_88 {d : Nat} {ls st : List AV} {S : MS} {R : Option AV → MS → Prop} (h : wpI (fun t l s S2 => wpX d mX9_tempt t l s S2 R) (wpM d) R 91 6 B_X9_tempt_88 ls st S) : wpX d mX9_tempt 88 ls st S R := x_step (by decide +kernel) h
def B_X9_tempt_91 : List AIn := [(.iastore, 0, 0, 0), (.iinc 4 1, 1, 0, 0), (.goto (-36), 59, 6, 0)]
theorem s_X9_tempt_91 {d : Nat} {ls st : List AV} {S : MS} {R : Option AV → MS → Prop} (h : wpI (fun t l s S2 => wpX d mX9_tempt t l s S2 R) (wpM d) R 98 0 B_X9_tempt_91 ls st S) : wpX d mX9_tempt 91 ls st S R := x_step (by decide +kernel) h
def B_X9_tempt_98 : List AIn := [(.iconst 0, 0, 0, 0), (.istore 4, 4, 0, 0)]
theorem s_X9_tempt_98 {d : Nat} {ls st : List AV} {S : MS} {R : Option AV → MS → Prop} (h : wpI (fun t l s S2 => wpX d mX9_tempt t l s S2 R) (wpM d) R 101 6 B_X9_tempt_98 ls st S) : wpX d mX9_tempt 98 ls st S R := x_step (by decide +kernel) h
def B_X9_tempt_101 : List AIn := [(.iload 4, 4, 0, 0), (.aload_n 0, 0, 0, 0), (.invokevirtual 266, 211, 1, 8)]
theorem s_X9_tempt_101 {d : Nat} {ls st : List AV} {S : MS} {R : Option AV → MS → Prop} (h : wpI (fun t l s S2 => wpX d mX9_tempt t l s S2 R) (wpM d) R 107 6 B_X9_tempt_101 ls st S) : wpX d mX9_tempt 101 ls st S R := x_step (by decide +kernel) h
def B_X9_tempt_107 : List AIn := [(.if_icmp .ge 23, 130, 22, 0), (.aload_n 0, 0, 0, 0), (.getfield 73, 34, 8, 0), (.iload 4, 4, 0, 0), (.aload_n 0, 0, 0, 0), (.getfield 76, 35, 8, 0), (.iload 4, 4, 0, 0), (.iaload, 0, 0, 0), (.iastore, 0, 0, 0), (.iinc 4 1, 1, 0, 0), (.goto (-26), 101, 6, 0)]
theorem s_X9_tempt_107 {d : Nat} {ls st : List AV} {S : MS} {R : Option AV → MS → Prop} (h : wpI (fun t l s S2 => wpX d mX9_tempt t l s S2 R) (wpM d) R 130 0 B_X9_tempt_107 ls st S) : wpX d mX9_tempt 107 ls st S R := x_step (by decide +kernel) h
def B_X9_tempt_130 : List AIn := [(.iinc 3 (-1), 1, 1, 0), (.goto (-81), 52, 22, 0)]
theorem s_X9_tempt_130 {d : Nat} {ls st : List AV} {S : MS} {R : Option AV → MS → Prop} (h : wpI (fun t l s S2 => wpX d mX9_tempt t l s S2 R) (wpM d) R 136 0 B_X9_tempt_130 ls st S) : wpX d mX9_tempt 130 ls st S R := x_step (by decide +kernel) h
def B_X9_tempt_136 : List AIn := [(.iconst 0, 0, 0, 0), (.istore_n 3, 3, 0, 0), (.aload_n 0, 0, 0, 0), (.getfield 145, 10, 8, 0), (.iconst 1, 1, 0, 0), (.isub, 0, 0, 0), (.istore 4, 4, 0, 0)]
theorem s_X9_tempt_136 {d : Nat} {ls st : List AV} {S : MS} {R : Option AV → MS → Prop} (h : wpI (fun t l s S2 => wpX d mX9_tempt t l s S2 R) (wpM d) R 146 6 B_X9_tempt_136 ls st S) : wpX d mX9_tempt 136 ls st S R := x_step (by decide +kernel) h
def B_X9_tempt_146 : List AIn := [(.iload 4, 4, 0, 0), (.ifCond .lt 33, 181, 22, 0), (.iconst 3, 3, 0, 0), (.iload_n 3, 3, 0, 0), (.imul, 0, 0, 0), (.aload_n 0, 0, 0, 0), (.getfield 45, 20, 8, 0), (.iconst 3, 3, 0, 0), (.iaload, 0, 0, 0), (.iload 4, 4, 0, 0), (.invokestatic 155, 132, 2, 0)]
theorem s_X9_tempt_146 {d : Nat} {ls st : List AV} {S : MS} {R : Option AV → MS → Prop} (h : wpI (fun t l s S2 => wpX d mX9_tempt t l s S2 R) (wpM d) R 165 14 B_X9_tempt_146 ls st S) : wpX d mX9_tempt 146 ls st S R := x_step (by decide +kernel) h
def B_X9_tempt_165 : List AIn := [(.ifCond .eq 7, 172, 14, 0), (.iconst 1, 1, 0, 0), (.goto 4, 173, 14, 0)]
theorem s_X9_tempt_165 {d : Nat} {ls st : List AV} {S : MS} {R : Option AV → MS → Prop} (h : wpI (fun t l s S2 => wpX d mX9_tempt t l s S2 R) (wpM d) R 172 0 B_X9_tempt_165 ls st S) : wpX d mX9_tempt 165 ls st S R := x_step (by decide +kernel) h
def B_X9_tempt_172 : List AIn := [(.iconst 0, 0, 0, 0)]
theorem s_X9_tempt_172 {d : Nat} {ls st : List AV} {S : MS} {R : Option AV → MS → Prop} (h : wpI (fun t l s S2 => wpX d mX9_tempt t l s S2 R) (wpM d) R 173 14 B_X9_tempt_172 ls st S) : wpX d mX9_tempt 172 ls st S R := x_step (by decide +kernel) h
def B_X9_tempt_173 : List AIn := [(.iadd, 0, 0, 0), (.istore_n 3, 3, 0, 0), (.iinc 4 (-1), 1, 1, 0), (.goto (-32), 146, 6, 0)]
theorem s_X9_tempt_173 {d : Nat} {ls st : List AV} {S : MS} {R : Option AV → MS → Prop} (h : wpI (fun t l s S2 => wpX d mX9_tempt t l s S2 R) (wpM d) R 181 0 B_X9_tempt_173 ls st S) : wpX d mX9_tempt 173 ls st S R := x_step (by decide +kernel) h
def B_X9_tempt_181 : List AIn := [(.aload_n 0, 0, 0, 0), (.getfield 73, 34, 8, 0), (.iload_n 3, 3, 0, 0), (.iaload, 0, 0, 0), (.ireturn, 0, 0, 0)]
theorem s_X9_tempt_181 {d : Nat} {ls st : List AV} {S : MS} {R : Option AV → MS → Prop} (h : wpI (fun t l s S2 => wpX d mX9_tempt t l s S2 R) (wpM d) R 188 0 B_X9_tempt_181 ls st S) : wpX d mX9_tempt 181 ls st S R := x_step (by decide +kernel) h
-- NinthDayModel.odds(II)I
def B_X9_odds_0 : List AIn := [(.aload_n 0, 0, 0, 0), (.iload_n 1, 1, 0, 0), (.iconst 0, 0, 0, 0), (.iconst 5, 5, 0, 0), (.invokestatic 83, 131, 3, 0)]
theorem s_X9_odds_0 {d : Nat} {ls st : List AV} {S : MS} {R : Option AV → MS → Prop} (h : wpI (fun t l s S2 => wpX d mX9_odds t l s S2 R) (wpM d) R 7 8184 B_X9_odds_0 ls st S) : wpX d mX9_odds 0 ls st S R := x_step (by decide +kernel) h
def B_X9_odds_7 : List AIn := [(.ifCond .eq 17, 24, 8184, 0), (.iload_n 2, 2, 0, 0), (.iconst 0, 0, 0, 0), (.bipush 12, 12, 0, 0), (.invokestatic 83, 131, 3, 0)]
theorem s_X9_odds_7 {d : Nat} {ls st : List AV} {S : MS} {R : Option AV → MS → Prop} (h : wpI (fun t l s S2 => wpX d mX9_odds t l s S2 R) (wpM d) R 17 8184 B_X9_odds_7 ls st S) : wpX d mX9_odds 7 ls st S R := x_step (by decide +kernel) h
def B_X9_odds_17 : List AIn := [(.ifCond .eq 7, 24, 8184, 0), (.iconst 1, 1, 0, 0), (.goto 4, 25, 8184, 0)]
theorem s_X9_odds_17 {d : Nat} {ls st : List AV} {S : MS} {R : Option AV → MS → Prop} (h : wpI (fun t l s S2 => wpX d mX9_odds t l s S2 R) (wpM d) R 24 0 B_X9_odds_17 ls st S) : wpX d mX9_odds 17 ls st S R := x_step (by decide +kernel) h
def B_X9_odds_24 : List AIn := [(.iconst 0, 0, 0, 0)]
theorem s_X9_odds_24 {d : Nat} {ls st : List AV} {S : MS} {R : Option AV → MS → Prop} (h : wpI (fun t l s S2 => wpX d mX9_odds t l s S2 R) (wpM d) R 25 8184 B_X9_odds_24 ls st S) : wpX d mX9_odds 24 ls st S R := x_step (by decide +kernel) h
def B_X9_odds_25 : List AIn := [(.invokevirtual 205, 186, 2, 8)]
theorem s_X9_odds_25 {d : Nat} {ls st : List AV} {S : MS} {R : Option AV → MS → Prop} (h : wpI (fun t l s S2 => wpX d mX9_odds t l s S2 R) (wpM d) R 28 8184 B_X9_odds_25 ls st S) : wpX d mX9_odds 25 ls st S R := x_step (by decide +kernel) h
def B_X9_odds_28 : List AIn := [(.istore_n 3, 3, 0, 0), (.iload_n 3, 3, 0, 0), (.ifCond .ge 5, 35, 8184, 0), (.iload_n 3, 3, 0, 0), (.ireturn, 0, 0, 0)]
theorem s_X9_odds_28 {d : Nat} {ls st : List AV} {S : MS} {R : Option AV → MS → Prop} (h : wpI (fun t l s S2 => wpX d mX9_odds t l s S2 R) (wpM d) R 35 0 B_X9_odds_28 ls st S) : wpX d mX9_odds 28 ls st S R := x_step (by decide +kernel) h
def B_X9_odds_35 : List AIn := [(.aload_n 0, 0, 0, 0), (.aload_n 0, 0, 0, 0), (.getfield 45, 20, 8, 0), (.iconst 0, 0, 0, 0), (.invokevirtual 209, 172, 3, 8)]
theorem s_X9_odds_35 {d : Nat} {ls st : List AV} {S : MS} {R : Option AV → MS → Prop} (h : wpI (fun t l s S2 => wpX d mX9_odds t l s S2 R) (wpM d) R 44 8184 B_X9_odds_35 ls st S) : wpX d mX9_odds 35 ls st S R := x_step (by decide +kernel) h
def B_X9_odds_44 : List AIn := [(.istore 4, 4, 0, 0), (.lconst 1, 1, 0, 0), (.lstore 5, 5, 0, 0), (.lconst 0, 0, 0, 0), (.lstore 7, 7, 0, 0), (.iconst 0, 0, 0, 0), (.istore 9, 9, 0, 0)]
theorem s_X9_odds_44 {d : Nat} {ls st : List AV} {S : MS} {R : Option AV → MS → Prop} (h : wpI (fun t l s S2 => wpX d mX9_odds t l s S2 R) (wpM d) R 55 7496 B_X9_odds_44 ls st S) : wpX d mX9_odds 44 ls st S R := x_step (by decide +kernel) h
def B_X9_odds_55 : List AIn := [(.iload 9, 9, 0, 0), (.iload 4, 4, 0, 0), (.invokestatic 176, 133, 1, 0)]
theorem s_X9_odds_55 {d : Nat} {ls st : List AV} {S : MS} {R : Option AV → MS → Prop} (h : wpI (fun t l s S2 => wpX d mX9_odds t l s S2 R) (wpM d) R 62 7496 B_X9_odds_55 ls st S) : wpX d mX9_odds 55 ls st S R := x_step (by decide +kernel) h
def B_X9_odds_62 : List AIn := [(.if_icmp .ge 17, 79, 8008, 0), (.lload 5, 5, 0, 0), (.ldc2_w 274, 12, 0, 0), (.lmul, 0, 0, 0), (.lstore 5, 5, 0, 0), (.iinc 9 1, 1, 0, 0), (.goto (-21), 55, 7496, 0)]
theorem s_X9_odds_62 {d : Nat} {ls st : List AV} {S : MS} {R : Option AV → MS → Prop} (h : wpI (fun t l s S2 => wpX d mX9_odds t l s S2 R) (wpM d) R 79 0 B_X9_odds_62 ls st S) : wpX d mX9_odds 62 ls st S R := x_step (by decide +kernel) h
def B_X9_odds_79 : List AIn := [(.iconst 0, 0, 0, 0), (.istore 9, 9, 0, 0)]
theorem s_X9_odds_79 {d : Nat} {ls st : List AV} {S : MS} {R : Option AV → MS → Prop} (h : wpI (fun t l s S2 => wpX d mX9_odds t l s S2 R) (wpM d) R 82 7496 B_X9_odds_79 ls st S) : wpX d mX9_odds 79 ls st S R := x_step (by decide +kernel) h
def B_X9_odds_82 : List AIn := [(.iload 9, 9, 0, 0), (.iload 4, 4, 0, 0), (.if_icmp .gt 95, 181, 8030, 0), (.iload 9, 9, 0, 0), (.iload 4, 4, 0, 0), (.iconst (-1), 1, 1, 0), (.ixor, 0, 0, 0), (.iand, 0, 0, 0), (.ifCond .ne 79, 175, 7496, 0), (.iload 9, 9, 0, 0), (.invokestatic 176, 133, 1, 0)]
theorem s_X9_odds_82 {d : Nat} {ls st : List AV} {S : MS} {R : Option AV → MS → Prop} (h : wpI (fun t l s S2 => wpX d mX9_odds t l s S2 R) (wpM d) R 104 7496 B_X9_odds_82 ls st S) : wpX d mX9_odds 82 ls st S R := x_step (by decide +kernel) h
def B_X9_odds_104 : List AIn := [(.iload_n 1, 1, 0, 0), (.if_icmp .lt 70, 175, 7496, 0), (.lconst 1, 1, 0, 0), (.lstore 10, 10, 0, 0), (.iconst 0, 0, 0, 0), (.istore 12, 12, 0, 0)]
theorem s_X9_odds_104 {d : Nat} {ls st : List AV} {S : MS} {R : Option AV → MS → Prop} (h : wpI (fun t l s S2 => wpX d mX9_odds t l s S2 R) (wpM d) R 114 2376 B_X9_odds_104 ls st S) : wpX d mX9_odds 104 ls st S R := x_step (by decide +kernel) h
def B_X9_odds_114 : List AIn := [(.iload 12, 12, 0, 0), (.aload_n 0, 0, 0, 0), (.getfield 145, 10, 8, 0), (.if_icmp .ge 48, 168, 6472, 0), (.lload 10, 10, 0, 0), (.iload 4, 4, 0, 0), (.iload 12, 12, 0, 0), (.invokestatic 155, 132, 2, 0)]
theorem s_X9_odds_114 {d : Nat} {ls st : List AV} {S : MS} {R : Option AV → MS → Prop} (h : wpI (fun t l s S2 => wpX d mX9_odds t l s S2 R) (wpM d) R 132 3400 B_X9_odds_114 ls st S) : wpX d mX9_odds 114 ls st S R := x_step (by decide +kernel) h
def B_X9_odds_132 : List AIn := [(.ifCond .ne 7, 139, 3400, 0), (.lconst 1, 1, 0, 0), (.goto 23, 159, 3400, 0)]
theorem s_X9_odds_132 {d : Nat} {ls st : List AV} {S : MS} {R : Option AV → MS → Prop} (h : wpI (fun t l s S2 => wpX d mX9_odds t l s S2 R) (wpM d) R 139 0 B_X9_odds_132 ls st S) : wpX d mX9_odds 132 ls st S R := x_step (by decide +kernel) h
def B_X9_odds_139 : List AIn := [(.iload 9, 9, 0, 0), (.iload 12, 12, 0, 0), (.invokestatic 155, 132, 2, 0)]
theorem s_X9_odds_139 {d : Nat} {ls st : List AV} {S : MS} {R : Option AV → MS → Prop} (h : wpI (fun t l s S2 => wpX d mX9_odds t l s S2 R) (wpM d) R 146 3400 B_X9_odds_139 ls st S) : wpX d mX9_odds 139 ls st S R := x_step (by decide +kernel) h
def B_X9_odds_146 : List AIn := [(.ifCond .eq 11, 157, 3400, 0), (.bipush 12, 12, 0, 0), (.iload_n 2, 2, 0, 0), (.isub, 0, 0, 0), (.i2l, 0, 0, 0), (.goto 5, 159, 3400, 0)]
theorem s_X9_odds_146 {d : Nat} {ls st : List AV} {S : MS} {R : Option AV → MS → Prop} (h : wpI (fun t l s S2 => wpX d mX9_odds t l s S2 R) (wpM d) R 157 0 B_X9_odds_146 ls st S) : wpX d mX9_odds 146 ls st S R := x_step (by decide +kernel) h
def B_X9_odds_157 : List AIn := [(.iload_n 2, 2, 0, 0), (.i2l, 0, 0, 0)]
theorem s_X9_odds_157 {d : Nat} {ls st : List AV} {S : MS} {R : Option AV → MS → Prop} (h : wpI (fun t l s S2 => wpX d mX9_odds t l s S2 R) (wpM d) R 159 3400 B_X9_odds_157 ls st S) : wpX d mX9_odds 157 ls st S R := x_step (by decide +kernel) h
def B_X9_odds_159 : List AIn := [(.lmul, 0, 0, 0), (.lstore 10, 10, 0, 0), (.iinc 12 1, 1, 0, 0), (.goto (-51), 114, 2376, 0)]
theorem s_X9_odds_159 {d : Nat} {ls st : List AV} {S : MS} {R : Option AV → MS → Prop} (h : wpI (fun t l s S2 => wpX d mX9_odds t l s S2 R) (wpM d) R 168 0 B_X9_odds_159 ls st S) : wpX d mX9_odds 159 ls st S R := x_step (by decide +kernel) h
def B_X9_odds_168 : List AIn := [(.lload 7, 7, 0, 0), (.lload 10, 10, 0, 0), (.ladd, 0, 0, 0), (.lstore 7, 7, 0, 0)]
theorem s_X9_odds_168 {d : Nat} {ls st : List AV} {S : MS} {R : Option AV → MS → Prop} (h : wpI (fun t l s S2 => wpX d mX9_odds t l s S2 R) (wpM d) R 175 7496 B_X9_odds_168 ls st S) : wpX d mX9_odds 168 ls st S R := x_step (by decide +kernel) h
def B_X9_odds_175 : List AIn := [(.iinc 9 1, 1, 0, 0), (.goto (-96), 82, 7496, 0)]
theorem s_X9_odds_175 {d : Nat} {ls st : List AV} {S : MS} {R : Option AV → MS → Prop} (h : wpI (fun t l s S2 => wpX d mX9_odds t l s S2 R) (wpM d) R 181 0 B_X9_odds_175 ls st S) : wpX d mX9_odds 175 ls st S R := x_step (by decide +kernel) h
def B_X9_odds_181 : List AIn := [(.aload_n 0, 0, 0, 0), (.lload 7, 7, 0, 0), (.lload 5, 5, 0, 0), (.invokevirtual 241, 139, 3, 8)]
theorem s_X9_odds_181 {d : Nat} {ls st : List AV} {S : MS} {R : Option AV → MS → Prop} (h : wpI (fun t l s S2 => wpX d mX9_odds t l s S2 R) (wpM d) R 189 8191 B_X9_odds_181 ls st S) : wpX d mX9_odds 181 ls st S R := x_step (by decide +kernel) h
def B_X9_odds_189 : List AIn := [(.ireturn, 0, 0, 0)]
theorem s_X9_odds_189 {d : Nat} {ls st : List AV} {S : MS} {R : Option AV → MS → Prop} (h : wpI (fun t l s S2 => wpX d mX9_odds t l s S2 R) (wpM d) R 190 0 B_X9_odds_189 ls st S) : wpX d mX9_odds 189 ls st S R := x_step (by decide +kernel) h
-- NinthDayModel.mid(I)I
def B_X9_mid_0 : List AIn := [(.aload_n 0, 0, 0, 0), (.iload_n 1, 1, 0, 0), (.iconst 0, 0, 0, 0), (.bipush 12, 12, 0, 0), (.invokestatic 83, 131, 3, 0)]
theorem s_X9_mid_0 {d : Nat} {ls st : List AV} {S : MS} {R : Option AV → MS → Prop} (h : wpI (fun t l s S2 => wpX d mX9_mid t l s S2 R) (wpM d) R 8 252 B_X9_mid_0 ls st S) : wpX d mX9_mid 0 ls st S R := x_step (by decide +kernel) h
def B_X9_mid_8 : List AIn := [(.invokevirtual 205, 186, 2, 8)]
theorem s_X9_mid_8 {d : Nat} {ls st : List AV} {S : MS} {R : Option AV → MS → Prop} (h : wpI (fun t l s S2 => wpX d mX9_mid t l s S2 R) (wpM d) R 11 252 B_X9_mid_8 ls st S) : wpX d mX9_mid 8 ls st S R := x_step (by decide +kernel) h
def B_X9_mid_11 : List AIn := [(.istore_n 2, 2, 0, 0), (.iload_n 2, 2, 0, 0), (.ifCond .ge 5, 18, 252, 0), (.iload_n 2, 2, 0, 0), (.ireturn, 0, 0, 0)]
theorem s_X9_mid_11 {d : Nat} {ls st : List AV} {S : MS} {R : Option AV → MS → Prop} (h : wpI (fun t l s S2 => wpX d mX9_mid t l s S2 R) (wpM d) R 18 0 B_X9_mid_11 ls st S) : wpX d mX9_mid 11 ls st S R := x_step (by decide +kernel) h
def B_X9_mid_18 : List AIn := [(.aload_n 0, 0, 0, 0), (.aload_n 0, 0, 0, 0), (.getfield 45, 20, 8, 0), (.iconst 0, 0, 0, 0), (.invokevirtual 209, 172, 3, 8)]
theorem s_X9_mid_18 {d : Nat} {ls st : List AV} {S : MS} {R : Option AV → MS → Prop} (h : wpI (fun t l s S2 => wpX d mX9_mid t l s S2 R) (wpM d) R 27 252 B_X9_mid_18 ls st S) : wpX d mX9_mid 18 ls st S R := x_step (by decide +kernel) h
def B_X9_mid_27 : List AIn := [(.istore_n 3, 3, 0, 0), (.lconst 0, 0, 0, 0), (.lstore 4, 4, 0, 0), (.iconst 0, 0, 0, 0), (.istore 6, 6, 0, 0)]
theorem s_X9_mid_27 {d : Nat} {ls st : List AV} {S : MS} {R : Option AV → MS → Prop} (h : wpI (fun t l s S2 => wpX d mX9_mid t l s S2 R) (wpM d) R 34 164 B_X9_mid_27 ls st S) : wpX d mX9_mid 27 ls st S R := x_step (by decide +kernel) h
def B_X9_mid_34 : List AIn := [(.iload 6, 6, 0, 0), (.aload_n 0, 0, 0, 0), (.getfield 145, 10, 8, 0), (.if_icmp .ge 84, 124, 238, 0), (.iload_n 3, 3, 0, 0), (.iload 6, 6, 0, 0), (.invokestatic 155, 132, 2, 0)]
theorem s_X9_mid_34 {d : Nat} {ls st : List AV} {S : MS} {R : Option AV → MS → Prop} (h : wpI (fun t l s S2 => wpX d mX9_mid t l s S2 R) (wpM d) R 49 164 B_X9_mid_34 ls st S) : wpX d mX9_mid 34 ls st S R := x_step (by decide +kernel) h
def B_X9_mid_49 : List AIn := [(.ifCond .eq 10, 59, 164, 0), (.bipush 12, 12, 0, 0), (.iload_n 1, 1, 0, 0), (.isub, 0, 0, 0), (.goto 4, 60, 164, 0)]
theorem s_X9_mid_49 {d : Nat} {ls st : List AV} {S : MS} {R : Option AV → MS → Prop} (h : wpI (fun t l s S2 => wpX d mX9_mid t l s S2 R) (wpM d) R 59 0 B_X9_mid_49 ls st S) : wpX d mX9_mid 49 ls st S R := x_step (by decide +kernel) h
def B_X9_mid_59 : List AIn := [(.iconst 0, 0, 0, 0)]
theorem s_X9_mid_59 {d : Nat} {ls st : List AV} {S : MS} {R : Option AV → MS → Prop} (h : wpI (fun t l s S2 => wpX d mX9_mid t l s S2 R) (wpM d) R 60 164 B_X9_mid_59 ls st S) : wpX d mX9_mid 59 ls st S R := x_step (by decide +kernel) h
def B_X9_mid_60 : List AIn := [(.istore 7, 7, 0, 0), (.lload 4, 4, 0, 0), (.aload_n 0, 0, 0, 0), (.aload_n 0, 0, 0, 0), (.getfield 45, 20, 8, 0), (.invokevirtual 169, 169, 2, 8)]
theorem s_X9_mid_60 {d : Nat} {ls st : List AV} {S : MS} {R : Option AV → MS → Prop} (h : wpI (fun t l s S2 => wpX d mX9_mid t l s S2 R) (wpM d) R 72 52 B_X9_mid_60 ls st S) : wpX d mX9_mid 60 ls st S R := x_step (by decide +kernel) h
def B_X9_mid_72 : List AIn := [(.iload 6, 6, 0, 0), (.invokestatic 155, 132, 2, 0)]
theorem s_X9_mid_72 {d : Nat} {ls st : List AV} {S : MS} {R : Option AV → MS → Prop} (h : wpI (fun t l s S2 => wpX d mX9_mid t l s S2 R) (wpM d) R 77 52 B_X9_mid_72 ls st S) : wpX d mX9_mid 72 ls st S R := x_step (by decide +kernel) h
def B_X9_mid_77 : List AIn := [(.ifCond .eq 37, 114, 180, 0), (.iload 7, 7, 0, 0), (.aload_n 0, 0, 0, 0), (.aload_n 0, 0, 0, 0), (.getfield 45, 20, 8, 0), (.iload 6, 6, 0, 0), (.invokevirtual 166, 167, 3, 8)]
theorem s_X9_mid_77 {d : Nat} {ls st : List AV} {S : MS} {R : Option AV → MS → Prop} (h : wpI (fun t l s S2 => wpX d mX9_mid t l s S2 R) (wpM d) R 92 52 B_X9_mid_77 ls st S) : wpX d mX9_mid 77 ls st S R := x_step (by decide +kernel) h
def B_X9_mid_92 : List AIn := [(.imul, 0, 0, 0), (.bipush 12, 12, 0, 0), (.iload 7, 7, 0, 0), (.isub, 0, 0, 0), (.aload_n 0, 0, 0, 0), (.aload_n 0, 0, 0, 0), (.getfield 45, 20, 8, 0), (.iload 6, 6, 0, 0), (.invokevirtual 173, 168, 3, 8)]
theorem s_X9_mid_92 {d : Nat} {ls st : List AV} {S : MS} {R : Option AV → MS → Prop} (h : wpI (fun t l s S2 => wpX d mX9_mid t l s S2 R) (wpM d) R 108 180 B_X9_mid_92 ls st S) : wpX d mX9_mid 92 ls st S R := x_step (by decide +kernel) h
def B_X9_mid_108 : List AIn := [(.imul, 0, 0, 0), (.iadd, 0, 0, 0), (.i2l, 0, 0, 0), (.goto 4, 115, 180, 0)]
theorem s_X9_mid_108 {d : Nat} {ls st : List AV} {S : MS} {R : Option AV → MS → Prop} (h : wpI (fun t l s S2 => wpX d mX9_mid t l s S2 R) (wpM d) R 114 0 B_X9_mid_108 ls st S) : wpX d mX9_mid 108 ls st S R := x_step (by decide +kernel) h
def B_X9_mid_114 : List AIn := [(.lconst 0, 0, 0, 0)]
theorem s_X9_mid_114 {d : Nat} {ls st : List AV} {S : MS} {R : Option AV → MS → Prop} (h : wpI (fun t l s S2 => wpX d mX9_mid t l s S2 R) (wpM d) R 115 180 B_X9_mid_114 ls st S) : wpX d mX9_mid 114 ls st S R := x_step (by decide +kernel) h
def B_X9_mid_115 : List AIn := [(.ladd, 0, 0, 0), (.lstore 4, 4, 0, 0), (.iinc 6 1, 1, 0, 0), (.goto (-87), 34, 164, 0)]
theorem s_X9_mid_115 {d : Nat} {ls st : List AV} {S : MS} {R : Option AV → MS → Prop} (h : wpI (fun t l s S2 => wpX d mX9_mid t l s S2 R) (wpM d) R 124 0 B_X9_mid_115 ls st S) : wpX d mX9_mid 115 ls st S R := x_step (by decide +kernel) h
def B_X9_mid_124 : List AIn := [(.aload_n 0, 0, 0, 0), (.lload 4, 4, 0, 0), (.ldc2_w 274, 12, 0, 0), (.invokevirtual 241, 139, 3, 8)]
theorem s_X9_mid_124 {d : Nat} {ls st : List AV} {S : MS} {R : Option AV → MS → Prop} (h : wpI (fun t l s S2 => wpX d mX9_mid t l s S2 R) (wpM d) R 133 255 B_X9_mid_124 ls st S) : wpX d mX9_mid 124 ls st S R := x_step (by decide +kernel) h
def B_X9_mid_133 : List AIn := [(.ireturn, 0, 0, 0)]
theorem s_X9_mid_133 {d : Nat} {ls st : List AV} {S : MS} {R : Option AV → MS → Prop} (h : wpI (fun t l s S2 => wpX d mX9_mid t l s S2 R) (wpM d) R 134 0 B_X9_mid_133 ls st S) : wpX d mX9_mid 133 ls st S R := x_step (by decide +kernel) h
-- NinthDayModel.lots(II)I
def B_X9_lots_0 : List AIn := [(.aload_n 0, 0, 0, 0), (.iload_n 1, 1, 0, 0), (.iconst 1, 1, 0, 0), (.bipush 20, 20, 0, 0), (.invokestatic 83, 131, 3, 0)]
theorem s_X9_lots_0 {d : Nat} {ls st : List AV} {S : MS} {R : Option AV → MS → Prop} (h : wpI (fun t l s S2 => wpX d mX9_lots t l s S2 R) (wpM d) R 8 1016 B_X9_lots_0 ls st S) : wpX d mX9_lots 0 ls st S R := x_step (by decide +kernel) h
def B_X9_lots_8 : List AIn := [(.ifCond .eq 18, 26, 1016, 0), (.iload_n 2, 2, 0, 0), (.iconst 1, 1, 0, 0), (.ldc_w 276, 2147483646, 0, 0), (.invokestatic 83, 131, 3, 0)]
theorem s_X9_lots_8 {d : Nat} {ls st : List AV} {S : MS} {R : Option AV → MS → Prop} (h : wpI (fun t l s S2 => wpX d mX9_lots t l s S2 R) (wpM d) R 19 1016 B_X9_lots_8 ls st S) : wpX d mX9_lots 8 ls st S R := x_step (by decide +kernel) h
def B_X9_lots_19 : List AIn := [(.ifCond .eq 7, 26, 1016, 0), (.iconst 1, 1, 0, 0), (.goto 4, 27, 1016, 0)]
theorem s_X9_lots_19 {d : Nat} {ls st : List AV} {S : MS} {R : Option AV → MS → Prop} (h : wpI (fun t l s S2 => wpX d mX9_lots t l s S2 R) (wpM d) R 26 0 B_X9_lots_19 ls st S) : wpX d mX9_lots 19 ls st S R := x_step (by decide +kernel) h
def B_X9_lots_26 : List AIn := [(.iconst 0, 0, 0, 0)]
theorem s_X9_lots_26 {d : Nat} {ls st : List AV} {S : MS} {R : Option AV → MS → Prop} (h : wpI (fun t l s S2 => wpX d mX9_lots t l s S2 R) (wpM d) R 27 1016 B_X9_lots_26 ls st S) : wpX d mX9_lots 26 ls st S R := x_step (by decide +kernel) h
def B_X9_lots_27 : List AIn := [(.invokevirtual 205, 186, 2, 8)]
theorem s_X9_lots_27 {d : Nat} {ls st : List AV} {S : MS} {R : Option AV → MS → Prop} (h : wpI (fun t l s S2 => wpX d mX9_lots t l s S2 R) (wpM d) R 30 1016 B_X9_lots_27 ls st S) : wpX d mX9_lots 27 ls st S R := x_step (by decide +kernel) h
def B_X9_lots_30 : List AIn := [(.istore_n 3, 3, 0, 0), (.iload_n 3, 3, 0, 0), (.ifCond .ge 5, 37, 1016, 0), (.iload_n 3, 3, 0, 0), (.ireturn, 0, 0, 0)]
theorem s_X9_lots_30 {d : Nat} {ls st : List AV} {S : MS} {R : Option AV → MS → Prop} (h : wpI (fun t l s S2 => wpX d mX9_lots t l s S2 R) (wpM d) R 37 0 B_X9_lots_30 ls st S) : wpX d mX9_lots 30 ls st S R := x_step (by decide +kernel) h
def B_X9_lots_37 : List AIn := [(.aload_n 0, 0, 0, 0), (.getfield 148, 22, 8, 0), (.iload_n 1, 1, 0, 0), (.iadd, 0, 0, 0), (.bipush 40, 40, 0, 0), (.if_icmp .le 6, 51, 1016, 0), (.bipush (-2), 2, 1, 0), (.ireturn, 0, 0, 0)]
theorem s_X9_lots_37 {d : Nat} {ls st : List AV} {S : MS} {R : Option AV → MS → Prop} (h : wpI (fun t l s S2 => wpX d mX9_lots t l s S2 R) (wpM d) R 51 0 B_X9_lots_37 ls st S) : wpX d mX9_lots 37 ls st S R := x_step (by decide +kernel) h
def B_X9_lots_51 : List AIn := [(.iload_n 2, 2, 0, 0), (.i2l, 0, 0, 0), (.lstore 4, 4, 0, 0), (.iconst 0, 0, 0, 0), (.istore 6, 6, 0, 0), (.iconst 0, 0, 0, 0), (.istore 7, 7, 0, 0)]
theorem s_X9_lots_51 {d : Nat} {ls st : List AV} {S : MS} {R : Option AV → MS → Prop} (h : wpI (fun t l s S2 => wpX d mX9_lots t l s S2 R) (wpM d) R 61 812 B_X9_lots_51 ls st S) : wpX d mX9_lots 51 ls st S R := x_step (by decide +kernel) h
def B_X9_lots_61 : List AIn := [(.iload 7, 7, 0, 0), (.iload_n 1, 1, 0, 0), (.if_icmp .ge 85, 149, 959, 0), (.ldc2_w 277, 48271, 0, 0), (.lload 4, 4, 0, 0), (.lmul, 0, 0, 0), (.ldc2_w 279, 2147483647, 0, 0), (.lrem, 0, 0, 0), (.lstore 4, 4, 0, 0), (.lload 4, 4, 0, 0), (.ldc2_w 281, 8, 0, 0), (.ldiv, 0, 0, 0), (.aload_n 0, 0, 0, 0), (.getfield 145, 10, 8, 0), (.i2l, 0, 0, 0), (.lrem, 0, 0, 0), (.l2i, 0, 0, 0), (.istore 8, 8, 0, 0), (.aload_n 0, 0, 0, 0), (.aload_n 0, 0, 0, 0), (.getfield 45, 20, 8, 0), (.lload 4, 4, 0, 0), (.ldc2_w 283, 4, 0, 0), (.lrem, 0, 0, 0), (.l2i, 0, 0, 0), (.invokevirtual 209, 172, 3, 8)]
theorem s_X9_lots_61 {d : Nat} {ls st : List AV} {S : MS} {R : Option AV → MS → Prop} (h : wpI (fun t l s S2 => wpX d mX9_lots t l s S2 R) (wpM d) R 109 556 B_X9_lots_61 ls st S) : wpX d mX9_lots 61 ls st S R := x_step (by decide +kernel) h
def B_X9_lots_109 : List AIn := [(.iconst 1, 1, 0, 0), (.iload 8, 8, 0, 0), (.ishl, 0, 0, 0), (.iconst (-1), 1, 1, 0), (.ixor, 0, 0, 0), (.iand, 0, 0, 0), (.istore 9, 9, 0, 0), (.aload_n 0, 0, 0, 0), (.invokevirtual 198, 178, 1, 8)]
theorem s_X9_lots_109 {d : Nat} {ls st : List AV} {S : MS} {R : Option AV → MS → Prop} (h : wpI (fun t l s S2 => wpX d mX9_lots t l s S2 R) (wpM d) R 122 300 B_X9_lots_109 ls st S) : wpX d mX9_lots 109 ls st S R := x_step (by decide +kernel) h
def B_X9_lots_122 : List AIn := [(.aload_n 0, 0, 0, 0), (.aload_n 0, 0, 0, 0), (.getfield 45, 20, 8, 0), (.iload 9, 9, 0, 0), (.iconst 0, 0, 0, 0), (.invokevirtual 201, 170, 4, 8)]
theorem s_X9_lots_122 {d : Nat} {ls st : List AV} {S : MS} {R : Option AV → MS → Prop} (h : wpI (fun t l s S2 => wpX d mX9_lots t l s S2 R) (wpM d) R 133 300 B_X9_lots_122 ls st S) : wpX d mX9_lots 122 ls st S R := x_step (by decide +kernel) h
def B_X9_lots_133 : List AIn := [(.iload 6, 6, 0, 0), (.iload 9, 9, 0, 0), (.invokestatic 176, 133, 1, 0)]
theorem s_X9_lots_133 {d : Nat} {ls st : List AV} {S : MS} {R : Option AV → MS → Prop} (h : wpI (fun t l s S2 => wpX d mX9_lots t l s S2 R) (wpM d) R 140 876 B_X9_lots_133 ls st S) : wpX d mX9_lots 133 ls st S R := x_step (by decide +kernel) h
def B_X9_lots_140 : List AIn := [(.iadd, 0, 0, 0), (.istore 6, 6, 0, 0), (.iinc 7 1, 1, 0, 0), (.goto (-85), 61, 812, 0)]
theorem s_X9_lots_140 {d : Nat} {ls st : List AV} {S : MS} {R : Option AV → MS → Prop} (h : wpI (fun t l s S2 => wpX d mX9_lots t l s S2 R) (wpM d) R 149 0 B_X9_lots_140 ls st S) : wpX d mX9_lots 140 ls st S R := x_step (by decide +kernel) h
def B_X9_lots_149 : List AIn := [(.iload 6, 6, 0, 0), (.ireturn, 0, 0, 0)]
theorem s_X9_lots_149 {d : Nat} {ls st : List AV} {S : MS} {R : Option AV → MS → Prop} (h : wpI (fun t l s S2 => wpX d mX9_lots t l s S2 R) (wpM d) R 152 0 B_X9_lots_149 ls st S) : wpX d mX9_lots 149 ls st S R := x_step (by decide +kernel) h
-- NinthDayModel.counted(I)I
def B_X9_counted_0 : List AIn := [(.iconst 0, 0, 0, 0), (.istore_n 2, 2, 0, 0), (.iconst 0, 0, 0, 0), (.istore_n 3, 3, 0, 0)]
theorem s_X9_counted_0 {d : Nat} {ls st : List AV} {S : MS} {R : Option AV → MS → Prop} (h : wpI (fun t l s S2 => wpX d mX9_counted t l s S2 R) (wpM d) R 4 0 B_X9_counted_0 ls st S) : wpX d mX9_counted 0 ls st S R := x_step (by decide +kernel) h
def B_X9_counted_4 : List AIn := [(.iload_n 3, 3, 0, 0), (.aload_n 0, 0, 0, 0), (.getfield 145, 10, 8, 0), (.if_icmp .ge 79, 88, 8, 0), (.iload_n 2, 2, 0, 0), (.iload_n 1, 1, 0, 0), (.bipush 6, 6, 0, 0), (.if_icmp .ne 29, 45, 4, 0), (.aload_n 0, 0, 0, 0), (.aload_n 0, 0, 0, 0), (.getfield 45, 20, 8, 0), (.invokevirtual 169, 169, 2, 8)]
theorem s_X9_counted_4 {d : Nat} {ls st : List AV} {S : MS} {R : Option AV → MS → Prop} (h : wpI (fun t l s S2 => wpX d mX9_counted t l s S2 R) (wpM d) R 27 4 B_X9_counted_4 ls st S) : wpX d mX9_counted 4 ls st S R := x_step (by decide +kernel) h
def B_X9_counted_27 : List AIn := [(.iload_n 3, 3, 0, 0), (.invokestatic 155, 132, 2, 0)]
theorem s_X9_counted_27 {d : Nat} {ls st : List AV} {S : MS} {R : Option AV → MS → Prop} (h : wpI (fun t l s S2 => wpX d mX9_counted t l s S2 R) (wpM d) R 31 4 B_X9_counted_27 ls st S) : wpX d mX9_counted 27 ls st S R := x_step (by decide +kernel) h
def B_X9_counted_31 : List AIn := [(.ifCond .eq 14, 45, 4, 0), (.aload_n 0, 0, 0, 0), (.getfield 45, 20, 8, 0), (.iconst 4, 4, 0, 0), (.iload_n 3, 3, 0, 0), (.iadd, 0, 0, 0), (.iaload, 0, 0, 0), (.goto 4, 46, 4, 0)]
theorem s_X9_counted_31 {d : Nat} {ls st : List AV} {S : MS} {R : Option AV → MS → Prop} (h : wpI (fun t l s S2 => wpX d mX9_counted t l s S2 R) (wpM d) R 45 0 B_X9_counted_31 ls st S) : wpX d mX9_counted 31 ls st S R := x_step (by decide +kernel) h
def B_X9_counted_45 : List AIn := [(.iconst 0, 0, 0, 0)]
theorem s_X9_counted_45 {d : Nat} {ls st : List AV} {S : MS} {R : Option AV → MS → Prop} (h : wpI (fun t l s S2 => wpX d mX9_counted t l s S2 R) (wpM d) R 46 4 B_X9_counted_45 ls st S) : wpX d mX9_counted 45 ls st S R := x_step (by decide +kernel) h
def B_X9_counted_46 : List AIn := [(.iadd, 0, 0, 0), (.istore_n 2, 2, 0, 0), (.iload_n 2, 2, 0, 0), (.iload_n 1, 1, 0, 0), (.bipush 7, 7, 0, 0), (.if_icmp .ne 27, 79, 4, 0), (.aload_n 0, 0, 0, 0), (.getfield 33, 11, 8, 0), (.iload_n 3, 3, 0, 0), (.iaload, 0, 0, 0), (.iconst 1, 1, 0, 0), (.if_icmp .eq 13, 75, 4, 0), (.aload_n 0, 0, 0, 0), (.getfield 33, 11, 8, 0), (.iload_n 3, 3, 0, 0), (.iaload, 0, 0, 0), (.iconst 4, 4, 0, 0), (.if_icmp .ne 7, 79, 4, 0)]
theorem s_X9_counted_46 {d : Nat} {ls st : List AV} {S : MS} {R : Option AV → MS → Prop} (h : wpI (fun t l s S2 => wpX d mX9_counted t l s S2 R) (wpM d) R 75 4 B_X9_counted_46 ls st S) : wpX d mX9_counted 46 ls st S R := x_step (by decide +kernel) h
def B_X9_counted_75 : List AIn := [(.iconst 1, 1, 0, 0), (.goto 4, 80, 4, 0)]
theorem s_X9_counted_75 {d : Nat} {ls st : List AV} {S : MS} {R : Option AV → MS → Prop} (h : wpI (fun t l s S2 => wpX d mX9_counted t l s S2 R) (wpM d) R 79 0 B_X9_counted_75 ls st S) : wpX d mX9_counted 75 ls st S R := x_step (by decide +kernel) h
def B_X9_counted_79 : List AIn := [(.iconst 0, 0, 0, 0)]
theorem s_X9_counted_79 {d : Nat} {ls st : List AV} {S : MS} {R : Option AV → MS → Prop} (h : wpI (fun t l s S2 => wpX d mX9_counted t l s S2 R) (wpM d) R 80 4 B_X9_counted_79 ls st S) : wpX d mX9_counted 79 ls st S R := x_step (by decide +kernel) h
def B_X9_counted_80 : List AIn := [(.iadd, 0, 0, 0), (.istore_n 2, 2, 0, 0), (.iinc 3 1, 1, 0, 0), (.goto (-81), 4, 0, 0)]
theorem s_X9_counted_80 {d : Nat} {ls st : List AV} {S : MS} {R : Option AV → MS → Prop} (h : wpI (fun t l s S2 => wpX d mX9_counted t l s S2 R) (wpM d) R 88 0 B_X9_counted_80 ls st S) : wpX d mX9_counted 80 ls st S R := x_step (by decide +kernel) h
def B_X9_counted_88 : List AIn := [(.iconst 0, 0, 0, 0), (.istore_n 3, 3, 0, 0)]
theorem s_X9_counted_88 {d : Nat} {ls st : List AV} {S : MS} {R : Option AV → MS → Prop} (h : wpI (fun t l s S2 => wpX d mX9_counted t l s S2 R) (wpM d) R 90 0 B_X9_counted_88 ls st S) : wpX d mX9_counted 88 ls st S R := x_step (by decide +kernel) h
def B_X9_counted_90 : List AIn := [(.iload_n 3, 3, 0, 0), (.bipush 6, 6, 0, 0), (.if_icmp .ge 32, 125, 8, 0), (.iload_n 2, 2, 0, 0), (.iload_n 1, 1, 0, 0), (.bipush 8, 8, 0, 0), (.if_icmp .ne 16, 116, 4, 0), (.aload_n 0, 0, 0, 0), (.getfield 17, 5, 8, 0), (.iload_n 3, 3, 0, 0), (.iaload, 0, 0, 0), (.ifCond .lt 7, 116, 4, 0), (.iconst 1, 1, 0, 0), (.goto 4, 117, 4, 0)]
theorem s_X9_counted_90 {d : Nat} {ls st : List AV} {S : MS} {R : Option AV → MS → Prop} (h : wpI (fun t l s S2 => wpX d mX9_counted t l s S2 R) (wpM d) R 116 0 B_X9_counted_90 ls st S) : wpX d mX9_counted 90 ls st S R := x_step (by decide +kernel) h
def B_X9_counted_116 : List AIn := [(.iconst 0, 0, 0, 0)]
theorem s_X9_counted_116 {d : Nat} {ls st : List AV} {S : MS} {R : Option AV → MS → Prop} (h : wpI (fun t l s S2 => wpX d mX9_counted t l s S2 R) (wpM d) R 117 4 B_X9_counted_116 ls st S) : wpX d mX9_counted 116 ls st S R := x_step (by decide +kernel) h
def B_X9_counted_117 : List AIn := [(.iadd, 0, 0, 0), (.istore_n 2, 2, 0, 0), (.iinc 3 1, 1, 0, 0), (.goto (-32), 90, 0, 0)]
theorem s_X9_counted_117 {d : Nat} {ls st : List AV} {S : MS} {R : Option AV → MS → Prop} (h : wpI (fun t l s S2 => wpX d mX9_counted t l s S2 R) (wpM d) R 125 0 B_X9_counted_117 ls st S) : wpX d mX9_counted 117 ls st S R := x_step (by decide +kernel) h
def B_X9_counted_125 : List AIn := [(.iconst 0, 0, 0, 0), (.istore_n 3, 3, 0, 0)]
theorem s_X9_counted_125 {d : Nat} {ls st : List AV} {S : MS} {R : Option AV → MS → Prop} (h : wpI (fun t l s S2 => wpX d mX9_counted t l s S2 R) (wpM d) R 127 0 B_X9_counted_125 ls st S) : wpX d mX9_counted 125 ls st S R := x_step (by decide +kernel) h
def B_X9_counted_127 : List AIn := [(.iload_n 3, 3, 0, 0), (.iconst 4, 4, 0, 0), (.if_icmp .ge 32, 161, 8, 0), (.iload_n 2, 2, 0, 0), (.iload_n 1, 1, 0, 0), (.bipush 9, 9, 0, 0), (.if_icmp .ne 16, 152, 4, 0), (.aload_n 0, 0, 0, 0), (.getfield 26, 8, 8, 0), (.iload_n 3, 3, 0, 0), (.iaload, 0, 0, 0), (.ifCond .lt 7, 152, 4, 0), (.iconst 1, 1, 0, 0), (.goto 4, 153, 4, 0)]
theorem s_X9_counted_127 {d : Nat} {ls st : List AV} {S : MS} {R : Option AV → MS → Prop} (h : wpI (fun t l s S2 => wpX d mX9_counted t l s S2 R) (wpM d) R 152 0 B_X9_counted_127 ls st S) : wpX d mX9_counted 127 ls st S R := x_step (by decide +kernel) h
def B_X9_counted_152 : List AIn := [(.iconst 0, 0, 0, 0)]
theorem s_X9_counted_152 {d : Nat} {ls st : List AV} {S : MS} {R : Option AV → MS → Prop} (h : wpI (fun t l s S2 => wpX d mX9_counted t l s S2 R) (wpM d) R 153 4 B_X9_counted_152 ls st S) : wpX d mX9_counted 152 ls st S R := x_step (by decide +kernel) h
def B_X9_counted_153 : List AIn := [(.iadd, 0, 0, 0), (.istore_n 2, 2, 0, 0), (.iinc 3 1, 1, 0, 0), (.goto (-31), 127, 0, 0)]
theorem s_X9_counted_153 {d : Nat} {ls st : List AV} {S : MS} {R : Option AV → MS → Prop} (h : wpI (fun t l s S2 => wpX d mX9_counted t l s S2 R) (wpM d) R 161 0 B_X9_counted_153 ls st S) : wpX d mX9_counted 153 ls st S R := x_step (by decide +kernel) h
def B_X9_counted_161 : List AIn := [(.iconst 0, 0, 0, 0), (.istore_n 3, 3, 0, 0)]
theorem s_X9_counted_161 {d : Nat} {ls st : List AV} {S : MS} {R : Option AV → MS → Prop} (h : wpI (fun t l s S2 => wpX d mX9_counted t l s S2 R) (wpM d) R 163 0 B_X9_counted_161 ls st S) : wpX d mX9_counted 161 ls st S R := x_step (by decide +kernel) h
def B_X9_counted_163 : List AIn := [(.iload_n 3, 3, 0, 0), (.iconst 3, 3, 0, 0), (.if_icmp .ge 32, 197, 8, 0), (.iload_n 2, 2, 0, 0), (.iload_n 1, 1, 0, 0), (.bipush 10, 10, 0, 0), (.if_icmp .ne 16, 188, 4, 0), (.aload_n 0, 0, 0, 0), (.getfield 54, 24, 8, 0), (.iload_n 3, 3, 0, 0), (.baload, 0, 0, 0), (.ifCond .eq 7, 188, 4, 0), (.iconst 1, 1, 0, 0), (.goto 4, 189, 4, 0)]
theorem s_X9_counted_163 {d : Nat} {ls st : List AV} {S : MS} {R : Option AV → MS → Prop} (h : wpI (fun t l s S2 => wpX d mX9_counted t l s S2 R) (wpM d) R 188 0 B_X9_counted_163 ls st S) : wpX d mX9_counted 163 ls st S R := x_step (by decide +kernel) h
def B_X9_counted_188 : List AIn := [(.iconst 0, 0, 0, 0)]
theorem s_X9_counted_188 {d : Nat} {ls st : List AV} {S : MS} {R : Option AV → MS → Prop} (h : wpI (fun t l s S2 => wpX d mX9_counted t l s S2 R) (wpM d) R 189 4 B_X9_counted_188 ls st S) : wpX d mX9_counted 188 ls st S R := x_step (by decide +kernel) h
def B_X9_counted_189 : List AIn := [(.iadd, 0, 0, 0), (.istore_n 2, 2, 0, 0), (.iinc 3 1, 1, 0, 0), (.goto (-31), 163, 0, 0)]
theorem s_X9_counted_189 {d : Nat} {ls st : List AV} {S : MS} {R : Option AV → MS → Prop} (h : wpI (fun t l s S2 => wpX d mX9_counted t l s S2 R) (wpM d) R 197 0 B_X9_counted_189 ls st S) : wpX d mX9_counted 189 ls st S R := x_step (by decide +kernel) h
def B_X9_counted_197 : List AIn := [(.iload_n 1, 1, 0, 0), (.tableswitch 78 0 5 #[38, 43, 50, 55, 62, 69], 198, 10, 0)]
theorem s_X9_counted_197 {d : Nat} {ls st : List AV} {S : MS} {R : Option AV → MS → Prop} (h : wpI (fun t l s S2 => wpX d mX9_counted t l s S2 R) (wpM d) R 236 0 B_X9_counted_197 ls st S) : wpX d mX9_counted 197 ls st S R := x_step (by decide +kernel) h
def B_X9_counted_236 : List AIn := [(.aload_n 0, 0, 0, 0), (.getfield 145, 10, 8, 0), (.ireturn, 0, 0, 0)]
theorem s_X9_counted_236 {d : Nat} {ls st : List AV} {S : MS} {R : Option AV → MS → Prop} (h : wpI (fun t l s S2 => wpX d mX9_counted t l s S2 R) (wpM d) R 241 0 B_X9_counted_236 ls st S) : wpX d mX9_counted 236 ls st S R := x_step (by decide +kernel) h
def B_X9_counted_241 : List AIn := [(.aload_n 0, 0, 0, 0), (.getfield 45, 20, 8, 0), (.iconst 0, 0, 0, 0), (.iaload, 0, 0, 0), (.ireturn, 0, 0, 0)]
theorem s_X9_counted_241 {d : Nat} {ls st : List AV} {S : MS} {R : Option AV → MS → Prop} (h : wpI (fun t l s S2 => wpX d mX9_counted t l s S2 R) (wpM d) R 248 0 B_X9_counted_241 ls st S) : wpX d mX9_counted 241 ls st S R := x_step (by decide +kernel) h
def B_X9_counted_248 : List AIn := [(.aload_n 0, 0, 0, 0), (.getfield 148, 22, 8, 0), (.ireturn, 0, 0, 0)]
theorem s_X9_counted_248 {d : Nat} {ls st : List AV} {S : MS} {R : Option AV → MS → Prop} (h : wpI (fun t l s S2 => wpX d mX9_counted t l s S2 R) (wpM d) R 253 0 B_X9_counted_248 ls st S) : wpX d mX9_counted 248 ls st S R := x_step (by decide +kernel) h
def B_X9_counted_253 : List AIn := [(.aload_n 0, 0, 0, 0), (.getfield 45, 20, 8, 0), (.iconst 1, 1, 0, 0), (.iaload, 0, 0, 0), (.ireturn, 0, 0, 0)]
theorem s_X9_counted_253 {d : Nat} {ls st : List AV} {S : MS} {R : Option AV → MS → Prop} (h : wpI (fun t l s S2 => wpX d mX9_counted t l s S2 R) (wpM d) R 260 0 B_X9_counted_253 ls st S) : wpX d mX9_counted 253 ls st S R := x_step (by decide +kernel) h
def B_X9_counted_260 : List AIn := [(.aload_n 0, 0, 0, 0), (.getfield 45, 20, 8, 0), (.iconst 2, 2, 0, 0), (.iaload, 0, 0, 0), (.ireturn, 0, 0, 0)]
theorem s_X9_counted_260 {d : Nat} {ls st : List AV} {S : MS} {R : Option AV → MS → Prop} (h : wpI (fun t l s S2 => wpX d mX9_counted t l s S2 R) (wpM d) R 267 0 B_X9_counted_260 ls st S) : wpX d mX9_counted 260 ls st S R := x_step (by decide +kernel) h
def B_X9_counted_267 : List AIn := [(.aload_n 0, 0, 0, 0), (.aload_n 0, 0, 0, 0), (.getfield 45, 20, 8, 0), (.invokevirtual 169, 169, 2, 8)]
theorem s_X9_counted_267 {d : Nat} {ls st : List AV} {S : MS} {R : Option AV → MS → Prop} (h : wpI (fun t l s S2 => wpX d mX9_counted t l s S2 R) (wpM d) R 275 15 B_X9_counted_267 ls st S) : wpX d mX9_counted 267 ls st S R := x_step (by decide +kernel) h
def B_X9_counted_275 : List AIn := [(.ireturn, 0, 0, 0)]
theorem s_X9_counted_275 {d : Nat} {ls st : List AV} {S : MS} {R : Option AV → MS → Prop} (h : wpI (fun t l s S2 => wpX d mX9_counted t l s S2 R) (wpM d) R 276 0 B_X9_counted_275 ls st S) : wpX d mX9_counted 275 ls st S R := x_step (by decide +kernel) h
def B_X9_counted_276 : List AIn := [(.iload_n 2, 2, 0, 0), (.ireturn, 0, 0, 0)]
theorem s_X9_counted_276 {d : Nat} {ls st : List AV} {S : MS} {R : Option AV → MS → Prop} (h : wpI (fun t l s S2 => wpX d mX9_counted t l s S2 R) (wpM d) R 278 0 B_X9_counted_276 ls st S) : wpX d mX9_counted 276 ls st S R := x_step (by decide +kernel) h
-- NinthDayModel.count(I)I
def B_X9_count_0 : List AIn := [(.iload_n 1, 1, 0, 0), (.iconst 0, 0, 0, 0), (.bipush 10, 10, 0, 0), (.invokestatic 83, 131, 3, 0)]
theorem s_X9_count_0 {d : Nat} {ls st : List AV} {S : MS} {R : Option AV → MS → Prop} (h : wpI (fun t l s S2 => wpX d mX9_count t l s S2 R) (wpM d) R 7 0 B_X9_count_0 ls st S) : wpX d mX9_count 0 ls st S R := x_step (by decide +kernel) h
def B_X9_count_7 : List AIn := [(.ifCond .eq 11, 18, 3, 0), (.aload_n 0, 0, 0, 0), (.iload_n 1, 1, 0, 0), (.invokevirtual 285, 218, 2, 8)]
theorem s_X9_count_7 {d : Nat} {ls st : List AV} {S : MS} {R : Option AV → MS → Prop} (h : wpI (fun t l s S2 => wpX d mX9_count t l s S2 R) (wpM d) R 15 3 B_X9_count_7 ls st S) : wpX d mX9_count 7 ls st S R := x_step (by decide +kernel) h
def B_X9_count_15 : List AIn := [(.goto 4, 19, 3, 0)]
theorem s_X9_count_15 {d : Nat} {ls st : List AV} {S : MS} {R : Option AV → MS → Prop} (h : wpI (fun t l s S2 => wpX d mX9_count t l s S2 R) (wpM d) R 18 0 B_X9_count_15 ls st S) : wpX d mX9_count 15 ls st S R := x_step (by decide +kernel) h
def B_X9_count_18 : List AIn := [(.iconst (-1), 1, 1, 0)]
theorem s_X9_count_18 {d : Nat} {ls st : List AV} {S : MS} {R : Option AV → MS → Prop} (h : wpI (fun t l s S2 => wpX d mX9_count t l s S2 R) (wpM d) R 19 3 B_X9_count_18 ls st S) : wpX d mX9_count 18 ls st S R := x_step (by decide +kernel) h
def B_X9_count_19 : List AIn := [(.ireturn, 0, 0, 0)]
theorem s_X9_count_19 {d : Nat} {ls st : List AV} {S : MS} {R : Option AV → MS → Prop} (h : wpI (fun t l s S2 => wpX d mX9_count t l s S2 R) (wpM d) R 20 0 B_X9_count_19 ls st S) : wpX d mX9_count 19 ls st S R := x_step (by decide +kernel) h
-- NinthDayModel.mix(J)V
def B_X9_mix_0 : List AIn := [(.aload_n 0, 0, 0, 0), (.ldc2_w 288, 31, 0, 0), (.aload_n 0, 0, 0, 0), (.getfield 290, 36, 8, 0), (.lmul, 0, 0, 0), (.lload_n 1, 1, 0, 0), (.ladd, 0, 0, 0), (.putfield 290, 36, 8, 0), (.return_, 0, 0, 0)]
theorem s_X9_mix_0 {d : Nat} {ls st : List AV} {S : MS} {R : Option AV → MS → Prop} (h : wpI (fun t l s S2 => wpX d mX9_mix t l s S2 R) (wpM d) R 15 0 B_X9_mix_0 ls st S) : wpX d mX9_mix 0 ls st S R := x_step (by decide +kernel) h
-- NinthDayModel.mixYear()V
def B_X9_mixYear_0 : List AIn := [(.iconst 0, 0, 0, 0), (.istore_n 1, 1, 0, 0)]
theorem s_X9_mixYear_0 {d : Nat} {ls st : List AV} {S : MS} {R : Option AV → MS → Prop} (h : wpI (fun t l s S2 => wpX d mX9_mixYear t l s S2 R) (wpM d) R 2 4 B_X9_mixYear_0 ls st S) : wpX d mX9_mixYear 0 ls st S R := x_step (by decide +kernel) h
def B_X9_mixYear_2 : List AIn := [(.iload_n 1, 1, 0, 0), (.aload_n 0, 0, 0, 0), (.getfield 145, 10, 8, 0), (.if_icmp .ge 34, 41, 6, 0), (.iconst 0, 0, 0, 0), (.istore_n 2, 2, 0, 0)]
theorem s_X9_mixYear_2 {d : Nat} {ls st : List AV} {S : MS} {R : Option AV → MS → Prop} (h : wpI (fun t l s S2 => wpX d mX9_mixYear t l s S2 R) (wpM d) R 12 0 B_X9_mixYear_2 ls st S) : wpX d mX9_mixYear 2 ls st S R := x_step (by decide +kernel) h
def B_X9_mixYear_12 : List AIn := [(.iload_n 2, 2, 0, 0), (.bipush 8, 8, 0, 0), (.if_icmp .ge 20, 35, 4, 0), (.aload_n 0, 0, 0, 0), (.aload_n 0, 0, 0, 0), (.iload_n 1, 1, 0, 0), (.iload_n 2, 2, 0, 0), (.invokevirtual 186, 174, 3, 8)]
theorem s_X9_mixYear_12 {d : Nat} {ls st : List AV} {S : MS} {R : Option AV → MS → Prop} (h : wpI (fun t l s S2 => wpX d mX9_mixYear t l s S2 R) (wpM d) R 25 0 B_X9_mixYear_12 ls st S) : wpX d mX9_mixYear 12 ls st S R := x_step (by decide +kernel) h
def B_X9_mixYear_25 : List AIn := [(.i2l, 0, 0, 0), (.invokevirtual 293, 220, 2, 8)]
theorem s_X9_mixYear_25 {d : Nat} {ls st : List AV} {S : MS} {R : Option AV → MS → Prop} (h : wpI (fun t l s S2 => wpX d mX9_mixYear t l s S2 R) (wpM d) R 29 0 B_X9_mixYear_25 ls st S) : wpX d mX9_mixYear 25 ls st S R := x_step (by decide +kernel) h
def B_X9_mixYear_29 : List AIn := [(.iinc 2 1, 1, 0, 0), (.goto (-20), 12, 0, 0)]
theorem s_X9_mixYear_29 {d : Nat} {ls st : List AV} {S : MS} {R : Option AV → MS → Prop} (h : wpI (fun t l s S2 => wpX d mX9_mixYear t l s S2 R) (wpM d) R 35 0 B_X9_mixYear_29 ls st S) : wpX d mX9_mixYear 29 ls st S R := x_step (by decide +kernel) h
def B_X9_mixYear_35 : List AIn := [(.iinc 1 1, 1, 0, 0), (.goto (-36), 2, 4, 0)]
theorem s_X9_mixYear_35 {d : Nat} {ls st : List AV} {S : MS} {R : Option AV → MS → Prop} (h : wpI (fun t l s S2 => wpX d mX9_mixYear t l s S2 R) (wpM d) R 41 0 B_X9_mixYear_35 ls st S) : wpX d mX9_mixYear 35 ls st S R := x_step (by decide +kernel) h
def B_X9_mixYear_41 : List AIn := [(.iconst 0, 0, 0, 0), (.istore_n 1, 1, 0, 0)]
theorem s_X9_mixYear_41 {d : Nat} {ls st : List AV} {S : MS} {R : Option AV → MS → Prop} (h : wpI (fun t l s S2 => wpX d mX9_mixYear t l s S2 R) (wpM d) R 43 4 B_X9_mixYear_41 ls st S) : wpX d mX9_mixYear 41 ls st S R := x_step (by decide +kernel) h
def B_X9_mixYear_43 : List AIn := [(.iload_n 1, 1, 0, 0), (.iconst 3, 3, 0, 0), (.if_icmp .ge 35, 80, 7, 0), (.aload_n 0, 0, 0, 0), (.aload_n 0, 0, 0, 0), (.getfield 54, 24, 8, 0), (.iload_n 1, 1, 0, 0), (.baload, 0, 0, 0), (.ifCond .eq 13, 68, 4, 0), (.aload_n 0, 0, 0, 0), (.getfield 58, 25, 8, 0), (.iload_n 1, 1, 0, 0), (.iaload, 0, 0, 0), (.i2l, 0, 0, 0), (.goto 6, 71, 4, 0)]
theorem s_X9_mixYear_43 {d : Nat} {ls st : List AV} {S : MS} {R : Option AV → MS → Prop} (h : wpI (fun t l s S2 => wpX d mX9_mixYear t l s S2 R) (wpM d) R 68 0 B_X9_mixYear_43 ls st S) : wpX d mX9_mixYear 43 ls st S R := x_step (by decide +kernel) h
def B_X9_mixYear_68 : List AIn := [(.ldc2_w 297, 1, 1, 0)]
theorem s_X9_mixYear_68 {d : Nat} {ls st : List AV} {S : MS} {R : Option AV → MS → Prop} (h : wpI (fun t l s S2 => wpX d mX9_mixYear t l s S2 R) (wpM d) R 71 4 B_X9_mixYear_68 ls st S) : wpX d mX9_mixYear 68 ls st S R := x_step (by decide +kernel) h
def B_X9_mixYear_71 : List AIn := [(.invokevirtual 293, 220, 2, 8)]
theorem s_X9_mixYear_71 {d : Nat} {ls st : List AV} {S : MS} {R : Option AV → MS → Prop} (h : wpI (fun t l s S2 => wpX d mX9_mixYear t l s S2 R) (wpM d) R 74 4 B_X9_mixYear_71 ls st S) : wpX d mX9_mixYear 71 ls st S R := x_step (by decide +kernel) h
def B_X9_mixYear_74 : List AIn := [(.iinc 1 1, 1, 0, 0), (.goto (-34), 43, 4, 0)]
theorem s_X9_mixYear_74 {d : Nat} {ls st : List AV} {S : MS} {R : Option AV → MS → Prop} (h : wpI (fun t l s S2 => wpX d mX9_mixYear t l s S2 R) (wpM d) R 80 0 B_X9_mixYear_74 ls st S) : wpX d mX9_mixYear 74 ls st S R := x_step (by decide +kernel) h
def B_X9_mixYear_80 : List AIn := [(.return_, 0, 0, 0)]
theorem s_X9_mixYear_80 {d : Nat} {ls st : List AV} {S : MS} {R : Option AV → MS → Prop} (h : wpI (fun t l s S2 => wpX d mX9_mixYear t l s S2 R) (wpM d) R 81 0 B_X9_mixYear_80 ls st S) : wpX d mX9_mixYear 80 ls st S R := x_step (by decide +kernel) h
-- NinthDayModel.digest()J
def B_X9_digest_0 : List AIn := [(.aload_n 0, 0, 0, 0), (.ldc2_w 299, 17, 0, 0), (.putfield 290, 36, 8, 0), (.iconst 0, 0, 0, 0), (.istore_n 1, 1, 0, 0)]
theorem s_X9_digest_0 {d : Nat} {ls st : List AV} {S : MS} {R : Option AV → MS → Prop} (h : wpI (fun t l s S2 => wpX d mX9_digest t l s S2 R) (wpM d) R 9 4 B_X9_digest_0 ls st S) : wpX d mX9_digest 0 ls st S R := x_step (by decide +kernel) h
def B_X9_digest_9 : List AIn := [(.iload_n 1, 1, 0, 0), (.bipush 11, 11, 0, 0), (.if_icmp .ge 19, 31, 6, 0), (.aload_n 0, 0, 0, 0), (.aload_n 0, 0, 0, 0), (.iload_n 1, 1, 0, 0), (.invokevirtual 285, 218, 2, 8)]
theorem s_X9_digest_9 {d : Nat} {ls st : List AV} {S : MS} {R : Option AV → MS → Prop} (h : wpI (fun t l s S2 => wpX d mX9_digest t l s S2 R) (wpM d) R 21 4 B_X9_digest_9 ls st S) : wpX d mX9_digest 9 ls st S R := x_step (by decide +kernel) h
def B_X9_digest_21 : List AIn := [(.i2l, 0, 0, 0), (.invokevirtual 293, 220, 2, 8)]
theorem s_X9_digest_21 {d : Nat} {ls st : List AV} {S : MS} {R : Option AV → MS → Prop} (h : wpI (fun t l s S2 => wpX d mX9_digest t l s S2 R) (wpM d) R 25 4 B_X9_digest_21 ls st S) : wpX d mX9_digest 21 ls st S R := x_step (by decide +kernel) h
def B_X9_digest_25 : List AIn := [(.iinc 1 1, 1, 0, 0), (.goto (-19), 9, 4, 0)]
theorem s_X9_digest_25 {d : Nat} {ls st : List AV} {S : MS} {R : Option AV → MS → Prop} (h : wpI (fun t l s S2 => wpX d mX9_digest t l s S2 R) (wpM d) R 31 0 B_X9_digest_25 ls st S) : wpX d mX9_digest 25 ls st S R := x_step (by decide +kernel) h
def B_X9_digest_31 : List AIn := [(.aload_n 0, 0, 0, 0), (.invokevirtual 301, 221, 1, 8)]
theorem s_X9_digest_31 {d : Nat} {ls st : List AV} {S : MS} {R : Option AV → MS → Prop} (h : wpI (fun t l s S2 => wpX d mX9_digest t l s S2 R) (wpM d) R 35 6 B_X9_digest_31 ls st S) : wpX d mX9_digest 31 ls st S R := x_step (by decide +kernel) h
def B_X9_digest_35 : List AIn := [(.iconst 0, 0, 0, 0), (.istore_n 1, 1, 0, 0)]
theorem s_X9_digest_35 {d : Nat} {ls st : List AV} {S : MS} {R : Option AV → MS → Prop} (h : wpI (fun t l s S2 => wpX d mX9_digest t l s S2 R) (wpM d) R 37 4 B_X9_digest_35 ls st S) : wpX d mX9_digest 35 ls st S R := x_step (by decide +kernel) h
def B_X9_digest_37 : List AIn := [(.iload_n 1, 1, 0, 0), (.bipush 6, 6, 0, 0), (.if_icmp .ge 49, 89, 6, 0), (.aload_n 0, 0, 0, 0), (.aload_n 0, 0, 0, 0), (.getfield 17, 5, 8, 0), (.iload_n 1, 1, 0, 0), (.iaload, 0, 0, 0), (.i2l, 0, 0, 0), (.invokevirtual 293, 220, 2, 8)]
theorem s_X9_digest_37 {d : Nat} {ls st : List AV} {S : MS} {R : Option AV → MS → Prop} (h : wpI (fun t l s S2 => wpX d mX9_digest t l s S2 R) (wpM d) R 54 4 B_X9_digest_37 ls st S) : wpX d mX9_digest 37 ls st S R := x_step (by decide +kernel) h
def B_X9_digest_54 : List AIn := [(.iconst 0, 0, 0, 0), (.istore_n 2, 2, 0, 0)]
theorem s_X9_digest_54 {d : Nat} {ls st : List AV} {S : MS} {R : Option AV → MS → Prop} (h : wpI (fun t l s S2 => wpX d mX9_digest t l s S2 R) (wpM d) R 56 0 B_X9_digest_54 ls st S) : wpX d mX9_digest 54 ls st S R := x_step (by decide +kernel) h
def B_X9_digest_56 : List AIn := [(.iload_n 2, 2, 0, 0), (.aload_n 0, 0, 0, 0), (.getfield 17, 5, 8, 0), (.iload_n 1, 1, 0, 0), (.iaload, 0, 0, 0), (.if_icmp .ge 20, 83, 4, 0), (.aload_n 0, 0, 0, 0), (.aload_n 0, 0, 0, 0), (.iload_n 1, 1, 0, 0), (.iload_n 2, 2, 0, 0), (.invokevirtual 101, 143, 3, 8)]
theorem s_X9_digest_56 {d : Nat} {ls st : List AV} {S : MS} {R : Option AV → MS → Prop} (h : wpI (fun t l s S2 => wpX d mX9_digest t l s S2 R) (wpM d) R 73 0 B_X9_digest_56 ls st S) : wpX d mX9_digest 56 ls st S R := x_step (by decide +kernel) h
def B_X9_digest_73 : List AIn := [(.i2l, 0, 0, 0), (.invokevirtual 293, 220, 2, 8)]
theorem s_X9_digest_73 {d : Nat} {ls st : List AV} {S : MS} {R : Option AV → MS → Prop} (h : wpI (fun t l s S2 => wpX d mX9_digest t l s S2 R) (wpM d) R 77 0 B_X9_digest_73 ls st S) : wpX d mX9_digest 73 ls st S R := x_step (by decide +kernel) h
def B_X9_digest_77 : List AIn := [(.iinc 2 1, 1, 0, 0), (.goto (-24), 56, 0, 0)]
theorem s_X9_digest_77 {d : Nat} {ls st : List AV} {S : MS} {R : Option AV → MS → Prop} (h : wpI (fun t l s S2 => wpX d mX9_digest t l s S2 R) (wpM d) R 83 0 B_X9_digest_77 ls st S) : wpX d mX9_digest 77 ls st S R := x_step (by decide +kernel) h
def B_X9_digest_83 : List AIn := [(.iinc 1 1, 1, 0, 0), (.goto (-49), 37, 4, 0)]
theorem s_X9_digest_83 {d : Nat} {ls st : List AV} {S : MS} {R : Option AV → MS → Prop} (h : wpI (fun t l s S2 => wpX d mX9_digest t l s S2 R) (wpM d) R 89 0 B_X9_digest_83 ls st S) : wpX d mX9_digest 83 ls st S R := x_step (by decide +kernel) h
def B_X9_digest_89 : List AIn := [(.iconst 0, 0, 0, 0), (.istore_n 1, 1, 0, 0)]
theorem s_X9_digest_89 {d : Nat} {ls st : List AV} {S : MS} {R : Option AV → MS → Prop} (h : wpI (fun t l s S2 => wpX d mX9_digest t l s S2 R) (wpM d) R 91 4 B_X9_digest_89 ls st S) : wpX d mX9_digest 89 ls st S R := x_step (by decide +kernel) h
def B_X9_digest_91 : List AIn := [(.iload_n 1, 1, 0, 0), (.iconst 4, 4, 0, 0), (.if_icmp .ge 49, 142, 6, 0), (.aload_n 0, 0, 0, 0), (.aload_n 0, 0, 0, 0), (.getfield 26, 8, 8, 0), (.iload_n 1, 1, 0, 0), (.iaload, 0, 0, 0), (.i2l, 0, 0, 0), (.invokevirtual 293, 220, 2, 8)]
theorem s_X9_digest_91 {d : Nat} {ls st : List AV} {S : MS} {R : Option AV → MS → Prop} (h : wpI (fun t l s S2 => wpX d mX9_digest t l s S2 R) (wpM d) R 107 4 B_X9_digest_91 ls st S) : wpX d mX9_digest 91 ls st S R := x_step (by decide +kernel) h
def B_X9_digest_107 : List AIn := [(.iconst 0, 0, 0, 0), (.istore_n 2, 2, 0, 0)]
theorem s_X9_digest_107 {d : Nat} {ls st : List AV} {S : MS} {R : Option AV → MS → Prop} (h : wpI (fun t l s S2 => wpX d mX9_digest t l s S2 R) (wpM d) R 109 0 B_X9_digest_107 ls st S) : wpX d mX9_digest 107 ls st S R := x_step (by decide +kernel) h
def B_X9_digest_109 : List AIn := [(.iload_n 2, 2, 0, 0), (.aload_n 0, 0, 0, 0), (.getfield 26, 8, 8, 0), (.iload_n 1, 1, 0, 0), (.iaload, 0, 0, 0), (.if_icmp .ge 20, 136, 4, 0), (.aload_n 0, 0, 0, 0), (.aload_n 0, 0, 0, 0), (.iload_n 1, 1, 0, 0), (.iload_n 2, 2, 0, 0), (.invokevirtual 114, 153, 3, 8)]
theorem s_X9_digest_109 {d : Nat} {ls st : List AV} {S : MS} {R : Option AV → MS → Prop} (h : wpI (fun t l s S2 => wpX d mX9_digest t l s S2 R) (wpM d) R 126 0 B_X9_digest_109 ls st S) : wpX d mX9_digest 109 ls st S R := x_step (by decide +kernel) h
def B_X9_digest_126 : List AIn := [(.i2l, 0, 0, 0), (.invokevirtual 293, 220, 2, 8)]
theorem s_X9_digest_126 {d : Nat} {ls st : List AV} {S : MS} {R : Option AV → MS → Prop} (h : wpI (fun t l s S2 => wpX d mX9_digest t l s S2 R) (wpM d) R 130 0 B_X9_digest_126 ls st S) : wpX d mX9_digest 126 ls st S R := x_step (by decide +kernel) h
def B_X9_digest_130 : List AIn := [(.iinc 2 1, 1, 0, 0), (.goto (-24), 109, 0, 0)]
theorem s_X9_digest_130 {d : Nat} {ls st : List AV} {S : MS} {R : Option AV → MS → Prop} (h : wpI (fun t l s S2 => wpX d mX9_digest t l s S2 R) (wpM d) R 136 0 B_X9_digest_130 ls st S) : wpX d mX9_digest 130 ls st S R := x_step (by decide +kernel) h
def B_X9_digest_136 : List AIn := [(.iinc 1 1, 1, 0, 0), (.goto (-48), 91, 4, 0)]
theorem s_X9_digest_136 {d : Nat} {ls st : List AV} {S : MS} {R : Option AV → MS → Prop} (h : wpI (fun t l s S2 => wpX d mX9_digest t l s S2 R) (wpM d) R 142 0 B_X9_digest_136 ls st S) : wpX d mX9_digest 136 ls st S R := x_step (by decide +kernel) h
def B_X9_digest_142 : List AIn := [(.aload_n 0, 0, 0, 0), (.getfield 290, 36, 8, 0), (.lreturn, 0, 0, 0)]
theorem s_X9_digest_142 {d : Nat} {ls st : List AV} {S : MS} {R : Option AV → MS → Prop} (h : wpI (fun t l s S2 => wpX d mX9_digest t l s S2 R) (wpM d) R 147 0 B_X9_digest_142 ls st S) : wpX d mX9_digest 142 ls st S R := x_step (by decide +kernel) h
