-- PART 02 (by gen_tables.py): the roles of the cells, the methods, the links
def cntT : List Nat := [1, 1, 1, 1, 1, 1, 5, 1, 1, 0, 1, 1, 1, 1, 1, 1, 1, 1, 1, 0, 5, 5, 5, 5, 5, 5, 5, 1, 0, 0, 1, 1, 1, 1, 1, 1, 1, 1, 1, 1, 1, 1, 1, 1, 1, 1, 1, 1, 1, 1, 1, 0, 0, 0, 0, 0, 0, 0, 0, 0, 1, 1]
def cnt (k : Nat) : Nat := cntT.getD k 0
def aTyT : List Nat := [9, 9, 9, 9, 9, 9, 9, 9, 9, 9, 0, 0, 0, 0, 0, 0, 0, 0, 1, 9, 0, 0, 0, 0, 0, 0, 0, 0, 9, 9, 0, 0, 0, 0, 0, 1, 0, 0, 0, 0, 0, 0, 0, 2, 0, 0, 0, 0, 0, 0, 0, 9, 9, 9, 9, 9, 9, 9, 9, 9, 0, 0]
def aTy (k : Nat) : Nat := aTyT.getD k 9
def aLnT : List Nat := [0, 0, 0, 0, 0, 0, 0, 0, 0, 0, 40, 120, 3, 3, 3, 6, 240, 4, 240, 0, 5, 5, 5, 5, 5, 5, 32, 6, 0, 0, 6, 6, 240, 40, 4, 240, 5, 5, 5, 20, 19, 19, 760, 3, 3, 57, 2280, 3, 5, 243, 243, 0, 0, 0, 0, 0, 0, 0, 0, 0, 6, 6]
def aLn (k : Nat) : Nat := aLnT.getD k 0
theorem cnt_0 : cnt 0 = 1 := rfl
theorem cnt_1 : cnt 1 = 1 := rfl
theorem cnt_2 : cnt 2 = 1 := rfl
theorem cnt_3 : cnt 3 = 1 := rfl
theorem cnt_4 : cnt 4 = 1 := rfl
theorem cnt_5 : cnt 5 = 1 := rfl
theorem cnt_6 : cnt 6 = 5 := rfl
theorem cnt_7 : cnt 7 = 1 := rfl
theorem cnt_8 : cnt 8 = 1 := rfl
theorem cnt_10 : cnt 10 = 1 := rfl
theorem cnt_11 : cnt 11 = 1 := rfl
theorem cnt_12 : cnt 12 = 1 := rfl
theorem cnt_13 : cnt 13 = 1 := rfl
theorem cnt_14 : cnt 14 = 1 := rfl
theorem cnt_15 : cnt 15 = 1 := rfl
theorem cnt_16 : cnt 16 = 1 := rfl
theorem cnt_17 : cnt 17 = 1 := rfl
theorem cnt_18 : cnt 18 = 1 := rfl
theorem cnt_20 : cnt 20 = 5 := rfl
theorem cnt_21 : cnt 21 = 5 := rfl
theorem cnt_22 : cnt 22 = 5 := rfl
theorem cnt_23 : cnt 23 = 5 := rfl
theorem cnt_24 : cnt 24 = 5 := rfl
theorem cnt_25 : cnt 25 = 5 := rfl
theorem cnt_26 : cnt 26 = 5 := rfl
theorem cnt_27 : cnt 27 = 1 := rfl
theorem cnt_30 : cnt 30 = 1 := rfl
theorem cnt_31 : cnt 31 = 1 := rfl
theorem cnt_32 : cnt 32 = 1 := rfl
theorem cnt_33 : cnt 33 = 1 := rfl
theorem cnt_34 : cnt 34 = 1 := rfl
theorem cnt_35 : cnt 35 = 1 := rfl
theorem cnt_36 : cnt 36 = 1 := rfl
theorem cnt_37 : cnt 37 = 1 := rfl
theorem cnt_38 : cnt 38 = 1 := rfl
theorem cnt_39 : cnt 39 = 1 := rfl
theorem cnt_40 : cnt 40 = 1 := rfl
theorem cnt_41 : cnt 41 = 1 := rfl
theorem cnt_42 : cnt 42 = 1 := rfl
theorem cnt_43 : cnt 43 = 1 := rfl
theorem cnt_44 : cnt 44 = 1 := rfl
theorem cnt_45 : cnt 45 = 1 := rfl
theorem cnt_46 : cnt 46 = 1 := rfl
theorem cnt_47 : cnt 47 = 1 := rfl
theorem cnt_48 : cnt 48 = 1 := rfl
theorem cnt_49 : cnt 49 = 1 := rfl
theorem cnt_50 : cnt 50 = 1 := rfl
theorem cnt_60 : cnt 60 = 1 := rfl
theorem cnt_61 : cnt 61 = 1 := rfl
theorem aTy_10 : aTy 10 = 0 := rfl
theorem aLn_10 : aLn 10 = 40 := rfl
theorem aTy_11 : aTy 11 = 0 := rfl
theorem aLn_11 : aLn 11 = 120 := rfl
theorem aTy_12 : aTy 12 = 0 := rfl
theorem aLn_12 : aLn 12 = 3 := rfl
theorem aTy_13 : aTy 13 = 0 := rfl
theorem aLn_13 : aLn 13 = 3 := rfl
theorem aTy_14 : aTy 14 = 0 := rfl
theorem aLn_14 : aLn 14 = 3 := rfl
theorem aTy_15 : aTy 15 = 0 := rfl
theorem aLn_15 : aLn 15 = 6 := rfl
theorem aTy_16 : aTy 16 = 0 := rfl
theorem aLn_16 : aLn 16 = 240 := rfl
theorem aTy_17 : aTy 17 = 0 := rfl
theorem aLn_17 : aLn 17 = 4 := rfl
theorem aTy_18 : aTy 18 = 1 := rfl
theorem aLn_18 : aLn 18 = 240 := rfl
theorem aTy_20 : aTy 20 = 0 := rfl
theorem aLn_20 : aLn 20 = 5 := rfl
theorem aTy_21 : aTy 21 = 0 := rfl
theorem aLn_21 : aLn 21 = 5 := rfl
theorem aTy_22 : aTy 22 = 0 := rfl
theorem aLn_22 : aLn 22 = 5 := rfl
theorem aTy_23 : aTy 23 = 0 := rfl
theorem aLn_23 : aLn 23 = 5 := rfl
theorem aTy_24 : aTy 24 = 0 := rfl
theorem aLn_24 : aLn 24 = 5 := rfl
theorem aTy_25 : aTy 25 = 0 := rfl
theorem aLn_25 : aLn 25 = 5 := rfl
theorem aTy_26 : aTy 26 = 0 := rfl
theorem aLn_26 : aLn 26 = 32 := rfl
theorem aTy_27 : aTy 27 = 0 := rfl
theorem aLn_27 : aLn 27 = 6 := rfl
theorem aTy_30 : aTy 30 = 0 := rfl
theorem aLn_30 : aLn 30 = 6 := rfl
theorem aTy_31 : aTy 31 = 0 := rfl
theorem aLn_31 : aLn 31 = 6 := rfl
theorem aTy_32 : aTy 32 = 0 := rfl
theorem aLn_32 : aLn 32 = 240 := rfl
theorem aTy_33 : aTy 33 = 0 := rfl
theorem aLn_33 : aLn 33 = 40 := rfl
theorem aTy_34 : aTy 34 = 0 := rfl
theorem aLn_34 : aLn 34 = 4 := rfl
theorem aTy_35 : aTy 35 = 1 := rfl
theorem aLn_35 : aLn 35 = 240 := rfl
theorem aTy_36 : aTy 36 = 0 := rfl
theorem aLn_36 : aLn 36 = 5 := rfl
theorem aTy_37 : aTy 37 = 0 := rfl
theorem aLn_37 : aLn 37 = 5 := rfl
theorem aTy_38 : aTy 38 = 0 := rfl
theorem aLn_38 : aLn 38 = 5 := rfl
theorem aTy_39 : aTy 39 = 0 := rfl
theorem aLn_39 : aLn 39 = 20 := rfl
theorem aTy_40 : aTy 40 = 0 := rfl
theorem aLn_40 : aLn 40 = 19 := rfl
theorem aTy_41 : aTy 41 = 0 := rfl
theorem aLn_41 : aLn 41 = 19 := rfl
theorem aTy_42 : aTy 42 = 0 := rfl
theorem aLn_42 : aLn 42 = 760 := rfl
theorem aTy_43 : aTy 43 = 2 := rfl
theorem aLn_43 : aLn 43 = 3 := rfl
theorem aTy_44 : aTy 44 = 0 := rfl
theorem aLn_44 : aLn 44 = 3 := rfl
theorem aTy_45 : aTy 45 = 0 := rfl
theorem aLn_45 : aLn 45 = 57 := rfl
theorem aTy_46 : aTy 46 = 0 := rfl
theorem aLn_46 : aLn 46 = 2280 := rfl
theorem aTy_47 : aTy 47 = 0 := rfl
theorem aLn_47 : aLn 47 = 3 := rfl
theorem aTy_48 : aTy 48 = 0 := rfl
theorem aLn_48 : aLn 48 = 5 := rfl
theorem aTy_49 : aTy 49 = 0 := rfl
theorem aLn_49 : aLn 49 = 243 := rfl
theorem aTy_50 : aTy 50 = 0 := rfl
theorem aLn_50 : aLn 50 = 243 := rfl
theorem aTy_60 : aTy 60 = 0 := rfl
theorem aLn_60 : aLn 60 = 6 := rfl
theorem aTy_61 : aTy 61 = 0 := rfl
theorem aLn_61 : aLn 61 = 6 := rfl
def fdT : List (List (Nat ⊕ (Nat × Nat))) := [[.inr (10, 0), .inr (11, 0), .inr (12, 0), .inl 0], [.inr (6, 3), .inr (6, 4), .inr (13, 0), .inr (14, 0), .inl 0], [.inr (5, 0), .inl 0, .inl 0, .inl 0, .inl 0], [.inr (15, 0), .inr (16, 0)], [.inl 1, .inl 1], [.inr (17, 0), .inr (18, 0)], [.inr (20, 0), .inr (21, 0), .inr (22, 0), .inr (23, 0), .inr (24, 0), .inr (25, 0), .inr (26, 0), .inl 0, .inl 0, .inl 0, .inl 0, .inl 0], [.inr (3, 0), .inr (5, 0), .inr (6, 0), .inr (6, 1), .inr (6, 2), .inr (2, 0), .inr (0, 0), .inr (1, 0), .inr (4, 0), .inr (27, 0), .inl 0, .inl 0], [.inl 0, .inr (30, 0), .inl 0, .inl 1, .inl 1, .inr (31, 0), .inr (32, 0), .inr (33, 0), .inr (34, 0), .inr (35, 0), .inl 0, .inr (36, 0), .inr (37, 0), .inr (38, 0), .inl 0, .inl 0, .inl 0, .inl 0, .inl 2, .inr (39, 0), .inr (40, 0), .inr (41, 0), .inl 0, .inr (42, 0), .inr (43, 0), .inr (44, 0), .inr (45, 0), .inr (46, 0), .inr (47, 0), .inl 0, .inl 0, .inl 0, .inl 0, .inr (48, 0), .inr (49, 0), .inr (50, 0), .inl 1]]
def fdK (c k : Nat) : Option (Nat ⊕ (Nat × Nat)) := (fdT.getD c [])[k]?
theorem fdK_0_0 : fdK 0 0 = some (.inr (10, 0)) := rfl
theorem fdK_0_1 : fdK 0 1 = some (.inr (11, 0)) := rfl
theorem fdK_0_2 : fdK 0 2 = some (.inr (12, 0)) := rfl
theorem fdK_0_3 : fdK 0 3 = some (.inl 0) := rfl
theorem fdK_1_0 : fdK 1 0 = some (.inr (6, 3)) := rfl
theorem fdK_1_1 : fdK 1 1 = some (.inr (6, 4)) := rfl
theorem fdK_1_2 : fdK 1 2 = some (.inr (13, 0)) := rfl
theorem fdK_1_3 : fdK 1 3 = some (.inr (14, 0)) := rfl
theorem fdK_1_4 : fdK 1 4 = some (.inl 0) := rfl
theorem fdK_2_0 : fdK 2 0 = some (.inr (5, 0)) := rfl
theorem fdK_2_1 : fdK 2 1 = some (.inl 0) := rfl
theorem fdK_2_2 : fdK 2 2 = some (.inl 0) := rfl
theorem fdK_2_3 : fdK 2 3 = some (.inl 0) := rfl
theorem fdK_2_4 : fdK 2 4 = some (.inl 0) := rfl
theorem fdK_3_0 : fdK 3 0 = some (.inr (15, 0)) := rfl
theorem fdK_3_1 : fdK 3 1 = some (.inr (16, 0)) := rfl
theorem fdK_4_0 : fdK 4 0 = some (.inl 1) := rfl
theorem fdK_4_1 : fdK 4 1 = some (.inl 1) := rfl
theorem fdK_5_0 : fdK 5 0 = some (.inr (17, 0)) := rfl
theorem fdK_5_1 : fdK 5 1 = some (.inr (18, 0)) := rfl
theorem fdK_6_0 : fdK 6 0 = some (.inr (20, 0)) := rfl
theorem fdK_6_1 : fdK 6 1 = some (.inr (21, 0)) := rfl
theorem fdK_6_2 : fdK 6 2 = some (.inr (22, 0)) := rfl
theorem fdK_6_3 : fdK 6 3 = some (.inr (23, 0)) := rfl
theorem fdK_6_4 : fdK 6 4 = some (.inr (24, 0)) := rfl
theorem fdK_6_5 : fdK 6 5 = some (.inr (25, 0)) := rfl
theorem fdK_6_6 : fdK 6 6 = some (.inr (26, 0)) := rfl
theorem fdK_6_7 : fdK 6 7 = some (.inl 0) := rfl
theorem fdK_6_8 : fdK 6 8 = some (.inl 0) := rfl
theorem fdK_6_9 : fdK 6 9 = some (.inl 0) := rfl
theorem fdK_6_10 : fdK 6 10 = some (.inl 0) := rfl
theorem fdK_6_11 : fdK 6 11 = some (.inl 0) := rfl
theorem fdK_7_0 : fdK 7 0 = some (.inr (3, 0)) := rfl
theorem fdK_7_1 : fdK 7 1 = some (.inr (5, 0)) := rfl
theorem fdK_7_2 : fdK 7 2 = some (.inr (6, 0)) := rfl
theorem fdK_7_3 : fdK 7 3 = some (.inr (6, 1)) := rfl
theorem fdK_7_4 : fdK 7 4 = some (.inr (6, 2)) := rfl
theorem fdK_7_5 : fdK 7 5 = some (.inr (2, 0)) := rfl
theorem fdK_7_6 : fdK 7 6 = some (.inr (0, 0)) := rfl
theorem fdK_7_7 : fdK 7 7 = some (.inr (1, 0)) := rfl
theorem fdK_7_8 : fdK 7 8 = some (.inr (4, 0)) := rfl
theorem fdK_7_9 : fdK 7 9 = some (.inr (27, 0)) := rfl
theorem fdK_7_10 : fdK 7 10 = some (.inl 0) := rfl
theorem fdK_7_11 : fdK 7 11 = some (.inl 0) := rfl
theorem fdK_8_0 : fdK 8 0 = some (.inl 0) := rfl
theorem fdK_8_1 : fdK 8 1 = some (.inr (30, 0)) := rfl
theorem fdK_8_2 : fdK 8 2 = some (.inl 0) := rfl
theorem fdK_8_3 : fdK 8 3 = some (.inl 1) := rfl
theorem fdK_8_4 : fdK 8 4 = some (.inl 1) := rfl
theorem fdK_8_5 : fdK 8 5 = some (.inr (31, 0)) := rfl
theorem fdK_8_6 : fdK 8 6 = some (.inr (32, 0)) := rfl
theorem fdK_8_7 : fdK 8 7 = some (.inr (33, 0)) := rfl
theorem fdK_8_8 : fdK 8 8 = some (.inr (34, 0)) := rfl
theorem fdK_8_9 : fdK 8 9 = some (.inr (35, 0)) := rfl
theorem fdK_8_10 : fdK 8 10 = some (.inl 0) := rfl
theorem fdK_8_11 : fdK 8 11 = some (.inr (36, 0)) := rfl
theorem fdK_8_12 : fdK 8 12 = some (.inr (37, 0)) := rfl
theorem fdK_8_13 : fdK 8 13 = some (.inr (38, 0)) := rfl
theorem fdK_8_14 : fdK 8 14 = some (.inl 0) := rfl
theorem fdK_8_15 : fdK 8 15 = some (.inl 0) := rfl
theorem fdK_8_16 : fdK 8 16 = some (.inl 0) := rfl
theorem fdK_8_17 : fdK 8 17 = some (.inl 0) := rfl
theorem fdK_8_18 : fdK 8 18 = some (.inl 2) := rfl
theorem fdK_8_19 : fdK 8 19 = some (.inr (39, 0)) := rfl
theorem fdK_8_20 : fdK 8 20 = some (.inr (40, 0)) := rfl
theorem fdK_8_21 : fdK 8 21 = some (.inr (41, 0)) := rfl
theorem fdK_8_22 : fdK 8 22 = some (.inl 0) := rfl
theorem fdK_8_23 : fdK 8 23 = some (.inr (42, 0)) := rfl
theorem fdK_8_24 : fdK 8 24 = some (.inr (43, 0)) := rfl
theorem fdK_8_25 : fdK 8 25 = some (.inr (44, 0)) := rfl
theorem fdK_8_26 : fdK 8 26 = some (.inr (45, 0)) := rfl
theorem fdK_8_27 : fdK 8 27 = some (.inr (46, 0)) := rfl
theorem fdK_8_28 : fdK 8 28 = some (.inr (47, 0)) := rfl
theorem fdK_8_29 : fdK 8 29 = some (.inl 0) := rfl
theorem fdK_8_30 : fdK 8 30 = some (.inl 0) := rfl
theorem fdK_8_31 : fdK 8 31 = some (.inl 0) := rfl
theorem fdK_8_32 : fdK 8 32 = some (.inl 0) := rfl
theorem fdK_8_33 : fdK 8 33 = some (.inr (48, 0)) := rfl
theorem fdK_8_34 : fdK 8 34 = some (.inr (49, 0)) := rfl
theorem fdK_8_35 : fdK 8 35 = some (.inr (50, 0)) := rfl
theorem fdK_8_36 : fdK 8 36 = some (.inl 1) := rfl
def Rs : List (Nat × Nat) := [(0, 0), (1, 0), (2, 0), (3, 0), (4, 0), (5, 0), (6, 0), (6, 1), (6, 2), (6, 3), (6, 4), (7, 0), (8, 0), (10, 0), (11, 0), (12, 0), (13, 0), (14, 0), (15, 0), (16, 0), (17, 0), (18, 0), (20, 0), (20, 1), (20, 2), (20, 3), (20, 4), (21, 0), (21, 1), (21, 2), (21, 3), (21, 4), (22, 0), (22, 1), (22, 2), (22, 3), (22, 4), (23, 0), (23, 1), (23, 2), (23, 3), (23, 4), (24, 0), (24, 1), (24, 2), (24, 3), (24, 4), (25, 0), (25, 1), (25, 2), (25, 3), (25, 4), (26, 0), (26, 1), (26, 2), (26, 3), (26, 4), (27, 0), (30, 0), (31, 0), (32, 0), (33, 0), (34, 0), (35, 0), (36, 0), (37, 0), (38, 0), (39, 0), (40, 0), (41, 0), (42, 0), (43, 0), (44, 0), (45, 0), (46, 0), (47, 0), (48, 0), (49, 0), (50, 0)]
def stT (k j : Nat) : Int32 := if k = 60 then ([100, 114, 115, 109, 104, 102] : List Int32).getD j 0 else ([0, 0, 0, 0, 1, 3] : List Int32).getD j 0
def RNT : List String := [RX0, RX1, RX2, RX3, RX4, RX5, RX6, RX7, RX8, RX9, RJ6, RJ9, RJ10, RJ7, RL]
def RN (c : Nat) : String := RNT.getD c ""
-- own classes: 0 NinthDay$Acts, 1 NinthDay$Kinds, 2 NinthDay$Planner, 3 NinthDay$Reader, 4 NinthDay$Rows, 5 NinthDay$Share, 6 NinthDay$Texts, 7 NinthDay$Year, 8 NinthDay, 9 NinthDayModel, 10 java/lang/Integer, 11 java/lang/Math, 12 java/lang/System, 13 java/util/Arrays, 14 NinthDayLaw
def mT0 : List (MethodName × ByteArray × Nat × Option FieldType × Nat) := [(yX0_pack, cX0_pack, 3, (some .int), 0), (yX0_whatOf, cX0_whatOf, 1, (some .int), 0), (yX0_firstOf, cX0_firstOf, 1, (some .int), 0), (yX0_secondOf, cX0_secondOf, 1, (some .int), 0), (yX0_haveRoom, cX0_haveRoom, 2, (some .boolean), 0), (yX0_add, cX0_add, 2, (none : Option Jvm.ClassFile.FieldType), 0), (yX0_forget, cX0_forget, 1, (none : Option Jvm.ClassFile.FieldType), 0), (yX0_storedSize, cX0_storedSize, 2, (some .int), 0), (yX0_howManyStored, cX0_howManyStored, 3, (some .int), 0), (yX0_store, cX0_store, 2, (none : Option Jvm.ClassFile.FieldType), 0), (yX0_restore, cX0_restore, 2, (none : Option Jvm.ClassFile.FieldType), 0), (yX1_byLetter, cX1_byLetter, 2, (some .int), 1), (yX1_isOf, cX1_isOf, 2, (some .boolean), 1), (yX1_price, cX1_price, 8, (some .int), 1), (yX1_grown, cX1_grown, 2, (some .int), 1), (yX1_shrunk, cX1_shrunk, 2, (some .int), 1), (yX2_best, cX2_best, 3, (some .int), 2), (yX2_seek, cX2_seek, 9, (none : Option Jvm.ClassFile.FieldType), 2), (yX2_behind, cX2_behind, 6, (some (.object "NinthDay$Year")), 2), (yX2_note, cX2_note, 4, (none : Option Jvm.ClassFile.FieldType), 2), (yX3_readYear, cX3_readYear, 4, (some .int), 3), (yX3_passBlanks, cX3_passBlanks, 1, (none : Option Jvm.ClassFile.FieldType), 3), (yX3_readHead, cX3_readHead, 3, (none : Option Jvm.ClassFile.FieldType), 3), (yX3_readDeed, cX3_readDeed, 6, (none : Option Jvm.ClassFile.FieldType), 3), (yX3_readFigure, cX3_readFigure, 2, (some .int), 3), (yX4_isThere, cX4_isThere, 2, (some .boolean), 4), (yX4_length, cX4_length, 2, (some .int), 4), (yX4_hasPart, cX4_hasPart, 4, (some .boolean), 4), (yX4_make, cX4_make, 3, (none : Option Jvm.ClassFile.FieldType), 4), (yX4_remove, cX4_remove, 2, (none : Option Jvm.ClassFile.FieldType), 4), (yX4_read, cX4_read, 3, (some .int), 4), (yX4_write, cX4_write, 4, (none : Option Jvm.ClassFile.FieldType), 4), (yX4_move, cX4_move, 6, (none : Option Jvm.ClassFile.FieldType), 4), (yX4_howMany, cX4_howMany, 3, (some .int), 4), (yX4_digestOn, cX4_digestOn, 7, (some .long), 4), (yX5_reduce, cX5_reduce, 12, (none : Option Jvm.ClassFile.FieldType), 5), (yX6_isThere, cX6_isThere, 2, (some .boolean), 6), (yX6_length, cX6_length, 2, (some .int), 6), (yX6_make, cX6_make, 3, (none : Option Jvm.ClassFile.FieldType), 6), (yX6_read, cX6_read, 3, (some .int), 6)]
def mT1 : List (MethodName × ByteArray × Nat × Option FieldType × Nat) := [(yX6_write, cX6_write, 4, (none : Option Jvm.ClassFile.FieldType), 6), (yX6_howMany, cX6_howMany, 3, (some .int), 6), (yX6_digestOn, cX6_digestOn, 7, (some .long), 6), (yX7_clear, cX7_clear, 1, (none : Option Jvm.ClassFile.FieldType), 7), (yX7_addDeed, cX7_addDeed, 5, (none : Option Jvm.ClassFile.FieldType), 7), (yX7_become, cX7_become, 2, (none : Option Jvm.ClassFile.FieldType), 7), (yX7_trait, cX7_trait, 3, (some .int), 7), (yX7_isGivenUp, cX7_isGivenUp, 2, (some .boolean), 7), (yX7_notGivenUp, cX7_notGivenUp, 1, (some .int), 7), (yX7_openHabits, cX7_openHabits, 3, (some .int), 7), (yX7_runs, cX7_runs, 3, (some .int), 7), (yX7_price, cX7_price, 2, (some .int), 7), (yX7_priceAs, cX7_priceAs, 4, (some .int), 7), (yX7_weighed, cX7_weighed, 5, (some (.array .int)), 7), (yX7_lossOf, cX7_lossOf, 4, (some .int), 7), (yX7_goesByItself, cX7_goesByItself, 2, (some .boolean), 7), (yX7_choice, cX7_choice, 7, (some .int), 7), (yX7_foremost, cX7_foremost, 9, (some .int), 7), (yX7_rank, cX7_rank, 4, (some .int), 7), (yX7_passBy, cX7_passBy, 3, (some .int), 7), (yX7_pass, cX7_pass, 4, (none : Option Jvm.ClassFile.FieldType), 7), (yX7_follow, cX7_follow, 3, (none : Option Jvm.ClassFile.FieldType), 7), (yX8_row, cX8_row, 3, (some .int), 8), (yX8_lay, cX8_lay, 6, (some .int), 8), (yX8_at, cX8_at, 4, (some .int), 8), (yX8_tear, cX8_tear, 2, (some .int), 8), (yX8_copy, cX8_copy, 6, (some .int), 8), (yX8_mean, cX8_mean, 6, (some .int), 8), (yX8_text, cX8_text, 3, (some .int), 8), (yX8_put, cX8_put, 5, (some .int), 8), (yX8_fault, cX8_fault, 2, (some .int), 8), (yX8_year, cX8_year, 2, (some .int), 8), (yX8_deed, cX8_deed, 3, (some .int), 8), (yX8_mark, cX8_mark, 4, (some .int), 8), (yX8_day, cX8_day, 3, (some .int), 8), (yX8_drop, cX8_drop, 2, (some .int), 8), (yX8_take, cX8_take, 2, (some .int), 8), (yX8_will, cX8_will, 3, (some .int), 8), (yX8_undo, cX8_undo, 3, (some .int), 8), (yX8_keep, cX8_keep, 2, (some .int), 8)]
def mT2 : List (MethodName × ByteArray × Nat × Option FieldType × Nat) := [(yX8_on, cX8_on, 2, (some .int), 8), (yX8_cost, cX8_cost, 2, (some .int), 8), (yX8_most, cX8_most, 5, (some .int), 8), (yX8_rule, cX8_rule, 3, (some .int), 8), (yX8_plan, cX8_plan, 5, (some .int), 8), (yX8_till, cX8_till, 4, (some .int), 8), (yX8_better, cX8_better, 6, (some .int), 8), (yX8_least, cX8_least, 7, (some .int), 8), (yX8_chain, cX8_chain, 7, (some .int), 8), (yX8_fits, cX8_fits, 5, (some .int), 8), (yX8_sure, cX8_sure, 7, (some .int), 8), (yX8_ask, cX8_ask, 8, (some .int), 8), (yX8_habits, cX8_habits, 7, (some .int), 8), (yX8_kinds, cX8_kinds, 4, (some .int), 8), (yX8_test, cX8_test, 9, (some .int), 8), (yX8_spare, cX8_spare, 6, (some .int), 8), (yX8_tempt, cX8_tempt, 2, (some .int), 8), (yX8_odds, cX8_odds, 8, (some .int), 8), (yX8_mid, cX8_mid, 7, (some .int), 8), (yX8_lots, cX8_lots, 9, (some .int), 8), (yX8_asked, cX8_asked, 1, (some .int), 8), (yX8_upper, cX8_upper, 1, (some .long), 8), (yX8_lower, cX8_lower, 1, (some .long), 8), (yX8_count, cX8_count, 2, (some .int), 8), (yX8_finding, cX8_finding, 1, (some .int), 8), (yX8_findings, cX8_findings, 2, (some .int), 8), (yX8_digest, cX8_digest, 5, (some .long), 8), (yX8_refuse, cX8_refuse, 2, (some .int), 8), (yX8_tell, cX8_tell, 2, (some .int), 8), (yX8_act, cX8_act, 2, (none : Option Jvm.ClassFile.FieldType), 8), (yX8_replay, cX8_replay, 2, (none : Option Jvm.ClassFile.FieldType), 8), (yX8_isRow, cX8_isRow, 1, (some .boolean), 8), (yX8_isText, cX8_isText, 1, (some .boolean), 8), (yX8_isKeptPlace, cX8_isKeptPlace, 1, (some .boolean), 8), (yX8_isRule, cX8_isRule, 1, (some .boolean), 8), (yX8_isSum, cX8_isSum, 1, (some .boolean), 8), (yX8_isDeed, cX8_isDeed, 2, (some .boolean), 8), (yX8_isSet, cX8_isSet, 2, (some .boolean), 8), (yX8_refusedPlace, cX8_refusedPlace, 3, (some .int), 8), (yX8_refusedSum, cX8_refusedSum, 2, (some .int), 8)]
def mT3 : List (MethodName × ByteArray × Nat × Option FieldType × Nat) := [(yX8_refusedPairs, cX8_refusedPairs, 7, (some .int), 8), (yX8_isMore, cX8_isMore, 4, (some .boolean), 8), (yX8_isFit, cX8_isFit, 4, (some .boolean), 8), (yX8_fitting, cX8_fitting, 7, (some .int), 8), (yX8_keptBy, cX8_keptBy, 5, (some .int), 8), (yX8_agrees, cX8_agrees, 9, (some .boolean), 8), (yX8_kindsThatFit, cX8_kindsThatFit, 5, (some .int), 8), (yX8_greatestPart, cX8_greatestPart, 6, (some .int), 8), (yX8_partLike, cX8_partLike, 7, (some .int), 8), (yX8_turns, cX8_turns, 11, (some .int), 8), (yX8_power, cX8_power, 5, (some .long), 8), (yX9_in, cX9_in, 3, (some .boolean), 9), (yX9_has, cX9_has, 2, (some .boolean), 9), (yX9_bits, cX9_bits, 3, (some .int), 9), (yX9_meets, cX9_meets, 2, (some .int), 9), (yX9_finding, cX9_finding, 1, (some .int), 9), (yX9_findings, cX9_findings, 2, (some .int), 9), (yX9_tells, cX9_tells, 3, (some .int), 9), (yX9_asked, cX9_asked, 1, (some .int), 9), (yX9_fraction, cX9_fraction, 11, (some .int), 9), (yX9_upper, cX9_upper, 1, (some .long), 9), (yX9_lower, cX9_lower, 1, (some .long), 9), (yX9_isRow, cX9_isRow, 1, (some .boolean), 9), (yX9_rowAt, cX9_rowAt, 3, (some .int), 9), (yX9_row, cX9_row, 4, (some .int), 9), (yX9_lay, cX9_lay, 5, (some .int), 9), (yX9_at, cX9_at, 3, (some .int), 9), (yX9_tear, cX9_tear, 2, (some .int), 9), (yX9_copy, cX9_copy, 7, (some .int), 9), (yX9_mean, cX9_mean, 5, (some .int), 9), (yX9_isText, cX9_isText, 1, (some .boolean), 9), (yX9_text, cX9_text, 4, (some .int), 9), (yX9_put, cX9_put, 5, (some .int), 9), (yX9_byteAt, cX9_byteAt, 3, (some .int), 9), (yX9_kindBy, cX9_kindBy, 1, (some .int), 9), (yX9_figure, cX9_figure, 3, (some .int), 9), (yX9_readsHead, cX9_readsHead, 5, (some .boolean), 9), (yX9_readsDeed, cX9_readsDeed, 5, (some .boolean), 9), (yX9_faultOf, cX9_faultOf, 2, (some .int), 9), (yX9_fault, cX9_fault, 2, (some .int), 9)]
def mT4 : List (MethodName × ByteArray × Nat × Option FieldType × Nat) := [(yX9_year, cX9_year, 3, (some .int), 9), (yX9_isDeed, cX9_isDeed, 2, (some .boolean), 9), (yX9_isSet, cX9_isSet, 2, (some .boolean), 9), (yX9_costBy, cX9_costBy, 8, (some .int), 9), (yX9_costOn, cX9_costOn, 3, (some .int), 9), (yX9_costsOf, cX9_costsOf, 5, (some .int), 9), (yX9_isSmall, cX9_isSmall, 2, (some .boolean), 9), (yX9_grown, cX9_grown, 4, (some .int), 9), (yX9_lessened, cX9_lessened, 4, (some .int), 9), (yX9_there, cX9_there, 2, (some .int), 9), (yX9_passes, cX9_passes, 5, (none : Option Jvm.ClassFile.FieldType), 9), (yX9_rankOn, cX9_rankOn, 4, (some .int), 9), (yX9_byRule, cX9_byRule, 8, (some .int), 9), (yX9_copyNow, cX9_copyNow, 2, (none : Option Jvm.ClassFile.FieldType), 9), (yX9_deedTells, cX9_deedTells, 3, (some .int), 9), (yX9_deed, cX9_deed, 3, (some .int), 9), (yX9_asKind, cX9_asKind, 3, (some .int), 9), (yX9_mark, cX9_mark, 5, (some .int), 9), (yX9_remember, cX9_remember, 2, (none : Option Jvm.ClassFile.FieldType), 9), (yX9_day, cX9_day, 4, (some .int), 9), (yX9_drop, cX9_drop, 2, (some .int), 9), (yX9_take, cX9_take, 2, (some .int), 9), (yX9_will, cX9_will, 3, (some .int), 9), (yX9_undo, cX9_undo, 4, (some .int), 9), (yX9_keep, cX9_keep, 3, (some .int), 9), (yX9_on, cX9_on, 3, (some .int), 9), (yX9_need, cX9_need, 2, (some .int), 9), (yX9_cost, cX9_cost, 2, (some .int), 9), (yX9_most, cX9_most, 6, (some .int), 9), (yX9_rule, cX9_rule, 4, (some .int), 9), (yX9_keptBy, cX9_keptBy, 7, (some .int), 9), (yX9_plan, cX9_plan, 9, (some .int), 9), (yX9_isDone, cX9_isDone, 4, (some .boolean), 9), (yX9_till, cX9_till, 6, (some .int), 9), (yX9_keptIn, cX9_keptIn, 6, (some .int), 9), (yX9_better, cX9_better, 7, (some .int), 9), (yX9_least, cX9_least, 6, (some .int), 9), (yX9_chain, cX9_chain, 8, (some .int), 9), (yX9_layFits, cX9_layFits, 4, (none : Option Jvm.ClassFile.FieldType), 9), (yX9_fits, cX9_fits, 3, (some .int), 9)]
def mT5 : List (MethodName × ByteArray × Nat × Option FieldType × Nat) := [(yX9_sure, cX9_sure, 3, (some .int), 9), (yX9_ask, cX9_ask, 9, (some .int), 9), (yX9_needPairs, cX9_needPairs, 5, (some .int), 9), (yX9_isTold, cX9_isTold, 8, (some .boolean), 9), (yX9_habits, cX9_habits, 7, (some .int), 9), (yX9_kindSet, cX9_kindSet, 5, (some .int), 9), (yX9_kinds, cX9_kinds, 4, (some .int), 9), (yX9_alike, cX9_alike, 9, (some .int), 9), (yX9_test, cX9_test, 9, (some .int), 9), (yX9_savedBy, cX9_savedBy, 4, (some .int), 9), (yX9_spare, cX9_spare, 6, (some .int), 9), (yX9_codes, cX9_codes, 3, (some .int), 9), (yX9_setOf, cX9_setOf, 6, (some .int), 9), (yX9_turned, cX9_turned, 11, (some .int), 9), (yX9_tempt, cX9_tempt, 5, (some .int), 9), (yX9_odds, cX9_odds, 13, (some .int), 9), (yX9_mid, cX9_mid, 8, (some .int), 9), (yX9_lots, cX9_lots, 10, (some .int), 9), (yX9_counted, cX9_counted, 4, (some .int), 9), (yX9_count, cX9_count, 2, (some .int), 9), (yX9_mix, cX9_mix, 3, (none : Option Jvm.ClassFile.FieldType), 9), (yX9_mixYear, cX9_mixYear, 3, (none : Option Jvm.ClassFile.FieldType), 9), (yX9_digest, cX9_digest, 3, (some .long), 9), (yJ6_bitCount_0f7a4, cJ6_bitCount_0f7a4, 1, (some .int), 10), (yJ9_max_7cf53, cJ9_max_7cf53, 2, (some .int), 11), (yJ9_min_7cf53, cJ9_min_7cf53, 2, (some .int), 11), (yJ7_rangeCheck_23922, cJ7_rangeCheck_23922, 3, (none : Option Jvm.ClassFile.FieldType), 13), (yJ7_fill_53178, cJ7_fill_53178, 4, (none : Option Jvm.ClassFile.FieldType), 13), (yJ7_fill_fda19, cJ7_fill_fda19, 5, (none : Option Jvm.ClassFile.FieldType), 13), (yJ7_fill_eb02e, cJ7_fill_eb02e, 5, (none : Option Jvm.ClassFile.FieldType), 13)]
def mT : List (MethodName × ByteArray × Nat × Option FieldType × Nat) := mT0 ++ (mT1 ++ (mT2 ++ (mT3 ++ (mT4 ++ (mT5)))))
def mG (u : Nat) : MethodName × ByteArray × Nat × Option FieldType × Nat := mT.getD u (⟨"", "", ""⟩, ⟨#[]⟩, 0, none, 0)
def mY (u : Nat) : MethodName := (mG u).1
def mC (u : Nat) : ByteArray := (mG u).2.1
def mL (u : Nat) : Nat := (mG u).2.2.1
def mR (u : Nat) : Option FieldType := (mG u).2.2.2.1
def mO (u : Nat) : Nat := (mG u).2.2.2.2
def nM : Nat := 230
abbrev mX0_pack : Nat := 0
abbrev mX0_whatOf : Nat := 1
abbrev mX0_firstOf : Nat := 2
abbrev mX0_secondOf : Nat := 3
abbrev mX0_haveRoom : Nat := 4
abbrev mX0_add : Nat := 5
abbrev mX0_forget : Nat := 6
abbrev mX0_storedSize : Nat := 7
abbrev mX0_howManyStored : Nat := 8
abbrev mX0_store : Nat := 9
abbrev mX0_restore : Nat := 10
abbrev mX1_byLetter : Nat := 11
abbrev mX1_isOf : Nat := 12
abbrev mX1_price : Nat := 13
abbrev mX1_grown : Nat := 14
abbrev mX1_shrunk : Nat := 15
abbrev mX2_best : Nat := 16
abbrev mX2_seek : Nat := 17
abbrev mX2_behind : Nat := 18
abbrev mX2_note : Nat := 19
abbrev mX3_readYear : Nat := 20
abbrev mX3_passBlanks : Nat := 21
abbrev mX3_readHead : Nat := 22
abbrev mX3_readDeed : Nat := 23
abbrev mX3_readFigure : Nat := 24
abbrev mX4_isThere : Nat := 25
abbrev mX4_length : Nat := 26
abbrev mX4_hasPart : Nat := 27
abbrev mX4_make : Nat := 28
abbrev mX4_remove : Nat := 29
abbrev mX4_read : Nat := 30
abbrev mX4_write : Nat := 31
abbrev mX4_move : Nat := 32
abbrev mX4_howMany : Nat := 33
abbrev mX4_digestOn : Nat := 34
abbrev mX5_reduce : Nat := 35
abbrev mX6_isThere : Nat := 36
abbrev mX6_length : Nat := 37
abbrev mX6_make : Nat := 38
abbrev mX6_read : Nat := 39
abbrev mX6_write : Nat := 40
abbrev mX6_howMany : Nat := 41
abbrev mX6_digestOn : Nat := 42
abbrev mX7_clear : Nat := 43
abbrev mX7_addDeed : Nat := 44
abbrev mX7_become : Nat := 45
abbrev mX7_trait : Nat := 46
abbrev mX7_isGivenUp : Nat := 47
abbrev mX7_notGivenUp : Nat := 48
abbrev mX7_openHabits : Nat := 49
abbrev mX7_runs : Nat := 50
abbrev mX7_price : Nat := 51
abbrev mX7_priceAs : Nat := 52
abbrev mX7_weighed : Nat := 53
abbrev mX7_lossOf : Nat := 54
abbrev mX7_goesByItself : Nat := 55
abbrev mX7_choice : Nat := 56
abbrev mX7_foremost : Nat := 57
abbrev mX7_rank : Nat := 58
abbrev mX7_passBy : Nat := 59
abbrev mX7_pass : Nat := 60
abbrev mX7_follow : Nat := 61
abbrev mX8_row : Nat := 62
abbrev mX8_lay : Nat := 63
abbrev mX8_at : Nat := 64
abbrev mX8_tear : Nat := 65
abbrev mX8_copy : Nat := 66
abbrev mX8_mean : Nat := 67
abbrev mX8_text : Nat := 68
abbrev mX8_put : Nat := 69
abbrev mX8_fault : Nat := 70
abbrev mX8_year : Nat := 71
abbrev mX8_deed : Nat := 72
abbrev mX8_mark : Nat := 73
abbrev mX8_day : Nat := 74
abbrev mX8_drop : Nat := 75
abbrev mX8_take : Nat := 76
abbrev mX8_will : Nat := 77
abbrev mX8_undo : Nat := 78
abbrev mX8_keep : Nat := 79
abbrev mX8_on : Nat := 80
abbrev mX8_cost : Nat := 81
abbrev mX8_most : Nat := 82
abbrev mX8_rule : Nat := 83
abbrev mX8_plan : Nat := 84
abbrev mX8_till : Nat := 85
abbrev mX8_better : Nat := 86
abbrev mX8_least : Nat := 87
abbrev mX8_chain : Nat := 88
abbrev mX8_fits : Nat := 89
abbrev mX8_sure : Nat := 90
abbrev mX8_ask : Nat := 91
abbrev mX8_habits : Nat := 92
abbrev mX8_kinds : Nat := 93
abbrev mX8_test : Nat := 94
abbrev mX8_spare : Nat := 95
abbrev mX8_tempt : Nat := 96
abbrev mX8_odds : Nat := 97
abbrev mX8_mid : Nat := 98
abbrev mX8_lots : Nat := 99
abbrev mX8_asked : Nat := 100
abbrev mX8_upper : Nat := 101
abbrev mX8_lower : Nat := 102
abbrev mX8_count : Nat := 103
abbrev mX8_finding : Nat := 104
abbrev mX8_findings : Nat := 105
abbrev mX8_digest : Nat := 106
abbrev mX8_refuse : Nat := 107
abbrev mX8_tell : Nat := 108
abbrev mX8_act : Nat := 109
abbrev mX8_replay : Nat := 110
abbrev mX8_isRow : Nat := 111
abbrev mX8_isText : Nat := 112
abbrev mX8_isKeptPlace : Nat := 113
abbrev mX8_isRule : Nat := 114
abbrev mX8_isSum : Nat := 115
abbrev mX8_isDeed : Nat := 116
abbrev mX8_isSet : Nat := 117
abbrev mX8_refusedPlace : Nat := 118
abbrev mX8_refusedSum : Nat := 119
abbrev mX8_refusedPairs : Nat := 120
abbrev mX8_isMore : Nat := 121
abbrev mX8_isFit : Nat := 122
abbrev mX8_fitting : Nat := 123
abbrev mX8_keptBy : Nat := 124
abbrev mX8_agrees : Nat := 125
abbrev mX8_kindsThatFit : Nat := 126
abbrev mX8_greatestPart : Nat := 127
abbrev mX8_partLike : Nat := 128
abbrev mX8_turns : Nat := 129
abbrev mX8_power : Nat := 130
abbrev mX9_in : Nat := 131
abbrev mX9_has : Nat := 132
abbrev mX9_bits : Nat := 133
abbrev mX9_meets : Nat := 134
abbrev mX9_finding : Nat := 135
abbrev mX9_findings : Nat := 136
abbrev mX9_tells : Nat := 137
abbrev mX9_asked : Nat := 138
abbrev mX9_fraction : Nat := 139
abbrev mX9_upper : Nat := 140
abbrev mX9_lower : Nat := 141
abbrev mX9_isRow : Nat := 142
abbrev mX9_rowAt : Nat := 143
abbrev mX9_row : Nat := 144
abbrev mX9_lay : Nat := 145
abbrev mX9_at : Nat := 146
abbrev mX9_tear : Nat := 147
abbrev mX9_copy : Nat := 148
abbrev mX9_mean : Nat := 149
abbrev mX9_isText : Nat := 150
abbrev mX9_text : Nat := 151
abbrev mX9_put : Nat := 152
abbrev mX9_byteAt : Nat := 153
abbrev mX9_kindBy : Nat := 154
abbrev mX9_figure : Nat := 155
abbrev mX9_readsHead : Nat := 156
abbrev mX9_readsDeed : Nat := 157
abbrev mX9_faultOf : Nat := 158
abbrev mX9_fault : Nat := 159
abbrev mX9_year : Nat := 160
abbrev mX9_isDeed : Nat := 161
abbrev mX9_isSet : Nat := 162
abbrev mX9_costBy : Nat := 163
abbrev mX9_costOn : Nat := 164
abbrev mX9_costsOf : Nat := 165
abbrev mX9_isSmall : Nat := 166
abbrev mX9_grown : Nat := 167
abbrev mX9_lessened : Nat := 168
abbrev mX9_there : Nat := 169
abbrev mX9_passes : Nat := 170
abbrev mX9_rankOn : Nat := 171
abbrev mX9_byRule : Nat := 172
abbrev mX9_copyNow : Nat := 173
abbrev mX9_deedTells : Nat := 174
abbrev mX9_deed : Nat := 175
abbrev mX9_asKind : Nat := 176
abbrev mX9_mark : Nat := 177
abbrev mX9_remember : Nat := 178
abbrev mX9_day : Nat := 179
abbrev mX9_drop : Nat := 180
abbrev mX9_take : Nat := 181
abbrev mX9_will : Nat := 182
abbrev mX9_undo : Nat := 183
abbrev mX9_keep : Nat := 184
abbrev mX9_on : Nat := 185
abbrev mX9_need : Nat := 186
abbrev mX9_cost : Nat := 187
abbrev mX9_most : Nat := 188
abbrev mX9_rule : Nat := 189
abbrev mX9_keptBy : Nat := 190
abbrev mX9_plan : Nat := 191
abbrev mX9_isDone : Nat := 192
abbrev mX9_till : Nat := 193
abbrev mX9_keptIn : Nat := 194
abbrev mX9_better : Nat := 195
abbrev mX9_least : Nat := 196
abbrev mX9_chain : Nat := 197
abbrev mX9_layFits : Nat := 198
abbrev mX9_fits : Nat := 199
abbrev mX9_sure : Nat := 200
abbrev mX9_ask : Nat := 201
abbrev mX9_needPairs : Nat := 202
abbrev mX9_isTold : Nat := 203
abbrev mX9_habits : Nat := 204
abbrev mX9_kindSet : Nat := 205
abbrev mX9_kinds : Nat := 206
abbrev mX9_alike : Nat := 207
abbrev mX9_test : Nat := 208
abbrev mX9_savedBy : Nat := 209
abbrev mX9_spare : Nat := 210
abbrev mX9_codes : Nat := 211
abbrev mX9_setOf : Nat := 212
abbrev mX9_turned : Nat := 213
abbrev mX9_tempt : Nat := 214
abbrev mX9_odds : Nat := 215
abbrev mX9_mid : Nat := 216
abbrev mX9_lots : Nat := 217
abbrev mX9_counted : Nat := 218
abbrev mX9_count : Nat := 219
abbrev mX9_mix : Nat := 220
abbrev mX9_mixYear : Nat := 221
abbrev mX9_digest : Nat := 222
abbrev mJ6_bitCount_0f7a4 : Nat := 223
abbrev mJ9_max_7cf53 : Nat := 224
abbrev mJ9_min_7cf53 : Nat := 225
abbrev mJ7_rangeCheck_23922 : Nat := 226
abbrev mJ7_fill_53178 : Nat := 227
abbrev mJ7_fill_fda19 : Nat := 228
abbrev mJ7_fill_eb02e : Nat := 229
def gdT : List Cond := lw_tbl.filter goodWord
theorem gd_in {w : Cond} {p : Nat} (h : tables_1[p]? = some w) (hg : goodWord w = true) : w ∈ gdT := List.mem_filter.mpr ⟨List.mem_append_right _ (List.mem_of_getElem? h), hg⟩
theorem gd_sel {w : Cond} {p : Nat} (h : (k2_sels lw_privs)[p]? = some w) (hg : goodWord w = true) : w ∈ gdT := List.mem_filter.mpr ⟨List.mem_append_left _ (List.mem_of_getElem? h), hg⟩
def wq (l : List Cond) (p : Nat) (w : Cond) : Bool := decide (l[p]? = some w) && goodWord w
theorem wq_in {p : Nat} {w : Cond} (h : wq tables_1 p w = true) : w ∈ gdT := by
  have h1 := Bool.and_eq_true_iff.mp h
  exact gd_in (of_decide_eq_true h1.1) h1.2
theorem wq_sel {p : Nat} {w : Cond} (h : wq (k2_sels lw_privs) p w = true) : w ∈ gdT := by
  have h1 := Bool.and_eq_true_iff.mp h
  exact gd_sel (of_decide_eq_true h1.1) h1.2
def fLk : List (Nat × Nat × Nat × Nat × Nat) := [(4, 9, 3, 0, 32), (4, 21, 3, 1, 33), (6, 9, 5, 0, 47), (6, 21, 5, 1, 48), (7, 9, 6, 0, 61), (7, 15, 6, 1, 63), (7, 18, 6, 2, 65), (7, 21, 6, 3, 67), (7, 24, 6, 4, 69), (7, 27, 6, 5, 71), (7, 30, 6, 6, 72), (7, 37, 6, 7, 73), (7, 33, 6, 8, 76), (7, 40, 6, 9, 78), (7, 43, 6, 10, 82), (7, 46, 6, 11, 85), (3, 9, 2, 0, 118), (3, 15, 2, 1, 119), (3, 25, 2, 2, 120), (3, 28, 2, 3, 121), (3, 31, 2, 4, 122), (0, 9, 0, 0, 141), (0, 15, 0, 1, 143), (0, 18, 0, 2, 144), (0, 27, 0, 3, 145), (2, 12, 1, 0, 164), (2, 18, 1, 1, 165), (2, 21, 1, 2, 166), (2, 25, 1, 3, 167), (2, 28, 1, 4, 169), (5, 7, 4, 0, 187), (5, 13, 4, 1, 189), (8, 10, 7, 0, 196), (8, 19, 7, 1, 197), (8, 26, 7, 2, 198), (8, 30, 7, 3, 199), (8, 33, 7, 4, 200), (8, 41, 7, 5, 201), (8, 48, 7, 6, 202), (8, 55, 7, 7, 203), (8, 62, 7, 8, 204), (8, 66, 7, 9, 205), (8, 70, 7, 10, 206), (8, 74, 7, 11, 207), (9, 79, 8, 0, 810), (9, 7, 8, 1, 811), (9, 87, 8, 2, 812), (9, 90, 8, 3, 813), (9, 13, 8, 4, 814), (9, 17, 8, 5, 815), (9, 20, 8, 6, 816), (9, 23, 8, 7, 817), (9, 26, 8, 8, 818), (9, 29, 8, 9, 819), (9, 145, 8, 10, 820), (9, 33, 8, 11, 821), (9, 36, 8, 12, 822), (9, 39, 8, 13, 823), (9, 111, 8, 14, 824), (9, 133, 8, 15, 825), (9, 120, 8, 16, 826), (9, 123, 8, 17, 827), (9, 126, 8, 18, 828), (9, 42, 8, 19, 829), (9, 45, 8, 20, 830), (9, 48, 8, 21, 831), (9, 148, 8, 22, 832), (9, 51, 8, 23, 833), (9, 54, 8, 24, 834), (9, 58, 8, 25, 835), (9, 61, 8, 26, 836), (9, 64, 8, 27, 837), (9, 67, 8, 28, 838), (9, 225, 8, 29, 839), (9, 228, 8, 30, 840), (9, 231, 8, 31, 841), (9, 234, 8, 32, 842), (9, 70, 8, 33, 843), (9, 73, 8, 34, 844), (9, 76, 8, 35, 845), (9, 290, 8, 36, 846)]
def nLk : List (Nat × Nat × Nat × Nat × Nat) := [(8, 151, 6, 0, 62), (8, 259, 6, 1, 64), (8, 256, 6, 2, 66), (8, 262, 6, 3, 68), (8, 173, 6, 4, 70), (3, 49, 6, 7, 74), (8, 140, 6, 7, 75), (8, 161, 6, 8, 77), (2, 54, 6, 9, 79), (3, 60, 6, 9, 80), (8, 186, 6, 9, 81), (3, 63, 6, 10, 83), (8, 194, 6, 10, 84), (8, 179, 6, 11, 86), (8, 364, 0, 0, 142), (8, 213, 0, 3, 146), (8, 243, 1, 3, 168), (8, 326, 4, 0, 188), (8, 330, 4, 1, 190)]
def clG (c : Nat) : vw_C := vwCl.getD c ("", fun _ => ("", "", "", false), 0)
def fW (o i c k : Nat) : Cond := .fieldLink (RN o) i ((clG c).2.1 k).1 ((clG c).2.1 k).2.1 ((clG c).2.1 k).2.2.1
def nW (o i c k : Nat) : Cond := .fieldLinkNest (RN o) i ((clG c).2.1 k).1 ((clG c).2.1 k).2.1 ((clG c).2.1 k).2.2.1 "NinthDay"
def cLk : List (Nat × Nat × Nat × Nat × Nat) := [(4, 15, 227, 0, 29), (6, 15, 227, 0, 46), (0, 21, 227, 0, 140), (8, 77, 111, 0, 237), (8, 81, 107, 1, 240), (8, 85, 28, 1, 244), (4, 24, 228, 0, 248), (13, 13, 226, 0, 251), (8, 89, 118, 1, 258), (8, 103, 25, 1, 262), (8, 118, 26, 1, 266), (8, 93, 30, 1, 270), (8, 96, 31, 1, 274), (8, 100, 108, 1, 278), (8, 106, 29, 1, 290), (8, 110, 27, 1, 298), (8, 114, 32, 1, 302), (8, 121, 112, 0, 317), (8, 124, 38, 1, 320), (6, 25, 229, 0, 324), (8, 125, 36, 1, 331), (8, 126, 37, 1, 335), (8, 127, 39, 1, 339), (8, 128, 40, 1, 343), (8, 129, 20, 1, 351), (3, 19, 37, 1, 355), (3, 34, 43, 1, 356), (3, 39, 22, 1, 360), (3, 43, 21, 1, 364), (3, 50, 39, 1, 368), (3, 56, 24, 1, 369), (3, 46, 23, 1, 373), (3, 66, 11, 0, 377), (3, 69, 44, 1, 382), (8, 133, 45, 1, 390), (8, 137, 6, 1, 395), (8, 143, 116, 1, 403), (8, 146, 46, 1, 407), (7, 55, 51, 1, 411), (7, 69, 52, 1, 415), (7, 73, 13, 0, 419), (1, 18, 224, 0, 422), (7, 59, 47, 1, 425), (8, 154, 12, 0, 433), (8, 158, 51, 1, 438), (8, 164, 52, 1, 439), (8, 168, 224, 0, 440), (8, 176, 117, 1, 445), (8, 182, 53, 1, 449), (8, 189, 223, 0, 453), (8, 197, 4, 1, 459), (8, 200, 0, 0, 463), (8, 203, 109, 1, 466), (8, 358, 5, 1, 470), (8, 361, 61, 1, 474), (7, 105, 2, 0, 478), (7, 110, 1, 0, 481), (7, 113, 3, 0, 484), (7, 98, 60, 1, 487), (7, 102, 14, 0, 491), (1, 24, 12, 0, 494), (1, 28, 225, 0, 495), (7, 76, 15, 0, 498), (8, 206, 47, 1, 505), (8, 209, 48, 1, 506), (8, 214, 110, 1, 522), (8, 217, 113, 0, 530), (8, 220, 9, 1, 533), (8, 223, 7, 1, 542), (8, 226, 10, 1, 546), (8, 229, 121, 0, 558), (8, 233, 114, 0, 565), (8, 236, 56, 1, 568), (7, 80, 53, 1, 572), (7, 84, 48, 1, 573), (7, 88, 57, 1, 574), (7, 92, 58, 1, 578), (8, 239, 16, 1, 586), (2, 32, 17, 0, 590), (2, 36, 19, 1, 593), (2, 40, 48, 1, 597), (2, 44, 53, 1, 598), (2, 48, 223, 0, 599), (2, 57, 18, 1, 600), (2, 61, 45, 1, 604), (2, 65, 60, 1, 605), (8, 246, 55, 1, 610), (8, 250, 59, 1, 614), (7, 95, 56, 1, 618), (8, 253, 124, 1, 623), (8, 265, 13, 0, 631), (8, 268, 14, 0, 632), (8, 271, 115, 0, 641), (8, 274, 122, 1, 644), (8, 278, 123, 1, 648), (8, 281, 35, 1, 652), (8, 285, 119, 1, 660), (8, 288, 120, 1, 672), (8, 291, 125, 1, 676), (8, 295, 126, 1, 684), (8, 298, 127, 1, 692), (8, 367, 128, 1, 696), (8, 301, 54, 1, 704), (8, 304, 129, 0, 712), (8, 371, 225, 0, 715), (8, 308, 130, 0, 720), (8, 312, 15, 0, 727), (8, 333, 49, 1, 754), (8, 336, 50, 1, 758), (7, 65, 12, 0, 762), (8, 339, 33, 1, 763), (4, 33, 25, 1, 767), (8, 342, 41, 1, 768), (6, 28, 36, 1, 772), (8, 343, 8, 1, 773), (8, 350, 103, 1, 791), (8, 353, 34, 1, 792), (4, 39, 30, 1, 797), (8, 357, 42, 1, 798), (6, 34, 39, 1, 803), (9, 83, 131, 0, 931), (9, 93, 142, 0, 950), (9, 97, 134, 1, 953), (9, 101, 143, 1, 961), (9, 105, 137, 1, 965), (9, 108, 150, 0, 989), (9, 142, 158, 1, 1000), (9, 114, 153, 1, 1004), (9, 136, 157, 1, 1008), (9, 130, 154, 0, 1012), (9, 117, 155, 1, 1015), (9, 139, 156, 1, 1019), (9, 183, 161, 1, 1031), (9, 186, 174, 1, 1035), (9, 159, 164, 1, 1039), (9, 151, 163, 0, 1043), (9, 189, 176, 1, 1050), (9, 192, 162, 1, 1058), (9, 195, 165, 1, 1062), (9, 155, 132, 0, 1066), (9, 176, 133, 0, 1069), (9, 198, 178, 1, 1072), (9, 201, 170, 1, 1076), (9, 166, 167, 1, 1080), (9, 163, 166, 1, 1084), (9, 169, 169, 1, 1088), (9, 173, 168, 1, 1092), (9, 205, 186, 1, 1132), (9, 209, 172, 1, 1136), (9, 179, 171, 1, 1140), (9, 215, 190, 1, 1148), (9, 212, 173, 1, 1152), (9, 218, 192, 1, 1160), (9, 222, 194, 1, 1168), (9, 237, 198, 1, 1184), (9, 241, 139, 1, 1188), (9, 246, 202, 1, 1205), (9, 249, 203, 1, 1209), (9, 253, 205, 1, 1217), (9, 256, 207, 1, 1225), (9, 260, 209, 1, 1233), (9, 266, 211, 1, 1241), (9, 263, 212, 1, 1245), (9, 270, 213, 1, 1249), (9, 285, 218, 1, 1275), (9, 293, 220, 1, 1284), (9, 301, 221, 1, 1289)]
def lLk : List (Nat × Nat × Nat) := [(13, 62, 233), (18, 63, 254), (23, 64, 282), (27, 65, 286), (32, 66, 294), (37, 67, 309), (41, 68, 313), (45, 69, 327), (49, 70, 347), (53, 71, 386), (57, 72, 399), (61, 73, 429), (65, 74, 441), (69, 75, 501), (73, 76, 510), (77, 77, 514), (81, 78, 518), (85, 79, 526), (89, 80, 538), (93, 81, 550), (97, 82, 554), (102, 83, 561), (106, 84, 582), (110, 85, 606), (114, 86, 619), (118, 87, 627), (122, 88, 633), (126, 89, 637), (130, 90, 656), (134, 91, 664), (138, 92, 668), (142, 93, 680), (146, 94, 688), (150, 95, 700), (154, 96, 708), (158, 97, 716), (162, 98, 723), (166, 99, 729), (170, 100, 738), (174, 101, 742), (179, 102, 746), (183, 103, 750), (187, 104, 777), (191, 105, 781), (195, 106, 785), (190, 135, 923), (194, 136, 927), (173, 138, 934), (178, 140, 938), (182, 141, 942), (17, 144, 946), (22, 145, 957), (26, 146, 969), (31, 147, 973), (36, 148, 977), (40, 149, 981), (44, 151, 985), (48, 152, 992), (52, 159, 996), (56, 160, 1023), (60, 175, 1027), (64, 177, 1046), (68, 179, 1054), (72, 180, 1096), (76, 181, 1100), (80, 182, 1104), (84, 183, 1108), (88, 184, 1112), (92, 185, 1116), (96, 187, 1120), (101, 188, 1124), (105, 189, 1128), (109, 191, 1144), (113, 193, 1156), (117, 195, 1164), (121, 196, 1172), (125, 197, 1176), (129, 199, 1180), (133, 200, 1192), (137, 201, 1196), (141, 204, 1201), (145, 206, 1213), (149, 208, 1221), (153, 210, 1229), (157, 214, 1237), (161, 215, 1253), (165, 216, 1258), (169, 217, 1262), (186, 219, 1271), (198, 222, 1279)]
def mPl : List (Nat × Nat × Nat × Nat × Nat × Nat × Nat) := [(0, 465, 464, 0, 0, 7, 3), (0, 483, 482, 0, 0, 7, 1), (0, 480, 479, 0, 0, 7, 1), (0, 486, 485, 0, 0, 7, 1), (1, 462, 460, 461, 0, 7, 1), (1, 473, 471, 472, 0, 7, 1), (1, 398, 396, 397, 0, 7, 0), (1, 545, 543, 544, 0, 7, 1), (1, 776, 774, 775, 0, 7, 0), (1, 536, 534, 535, 0, 7, 1), (1, 549, 547, 548, 0, 7, 1), (0, 379, 378, 0, 0, 12, 1), (0, 435, 434, 0, 0, 12, 2), (0, 421, 420, 0, 0, 12, 6), (0, 493, 492, 0, 0, 12, 2), (0, 500, 499, 0, 0, 12, 2), (1, 589, 587, 588, 0, 8, 2), (0, 592, 591, 0, 0, 8, 5), (1, 603, 602, 14, 1, 8, 4), (1, 596, 595, 13, 1, 8, 2), (1, 354, 352, 353, 0, 6, 2), (1, 367, 366, 4, 1, 6, 0), (1, 363, 362, 3, 1, 6, 1), (1, 376, 375, 6, 1, 6, 1), (1, 372, 371, 5, 1, 6, 0), (1, 265, 263, 264, 0, 2, 1), (1, 269, 267, 268, 0, 2, 1), (1, 301, 299, 300, 0, 2, 3), (1, 247, 245, 246, 0, 2, 2), (1, 293, 291, 292, 0, 2, 1), (1, 273, 271, 272, 0, 2, 2), (1, 277, 275, 276, 0, 2, 3), (1, 305, 303, 304, 0, 2, 5), (1, 766, 764, 765, 0, 2, 0), (1, 795, 793, 794, 0, 2, 1), (1, 655, 653, 654, 0, 9, 2), (1, 334, 332, 333, 0, 4, 1), (1, 338, 336, 337, 0, 4, 1), (1, 323, 321, 322, 0, 4, 2), (1, 342, 340, 341, 0, 4, 2), (1, 346, 344, 345, 0, 4, 3), (1, 771, 769, 770, 0, 4, 0), (1, 801, 799, 800, 0, 4, 1), (1, 359, 357, 358, 0, 5, 0), (1, 385, 383, 384, 0, 5, 4), (1, 393, 391, 392, 0, 5, 1), (1, 410, 408, 409, 0, 5, 2), (1, 428, 426, 427, 0, 5, 1), (1, 509, 507, 508, 0, 5, 0), (1, 757, 755, 756, 0, 5, 0), (1, 761, 759, 760, 0, 5, 0), (1, 414, 412, 413, 0, 5, 1), (1, 418, 416, 417, 0, 5, 3), (1, 452, 450, 451, 0, 5, 0), (1, 707, 705, 706, 0, 5, 1), (1, 613, 611, 612, 0, 5, 0), (1, 571, 569, 570, 0, 5, 1), (1, 577, 576, 11, 1, 5, 3), (1, 581, 580, 12, 1, 5, 3), (1, 617, 615, 616, 0, 5, 1), (1, 490, 488, 489, 0, 5, 2), (1, 477, 475, 476, 0, 5, 1), (1, 236, 234, 235, 0, 1, 2), (1, 257, 255, 256, 0, 1, 3), (1, 285, 283, 284, 0, 1, 2), (1, 289, 287, 288, 0, 1, 1), (1, 297, 295, 296, 0, 1, 5), (1, 312, 310, 311, 0, 1, 1), (1, 316, 314, 315, 0, 1, 2), (1, 330, 328, 329, 0, 1, 3), (1, 350, 348, 349, 0, 1, 1), (1, 389, 387, 388, 0, 1, 1), (1, 402, 400, 401, 0, 1, 2), (1, 432, 430, 431, 0, 1, 2), (1, 444, 442, 443, 0, 1, 2), (1, 504, 502, 503, 0, 1, 1), (1, 513, 511, 512, 0, 1, 1), (1, 517, 515, 516, 0, 1, 1), (1, 521, 519, 520, 0, 1, 1), (1, 529, 527, 528, 0, 1, 1), (1, 541, 539, 540, 0, 1, 1), (1, 553, 551, 552, 0, 1, 1), (1, 557, 555, 556, 0, 1, 0), (1, 564, 562, 563, 0, 1, 1), (1, 585, 583, 584, 0, 1, 2), (1, 609, 607, 608, 0, 1, 1), (1, 622, 620, 621, 0, 1, 1), (1, 630, 628, 629, 0, 1, 2), (1, 636, 634, 635, 0, 1, 3), (1, 640, 638, 639, 0, 1, 1), (1, 659, 657, 658, 0, 1, 1), (1, 667, 665, 666, 0, 1, 1), (1, 671, 669, 670, 0, 1, 2), (1, 683, 681, 682, 0, 1, 2), (1, 691, 689, 690, 0, 1, 2), (1, 703, 701, 702, 0, 1, 1), (1, 711, 709, 710, 0, 1, 1), (1, 719, 717, 718, 0, 1, 2), (1, 726, 724, 725, 0, 1, 1), (1, 732, 730, 731, 0, 1, 2), (1, 741, 739, 740, 0, 1, 0), (1, 745, 743, 744, 0, 1, 0), (1, 749, 747, 748, 0, 1, 0), (1, 753, 751, 752, 0, 1, 1), (1, 780, 778, 779, 0, 1, 0), (1, 784, 782, 783, 0, 1, 1), (1, 788, 786, 787, 0, 1, 0), (1, 243, 242, 0, 1, 1, 1), (1, 281, 280, 2, 1, 1, 1), (1, 469, 468, 9, 1, 1, 1), (1, 525, 524, 10, 1, 1, 0), (0, 239, 238, 0, 0, 1, 1), (0, 319, 318, 0, 0, 1, 1), (0, 532, 531, 0, 0, 1, 1), (0, 567, 566, 0, 0, 1, 1), (0, 643, 642, 0, 0, 1, 1), (1, 406, 405, 7, 1, 1, 1), (1, 448, 447, 8, 1, 1, 1), (1, 261, 260, 1, 1, 1, 2), (1, 663, 662, 18, 1, 1, 1), (1, 675, 674, 19, 1, 1, 2), (0, 560, 559, 0, 0, 1, 3), (1, 647, 646, 16, 1, 1, 3), (1, 651, 650, 17, 1, 1, 3), (1, 626, 625, 15, 1, 1, 2), (1, 679, 678, 20, 1, 1, 5), (1, 687, 686, 21, 1, 1, 2), (1, 695, 694, 22, 1, 1, 3), (1, 699, 698, 23, 1, 1, 4), (0, 714, 713, 0, 0, 1, 5), (0, 722, 721, 0, 0, 1, 2), (0, 933, 932, 0, 0, 10, 3), (0, 1068, 1067, 0, 0, 10, 2), (0, 1071, 1070, 0, 0, 10, 1), (1, 956, 955, 24, 1, 10, 1), (1, 926, 924, 925, 0, 10, 0), (1, 930, 928, 929, 0, 10, 1), (1, 968, 967, 26, 1, 10, 2), (1, 937, 935, 936, 0, 10, 0), (1, 1191, 1190, 52, 1, 10, 2), (1, 941, 939, 940, 0, 10, 0), (1, 945, 943, 944, 0, 10, 0), (0, 952, 951, 0, 0, 10, 1), (1, 964, 963, 25, 1, 10, 2), (1, 949, 947, 948, 0, 10, 2), (1, 960, 958, 959, 0, 10, 3), (1, 972, 970, 971, 0, 10, 2), (1, 976, 974, 975, 0, 10, 1), (1, 980, 978, 979, 0, 10, 5), (1, 984, 982, 983, 0, 10, 1), (0, 991, 990, 0, 0, 10, 1), (1, 988, 986, 987, 0, 10, 2), (1, 995, 993, 994, 0, 10, 3), (1, 1007, 1006, 28, 1, 10, 2), (0, 1014, 1013, 0, 0, 10, 1), (1, 1018, 1017, 30, 1, 10, 1), (1, 1022, 1021, 31, 1, 10, 1), (1, 1011, 1010, 29, 1, 10, 1), (1, 1003, 1002, 27, 1, 10, 1), (1, 999, 997, 998, 0, 10, 1), (1, 1026, 1024, 1025, 0, 10, 1), (1, 1034, 1033, 32, 1, 10, 1), (1, 1061, 1060, 36, 1, 10, 1), (0, 1045, 1044, 0, 0, 10, 6), (1, 1042, 1041, 34, 1, 10, 2), (1, 1065, 1064, 37, 1, 10, 2), (1, 1087, 1086, 41, 1, 10, 1), (1, 1083, 1082, 40, 1, 10, 2), (1, 1095, 1094, 43, 1, 10, 2), (1, 1091, 1090, 42, 1, 10, 1), (1, 1079, 1078, 39, 1, 10, 3), (1, 1143, 1142, 46, 1, 10, 3), (1, 1139, 1138, 45, 1, 10, 2), (1, 1155, 1154, 48, 1, 10, 0), (1, 1038, 1037, 33, 1, 10, 2), (1, 1030, 1028, 1029, 0, 10, 2), (1, 1053, 1052, 35, 1, 10, 2), (1, 1049, 1047, 1048, 0, 10, 2), (1, 1075, 1074, 38, 1, 10, 0), (1, 1057, 1055, 1056, 0, 10, 2), (1, 1099, 1097, 1098, 0, 10, 1), (1, 1103, 1101, 1102, 0, 10, 1), (1, 1107, 1105, 1106, 0, 10, 1), (1, 1111, 1109, 1110, 0, 10, 1), (1, 1115, 1113, 1114, 0, 10, 1), (1, 1119, 1117, 1118, 0, 10, 1), (1, 1135, 1134, 44, 1, 10, 1), (1, 1123, 1121, 1122, 0, 10, 1), (1, 1127, 1125, 1126, 0, 10, 0), (1, 1131, 1129, 1130, 0, 10, 1), (1, 1151, 1150, 47, 1, 10, 2), (1, 1147, 1145, 1146, 0, 10, 2), (1, 1163, 1162, 49, 1, 10, 1), (1, 1159, 1157, 1158, 0, 10, 1), (1, 1171, 1170, 50, 1, 10, 2), (1, 1167, 1165, 1166, 0, 10, 1), (1, 1175, 1173, 1174, 0, 10, 2), (1, 1179, 1177, 1178, 0, 10, 3), (1, 1187, 1186, 51, 1, 10, 1), (1, 1183, 1181, 1182, 0, 10, 1), (1, 1195, 1193, 1194, 0, 10, 1), (1, 1199, 1197, 1198, 0, 10, 1), (1, 1208, 1207, 53, 1, 10, 2), (1, 1212, 1211, 54, 1, 10, 5), (1, 1204, 1202, 1203, 0, 10, 2), (1, 1220, 1219, 55, 1, 10, 2), (1, 1216, 1214, 1215, 0, 10, 2), (1, 1228, 1227, 56, 1, 10, 3), (1, 1224, 1222, 1223, 0, 10, 2), (1, 1236, 1235, 57, 1, 10, 1), (1, 1232, 1230, 1231, 0, 10, 1), (1, 1244, 1243, 58, 1, 10, 0), (1, 1248, 1247, 59, 1, 10, 2), (1, 1252, 1251, 60, 1, 10, 2), (1, 1240, 1238, 1239, 0, 10, 1), (1, 1256, 1254, 1255, 0, 10, 2), (1, 1261, 1259, 1260, 0, 10, 1), (1, 1265, 1263, 1264, 0, 10, 2), (1, 1278, 1277, 61, 1, 10, 1), (1, 1274, 1272, 1273, 0, 10, 1), (1, 1287, 1286, 62, 1, 10, 1), (1, 1292, 1291, 63, 1, 10, 0), (1, 1282, 1280, 1281, 0, 10, 0), (0, 455, 454, 0, 0, 14, 1), (0, 424, 423, 0, 0, 13, 2), (0, 497, 496, 0, 0, 13, 2), (0, 253, 252, 0, 0, 3, 3), (0, 31, 30, 0, 0, 3, 2), (0, 250, 249, 0, 0, 3, 4), (0, 326, 325, 0, 0, 3, 4)]
def cns : List (Nat × Nat × Nat × Nat × Int) := [(10, 265, 0, 456, 1431655765), (10, 266, 0, 457, 858993459), (10, 267, 0, 458, 252645135), (8, 315, 1, 728, 12), (8, 317, 0, 733, 2147483647), (8, 318, 1, 734, 48271), (8, 320, 1, 735, 2147483647), (8, 322, 1, 736, 8), (8, 324, 1, 737, 4), (8, 346, 1, 789, 17), (8, 348, 1, 790, 31), (4, 37, 1, 796, 31), (6, 32, 1, 802, 31), (9, 245, 0, 1200, 1000000), (9, 274, 1, 1257, 12), (9, 276, 0, 1266, 2147483646), (9, 277, 1, 1267, 48271), (9, 279, 1, 1268, 2147483647), (9, 281, 1, 1269, 8), (9, 283, 1, 1270, 4), (9, 299, 1, 1283, 17), (9, 288, 1, 1288, 31), (9, 297, 1, 1293, -1)]
