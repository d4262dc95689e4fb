-- PART 03: the tables' words by their places
set_option maxRecDepth 100000 in
set_option maxHeartbeats 4000000 in
theorem fLk_all : fLk.all (fun e => wq tables_1 e.2.2.2.2 (fW e.1 e.2.1 e.2.2.1 e.2.2.2.1)) = true := by decide +kernel
set_option maxRecDepth 100000 in
set_option maxHeartbeats 4000000 in
theorem nLk_all : nLk.all (fun e => decide (tables_1[e.2.2.2.2]? = some (nW e.1 e.2.1 e.2.2.1 e.2.2.2.1))) = true := by decide +kernel
def cnW (e : Nat × Nat × Nat × Nat × Int) : Cond := if e.2.2.1 = 0 then .constant (RN e.1) e.2.1 (Int32.ofInt e.2.2.2.2) else .constantLong (RN e.1) e.2.1 (Int64.ofInt e.2.2.2.2)
set_option maxRecDepth 100000 in
set_option maxHeartbeats 4000000 in
theorem cns_all : cns.all (fun e => wq tables_1 e.2.2.2.1 (cnW e)) = true := by decide +kernel
set_option maxRecDepth 100000 in
set_option maxHeartbeats 4000000 in
theorem cLk_all : cLk.all (fun e => wq tables_1 e.2.2.2.2 (.methodLink (RN e.1) e.2.1 (mY e.2.2.1))) = true := by decide +kernel
/-- what the tables say of method u: its code, its being static or not, its class -/
def mOkB (u : Nat) : Bool := match mPl[u]? with
  | none => false
  | some q => (if q.1 = 0 then wq tables_1 q.2.2.1 (.static (mY u)) else wq tables_1 q.2.2.1 (.instanceMethod (mY u)) && (if q.2.2.2.2.1 = 0 then wq tables_1 q.2.2.2.1 (.selects (mY u).cls (mY u) (mY u)) else wq (k2_sels lw_privs) q.2.2.2.1 (.selects (mY u).cls (mY u) (mY u)))) && wq tables_1 q.2.2.2.2.2.1 (.initialized (mY u).cls) && decide ((mY u).cls ≠ "java/lang/invoke/MethodHandle") && decide ((mY u).cls ≠ "java/lang/invoke/VarHandle") && decide ((parseMethodDescriptor (mY u).desc).map (fun d => d.parameters.length) = some q.2.2.2.2.2.2) && decide ((mY u).cls = RN (mO u)) && decide (mL u ≤ 40)
set_option maxRecDepth 100000 in
set_option maxHeartbeats 4000000 in
theorem mOk_all : (List.range nM).all mOkB = true := by decide +kernel
set_option maxRecDepth 100000 in
theorem cd_0 : tables_1[465]? = some (.code (mY 0) (mC 0) (mL 0) (mR 0)) := rfl
set_option maxRecDepth 100000 in
theorem cd_1 : tables_1[483]? = some (.code (mY 1) (mC 1) (mL 1) (mR 1)) := rfl
set_option maxRecDepth 100000 in
theorem cd_2 : tables_1[480]? = some (.code (mY 2) (mC 2) (mL 2) (mR 2)) := rfl
set_option maxRecDepth 100000 in
theorem cd_3 : tables_1[486]? = some (.code (mY 3) (mC 3) (mL 3) (mR 3)) := rfl
set_option maxRecDepth 100000 in
theorem cd_4 : tables_1[462]? = some (.code (mY 4) (mC 4) (mL 4) (mR 4)) := rfl
set_option maxRecDepth 100000 in
theorem cd_5 : tables_1[473]? = some (.code (mY 5) (mC 5) (mL 5) (mR 5)) := rfl
set_option maxRecDepth 100000 in
theorem cd_6 : tables_1[398]? = some (.code (mY 6) (mC 6) (mL 6) (mR 6)) := rfl
set_option maxRecDepth 100000 in
theorem cd_7 : tables_1[545]? = some (.code (mY 7) (mC 7) (mL 7) (mR 7)) := rfl
set_option maxRecDepth 100000 in
theorem cd_8 : tables_1[776]? = some (.code (mY 8) (mC 8) (mL 8) (mR 8)) := rfl
set_option maxRecDepth 100000 in
theorem cd_9 : tables_1[536]? = some (.code (mY 9) (mC 9) (mL 9) (mR 9)) := rfl
set_option maxRecDepth 100000 in
theorem cd_10 : tables_1[549]? = some (.code (mY 10) (mC 10) (mL 10) (mR 10)) := rfl
set_option maxRecDepth 100000 in
theorem cd_11 : tables_1[379]? = some (.code (mY 11) (mC 11) (mL 11) (mR 11)) := rfl
set_option maxRecDepth 100000 in
theorem cd_12 : tables_1[435]? = some (.code (mY 12) (mC 12) (mL 12) (mR 12)) := rfl
set_option maxRecDepth 100000 in
theorem cd_13 : tables_1[421]? = some (.code (mY 13) (mC 13) (mL 13) (mR 13)) := rfl
set_option maxRecDepth 100000 in
theorem cd_14 : tables_1[493]? = some (.code (mY 14) (mC 14) (mL 14) (mR 14)) := rfl
set_option maxRecDepth 100000 in
theorem cd_15 : tables_1[500]? = some (.code (mY 15) (mC 15) (mL 15) (mR 15)) := rfl
set_option maxRecDepth 100000 in
theorem cd_16 : tables_1[589]? = some (.code (mY 16) (mC 16) (mL 16) (mR 16)) := rfl
set_option maxRecDepth 100000 in
theorem cd_17 : tables_1[592]? = some (.code (mY 17) (mC 17) (mL 17) (mR 17)) := rfl
set_option maxRecDepth 100000 in
theorem cd_18 : tables_1[603]? = some (.code (mY 18) (mC 18) (mL 18) (mR 18)) := rfl
set_option maxRecDepth 100000 in
theorem cd_19 : tables_1[596]? = some (.code (mY 19) (mC 19) (mL 19) (mR 19)) := rfl
set_option maxRecDepth 100000 in
theorem cd_20 : tables_1[354]? = some (.code (mY 20) (mC 20) (mL 20) (mR 20)) := rfl
set_option maxRecDepth 100000 in
theorem cd_21 : tables_1[367]? = some (.code (mY 21) (mC 21) (mL 21) (mR 21)) := rfl
set_option maxRecDepth 100000 in
theorem cd_22 : tables_1[363]? = some (.code (mY 22) (mC 22) (mL 22) (mR 22)) := rfl
set_option maxRecDepth 100000 in
theorem cd_23 : tables_1[376]? = some (.code (mY 23) (mC 23) (mL 23) (mR 23)) := rfl
set_option maxRecDepth 100000 in
theorem cd_24 : tables_1[372]? = some (.code (mY 24) (mC 24) (mL 24) (mR 24)) := rfl
set_option maxRecDepth 100000 in
theorem cd_25 : tables_1[265]? = some (.code (mY 25) (mC 25) (mL 25) (mR 25)) := rfl
set_option maxRecDepth 100000 in
theorem cd_26 : tables_1[269]? = some (.code (mY 26) (mC 26) (mL 26) (mR 26)) := rfl
set_option maxRecDepth 100000 in
theorem cd_27 : tables_1[301]? = some (.code (mY 27) (mC 27) (mL 27) (mR 27)) := rfl
set_option maxRecDepth 100000 in
theorem cd_28 : tables_1[247]? = some (.code (mY 28) (mC 28) (mL 28) (mR 28)) := rfl
set_option maxRecDepth 100000 in
theorem cd_29 : tables_1[293]? = some (.code (mY 29) (mC 29) (mL 29) (mR 29)) := rfl
set_option maxRecDepth 100000 in
theorem cd_30 : tables_1[273]? = some (.code (mY 30) (mC 30) (mL 30) (mR 30)) := rfl
set_option maxRecDepth 100000 in
theorem cd_31 : tables_1[277]? = some (.code (mY 31) (mC 31) (mL 31) (mR 31)) := rfl
set_option maxRecDepth 100000 in
theorem cd_32 : tables_1[305]? = some (.code (mY 32) (mC 32) (mL 32) (mR 32)) := rfl
set_option maxRecDepth 100000 in
theorem cd_33 : tables_1[766]? = some (.code (mY 33) (mC 33) (mL 33) (mR 33)) := rfl
set_option maxRecDepth 100000 in
theorem cd_34 : tables_1[795]? = some (.code (mY 34) (mC 34) (mL 34) (mR 34)) := rfl
set_option maxRecDepth 100000 in
theorem cd_35 : tables_1[655]? = some (.code (mY 35) (mC 35) (mL 35) (mR 35)) := rfl
set_option maxRecDepth 100000 in
theorem cd_36 : tables_1[334]? = some (.code (mY 36) (mC 36) (mL 36) (mR 36)) := rfl
set_option maxRecDepth 100000 in
theorem cd_37 : tables_1[338]? = some (.code (mY 37) (mC 37) (mL 37) (mR 37)) := rfl
set_option maxRecDepth 100000 in
theorem cd_38 : tables_1[323]? = some (.code (mY 38) (mC 38) (mL 38) (mR 38)) := rfl
set_option maxRecDepth 100000 in
theorem cd_39 : tables_1[342]? = some (.code (mY 39) (mC 39) (mL 39) (mR 39)) := rfl
set_option maxRecDepth 100000 in
theorem cd_40 : tables_1[346]? = some (.code (mY 40) (mC 40) (mL 40) (mR 40)) := rfl
set_option maxRecDepth 100000 in
theorem cd_41 : tables_1[771]? = some (.code (mY 41) (mC 41) (mL 41) (mR 41)) := rfl
set_option maxRecDepth 100000 in
theorem cd_42 : tables_1[801]? = some (.code (mY 42) (mC 42) (mL 42) (mR 42)) := rfl
set_option maxRecDepth 100000 in
theorem cd_43 : tables_1[359]? = some (.code (mY 43) (mC 43) (mL 43) (mR 43)) := rfl
set_option maxRecDepth 100000 in
theorem cd_44 : tables_1[385]? = some (.code (mY 44) (mC 44) (mL 44) (mR 44)) := rfl
set_option maxRecDepth 100000 in
theorem cd_45 : tables_1[393]? = some (.code (mY 45) (mC 45) (mL 45) (mR 45)) := rfl
set_option maxRecDepth 100000 in
theorem cd_46 : tables_1[410]? = some (.code (mY 46) (mC 46) (mL 46) (mR 46)) := rfl
set_option maxRecDepth 100000 in
theorem cd_47 : tables_1[428]? = some (.code (mY 47) (mC 47) (mL 47) (mR 47)) := rfl
set_option maxRecDepth 100000 in
theorem cd_48 : tables_1[509]? = some (.code (mY 48) (mC 48) (mL 48) (mR 48)) := rfl
set_option maxRecDepth 100000 in
theorem cd_49 : tables_1[757]? = some (.code (mY 49) (mC 49) (mL 49) (mR 49)) := rfl
set_option maxRecDepth 100000 in
theorem cd_50 : tables_1[761]? = some (.code (mY 50) (mC 50) (mL 50) (mR 50)) := rfl
set_option maxRecDepth 100000 in
theorem cd_51 : tables_1[414]? = some (.code (mY 51) (mC 51) (mL 51) (mR 51)) := rfl
set_option maxRecDepth 100000 in
theorem cd_52 : tables_1[418]? = some (.code (mY 52) (mC 52) (mL 52) (mR 52)) := rfl
set_option maxRecDepth 100000 in
theorem cd_53 : tables_1[452]? = some (.code (mY 53) (mC 53) (mL 53) (mR 53)) := rfl
set_option maxRecDepth 100000 in
theorem cd_54 : tables_1[707]? = some (.code (mY 54) (mC 54) (mL 54) (mR 54)) := rfl
set_option maxRecDepth 100000 in
theorem cd_55 : tables_1[613]? = some (.code (mY 55) (mC 55) (mL 55) (mR 55)) := rfl
set_option maxRecDepth 100000 in
theorem cd_56 : tables_1[571]? = some (.code (mY 56) (mC 56) (mL 56) (mR 56)) := rfl
set_option maxRecDepth 100000 in
theorem cd_57 : tables_1[577]? = some (.code (mY 57) (mC 57) (mL 57) (mR 57)) := rfl
set_option maxRecDepth 100000 in
theorem cd_58 : tables_1[581]? = some (.code (mY 58) (mC 58) (mL 58) (mR 58)) := rfl
set_option maxRecDepth 100000 in
theorem cd_59 : tables_1[617]? = some (.code (mY 59) (mC 59) (mL 59) (mR 59)) := rfl
set_option maxRecDepth 100000 in
theorem cd_60 : tables_1[490]? = some (.code (mY 60) (mC 60) (mL 60) (mR 60)) := rfl
set_option maxRecDepth 100000 in
theorem cd_61 : tables_1[477]? = some (.code (mY 61) (mC 61) (mL 61) (mR 61)) := rfl
set_option maxRecDepth 100000 in
theorem cd_62 : tables_1[236]? = some (.code (mY 62) (mC 62) (mL 62) (mR 62)) := rfl
set_option maxRecDepth 100000 in
theorem cd_63 : tables_1[257]? = some (.code (mY 63) (mC 63) (mL 63) (mR 63)) := rfl
set_option maxRecDepth 100000 in
theorem cd_64 : tables_1[285]? = some (.code (mY 64) (mC 64) (mL 64) (mR 64)) := rfl
set_option maxRecDepth 100000 in
theorem cd_65 : tables_1[289]? = some (.code (mY 65) (mC 65) (mL 65) (mR 65)) := rfl
set_option maxRecDepth 100000 in
theorem cd_66 : tables_1[297]? = some (.code (mY 66) (mC 66) (mL 66) (mR 66)) := rfl
set_option maxRecDepth 100000 in
theorem cd_67 : tables_1[312]? = some (.code (mY 67) (mC 67) (mL 67) (mR 67)) := rfl
set_option maxRecDepth 100000 in
theorem cd_68 : tables_1[316]? = some (.code (mY 68) (mC 68) (mL 68) (mR 68)) := rfl
set_option maxRecDepth 100000 in
theorem cd_69 : tables_1[330]? = some (.code (mY 69) (mC 69) (mL 69) (mR 69)) := rfl
set_option maxRecDepth 100000 in
theorem cd_70 : tables_1[350]? = some (.code (mY 70) (mC 70) (mL 70) (mR 70)) := rfl
set_option maxRecDepth 100000 in
theorem cd_71 : tables_1[389]? = some (.code (mY 71) (mC 71) (mL 71) (mR 71)) := rfl
set_option maxRecDepth 100000 in
theorem cd_72 : tables_1[402]? = some (.code (mY 72) (mC 72) (mL 72) (mR 72)) := rfl
set_option maxRecDepth 100000 in
theorem cd_73 : tables_1[432]? = some (.code (mY 73) (mC 73) (mL 73) (mR 73)) := rfl
set_option maxRecDepth 100000 in
theorem cd_74 : tables_1[444]? = some (.code (mY 74) (mC 74) (mL 74) (mR 74)) := rfl
set_option maxRecDepth 100000 in
theorem cd_75 : tables_1[504]? = some (.code (mY 75) (mC 75) (mL 75) (mR 75)) := rfl
set_option maxRecDepth 100000 in
theorem cd_76 : tables_1[513]? = some (.code (mY 76) (mC 76) (mL 76) (mR 76)) := rfl
set_option maxRecDepth 100000 in
theorem cd_77 : tables_1[517]? = some (.code (mY 77) (mC 77) (mL 77) (mR 77)) := rfl
set_option maxRecDepth 100000 in
theorem cd_78 : tables_1[521]? = some (.code (mY 78) (mC 78) (mL 78) (mR 78)) := rfl
set_option maxRecDepth 100000 in
theorem cd_79 : tables_1[529]? = some (.code (mY 79) (mC 79) (mL 79) (mR 79)) := rfl
set_option maxRecDepth 100000 in
theorem cd_80 : tables_1[541]? = some (.code (mY 80) (mC 80) (mL 80) (mR 80)) := rfl
set_option maxRecDepth 100000 in
theorem cd_81 : tables_1[553]? = some (.code (mY 81) (mC 81) (mL 81) (mR 81)) := rfl
set_option maxRecDepth 100000 in
theorem cd_82 : tables_1[557]? = some (.code (mY 82) (mC 82) (mL 82) (mR 82)) := rfl
set_option maxRecDepth 100000 in
theorem cd_83 : tables_1[564]? = some (.code (mY 83) (mC 83) (mL 83) (mR 83)) := rfl
set_option maxRecDepth 100000 in
theorem cd_84 : tables_1[585]? = some (.code (mY 84) (mC 84) (mL 84) (mR 84)) := rfl
set_option maxRecDepth 100000 in
theorem cd_85 : tables_1[609]? = some (.code (mY 85) (mC 85) (mL 85) (mR 85)) := rfl
set_option maxRecDepth 100000 in
theorem cd_86 : tables_1[622]? = some (.code (mY 86) (mC 86) (mL 86) (mR 86)) := rfl
set_option maxRecDepth 100000 in
theorem cd_87 : tables_1[630]? = some (.code (mY 87) (mC 87) (mL 87) (mR 87)) := rfl
set_option maxRecDepth 100000 in
theorem cd_88 : tables_1[636]? = some (.code (mY 88) (mC 88) (mL 88) (mR 88)) := rfl
set_option maxRecDepth 100000 in
theorem cd_89 : tables_1[640]? = some (.code (mY 89) (mC 89) (mL 89) (mR 89)) := rfl
set_option maxRecDepth 100000 in
theorem cd_90 : tables_1[659]? = some (.code (mY 90) (mC 90) (mL 90) (mR 90)) := rfl
set_option maxRecDepth 100000 in
theorem cd_91 : tables_1[667]? = some (.code (mY 91) (mC 91) (mL 91) (mR 91)) := rfl
set_option maxRecDepth 100000 in
theorem cd_92 : tables_1[671]? = some (.code (mY 92) (mC 92) (mL 92) (mR 92)) := rfl
set_option maxRecDepth 100000 in
theorem cd_93 : tables_1[683]? = some (.code (mY 93) (mC 93) (mL 93) (mR 93)) := rfl
set_option maxRecDepth 100000 in
theorem cd_94 : tables_1[691]? = some (.code (mY 94) (mC 94) (mL 94) (mR 94)) := rfl
set_option maxRecDepth 100000 in
theorem cd_95 : tables_1[703]? = some (.code (mY 95) (mC 95) (mL 95) (mR 95)) := rfl
set_option maxRecDepth 100000 in
theorem cd_96 : tables_1[711]? = some (.code (mY 96) (mC 96) (mL 96) (mR 96)) := rfl
set_option maxRecDepth 100000 in
theorem cd_97 : tables_1[719]? = some (.code (mY 97) (mC 97) (mL 97) (mR 97)) := rfl
set_option maxRecDepth 100000 in
theorem cd_98 : tables_1[726]? = some (.code (mY 98) (mC 98) (mL 98) (mR 98)) := rfl
set_option maxRecDepth 100000 in
theorem cd_99 : tables_1[732]? = some (.code (mY 99) (mC 99) (mL 99) (mR 99)) := rfl
set_option maxRecDepth 100000 in
theorem cd_100 : tables_1[741]? = some (.code (mY 100) (mC 100) (mL 100) (mR 100)) := rfl
set_option maxRecDepth 100000 in
theorem cd_101 : tables_1[745]? = some (.code (mY 101) (mC 101) (mL 101) (mR 101)) := rfl
set_option maxRecDepth 100000 in
theorem cd_102 : tables_1[749]? = some (.code (mY 102) (mC 102) (mL 102) (mR 102)) := rfl
set_option maxRecDepth 100000 in
theorem cd_103 : tables_1[753]? = some (.code (mY 103) (mC 103) (mL 103) (mR 103)) := rfl
set_option maxRecDepth 100000 in
theorem cd_104 : tables_1[780]? = some (.code (mY 104) (mC 104) (mL 104) (mR 104)) := rfl
set_option maxRecDepth 100000 in
theorem cd_105 : tables_1[784]? = some (.code (mY 105) (mC 105) (mL 105) (mR 105)) := rfl
set_option maxRecDepth 100000 in
theorem cd_106 : tables_1[788]? = some (.code (mY 106) (mC 106) (mL 106) (mR 106)) := rfl
set_option maxRecDepth 100000 in
theorem cd_107 : tables_1[243]? = some (.code (mY 107) (mC 107) (mL 107) (mR 107)) := rfl
set_option maxRecDepth 100000 in
theorem cd_108 : tables_1[281]? = some (.code (mY 108) (mC 108) (mL 108) (mR 108)) := rfl
set_option maxRecDepth 100000 in
theorem cd_109 : tables_1[469]? = some (.code (mY 109) (mC 109) (mL 109) (mR 109)) := rfl
set_option maxRecDepth 100000 in
theorem cd_110 : tables_1[525]? = some (.code (mY 110) (mC 110) (mL 110) (mR 110)) := rfl
set_option maxRecDepth 100000 in
theorem cd_111 : tables_1[239]? = some (.code (mY 111) (mC 111) (mL 111) (mR 111)) := rfl
set_option maxRecDepth 100000 in
theorem cd_112 : tables_1[319]? = some (.code (mY 112) (mC 112) (mL 112) (mR 112)) := rfl
set_option maxRecDepth 100000 in
theorem cd_113 : tables_1[532]? = some (.code (mY 113) (mC 113) (mL 113) (mR 113)) := rfl
set_option maxRecDepth 100000 in
theorem cd_114 : tables_1[567]? = some (.code (mY 114) (mC 114) (mL 114) (mR 114)) := rfl
set_option maxRecDepth 100000 in
theorem cd_115 : tables_1[643]? = some (.code (mY 115) (mC 115) (mL 115) (mR 115)) := rfl
set_option maxRecDepth 100000 in
theorem cd_116 : tables_1[406]? = some (.code (mY 116) (mC 116) (mL 116) (mR 116)) := rfl
set_option maxRecDepth 100000 in
theorem cd_117 : tables_1[448]? = some (.code (mY 117) (mC 117) (mL 117) (mR 117)) := rfl
set_option maxRecDepth 100000 in
theorem cd_118 : tables_1[261]? = some (.code (mY 118) (mC 118) (mL 118) (mR 118)) := rfl
set_option maxRecDepth 100000 in
theorem cd_119 : tables_1[663]? = some (.code (mY 119) (mC 119) (mL 119) (mR 119)) := rfl
set_option maxRecDepth 100000 in
theorem cd_120 : tables_1[675]? = some (.code (mY 120) (mC 120) (mL 120) (mR 120)) := rfl
set_option maxRecDepth 100000 in
theorem cd_121 : tables_1[560]? = some (.code (mY 121) (mC 121) (mL 121) (mR 121)) := rfl
set_option maxRecDepth 100000 in
theorem cd_122 : tables_1[647]? = some (.code (mY 122) (mC 122) (mL 122) (mR 122)) := rfl
set_option maxRecDepth 100000 in
theorem cd_123 : tables_1[651]? = some (.code (mY 123) (mC 123) (mL 123) (mR 123)) := rfl
set_option maxRecDepth 100000 in
theorem cd_124 : tables_1[626]? = some (.code (mY 124) (mC 124) (mL 124) (mR 124)) := rfl
set_option maxRecDepth 100000 in
theorem cd_125 : tables_1[679]? = some (.code (mY 125) (mC 125) (mL 125) (mR 125)) := rfl
set_option maxRecDepth 100000 in
theorem cd_126 : tables_1[687]? = some (.code (mY 126) (mC 126) (mL 126) (mR 126)) := rfl
set_option maxRecDepth 100000 in
theorem cd_127 : tables_1[695]? = some (.code (mY 127) (mC 127) (mL 127) (mR 127)) := rfl
set_option maxRecDepth 100000 in
theorem cd_128 : tables_1[699]? = some (.code (mY 128) (mC 128) (mL 128) (mR 128)) := rfl
set_option maxRecDepth 100000 in
theorem cd_129 : tables_1[714]? = some (.code (mY 129) (mC 129) (mL 129) (mR 129)) := rfl
set_option maxRecDepth 100000 in
theorem cd_130 : tables_1[722]? = some (.code (mY 130) (mC 130) (mL 130) (mR 130)) := rfl
set_option maxRecDepth 100000 in
theorem cd_131 : tables_1[933]? = some (.code (mY 131) (mC 131) (mL 131) (mR 131)) := rfl
set_option maxRecDepth 100000 in
theorem cd_132 : tables_1[1068]? = some (.code (mY 132) (mC 132) (mL 132) (mR 132)) := rfl
set_option maxRecDepth 100000 in
theorem cd_133 : tables_1[1071]? = some (.code (mY 133) (mC 133) (mL 133) (mR 133)) := rfl
set_option maxRecDepth 100000 in
theorem cd_134 : tables_1[956]? = some (.code (mY 134) (mC 134) (mL 134) (mR 134)) := rfl
set_option maxRecDepth 100000 in
theorem cd_135 : tables_1[926]? = some (.code (mY 135) (mC 135) (mL 135) (mR 135)) := rfl
set_option maxRecDepth 100000 in
theorem cd_136 : tables_1[930]? = some (.code (mY 136) (mC 136) (mL 136) (mR 136)) := rfl
set_option maxRecDepth 100000 in
theorem cd_137 : tables_1[968]? = some (.code (mY 137) (mC 137) (mL 137) (mR 137)) := rfl
set_option maxRecDepth 100000 in
theorem cd_138 : tables_1[937]? = some (.code (mY 138) (mC 138) (mL 138) (mR 138)) := rfl
set_option maxRecDepth 100000 in
theorem cd_139 : tables_1[1191]? = some (.code (mY 139) (mC 139) (mL 139) (mR 139)) := rfl
set_option maxRecDepth 100000 in
theorem cd_140 : tables_1[941]? = some (.code (mY 140) (mC 140) (mL 140) (mR 140)) := rfl
set_option maxRecDepth 100000 in
theorem cd_141 : tables_1[945]? = some (.code (mY 141) (mC 141) (mL 141) (mR 141)) := rfl
set_option maxRecDepth 100000 in
theorem cd_142 : tables_1[952]? = some (.code (mY 142) (mC 142) (mL 142) (mR 142)) := rfl
set_option maxRecDepth 100000 in
theorem cd_143 : tables_1[964]? = some (.code (mY 143) (mC 143) (mL 143) (mR 143)) := rfl
set_option maxRecDepth 100000 in
theorem cd_144 : tables_1[949]? = some (.code (mY 144) (mC 144) (mL 144) (mR 144)) := rfl
set_option maxRecDepth 100000 in
theorem cd_145 : tables_1[960]? = some (.code (mY 145) (mC 145) (mL 145) (mR 145)) := rfl
set_option maxRecDepth 100000 in
theorem cd_146 : tables_1[972]? = some (.code (mY 146) (mC 146) (mL 146) (mR 146)) := rfl
set_option maxRecDepth 100000 in
theorem cd_147 : tables_1[976]? = some (.code (mY 147) (mC 147) (mL 147) (mR 147)) := rfl
set_option maxRecDepth 100000 in
theorem cd_148 : tables_1[980]? = some (.code (mY 148) (mC 148) (mL 148) (mR 148)) := rfl
set_option maxRecDepth 100000 in
theorem cd_149 : tables_1[984]? = some (.code (mY 149) (mC 149) (mL 149) (mR 149)) := rfl
set_option maxRecDepth 100000 in
theorem cd_150 : tables_1[991]? = some (.code (mY 150) (mC 150) (mL 150) (mR 150)) := rfl
set_option maxRecDepth 100000 in
theorem cd_151 : tables_1[988]? = some (.code (mY 151) (mC 151) (mL 151) (mR 151)) := rfl
set_option maxRecDepth 100000 in
theorem cd_152 : tables_1[995]? = some (.code (mY 152) (mC 152) (mL 152) (mR 152)) := rfl
set_option maxRecDepth 100000 in
theorem cd_153 : tables_1[1007]? = some (.code (mY 153) (mC 153) (mL 153) (mR 153)) := rfl
set_option maxRecDepth 100000 in
theorem cd_154 : tables_1[1014]? = some (.code (mY 154) (mC 154) (mL 154) (mR 154)) := rfl
set_option maxRecDepth 100000 in
theorem cd_155 : tables_1[1018]? = some (.code (mY 155) (mC 155) (mL 155) (mR 155)) := rfl
set_option maxRecDepth 100000 in
theorem cd_156 : tables_1[1022]? = some (.code (mY 156) (mC 156) (mL 156) (mR 156)) := rfl
set_option maxRecDepth 100000 in
theorem cd_157 : tables_1[1011]? = some (.code (mY 157) (mC 157) (mL 157) (mR 157)) := rfl
set_option maxRecDepth 100000 in
theorem cd_158 : tables_1[1003]? = some (.code (mY 158) (mC 158) (mL 158) (mR 158)) := rfl
set_option maxRecDepth 100000 in
theorem cd_159 : tables_1[999]? = some (.code (mY 159) (mC 159) (mL 159) (mR 159)) := rfl
set_option maxRecDepth 100000 in
theorem cd_160 : tables_1[1026]? = some (.code (mY 160) (mC 160) (mL 160) (mR 160)) := rfl
set_option maxRecDepth 100000 in
theorem cd_161 : tables_1[1034]? = some (.code (mY 161) (mC 161) (mL 161) (mR 161)) := rfl
set_option maxRecDepth 100000 in
theorem cd_162 : tables_1[1061]? = some (.code (mY 162) (mC 162) (mL 162) (mR 162)) := rfl
set_option maxRecDepth 100000 in
theorem cd_163 : tables_1[1045]? = some (.code (mY 163) (mC 163) (mL 163) (mR 163)) := rfl
set_option maxRecDepth 100000 in
theorem cd_164 : tables_1[1042]? = some (.code (mY 164) (mC 164) (mL 164) (mR 164)) := rfl
set_option maxRecDepth 100000 in
theorem cd_165 : tables_1[1065]? = some (.code (mY 165) (mC 165) (mL 165) (mR 165)) := rfl
set_option maxRecDepth 100000 in
theorem cd_166 : tables_1[1087]? = some (.code (mY 166) (mC 166) (mL 166) (mR 166)) := rfl
set_option maxRecDepth 100000 in
theorem cd_167 : tables_1[1083]? = some (.code (mY 167) (mC 167) (mL 167) (mR 167)) := rfl
set_option maxRecDepth 100000 in
theorem cd_168 : tables_1[1095]? = some (.code (mY 168) (mC 168) (mL 168) (mR 168)) := rfl
set_option maxRecDepth 100000 in
theorem cd_169 : tables_1[1091]? = some (.code (mY 169) (mC 169) (mL 169) (mR 169)) := rfl
set_option maxRecDepth 100000 in
theorem cd_170 : tables_1[1079]? = some (.code (mY 170) (mC 170) (mL 170) (mR 170)) := rfl
set_option maxRecDepth 100000 in
theorem cd_171 : tables_1[1143]? = some (.code (mY 171) (mC 171) (mL 171) (mR 171)) := rfl
set_option maxRecDepth 100000 in
theorem cd_172 : tables_1[1139]? = some (.code (mY 172) (mC 172) (mL 172) (mR 172)) := rfl
set_option maxRecDepth 100000 in
theorem cd_173 : tables_1[1155]? = some (.code (mY 173) (mC 173) (mL 173) (mR 173)) := rfl
set_option maxRecDepth 100000 in
theorem cd_174 : tables_1[1038]? = some (.code (mY 174) (mC 174) (mL 174) (mR 174)) := rfl
set_option maxRecDepth 100000 in
theorem cd_175 : tables_1[1030]? = some (.code (mY 175) (mC 175) (mL 175) (mR 175)) := rfl
set_option maxRecDepth 100000 in
theorem cd_176 : tables_1[1053]? = some (.code (mY 176) (mC 176) (mL 176) (mR 176)) := rfl
set_option maxRecDepth 100000 in
theorem cd_177 : tables_1[1049]? = some (.code (mY 177) (mC 177) (mL 177) (mR 177)) := rfl
set_option maxRecDepth 100000 in
theorem cd_178 : tables_1[1075]? = some (.code (mY 178) (mC 178) (mL 178) (mR 178)) := rfl
set_option maxRecDepth 100000 in
theorem cd_179 : tables_1[1057]? = some (.code (mY 179) (mC 179) (mL 179) (mR 179)) := rfl
set_option maxRecDepth 100000 in
theorem cd_180 : tables_1[1099]? = some (.code (mY 180) (mC 180) (mL 180) (mR 180)) := rfl
set_option maxRecDepth 100000 in
theorem cd_181 : tables_1[1103]? = some (.code (mY 181) (mC 181) (mL 181) (mR 181)) := rfl
set_option maxRecDepth 100000 in
theorem cd_182 : tables_1[1107]? = some (.code (mY 182) (mC 182) (mL 182) (mR 182)) := rfl
set_option maxRecDepth 100000 in
theorem cd_183 : tables_1[1111]? = some (.code (mY 183) (mC 183) (mL 183) (mR 183)) := rfl
set_option maxRecDepth 100000 in
theorem cd_184 : tables_1[1115]? = some (.code (mY 184) (mC 184) (mL 184) (mR 184)) := rfl
set_option maxRecDepth 100000 in
theorem cd_185 : tables_1[1119]? = some (.code (mY 185) (mC 185) (mL 185) (mR 185)) := rfl
set_option maxRecDepth 100000 in
theorem cd_186 : tables_1[1135]? = some (.code (mY 186) (mC 186) (mL 186) (mR 186)) := rfl
set_option maxRecDepth 100000 in
theorem cd_187 : tables_1[1123]? = some (.code (mY 187) (mC 187) (mL 187) (mR 187)) := rfl
set_option maxRecDepth 100000 in
theorem cd_188 : tables_1[1127]? = some (.code (mY 188) (mC 188) (mL 188) (mR 188)) := rfl
set_option maxRecDepth 100000 in
theorem cd_189 : tables_1[1131]? = some (.code (mY 189) (mC 189) (mL 189) (mR 189)) := rfl
set_option maxRecDepth 100000 in
theorem cd_190 : tables_1[1151]? = some (.code (mY 190) (mC 190) (mL 190) (mR 190)) := rfl
set_option maxRecDepth 100000 in
theorem cd_191 : tables_1[1147]? = some (.code (mY 191) (mC 191) (mL 191) (mR 191)) := rfl
set_option maxRecDepth 100000 in
theorem cd_192 : tables_1[1163]? = some (.code (mY 192) (mC 192) (mL 192) (mR 192)) := rfl
set_option maxRecDepth 100000 in
theorem cd_193 : tables_1[1159]? = some (.code (mY 193) (mC 193) (mL 193) (mR 193)) := rfl
set_option maxRecDepth 100000 in
theorem cd_194 : tables_1[1171]? = some (.code (mY 194) (mC 194) (mL 194) (mR 194)) := rfl
set_option maxRecDepth 100000 in
theorem cd_195 : tables_1[1167]? = some (.code (mY 195) (mC 195) (mL 195) (mR 195)) := rfl
set_option maxRecDepth 100000 in
theorem cd_196 : tables_1[1175]? = some (.code (mY 196) (mC 196) (mL 196) (mR 196)) := rfl
set_option maxRecDepth 100000 in
theorem cd_197 : tables_1[1179]? = some (.code (mY 197) (mC 197) (mL 197) (mR 197)) := rfl
set_option maxRecDepth 100000 in
theorem cd_198 : tables_1[1187]? = some (.code (mY 198) (mC 198) (mL 198) (mR 198)) := rfl
set_option maxRecDepth 100000 in
theorem cd_199 : tables_1[1183]? = some (.code (mY 199) (mC 199) (mL 199) (mR 199)) := rfl
set_option maxRecDepth 100000 in
theorem cd_200 : tables_1[1195]? = some (.code (mY 200) (mC 200) (mL 200) (mR 200)) := rfl
set_option maxRecDepth 100000 in
theorem cd_201 : tables_1[1199]? = some (.code (mY 201) (mC 201) (mL 201) (mR 201)) := rfl
set_option maxRecDepth 100000 in
theorem cd_202 : tables_1[1208]? = some (.code (mY 202) (mC 202) (mL 202) (mR 202)) := rfl
set_option maxRecDepth 100000 in
theorem cd_203 : tables_1[1212]? = some (.code (mY 203) (mC 203) (mL 203) (mR 203)) := rfl
set_option maxRecDepth 100000 in
theorem cd_204 : tables_1[1204]? = some (.code (mY 204) (mC 204) (mL 204) (mR 204)) := rfl
set_option maxRecDepth 100000 in
theorem cd_205 : tables_1[1220]? = some (.code (mY 205) (mC 205) (mL 205) (mR 205)) := rfl
set_option maxRecDepth 100000 in
theorem cd_206 : tables_1[1216]? = some (.code (mY 206) (mC 206) (mL 206) (mR 206)) := rfl
set_option maxRecDepth 100000 in
theorem cd_207 : tables_1[1228]? = some (.code (mY 207) (mC 207) (mL 207) (mR 207)) := rfl
set_option maxRecDepth 100000 in
theorem cd_208 : tables_1[1224]? = some (.code (mY 208) (mC 208) (mL 208) (mR 208)) := rfl
set_option maxRecDepth 100000 in
theorem cd_209 : tables_1[1236]? = some (.code (mY 209) (mC 209) (mL 209) (mR 209)) := rfl
set_option maxRecDepth 100000 in
theorem cd_210 : tables_1[1232]? = some (.code (mY 210) (mC 210) (mL 210) (mR 210)) := rfl
set_option maxRecDepth 100000 in
theorem cd_211 : tables_1[1244]? = some (.code (mY 211) (mC 211) (mL 211) (mR 211)) := rfl
set_option maxRecDepth 100000 in
theorem cd_212 : tables_1[1248]? = some (.code (mY 212) (mC 212) (mL 212) (mR 212)) := rfl
set_option maxRecDepth 100000 in
theorem cd_213 : tables_1[1252]? = some (.code (mY 213) (mC 213) (mL 213) (mR 213)) := rfl
set_option maxRecDepth 100000 in
theorem cd_214 : tables_1[1240]? = some (.code (mY 214) (mC 214) (mL 214) (mR 214)) := rfl
set_option maxRecDepth 100000 in
theorem cd_215 : tables_1[1256]? = some (.code (mY 215) (mC 215) (mL 215) (mR 215)) := rfl
set_option maxRecDepth 100000 in
theorem cd_216 : tables_1[1261]? = some (.code (mY 216) (mC 216) (mL 216) (mR 216)) := rfl
set_option maxRecDepth 100000 in
theorem cd_217 : tables_1[1265]? = some (.code (mY 217) (mC 217) (mL 217) (mR 217)) := rfl
set_option maxRecDepth 100000 in
theorem cd_218 : tables_1[1278]? = some (.code (mY 218) (mC 218) (mL 218) (mR 218)) := rfl
set_option maxRecDepth 100000 in
theorem cd_219 : tables_1[1274]? = some (.code (mY 219) (mC 219) (mL 219) (mR 219)) := rfl
set_option maxRecDepth 100000 in
theorem cd_220 : tables_1[1287]? = some (.code (mY 220) (mC 220) (mL 220) (mR 220)) := rfl
set_option maxRecDepth 100000 in
theorem cd_221 : tables_1[1292]? = some (.code (mY 221) (mC 221) (mL 221) (mR 221)) := rfl
set_option maxRecDepth 100000 in
theorem cd_222 : tables_1[1282]? = some (.code (mY 222) (mC 222) (mL 222) (mR 222)) := rfl
set_option maxRecDepth 100000 in
theorem cd_223 : tables_1[455]? = some (.code (mY 223) (mC 223) (mL 223) (mR 223)) := rfl
set_option maxRecDepth 100000 in
theorem cd_224 : tables_1[424]? = some (.code (mY 224) (mC 224) (mL 224) (mR 224)) := rfl
set_option maxRecDepth 100000 in
theorem cd_225 : tables_1[497]? = some (.code (mY 225) (mC 225) (mL 225) (mR 225)) := rfl
set_option maxRecDepth 100000 in
theorem cd_226 : tables_1[253]? = some (.code (mY 226) (mC 226) (mL 226) (mR 226)) := rfl
set_option maxRecDepth 100000 in
theorem cd_227 : tables_1[31]? = some (.code (mY 227) (mC 227) (mL 227) (mR 227)) := rfl
set_option maxRecDepth 100000 in
theorem cd_228 : tables_1[250]? = some (.code (mY 228) (mC 228) (mL 228) (mR 228)) := rfl
set_option maxRecDepth 100000 in
theorem cd_229 : tables_1[326]? = some (.code (mY 229) (mC 229) (mL 229) (mR 229)) := rfl
theorem cd_in (u : Nat) (h : u < nM) : Cond.code (mY u) (mC u) (mL u) (mR u) ∈ gdT := by
  match u, h with
  | 0, _ => exact gd_in cd_0 rfl
  | 1, _ => exact gd_in cd_1 rfl
  | 2, _ => exact gd_in cd_2 rfl
  | 3, _ => exact gd_in cd_3 rfl
  | 4, _ => exact gd_in cd_4 rfl
  | 5, _ => exact gd_in cd_5 rfl
  | 6, _ => exact gd_in cd_6 rfl
  | 7, _ => exact gd_in cd_7 rfl
  | 8, _ => exact gd_in cd_8 rfl
  | 9, _ => exact gd_in cd_9 rfl
  | 10, _ => exact gd_in cd_10 rfl
  | 11, _ => exact gd_in cd_11 rfl
  | 12, _ => exact gd_in cd_12 rfl
  | 13, _ => exact gd_in cd_13 rfl
  | 14, _ => exact gd_in cd_14 rfl
  | 15, _ => exact gd_in cd_15 rfl
  | 16, _ => exact gd_in cd_16 rfl
  | 17, _ => exact gd_in cd_17 rfl
  | 18, _ => exact gd_in cd_18 rfl
  | 19, _ => exact gd_in cd_19 rfl
  | 20, _ => exact gd_in cd_20 rfl
  | 21, _ => exact gd_in cd_21 rfl
  | 22, _ => exact gd_in cd_22 rfl
  | 23, _ => exact gd_in cd_23 rfl
  | 24, _ => exact gd_in cd_24 rfl
  | 25, _ => exact gd_in cd_25 rfl
  | 26, _ => exact gd_in cd_26 rfl
  | 27, _ => exact gd_in cd_27 rfl
  | 28, _ => exact gd_in cd_28 rfl
  | 29, _ => exact gd_in cd_29 rfl
  | 30, _ => exact gd_in cd_30 rfl
  | 31, _ => exact gd_in cd_31 rfl
  | 32, _ => exact gd_in cd_32 rfl
  | 33, _ => exact gd_in cd_33 rfl
  | 34, _ => exact gd_in cd_34 rfl
  | 35, _ => exact gd_in cd_35 rfl
  | 36, _ => exact gd_in cd_36 rfl
  | 37, _ => exact gd_in cd_37 rfl
  | 38, _ => exact gd_in cd_38 rfl
  | 39, _ => exact gd_in cd_39 rfl
  | 40, _ => exact gd_in cd_40 rfl
  | 41, _ => exact gd_in cd_41 rfl
  | 42, _ => exact gd_in cd_42 rfl
  | 43, _ => exact gd_in cd_43 rfl
  | 44, _ => exact gd_in cd_44 rfl
  | 45, _ => exact gd_in cd_45 rfl
  | 46, _ => exact gd_in cd_46 rfl
  | 47, _ => exact gd_in cd_47 rfl
  | 48, _ => exact gd_in cd_48 rfl
  | 49, _ => exact gd_in cd_49 rfl
  | 50, _ => exact gd_in cd_50 rfl
  | 51, _ => exact gd_in cd_51 rfl
  | 52, _ => exact gd_in cd_52 rfl
  | 53, _ => exact gd_in cd_53 rfl
  | 54, _ => exact gd_in cd_54 rfl
  | 55, _ => exact gd_in cd_55 rfl
  | 56, _ => exact gd_in cd_56 rfl
  | 57, _ => exact gd_in cd_57 rfl
  | 58, _ => exact gd_in cd_58 rfl
  | 59, _ => exact gd_in cd_59 rfl
  | 60, _ => exact gd_in cd_60 rfl
  | 61, _ => exact gd_in cd_61 rfl
  | 62, _ => exact gd_in cd_62 rfl
  | 63, _ => exact gd_in cd_63 rfl
  | 64, _ => exact gd_in cd_64 rfl
  | 65, _ => exact gd_in cd_65 rfl
  | 66, _ => exact gd_in cd_66 rfl
  | 67, _ => exact gd_in cd_67 rfl
  | 68, _ => exact gd_in cd_68 rfl
  | 69, _ => exact gd_in cd_69 rfl
  | 70, _ => exact gd_in cd_70 rfl
  | 71, _ => exact gd_in cd_71 rfl
  | 72, _ => exact gd_in cd_72 rfl
  | 73, _ => exact gd_in cd_73 rfl
  | 74, _ => exact gd_in cd_74 rfl
  | 75, _ => exact gd_in cd_75 rfl
  | 76, _ => exact gd_in cd_76 rfl
  | 77, _ => exact gd_in cd_77 rfl
  | 78, _ => exact gd_in cd_78 rfl
  | 79, _ => exact gd_in cd_79 rfl
  | 80, _ => exact gd_in cd_80 rfl
  | 81, _ => exact gd_in cd_81 rfl
  | 82, _ => exact gd_in cd_82 rfl
  | 83, _ => exact gd_in cd_83 rfl
  | 84, _ => exact gd_in cd_84 rfl
  | 85, _ => exact gd_in cd_85 rfl
  | 86, _ => exact gd_in cd_86 rfl
  | 87, _ => exact gd_in cd_87 rfl
  | 88, _ => exact gd_in cd_88 rfl
  | 89, _ => exact gd_in cd_89 rfl
  | 90, _ => exact gd_in cd_90 rfl
  | 91, _ => exact gd_in cd_91 rfl
  | 92, _ => exact gd_in cd_92 rfl
  | 93, _ => exact gd_in cd_93 rfl
  | 94, _ => exact gd_in cd_94 rfl
  | 95, _ => exact gd_in cd_95 rfl
  | 96, _ => exact gd_in cd_96 rfl
  | 97, _ => exact gd_in cd_97 rfl
  | 98, _ => exact gd_in cd_98 rfl
  | 99, _ => exact gd_in cd_99 rfl
  | 100, _ => exact gd_in cd_100 rfl
  | 101, _ => exact gd_in cd_101 rfl
  | 102, _ => exact gd_in cd_102 rfl
  | 103, _ => exact gd_in cd_103 rfl
  | 104, _ => exact gd_in cd_104 rfl
  | 105, _ => exact gd_in cd_105 rfl
  | 106, _ => exact gd_in cd_106 rfl
  | 107, _ => exact gd_in cd_107 rfl
  | 108, _ => exact gd_in cd_108 rfl
  | 109, _ => exact gd_in cd_109 rfl
  | 110, _ => exact gd_in cd_110 rfl
  | 111, _ => exact gd_in cd_111 rfl
  | 112, _ => exact gd_in cd_112 rfl
  | 113, _ => exact gd_in cd_113 rfl
  | 114, _ => exact gd_in cd_114 rfl
  | 115, _ => exact gd_in cd_115 rfl
  | 116, _ => exact gd_in cd_116 rfl
  | 117, _ => exact gd_in cd_117 rfl
  | 118, _ => exact gd_in cd_118 rfl
  | 119, _ => exact gd_in cd_119 rfl
  | 120, _ => exact gd_in cd_120 rfl
  | 121, _ => exact gd_in cd_121 rfl
  | 122, _ => exact gd_in cd_122 rfl
  | 123, _ => exact gd_in cd_123 rfl
  | 124, _ => exact gd_in cd_124 rfl
  | 125, _ => exact gd_in cd_125 rfl
  | 126, _ => exact gd_in cd_126 rfl
  | 127, _ => exact gd_in cd_127 rfl
  | 128, _ => exact gd_in cd_128 rfl
  | 129, _ => exact gd_in cd_129 rfl
  | 130, _ => exact gd_in cd_130 rfl
  | 131, _ => exact gd_in cd_131 rfl
  | 132, _ => exact gd_in cd_132 rfl
  | 133, _ => exact gd_in cd_133 rfl
  | 134, _ => exact gd_in cd_134 rfl
  | 135, _ => exact gd_in cd_135 rfl
  | 136, _ => exact gd_in cd_136 rfl
  | 137, _ => exact gd_in cd_137 rfl
  | 138, _ => exact gd_in cd_138 rfl
  | 139, _ => exact gd_in cd_139 rfl
  | 140, _ => exact gd_in cd_140 rfl
  | 141, _ => exact gd_in cd_141 rfl
  | 142, _ => exact gd_in cd_142 rfl
  | 143, _ => exact gd_in cd_143 rfl
  | 144, _ => exact gd_in cd_144 rfl
  | 145, _ => exact gd_in cd_145 rfl
  | 146, _ => exact gd_in cd_146 rfl
  | 147, _ => exact gd_in cd_147 rfl
  | 148, _ => exact gd_in cd_148 rfl
  | 149, _ => exact gd_in cd_149 rfl
  | 150, _ => exact gd_in cd_150 rfl
  | 151, _ => exact gd_in cd_151 rfl
  | 152, _ => exact gd_in cd_152 rfl
  | 153, _ => exact gd_in cd_153 rfl
  | 154, _ => exact gd_in cd_154 rfl
  | 155, _ => exact gd_in cd_155 rfl
  | 156, _ => exact gd_in cd_156 rfl
  | 157, _ => exact gd_in cd_157 rfl
  | 158, _ => exact gd_in cd_158 rfl
  | 159, _ => exact gd_in cd_159 rfl
  | 160, _ => exact gd_in cd_160 rfl
  | 161, _ => exact gd_in cd_161 rfl
  | 162, _ => exact gd_in cd_162 rfl
  | 163, _ => exact gd_in cd_163 rfl
  | 164, _ => exact gd_in cd_164 rfl
  | 165, _ => exact gd_in cd_165 rfl
  | 166, _ => exact gd_in cd_166 rfl
  | 167, _ => exact gd_in cd_167 rfl
  | 168, _ => exact gd_in cd_168 rfl
  | 169, _ => exact gd_in cd_169 rfl
  | 170, _ => exact gd_in cd_170 rfl
  | 171, _ => exact gd_in cd_171 rfl
  | 172, _ => exact gd_in cd_172 rfl
  | 173, _ => exact gd_in cd_173 rfl
  | 174, _ => exact gd_in cd_174 rfl
  | 175, _ => exact gd_in cd_175 rfl
  | 176, _ => exact gd_in cd_176 rfl
  | 177, _ => exact gd_in cd_177 rfl
  | 178, _ => exact gd_in cd_178 rfl
  | 179, _ => exact gd_in cd_179 rfl
  | 180, _ => exact gd_in cd_180 rfl
  | 181, _ => exact gd_in cd_181 rfl
  | 182, _ => exact gd_in cd_182 rfl
  | 183, _ => exact gd_in cd_183 rfl
  | 184, _ => exact gd_in cd_184 rfl
  | 185, _ => exact gd_in cd_185 rfl
  | 186, _ => exact gd_in cd_186 rfl
  | 187, _ => exact gd_in cd_187 rfl
  | 188, _ => exact gd_in cd_188 rfl
  | 189, _ => exact gd_in cd_189 rfl
  | 190, _ => exact gd_in cd_190 rfl
  | 191, _ => exact gd_in cd_191 rfl
  | 192, _ => exact gd_in cd_192 rfl
  | 193, _ => exact gd_in cd_193 rfl
  | 194, _ => exact gd_in cd_194 rfl
  | 195, _ => exact gd_in cd_195 rfl
  | 196, _ => exact gd_in cd_196 rfl
  | 197, _ => exact gd_in cd_197 rfl
  | 198, _ => exact gd_in cd_198 rfl
  | 199, _ => exact gd_in cd_199 rfl
  | 200, _ => exact gd_in cd_200 rfl
  | 201, _ => exact gd_in cd_201 rfl
  | 202, _ => exact gd_in cd_202 rfl
  | 203, _ => exact gd_in cd_203 rfl
  | 204, _ => exact gd_in cd_204 rfl
  | 205, _ => exact gd_in cd_205 rfl
  | 206, _ => exact gd_in cd_206 rfl
  | 207, _ => exact gd_in cd_207 rfl
  | 208, _ => exact gd_in cd_208 rfl
  | 209, _ => exact gd_in cd_209 rfl
  | 210, _ => exact gd_in cd_210 rfl
  | 211, _ => exact gd_in cd_211 rfl
  | 212, _ => exact gd_in cd_212 rfl
  | 213, _ => exact gd_in cd_213 rfl
  | 214, _ => exact gd_in cd_214 rfl
  | 215, _ => exact gd_in cd_215 rfl
  | 216, _ => exact gd_in cd_216 rfl
  | 217, _ => exact gd_in cd_217 rfl
  | 218, _ => exact gd_in cd_218 rfl
  | 219, _ => exact gd_in cd_219 rfl
  | 220, _ => exact gd_in cd_220 rfl
  | 221, _ => exact gd_in cd_221 rfl
  | 222, _ => exact gd_in cd_222 rfl
  | 223, _ => exact gd_in cd_223 rfl
  | 224, _ => exact gd_in cd_224 rfl
  | 225, _ => exact gd_in cd_225 rfl
  | 226, _ => exact gd_in cd_226 rfl
  | 227, _ => exact gd_in cd_227 rfl
  | 228, _ => exact gd_in cd_228 rfl
  | 229, _ => exact gd_in cd_229 rfl
  | u + 230, h => exact absurd h (by unfold nM; omega)
