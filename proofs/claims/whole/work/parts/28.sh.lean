/-! printed by wip/gen3.py: the shapes of the world behind the two constructors (places as the constructors make them) -/
abbrev modelS : sh_T := fun f g _ => .inr (6, [.ref 66, .ref 67, .ref 68, .ref 69, .ref 70, .ref 71, .ref 72, .ref 73, .ref 74, .int (f 9), .ref 75, .ref 76, .ref 77, .ref 78, .ref 79, .ref 80, .ref 81, .ref 82, .ref 83, .int (f 19), .ref 84, .ref 85, .int (f 22), .int (f 23), .int (f 24), .ref 86, .ref 87, .ref 88, .ref 89, .ref 90, .long (g 30), .int (f 31), .int (f 32), .ref 91, .ref 92, .ref 93, .ref 94, .ref 95, .int (f 38), .int (f 39), .ref 96, .ref 97, .ref 98, .ref 99, .ref 100, .ref 101, .ref 102, .ref 103, .ref 104, .ref 105, .ref 106, .ref 107, .ref 108, .int (f 53), .int (f 54), .int (f 55), .int (f 56), .ref 109, .int (f 58), .int (f 59), .ref 110, .int (f 61), .ref 111, .ref 112, .ref 113])
def sh0 : List sh_T := [deskS 1 4 7 8 13 28 43 44, notesS 2 3, arrI 100, arrI 6, shelfS 1 5 6, arrW 16, arrI 16, arrG 4, tableS 9 10 11 12, arrI 42, arrZ 42, arrI 42,
  arrI 42, searchS 1 4 14 19 20 21 22 23 24 25 26 27, tableS 15 16 17 18, arrI 42, arrZ 42, arrI 42, arrI 42, arrL 1680, arrI 42, arrI 40, arrI 42, arrI 49,
  arrI 42, arrL 42, arrL 42, arrL 42, searchS 1 4 29 34 35 36 37 38 39 40 41 42, tableS 30 31 32 33, arrI 42, arrZ 42, arrI 42, arrI 42, arrL 1680, arrI 42,
  arrI 40, arrI 42, arrI 49, arrI 42, arrL 42, arrL 42, arrL 42, arrL 126, arrI 4, gridS 46 47 48 49, arrI 49, arrI 7,
  arrI 49, arrI 49, gridS 51 52 53 54, arrI 49, arrI 7, arrI 49, arrI 49, gridS 56 57 58 59, arrI 49, arrI 7, arrI 49, arrI 49,
  gridS 61 62 63 64, arrI 49, arrI 7, arrI 49, arrI 49, modelS, arrZ 4, arrI 4, arrI 4, arrI 28, arrI 196, arrZ 196,
  arrZ 196, arrI 4, arrI 4, arrI 16, arrI 16, arrI 16, arrL 16, arrI 16, arrZ 16, arrI 16, arrL 640, arrI 640,
  arrI 6, arrI 100, arrI 40, arrI 40, arrL 40, arrI 40, arrL 40, arrI 48, arrI 48, arrZ 48, arrI 48, arrI 48,
  arrI 2, arrI 2, arrI 2, arrL 3840, arrI 3840, arrI 96, arrI 96, arrI 96, arrL 96, arrI 96, arrI 98, arrI 672,
  arrI 96, arrL 144, arrI 49, arrI 49, arrZ 49, arrZ 49]
theorem s_0 (dy : List sh_T) : (sh0 ++ dy)[0]? = some (deskS 1 4 7 8 13 28 43 44) := rfl
theorem s_1 (dy : List sh_T) : (sh0 ++ dy)[1]? = some (notesS 2 3) := rfl
theorem s_2 (dy : List sh_T) : (sh0 ++ dy)[2]? = some (arrI 100) := rfl
theorem s_3 (dy : List sh_T) : (sh0 ++ dy)[3]? = some (arrI 6) := rfl
theorem s_4 (dy : List sh_T) : (sh0 ++ dy)[4]? = some (shelfS 1 5 6) := rfl
theorem s_5 (dy : List sh_T) : (sh0 ++ dy)[5]? = some (arrW 16) := rfl
theorem s_6 (dy : List sh_T) : (sh0 ++ dy)[6]? = some (arrI 16) := rfl
theorem s_7 (dy : List sh_T) : (sh0 ++ dy)[7]? = some (arrG 4) := rfl
theorem s_8 (dy : List sh_T) : (sh0 ++ dy)[8]? = some (tableS 9 10 11 12) := rfl
theorem s_9 (dy : List sh_T) : (sh0 ++ dy)[9]? = some (arrI 42) := rfl
theorem s_10 (dy : List sh_T) : (sh0 ++ dy)[10]? = some (arrZ 42) := rfl
theorem s_11 (dy : List sh_T) : (sh0 ++ dy)[11]? = some (arrI 42) := rfl
theorem s_12 (dy : List sh_T) : (sh0 ++ dy)[12]? = some (arrI 42) := rfl
theorem s_13 (dy : List sh_T) : (sh0 ++ dy)[13]? = some (searchS 1 4 14 19 20 21 22 23 24 25 26 27) := rfl
theorem s_14 (dy : List sh_T) : (sh0 ++ dy)[14]? = some (tableS 15 16 17 18) := rfl
theorem s_15 (dy : List sh_T) : (sh0 ++ dy)[15]? = some (arrI 42) := rfl
theorem s_16 (dy : List sh_T) : (sh0 ++ dy)[16]? = some (arrZ 42) := rfl
theorem s_17 (dy : List sh_T) : (sh0 ++ dy)[17]? = some (arrI 42) := rfl
theorem s_18 (dy : List sh_T) : (sh0 ++ dy)[18]? = some (arrI 42) := rfl
theorem s_19 (dy : List sh_T) : (sh0 ++ dy)[19]? = some (arrL 1680) := rfl
theorem s_20 (dy : List sh_T) : (sh0 ++ dy)[20]? = some (arrI 42) := rfl
theorem s_21 (dy : List sh_T) : (sh0 ++ dy)[21]? = some (arrI 40) := rfl
theorem s_22 (dy : List sh_T) : (sh0 ++ dy)[22]? = some (arrI 42) := rfl
theorem s_23 (dy : List sh_T) : (sh0 ++ dy)[23]? = some (arrI 49) := rfl
theorem s_24 (dy : List sh_T) : (sh0 ++ dy)[24]? = some (arrI 42) := rfl
theorem s_25 (dy : List sh_T) : (sh0 ++ dy)[25]? = some (arrL 42) := rfl
theorem s_26 (dy : List sh_T) : (sh0 ++ dy)[26]? = some (arrL 42) := rfl
theorem s_27 (dy : List sh_T) : (sh0 ++ dy)[27]? = some (arrL 42) := rfl
theorem s_28 (dy : List sh_T) : (sh0 ++ dy)[28]? = some (searchS 1 4 29 34 35 36 37 38 39 40 41 42) := rfl
theorem s_29 (dy : List sh_T) : (sh0 ++ dy)[29]? = some (tableS 30 31 32 33) := rfl
theorem s_30 (dy : List sh_T) : (sh0 ++ dy)[30]? = some (arrI 42) := rfl
theorem s_31 (dy : List sh_T) : (sh0 ++ dy)[31]? = some (arrZ 42) := rfl
theorem s_32 (dy : List sh_T) : (sh0 ++ dy)[32]? = some (arrI 42) := rfl
theorem s_33 (dy : List sh_T) : (sh0 ++ dy)[33]? = some (arrI 42) := rfl
theorem s_34 (dy : List sh_T) : (sh0 ++ dy)[34]? = some (arrL 1680) := rfl
theorem s_35 (dy : List sh_T) : (sh0 ++ dy)[35]? = some (arrI 42) := rfl
theorem s_36 (dy : List sh_T) : (sh0 ++ dy)[36]? = some (arrI 40) := rfl
theorem s_37 (dy : List sh_T) : (sh0 ++ dy)[37]? = some (arrI 42) := rfl
theorem s_38 (dy : List sh_T) : (sh0 ++ dy)[38]? = some (arrI 49) := rfl
theorem s_39 (dy : List sh_T) : (sh0 ++ dy)[39]? = some (arrI 42) := rfl
theorem s_40 (dy : List sh_T) : (sh0 ++ dy)[40]? = some (arrL 42) := rfl
theorem s_41 (dy : List sh_T) : (sh0 ++ dy)[41]? = some (arrL 42) := rfl
theorem s_42 (dy : List sh_T) : (sh0 ++ dy)[42]? = some (arrL 42) := rfl
theorem s_43 (dy : List sh_T) : (sh0 ++ dy)[43]? = some (arrL 126) := rfl
theorem s_44 (dy : List sh_T) : (sh0 ++ dy)[44]? = some (arrI 4) := rfl
theorem s_45 (dy : List sh_T) : (sh0 ++ dy)[45]? = some (gridS 46 47 48 49) := rfl
theorem s_46 (dy : List sh_T) : (sh0 ++ dy)[46]? = some (arrI 49) := rfl
theorem s_47 (dy : List sh_T) : (sh0 ++ dy)[47]? = some (arrI 7) := rfl
theorem s_48 (dy : List sh_T) : (sh0 ++ dy)[48]? = some (arrI 49) := rfl
theorem s_49 (dy : List sh_T) : (sh0 ++ dy)[49]? = some (arrI 49) := rfl
theorem s_50 (dy : List sh_T) : (sh0 ++ dy)[50]? = some (gridS 51 52 53 54) := rfl
theorem s_51 (dy : List sh_T) : (sh0 ++ dy)[51]? = some (arrI 49) := rfl
theorem s_52 (dy : List sh_T) : (sh0 ++ dy)[52]? = some (arrI 7) := rfl
theorem s_53 (dy : List sh_T) : (sh0 ++ dy)[53]? = some (arrI 49) := rfl
theorem s_54 (dy : List sh_T) : (sh0 ++ dy)[54]? = some (arrI 49) := rfl
theorem s_55 (dy : List sh_T) : (sh0 ++ dy)[55]? = some (gridS 56 57 58 59) := rfl
theorem s_56 (dy : List sh_T) : (sh0 ++ dy)[56]? = some (arrI 49) := rfl
theorem s_57 (dy : List sh_T) : (sh0 ++ dy)[57]? = some (arrI 7) := rfl
theorem s_58 (dy : List sh_T) : (sh0 ++ dy)[58]? = some (arrI 49) := rfl
theorem s_59 (dy : List sh_T) : (sh0 ++ dy)[59]? = some (arrI 49) := rfl
theorem s_60 (dy : List sh_T) : (sh0 ++ dy)[60]? = some (gridS 61 62 63 64) := rfl
theorem s_61 (dy : List sh_T) : (sh0 ++ dy)[61]? = some (arrI 49) := rfl
theorem s_62 (dy : List sh_T) : (sh0 ++ dy)[62]? = some (arrI 7) := rfl
theorem s_63 (dy : List sh_T) : (sh0 ++ dy)[63]? = some (arrI 49) := rfl
theorem s_64 (dy : List sh_T) : (sh0 ++ dy)[64]? = some (arrI 49) := rfl
theorem s_65 (dy : List sh_T) : (sh0 ++ dy)[65]? = some (modelS) := rfl
theorem s_66 (dy : List sh_T) : (sh0 ++ dy)[66]? = some (arrZ 4) := rfl
theorem s_67 (dy : List sh_T) : (sh0 ++ dy)[67]? = some (arrI 4) := rfl
theorem s_68 (dy : List sh_T) : (sh0 ++ dy)[68]? = some (arrI 4) := rfl
theorem s_69 (dy : List sh_T) : (sh0 ++ dy)[69]? = some (arrI 28) := rfl
theorem s_70 (dy : List sh_T) : (sh0 ++ dy)[70]? = some (arrI 196) := rfl
theorem s_71 (dy : List sh_T) : (sh0 ++ dy)[71]? = some (arrZ 196) := rfl
theorem s_72 (dy : List sh_T) : (sh0 ++ dy)[72]? = some (arrZ 196) := rfl
theorem s_73 (dy : List sh_T) : (sh0 ++ dy)[73]? = some (arrI 4) := rfl
theorem s_74 (dy : List sh_T) : (sh0 ++ dy)[74]? = some (arrI 4) := rfl
theorem s_75 (dy : List sh_T) : (sh0 ++ dy)[75]? = some (arrI 16) := rfl
theorem s_76 (dy : List sh_T) : (sh0 ++ dy)[76]? = some (arrI 16) := rfl
theorem s_77 (dy : List sh_T) : (sh0 ++ dy)[77]? = some (arrI 16) := rfl
theorem s_78 (dy : List sh_T) : (sh0 ++ dy)[78]? = some (arrL 16) := rfl
theorem s_79 (dy : List sh_T) : (sh0 ++ dy)[79]? = some (arrI 16) := rfl
theorem s_80 (dy : List sh_T) : (sh0 ++ dy)[80]? = some (arrZ 16) := rfl
theorem s_81 (dy : List sh_T) : (sh0 ++ dy)[81]? = some (arrI 16) := rfl
theorem s_82 (dy : List sh_T) : (sh0 ++ dy)[82]? = some (arrL 640) := rfl
theorem s_83 (dy : List sh_T) : (sh0 ++ dy)[83]? = some (arrI 640) := rfl
theorem s_84 (dy : List sh_T) : (sh0 ++ dy)[84]? = some (arrI 6) := rfl
theorem s_85 (dy : List sh_T) : (sh0 ++ dy)[85]? = some (arrI 100) := rfl
theorem s_86 (dy : List sh_T) : (sh0 ++ dy)[86]? = some (arrI 40) := rfl
theorem s_87 (dy : List sh_T) : (sh0 ++ dy)[87]? = some (arrI 40) := rfl
theorem s_88 (dy : List sh_T) : (sh0 ++ dy)[88]? = some (arrL 40) := rfl
theorem s_89 (dy : List sh_T) : (sh0 ++ dy)[89]? = some (arrI 40) := rfl
theorem s_90 (dy : List sh_T) : (sh0 ++ dy)[90]? = some (arrL 40) := rfl
theorem s_91 (dy : List sh_T) : (sh0 ++ dy)[91]? = some (arrI 48) := rfl
theorem s_92 (dy : List sh_T) : (sh0 ++ dy)[92]? = some (arrI 48) := rfl
theorem s_93 (dy : List sh_T) : (sh0 ++ dy)[93]? = some (arrZ 48) := rfl
theorem s_94 (dy : List sh_T) : (sh0 ++ dy)[94]? = some (arrI 48) := rfl
theorem s_95 (dy : List sh_T) : (sh0 ++ dy)[95]? = some (arrI 48) := rfl
theorem s_96 (dy : List sh_T) : (sh0 ++ dy)[96]? = some (arrI 2) := rfl
theorem s_97 (dy : List sh_T) : (sh0 ++ dy)[97]? = some (arrI 2) := rfl
theorem s_98 (dy : List sh_T) : (sh0 ++ dy)[98]? = some (arrI 2) := rfl
theorem s_99 (dy : List sh_T) : (sh0 ++ dy)[99]? = some (arrL 3840) := rfl
theorem s_100 (dy : List sh_T) : (sh0 ++ dy)[100]? = some (arrI 3840) := rfl
theorem s_101 (dy : List sh_T) : (sh0 ++ dy)[101]? = some (arrI 96) := rfl
theorem s_102 (dy : List sh_T) : (sh0 ++ dy)[102]? = some (arrI 96) := rfl
theorem s_103 (dy : List sh_T) : (sh0 ++ dy)[103]? = some (arrI 96) := rfl
theorem s_104 (dy : List sh_T) : (sh0 ++ dy)[104]? = some (arrL 96) := rfl
theorem s_105 (dy : List sh_T) : (sh0 ++ dy)[105]? = some (arrI 96) := rfl
theorem s_106 (dy : List sh_T) : (sh0 ++ dy)[106]? = some (arrI 98) := rfl
theorem s_107 (dy : List sh_T) : (sh0 ++ dy)[107]? = some (arrI 672) := rfl
theorem s_108 (dy : List sh_T) : (sh0 ++ dy)[108]? = some (arrI 96) := rfl
theorem s_109 (dy : List sh_T) : (sh0 ++ dy)[109]? = some (arrL 144) := rfl
theorem s_110 (dy : List sh_T) : (sh0 ++ dy)[110]? = some (arrI 49) := rfl
theorem s_111 (dy : List sh_T) : (sh0 ++ dy)[111]? = some (arrI 49) := rfl
theorem s_112 (dy : List sh_T) : (sh0 ++ dy)[112]? = some (arrZ 49) := rfl
theorem s_113 (dy : List sh_T) : (sh0 ++ dy)[113]? = some (arrZ 49) := rfl
theorem sh0_len : sh0.length = 114 := rfl
theorem gsh_at (dy : List sh_T) : ∀ k, k < 4 → gSh (sh0 ++ dy) (45 + 5 * k) (46 + 5 * k) (47 + 5 * k) (48 + 5 * k) (49 + 5 * k) := by
  intro k hk
  rcases (show k = 0 ∨ k = 1 ∨ k = 2 ∨ k = 3 by omega) with rfl | rfl | rfl | rfl
  · exact ⟨rfl, rfl, rfl, rfl, rfl, by decide⟩
  · exact ⟨rfl, rfl, rfl, rfl, rfl, by decide⟩
  · exact ⟨rfl, rfl, rfl, rfl, rfl, by decide⟩
  · exact ⟨rfl, rfl, rfl, rfl, rfl, by decide⟩
