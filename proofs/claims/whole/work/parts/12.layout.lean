/-! ===== the memory as the two constructors lay it ===== -/
def gsh0 : List (Nat × Nat) := [(0, 14), (1, 10), (13, 12), (13, 12), (13, 5), (13, 6), (13, 6), (17, 6), (4, 4), (5, 1), (13, 51), (13, 10), (2, 10), (11, 4), (13, 16), (13, 16), (13, 16), (5, 1), (13, 51), (1, 10), (13, 12), (13, 12), (13, 5), (13, 6), (13, 6), (17, 6), (11, 4), (13, 16), (13, 16), (13, 16), (13, 29), (6, 13), (8, 4), (19, 12), (13, 625), (13, 625), (13, 625), (13, 625), (13, 625), (13, 625), (13, 625), (13, 625), (13, 625), (13, 625), (13, 625), (13, 625), (16, 12), (17, 12), (8, 4), (19, 12), (13, 625), (13, 625), (13, 625), (13, 625), (13, 625), (13, 625), (13, 625), (13, 625), (13, 625), (13, 625), (13, 625), (13, 625), (16, 12), (17, 12), (8, 4), (19, 12), (13, 625), (13, 625), (13, 625), (13, 625), (13, 625), (13, 625), (13, 625), (13, 625), (13, 625), (13, 625), (13, 625), (13, 625), (16, 12), (17, 12), (19, 12), (13, 25), (13, 25), (13, 25), (13, 25), (13, 25), (13, 25), (13, 25), (13, 25), (13, 25), (13, 25), (13, 25), (13, 25), (19, 12), (13, 25), (13, 25), (13, 25), (13, 25), (13, 25), (13, 25), (13, 25), (13, 25), (13, 25), (13, 25), (13, 25), (13, 25), (20, 12), (16, 25), (16, 25), (16, 25), (16, 25), (16, 25), (16, 25), (16, 25), (16, 25), (16, 25), (16, 25), (16, 25), (16, 25), (19, 12), (13, 25), (13, 25), (13, 25), (13, 25), (13, 25), (13, 25), (13, 25), (13, 25), (13, 25), (13, 25), (13, 25), (13, 25), (13, 12), (13, 12), (1, 10), (13, 12), (13, 12), (13, 5), (13, 6), (13, 6), (17, 6), (3, 3), (1, 10), (13, 12), (13, 12), (13, 5), (13, 6), (13, 6), (17, 6), (9, 2), (13, 400), (7, 9), (10, 8), (13, 12), (13, 12), (13, 37), (13, 400), (13, 400), (13, 400), (18, 2), (1, 10), (13, 12), (13, 12), (13, 5), (13, 6), (13, 6), (17, 6), (1, 10), (13, 12), (13, 12), (13, 5), (13, 6), (13, 6), (17, 6), (14, 2), (13, 6), (16, 20), (12, 51), (13, 7), (13, 5652), (13, 11304), (14, 2), (13, 50), (15, 137), (15, 400), (13, 5), (13, 401), (13, 401), (13, 401), (13, 10), (13, 416), (13, 416), (13, 7500), (13, 7500), (14, 7500), (13, 300), (16, 300), (13, 48), (16, 21), (16, 2), (13, 25)]
/-- what the constructors made stands at the front -/
def gFix (sh : gS) : Prop := ∀ (a : Nat) (s : Nat × Nat), gsh0[a]? = some s → sh[a]? = some s
theorem gFix.app {sh t : gS} (h : gFix sh) : gFix (sh ++ t) := fun a s e => by
  have h1 := h a s e
  rw [List.getElem?_append_left (List.getElem?_eq_some_iff.mp h1).1]
  exact h1
theorem sz_0 {sh : gS} (h : gFix sh) : gsz sh 0 0 14 := ⟨Int.ofNat_nonneg 0, h 0 _ rfl⟩
theorem sz_1 {sh : gS} (h : gFix sh) : gsz sh 1 1 10 := ⟨Int.ofNat_nonneg 1, h 1 _ rfl⟩
theorem sz_2 {sh : gS} (h : gFix sh) : gsz sh 2 13 12 := ⟨Int.ofNat_nonneg 2, h 2 _ rfl⟩
theorem sz_3 {sh : gS} (h : gFix sh) : gsz sh 3 13 12 := ⟨Int.ofNat_nonneg 3, h 3 _ rfl⟩
theorem sz_4 {sh : gS} (h : gFix sh) : gsz sh 4 13 5 := ⟨Int.ofNat_nonneg 4, h 4 _ rfl⟩
theorem sz_5 {sh : gS} (h : gFix sh) : gsz sh 5 13 6 := ⟨Int.ofNat_nonneg 5, h 5 _ rfl⟩
theorem sz_6 {sh : gS} (h : gFix sh) : gsz sh 6 13 6 := ⟨Int.ofNat_nonneg 6, h 6 _ rfl⟩
theorem sz_7 {sh : gS} (h : gFix sh) : gsz sh 7 17 6 := ⟨Int.ofNat_nonneg 7, h 7 _ rfl⟩
theorem sz_8 {sh : gS} (h : gFix sh) : gsz sh 8 4 4 := ⟨Int.ofNat_nonneg 8, h 8 _ rfl⟩
theorem sz_9 {sh : gS} (h : gFix sh) : gsz sh 9 5 1 := ⟨Int.ofNat_nonneg 9, h 9 _ rfl⟩
theorem sz_10 {sh : gS} (h : gFix sh) : gsz sh 10 13 51 := ⟨Int.ofNat_nonneg 10, h 10 _ rfl⟩
theorem sz_11 {sh : gS} (h : gFix sh) : gsz sh 11 13 10 := ⟨Int.ofNat_nonneg 11, h 11 _ rfl⟩
theorem sz_12 {sh : gS} (h : gFix sh) : gsz sh 12 2 10 := ⟨Int.ofNat_nonneg 12, h 12 _ rfl⟩
theorem sz_13 {sh : gS} (h : gFix sh) : gsz sh 13 11 4 := ⟨Int.ofNat_nonneg 13, h 13 _ rfl⟩
theorem sz_14 {sh : gS} (h : gFix sh) : gsz sh 14 13 16 := ⟨Int.ofNat_nonneg 14, h 14 _ rfl⟩
theorem sz_15 {sh : gS} (h : gFix sh) : gsz sh 15 13 16 := ⟨Int.ofNat_nonneg 15, h 15 _ rfl⟩
theorem sz_16 {sh : gS} (h : gFix sh) : gsz sh 16 13 16 := ⟨Int.ofNat_nonneg 16, h 16 _ rfl⟩
theorem sz_17 {sh : gS} (h : gFix sh) : gsz sh 17 5 1 := ⟨Int.ofNat_nonneg 17, h 17 _ rfl⟩
theorem sz_18 {sh : gS} (h : gFix sh) : gsz sh 18 13 51 := ⟨Int.ofNat_nonneg 18, h 18 _ rfl⟩
theorem sz_19 {sh : gS} (h : gFix sh) : gsz sh 19 1 10 := ⟨Int.ofNat_nonneg 19, h 19 _ rfl⟩
theorem sz_20 {sh : gS} (h : gFix sh) : gsz sh 20 13 12 := ⟨Int.ofNat_nonneg 20, h 20 _ rfl⟩
theorem sz_21 {sh : gS} (h : gFix sh) : gsz sh 21 13 12 := ⟨Int.ofNat_nonneg 21, h 21 _ rfl⟩
theorem sz_22 {sh : gS} (h : gFix sh) : gsz sh 22 13 5 := ⟨Int.ofNat_nonneg 22, h 22 _ rfl⟩
theorem sz_23 {sh : gS} (h : gFix sh) : gsz sh 23 13 6 := ⟨Int.ofNat_nonneg 23, h 23 _ rfl⟩
theorem sz_24 {sh : gS} (h : gFix sh) : gsz sh 24 13 6 := ⟨Int.ofNat_nonneg 24, h 24 _ rfl⟩
theorem sz_25 {sh : gS} (h : gFix sh) : gsz sh 25 17 6 := ⟨Int.ofNat_nonneg 25, h 25 _ rfl⟩
theorem sz_26 {sh : gS} (h : gFix sh) : gsz sh 26 11 4 := ⟨Int.ofNat_nonneg 26, h 26 _ rfl⟩
theorem sz_27 {sh : gS} (h : gFix sh) : gsz sh 27 13 16 := ⟨Int.ofNat_nonneg 27, h 27 _ rfl⟩
theorem sz_28 {sh : gS} (h : gFix sh) : gsz sh 28 13 16 := ⟨Int.ofNat_nonneg 28, h 28 _ rfl⟩
theorem sz_29 {sh : gS} (h : gFix sh) : gsz sh 29 13 16 := ⟨Int.ofNat_nonneg 29, h 29 _ rfl⟩
theorem sz_30 {sh : gS} (h : gFix sh) : gsz sh 30 13 29 := ⟨Int.ofNat_nonneg 30, h 30 _ rfl⟩
theorem sz_31 {sh : gS} (h : gFix sh) : gsz sh 31 6 13 := ⟨Int.ofNat_nonneg 31, h 31 _ rfl⟩
theorem sz_32 {sh : gS} (h : gFix sh) : gsz sh 32 8 4 := ⟨Int.ofNat_nonneg 32, h 32 _ rfl⟩
theorem sz_33 {sh : gS} (h : gFix sh) : gsz sh 33 19 12 := ⟨Int.ofNat_nonneg 33, h 33 _ rfl⟩
theorem sz_34 {sh : gS} (h : gFix sh) : gsz sh 34 13 625 := ⟨Int.ofNat_nonneg 34, h 34 _ rfl⟩
theorem sz_35 {sh : gS} (h : gFix sh) : gsz sh 35 13 625 := ⟨Int.ofNat_nonneg 35, h 35 _ rfl⟩
theorem sz_36 {sh : gS} (h : gFix sh) : gsz sh 36 13 625 := ⟨Int.ofNat_nonneg 36, h 36 _ rfl⟩
theorem sz_37 {sh : gS} (h : gFix sh) : gsz sh 37 13 625 := ⟨Int.ofNat_nonneg 37, h 37 _ rfl⟩
theorem sz_38 {sh : gS} (h : gFix sh) : gsz sh 38 13 625 := ⟨Int.ofNat_nonneg 38, h 38 _ rfl⟩
theorem sz_39 {sh : gS} (h : gFix sh) : gsz sh 39 13 625 := ⟨Int.ofNat_nonneg 39, h 39 _ rfl⟩
theorem sz_40 {sh : gS} (h : gFix sh) : gsz sh 40 13 625 := ⟨Int.ofNat_nonneg 40, h 40 _ rfl⟩
theorem sz_41 {sh : gS} (h : gFix sh) : gsz sh 41 13 625 := ⟨Int.ofNat_nonneg 41, h 41 _ rfl⟩
theorem sz_42 {sh : gS} (h : gFix sh) : gsz sh 42 13 625 := ⟨Int.ofNat_nonneg 42, h 42 _ rfl⟩
theorem sz_43 {sh : gS} (h : gFix sh) : gsz sh 43 13 625 := ⟨Int.ofNat_nonneg 43, h 43 _ rfl⟩
theorem sz_44 {sh : gS} (h : gFix sh) : gsz sh 44 13 625 := ⟨Int.ofNat_nonneg 44, h 44 _ rfl⟩
theorem sz_45 {sh : gS} (h : gFix sh) : gsz sh 45 13 625 := ⟨Int.ofNat_nonneg 45, h 45 _ rfl⟩
theorem sz_46 {sh : gS} (h : gFix sh) : gsz sh 46 16 12 := ⟨Int.ofNat_nonneg 46, h 46 _ rfl⟩
theorem sz_47 {sh : gS} (h : gFix sh) : gsz sh 47 17 12 := ⟨Int.ofNat_nonneg 47, h 47 _ rfl⟩
theorem sz_48 {sh : gS} (h : gFix sh) : gsz sh 48 8 4 := ⟨Int.ofNat_nonneg 48, h 48 _ rfl⟩
theorem sz_49 {sh : gS} (h : gFix sh) : gsz sh 49 19 12 := ⟨Int.ofNat_nonneg 49, h 49 _ rfl⟩
theorem sz_50 {sh : gS} (h : gFix sh) : gsz sh 50 13 625 := ⟨Int.ofNat_nonneg 50, h 50 _ rfl⟩
theorem sz_51 {sh : gS} (h : gFix sh) : gsz sh 51 13 625 := ⟨Int.ofNat_nonneg 51, h 51 _ rfl⟩
theorem sz_52 {sh : gS} (h : gFix sh) : gsz sh 52 13 625 := ⟨Int.ofNat_nonneg 52, h 52 _ rfl⟩
theorem sz_53 {sh : gS} (h : gFix sh) : gsz sh 53 13 625 := ⟨Int.ofNat_nonneg 53, h 53 _ rfl⟩
theorem sz_54 {sh : gS} (h : gFix sh) : gsz sh 54 13 625 := ⟨Int.ofNat_nonneg 54, h 54 _ rfl⟩
theorem sz_55 {sh : gS} (h : gFix sh) : gsz sh 55 13 625 := ⟨Int.ofNat_nonneg 55, h 55 _ rfl⟩
theorem sz_56 {sh : gS} (h : gFix sh) : gsz sh 56 13 625 := ⟨Int.ofNat_nonneg 56, h 56 _ rfl⟩
theorem sz_57 {sh : gS} (h : gFix sh) : gsz sh 57 13 625 := ⟨Int.ofNat_nonneg 57, h 57 _ rfl⟩
theorem sz_58 {sh : gS} (h : gFix sh) : gsz sh 58 13 625 := ⟨Int.ofNat_nonneg 58, h 58 _ rfl⟩
theorem sz_59 {sh : gS} (h : gFix sh) : gsz sh 59 13 625 := ⟨Int.ofNat_nonneg 59, h 59 _ rfl⟩
theorem sz_60 {sh : gS} (h : gFix sh) : gsz sh 60 13 625 := ⟨Int.ofNat_nonneg 60, h 60 _ rfl⟩
theorem sz_61 {sh : gS} (h : gFix sh) : gsz sh 61 13 625 := ⟨Int.ofNat_nonneg 61, h 61 _ rfl⟩
theorem sz_62 {sh : gS} (h : gFix sh) : gsz sh 62 16 12 := ⟨Int.ofNat_nonneg 62, h 62 _ rfl⟩
theorem sz_63 {sh : gS} (h : gFix sh) : gsz sh 63 17 12 := ⟨Int.ofNat_nonneg 63, h 63 _ rfl⟩
theorem sz_64 {sh : gS} (h : gFix sh) : gsz sh 64 8 4 := ⟨Int.ofNat_nonneg 64, h 64 _ rfl⟩
theorem sz_65 {sh : gS} (h : gFix sh) : gsz sh 65 19 12 := ⟨Int.ofNat_nonneg 65, h 65 _ rfl⟩
theorem sz_66 {sh : gS} (h : gFix sh) : gsz sh 66 13 625 := ⟨Int.ofNat_nonneg 66, h 66 _ rfl⟩
theorem sz_67 {sh : gS} (h : gFix sh) : gsz sh 67 13 625 := ⟨Int.ofNat_nonneg 67, h 67 _ rfl⟩
theorem sz_68 {sh : gS} (h : gFix sh) : gsz sh 68 13 625 := ⟨Int.ofNat_nonneg 68, h 68 _ rfl⟩
theorem sz_69 {sh : gS} (h : gFix sh) : gsz sh 69 13 625 := ⟨Int.ofNat_nonneg 69, h 69 _ rfl⟩
theorem sz_70 {sh : gS} (h : gFix sh) : gsz sh 70 13 625 := ⟨Int.ofNat_nonneg 70, h 70 _ rfl⟩
theorem sz_71 {sh : gS} (h : gFix sh) : gsz sh 71 13 625 := ⟨Int.ofNat_nonneg 71, h 71 _ rfl⟩
theorem sz_72 {sh : gS} (h : gFix sh) : gsz sh 72 13 625 := ⟨Int.ofNat_nonneg 72, h 72 _ rfl⟩
theorem sz_73 {sh : gS} (h : gFix sh) : gsz sh 73 13 625 := ⟨Int.ofNat_nonneg 73, h 73 _ rfl⟩
theorem sz_74 {sh : gS} (h : gFix sh) : gsz sh 74 13 625 := ⟨Int.ofNat_nonneg 74, h 74 _ rfl⟩
theorem sz_75 {sh : gS} (h : gFix sh) : gsz sh 75 13 625 := ⟨Int.ofNat_nonneg 75, h 75 _ rfl⟩
theorem sz_76 {sh : gS} (h : gFix sh) : gsz sh 76 13 625 := ⟨Int.ofNat_nonneg 76, h 76 _ rfl⟩
theorem sz_77 {sh : gS} (h : gFix sh) : gsz sh 77 13 625 := ⟨Int.ofNat_nonneg 77, h 77 _ rfl⟩
theorem sz_78 {sh : gS} (h : gFix sh) : gsz sh 78 16 12 := ⟨Int.ofNat_nonneg 78, h 78 _ rfl⟩
theorem sz_79 {sh : gS} (h : gFix sh) : gsz sh 79 17 12 := ⟨Int.ofNat_nonneg 79, h 79 _ rfl⟩
theorem sz_80 {sh : gS} (h : gFix sh) : gsz sh 80 19 12 := ⟨Int.ofNat_nonneg 80, h 80 _ rfl⟩
theorem sz_81 {sh : gS} (h : gFix sh) : gsz sh 81 13 25 := ⟨Int.ofNat_nonneg 81, h 81 _ rfl⟩
theorem sz_82 {sh : gS} (h : gFix sh) : gsz sh 82 13 25 := ⟨Int.ofNat_nonneg 82, h 82 _ rfl⟩
theorem sz_83 {sh : gS} (h : gFix sh) : gsz sh 83 13 25 := ⟨Int.ofNat_nonneg 83, h 83 _ rfl⟩
theorem sz_84 {sh : gS} (h : gFix sh) : gsz sh 84 13 25 := ⟨Int.ofNat_nonneg 84, h 84 _ rfl⟩
theorem sz_85 {sh : gS} (h : gFix sh) : gsz sh 85 13 25 := ⟨Int.ofNat_nonneg 85, h 85 _ rfl⟩
theorem sz_86 {sh : gS} (h : gFix sh) : gsz sh 86 13 25 := ⟨Int.ofNat_nonneg 86, h 86 _ rfl⟩
theorem sz_87 {sh : gS} (h : gFix sh) : gsz sh 87 13 25 := ⟨Int.ofNat_nonneg 87, h 87 _ rfl⟩
theorem sz_88 {sh : gS} (h : gFix sh) : gsz sh 88 13 25 := ⟨Int.ofNat_nonneg 88, h 88 _ rfl⟩
theorem sz_89 {sh : gS} (h : gFix sh) : gsz sh 89 13 25 := ⟨Int.ofNat_nonneg 89, h 89 _ rfl⟩
theorem sz_90 {sh : gS} (h : gFix sh) : gsz sh 90 13 25 := ⟨Int.ofNat_nonneg 90, h 90 _ rfl⟩
theorem sz_91 {sh : gS} (h : gFix sh) : gsz sh 91 13 25 := ⟨Int.ofNat_nonneg 91, h 91 _ rfl⟩
theorem sz_92 {sh : gS} (h : gFix sh) : gsz sh 92 13 25 := ⟨Int.ofNat_nonneg 92, h 92 _ rfl⟩
theorem sz_93 {sh : gS} (h : gFix sh) : gsz sh 93 19 12 := ⟨Int.ofNat_nonneg 93, h 93 _ rfl⟩
theorem sz_94 {sh : gS} (h : gFix sh) : gsz sh 94 13 25 := ⟨Int.ofNat_nonneg 94, h 94 _ rfl⟩
theorem sz_95 {sh : gS} (h : gFix sh) : gsz sh 95 13 25 := ⟨Int.ofNat_nonneg 95, h 95 _ rfl⟩
theorem sz_96 {sh : gS} (h : gFix sh) : gsz sh 96 13 25 := ⟨Int.ofNat_nonneg 96, h 96 _ rfl⟩
theorem sz_97 {sh : gS} (h : gFix sh) : gsz sh 97 13 25 := ⟨Int.ofNat_nonneg 97, h 97 _ rfl⟩
theorem sz_98 {sh : gS} (h : gFix sh) : gsz sh 98 13 25 := ⟨Int.ofNat_nonneg 98, h 98 _ rfl⟩
theorem sz_99 {sh : gS} (h : gFix sh) : gsz sh 99 13 25 := ⟨Int.ofNat_nonneg 99, h 99 _ rfl⟩
theorem sz_100 {sh : gS} (h : gFix sh) : gsz sh 100 13 25 := ⟨Int.ofNat_nonneg 100, h 100 _ rfl⟩
theorem sz_101 {sh : gS} (h : gFix sh) : gsz sh 101 13 25 := ⟨Int.ofNat_nonneg 101, h 101 _ rfl⟩
theorem sz_102 {sh : gS} (h : gFix sh) : gsz sh 102 13 25 := ⟨Int.ofNat_nonneg 102, h 102 _ rfl⟩
theorem sz_103 {sh : gS} (h : gFix sh) : gsz sh 103 13 25 := ⟨Int.ofNat_nonneg 103, h 103 _ rfl⟩
theorem sz_104 {sh : gS} (h : gFix sh) : gsz sh 104 13 25 := ⟨Int.ofNat_nonneg 104, h 104 _ rfl⟩
theorem sz_105 {sh : gS} (h : gFix sh) : gsz sh 105 13 25 := ⟨Int.ofNat_nonneg 105, h 105 _ rfl⟩
theorem sz_106 {sh : gS} (h : gFix sh) : gsz sh 106 20 12 := ⟨Int.ofNat_nonneg 106, h 106 _ rfl⟩
theorem sz_107 {sh : gS} (h : gFix sh) : gsz sh 107 16 25 := ⟨Int.ofNat_nonneg 107, h 107 _ rfl⟩
theorem sz_108 {sh : gS} (h : gFix sh) : gsz sh 108 16 25 := ⟨Int.ofNat_nonneg 108, h 108 _ rfl⟩
theorem sz_109 {sh : gS} (h : gFix sh) : gsz sh 109 16 25 := ⟨Int.ofNat_nonneg 109, h 109 _ rfl⟩
theorem sz_110 {sh : gS} (h : gFix sh) : gsz sh 110 16 25 := ⟨Int.ofNat_nonneg 110, h 110 _ rfl⟩
theorem sz_111 {sh : gS} (h : gFix sh) : gsz sh 111 16 25 := ⟨Int.ofNat_nonneg 111, h 111 _ rfl⟩
theorem sz_112 {sh : gS} (h : gFix sh) : gsz sh 112 16 25 := ⟨Int.ofNat_nonneg 112, h 112 _ rfl⟩
theorem sz_113 {sh : gS} (h : gFix sh) : gsz sh 113 16 25 := ⟨Int.ofNat_nonneg 113, h 113 _ rfl⟩
theorem sz_114 {sh : gS} (h : gFix sh) : gsz sh 114 16 25 := ⟨Int.ofNat_nonneg 114, h 114 _ rfl⟩
theorem sz_115 {sh : gS} (h : gFix sh) : gsz sh 115 16 25 := ⟨Int.ofNat_nonneg 115, h 115 _ rfl⟩
theorem sz_116 {sh : gS} (h : gFix sh) : gsz sh 116 16 25 := ⟨Int.ofNat_nonneg 116, h 116 _ rfl⟩
theorem sz_117 {sh : gS} (h : gFix sh) : gsz sh 117 16 25 := ⟨Int.ofNat_nonneg 117, h 117 _ rfl⟩
theorem sz_118 {sh : gS} (h : gFix sh) : gsz sh 118 16 25 := ⟨Int.ofNat_nonneg 118, h 118 _ rfl⟩
theorem sz_119 {sh : gS} (h : gFix sh) : gsz sh 119 19 12 := ⟨Int.ofNat_nonneg 119, h 119 _ rfl⟩
theorem sz_120 {sh : gS} (h : gFix sh) : gsz sh 120 13 25 := ⟨Int.ofNat_nonneg 120, h 120 _ rfl⟩
theorem sz_121 {sh : gS} (h : gFix sh) : gsz sh 121 13 25 := ⟨Int.ofNat_nonneg 121, h 121 _ rfl⟩
theorem sz_122 {sh : gS} (h : gFix sh) : gsz sh 122 13 25 := ⟨Int.ofNat_nonneg 122, h 122 _ rfl⟩
theorem sz_123 {sh : gS} (h : gFix sh) : gsz sh 123 13 25 := ⟨Int.ofNat_nonneg 123, h 123 _ rfl⟩
theorem sz_124 {sh : gS} (h : gFix sh) : gsz sh 124 13 25 := ⟨Int.ofNat_nonneg 124, h 124 _ rfl⟩
theorem sz_125 {sh : gS} (h : gFix sh) : gsz sh 125 13 25 := ⟨Int.ofNat_nonneg 125, h 125 _ rfl⟩
theorem sz_126 {sh : gS} (h : gFix sh) : gsz sh 126 13 25 := ⟨Int.ofNat_nonneg 126, h 126 _ rfl⟩
theorem sz_127 {sh : gS} (h : gFix sh) : gsz sh 127 13 25 := ⟨Int.ofNat_nonneg 127, h 127 _ rfl⟩
theorem sz_128 {sh : gS} (h : gFix sh) : gsz sh 128 13 25 := ⟨Int.ofNat_nonneg 128, h 128 _ rfl⟩
theorem sz_129 {sh : gS} (h : gFix sh) : gsz sh 129 13 25 := ⟨Int.ofNat_nonneg 129, h 129 _ rfl⟩
theorem sz_130 {sh : gS} (h : gFix sh) : gsz sh 130 13 25 := ⟨Int.ofNat_nonneg 130, h 130 _ rfl⟩
theorem sz_131 {sh : gS} (h : gFix sh) : gsz sh 131 13 25 := ⟨Int.ofNat_nonneg 131, h 131 _ rfl⟩
theorem sz_132 {sh : gS} (h : gFix sh) : gsz sh 132 13 12 := ⟨Int.ofNat_nonneg 132, h 132 _ rfl⟩
theorem sz_133 {sh : gS} (h : gFix sh) : gsz sh 133 13 12 := ⟨Int.ofNat_nonneg 133, h 133 _ rfl⟩
theorem sz_134 {sh : gS} (h : gFix sh) : gsz sh 134 1 10 := ⟨Int.ofNat_nonneg 134, h 134 _ rfl⟩
theorem sz_135 {sh : gS} (h : gFix sh) : gsz sh 135 13 12 := ⟨Int.ofNat_nonneg 135, h 135 _ rfl⟩
theorem sz_136 {sh : gS} (h : gFix sh) : gsz sh 136 13 12 := ⟨Int.ofNat_nonneg 136, h 136 _ rfl⟩
theorem sz_137 {sh : gS} (h : gFix sh) : gsz sh 137 13 5 := ⟨Int.ofNat_nonneg 137, h 137 _ rfl⟩
theorem sz_138 {sh : gS} (h : gFix sh) : gsz sh 138 13 6 := ⟨Int.ofNat_nonneg 138, h 138 _ rfl⟩
theorem sz_139 {sh : gS} (h : gFix sh) : gsz sh 139 13 6 := ⟨Int.ofNat_nonneg 139, h 139 _ rfl⟩
theorem sz_140 {sh : gS} (h : gFix sh) : gsz sh 140 17 6 := ⟨Int.ofNat_nonneg 140, h 140 _ rfl⟩
theorem sz_141 {sh : gS} (h : gFix sh) : gsz sh 141 3 3 := ⟨Int.ofNat_nonneg 141, h 141 _ rfl⟩
theorem sz_142 {sh : gS} (h : gFix sh) : gsz sh 142 1 10 := ⟨Int.ofNat_nonneg 142, h 142 _ rfl⟩
theorem sz_143 {sh : gS} (h : gFix sh) : gsz sh 143 13 12 := ⟨Int.ofNat_nonneg 143, h 143 _ rfl⟩
theorem sz_144 {sh : gS} (h : gFix sh) : gsz sh 144 13 12 := ⟨Int.ofNat_nonneg 144, h 144 _ rfl⟩
theorem sz_145 {sh : gS} (h : gFix sh) : gsz sh 145 13 5 := ⟨Int.ofNat_nonneg 145, h 145 _ rfl⟩
theorem sz_146 {sh : gS} (h : gFix sh) : gsz sh 146 13 6 := ⟨Int.ofNat_nonneg 146, h 146 _ rfl⟩
theorem sz_147 {sh : gS} (h : gFix sh) : gsz sh 147 13 6 := ⟨Int.ofNat_nonneg 147, h 147 _ rfl⟩
theorem sz_148 {sh : gS} (h : gFix sh) : gsz sh 148 17 6 := ⟨Int.ofNat_nonneg 148, h 148 _ rfl⟩
theorem sz_149 {sh : gS} (h : gFix sh) : gsz sh 149 9 2 := ⟨Int.ofNat_nonneg 149, h 149 _ rfl⟩
theorem sz_150 {sh : gS} (h : gFix sh) : gsz sh 150 13 400 := ⟨Int.ofNat_nonneg 150, h 150 _ rfl⟩
theorem sz_151 {sh : gS} (h : gFix sh) : gsz sh 151 7 9 := ⟨Int.ofNat_nonneg 151, h 151 _ rfl⟩
theorem sz_152 {sh : gS} (h : gFix sh) : gsz sh 152 10 8 := ⟨Int.ofNat_nonneg 152, h 152 _ rfl⟩
theorem sz_153 {sh : gS} (h : gFix sh) : gsz sh 153 13 12 := ⟨Int.ofNat_nonneg 153, h 153 _ rfl⟩
theorem sz_154 {sh : gS} (h : gFix sh) : gsz sh 154 13 12 := ⟨Int.ofNat_nonneg 154, h 154 _ rfl⟩
theorem sz_155 {sh : gS} (h : gFix sh) : gsz sh 155 13 37 := ⟨Int.ofNat_nonneg 155, h 155 _ rfl⟩
theorem sz_156 {sh : gS} (h : gFix sh) : gsz sh 156 13 400 := ⟨Int.ofNat_nonneg 156, h 156 _ rfl⟩
theorem sz_157 {sh : gS} (h : gFix sh) : gsz sh 157 13 400 := ⟨Int.ofNat_nonneg 157, h 157 _ rfl⟩
theorem sz_158 {sh : gS} (h : gFix sh) : gsz sh 158 13 400 := ⟨Int.ofNat_nonneg 158, h 158 _ rfl⟩
theorem sz_159 {sh : gS} (h : gFix sh) : gsz sh 159 18 2 := ⟨Int.ofNat_nonneg 159, h 159 _ rfl⟩
theorem sz_160 {sh : gS} (h : gFix sh) : gsz sh 160 1 10 := ⟨Int.ofNat_nonneg 160, h 160 _ rfl⟩
theorem sz_161 {sh : gS} (h : gFix sh) : gsz sh 161 13 12 := ⟨Int.ofNat_nonneg 161, h 161 _ rfl⟩
theorem sz_162 {sh : gS} (h : gFix sh) : gsz sh 162 13 12 := ⟨Int.ofNat_nonneg 162, h 162 _ rfl⟩
theorem sz_163 {sh : gS} (h : gFix sh) : gsz sh 163 13 5 := ⟨Int.ofNat_nonneg 163, h 163 _ rfl⟩
theorem sz_164 {sh : gS} (h : gFix sh) : gsz sh 164 13 6 := ⟨Int.ofNat_nonneg 164, h 164 _ rfl⟩
theorem sz_165 {sh : gS} (h : gFix sh) : gsz sh 165 13 6 := ⟨Int.ofNat_nonneg 165, h 165 _ rfl⟩
theorem sz_166 {sh : gS} (h : gFix sh) : gsz sh 166 17 6 := ⟨Int.ofNat_nonneg 166, h 166 _ rfl⟩
theorem sz_167 {sh : gS} (h : gFix sh) : gsz sh 167 1 10 := ⟨Int.ofNat_nonneg 167, h 167 _ rfl⟩
theorem sz_168 {sh : gS} (h : gFix sh) : gsz sh 168 13 12 := ⟨Int.ofNat_nonneg 168, h 168 _ rfl⟩
theorem sz_169 {sh : gS} (h : gFix sh) : gsz sh 169 13 12 := ⟨Int.ofNat_nonneg 169, h 169 _ rfl⟩
theorem sz_170 {sh : gS} (h : gFix sh) : gsz sh 170 13 5 := ⟨Int.ofNat_nonneg 170, h 170 _ rfl⟩
theorem sz_171 {sh : gS} (h : gFix sh) : gsz sh 171 13 6 := ⟨Int.ofNat_nonneg 171, h 171 _ rfl⟩
theorem sz_172 {sh : gS} (h : gFix sh) : gsz sh 172 13 6 := ⟨Int.ofNat_nonneg 172, h 172 _ rfl⟩
theorem sz_173 {sh : gS} (h : gFix sh) : gsz sh 173 17 6 := ⟨Int.ofNat_nonneg 173, h 173 _ rfl⟩
theorem sz_174 {sh : gS} (h : gFix sh) : gsz sh 174 14 2 := ⟨Int.ofNat_nonneg 174, h 174 _ rfl⟩
theorem sz_175 {sh : gS} (h : gFix sh) : gsz sh 175 13 6 := ⟨Int.ofNat_nonneg 175, h 175 _ rfl⟩
theorem sz_176 {sh : gS} (h : gFix sh) : gsz sh 176 16 20 := ⟨Int.ofNat_nonneg 176, h 176 _ rfl⟩
theorem sz_177 {sh : gS} (h : gFix sh) : gsz sh 177 12 51 := ⟨Int.ofNat_nonneg 177, h 177 _ rfl⟩
theorem sz_178 {sh : gS} (h : gFix sh) : gsz sh 178 13 7 := ⟨Int.ofNat_nonneg 178, h 178 _ rfl⟩
theorem sz_179 {sh : gS} (h : gFix sh) : gsz sh 179 13 5652 := ⟨Int.ofNat_nonneg 179, h 179 _ rfl⟩
theorem sz_180 {sh : gS} (h : gFix sh) : gsz sh 180 13 11304 := ⟨Int.ofNat_nonneg 180, h 180 _ rfl⟩
theorem sz_181 {sh : gS} (h : gFix sh) : gsz sh 181 14 2 := ⟨Int.ofNat_nonneg 181, h 181 _ rfl⟩
theorem sz_182 {sh : gS} (h : gFix sh) : gsz sh 182 13 50 := ⟨Int.ofNat_nonneg 182, h 182 _ rfl⟩
theorem sz_183 {sh : gS} (h : gFix sh) : gsz sh 183 15 137 := ⟨Int.ofNat_nonneg 183, h 183 _ rfl⟩
theorem sz_184 {sh : gS} (h : gFix sh) : gsz sh 184 15 400 := ⟨Int.ofNat_nonneg 184, h 184 _ rfl⟩
theorem sz_185 {sh : gS} (h : gFix sh) : gsz sh 185 13 5 := ⟨Int.ofNat_nonneg 185, h 185 _ rfl⟩
theorem sz_186 {sh : gS} (h : gFix sh) : gsz sh 186 13 401 := ⟨Int.ofNat_nonneg 186, h 186 _ rfl⟩
theorem sz_187 {sh : gS} (h : gFix sh) : gsz sh 187 13 401 := ⟨Int.ofNat_nonneg 187, h 187 _ rfl⟩
theorem sz_188 {sh : gS} (h : gFix sh) : gsz sh 188 13 401 := ⟨Int.ofNat_nonneg 188, h 188 _ rfl⟩
theorem sz_189 {sh : gS} (h : gFix sh) : gsz sh 189 13 10 := ⟨Int.ofNat_nonneg 189, h 189 _ rfl⟩
theorem sz_190 {sh : gS} (h : gFix sh) : gsz sh 190 13 416 := ⟨Int.ofNat_nonneg 190, h 190 _ rfl⟩
theorem sz_191 {sh : gS} (h : gFix sh) : gsz sh 191 13 416 := ⟨Int.ofNat_nonneg 191, h 191 _ rfl⟩
theorem sz_192 {sh : gS} (h : gFix sh) : gsz sh 192 13 7500 := ⟨Int.ofNat_nonneg 192, h 192 _ rfl⟩
theorem sz_193 {sh : gS} (h : gFix sh) : gsz sh 193 13 7500 := ⟨Int.ofNat_nonneg 193, h 193 _ rfl⟩
theorem sz_194 {sh : gS} (h : gFix sh) : gsz sh 194 14 7500 := ⟨Int.ofNat_nonneg 194, h 194 _ rfl⟩
theorem sz_195 {sh : gS} (h : gFix sh) : gsz sh 195 13 300 := ⟨Int.ofNat_nonneg 195, h 195 _ rfl⟩
theorem sz_196 {sh : gS} (h : gFix sh) : gsz sh 196 16 300 := ⟨Int.ofNat_nonneg 196, h 196 _ rfl⟩
theorem sz_197 {sh : gS} (h : gFix sh) : gsz sh 197 13 48 := ⟨Int.ofNat_nonneg 197, h 197 _ rfl⟩
theorem sz_198 {sh : gS} (h : gFix sh) : gsz sh 198 16 21 := ⟨Int.ofNat_nonneg 198, h 198 _ rfl⟩
theorem sz_199 {sh : gS} (h : gFix sh) : gsz sh 199 16 2 := ⟨Int.ofNat_nonneg 199, h 199 _ rfl⟩
theorem sz_200 {sh : gS} (h : gFix sh) : gsz sh 200 13 25 := ⟨Int.ofNat_nonneg 200, h 200 _ rfl⟩
def grefs : List (Nat × List (Option Int)) := [(0, [some 1, some 8, some 12, some 31, some 141, some 149, some 151, some 159, some 174, some 175, some 176]), (1, [none, some 2, some 3, some 4, none, some 5, some 6, none, some 7]), (8, [some 9, some 11]), (9, [some 10]), (12, [some 13, none, some 1, some 8, some 17, some 19, some 26, some 30]), (13, [some 14, some 15, some 16]), (17, [some 18]), (19, [none, some 20, some 21, some 22, none, some 23, some 24, none, some 25]), (26, [some 27, some 28, some 29]), (31, [none, none, some 8, some 32, some 48, some 64, some 80, some 93, some 106, some 119, some 132, some 133, some 134]), (32, [some 33, none, some 46, some 47]), (33, [some 34, some 35, some 36, some 37, some 38, some 39, some 40, some 41, some 42, some 43, some 44, some 45]), (48, [some 49, none, some 62, some 63]), (49, [some 50, some 51, some 52, some 53, some 54, some 55, some 56, some 57, some 58, some 59, some 60, some 61]), (64, [some 65, none, some 78, some 79]), (65, [some 66, some 67, some 68, some 69, some 70, some 71, some 72, some 73, some 74, some 75, some 76, some 77]), (80, [some 81, some 82, some 83, some 84, some 85, some 86, some 87, some 88, some 89, some 90, some 91, some 92]), (93, [some 94, some 95, some 96, some 97, some 98, some 99, some 100, some 101, some 102, some 103, some 104, some 105]), (106, [some 107, some 108, some 109, some 110, some 111, some 112, some 113, some 114, some 115, some 116, some 117, some 118]), (119, [some 120, some 121, some 122, some 123, some 124, some 125, some 126, some 127, some 128, some 129, some 130, some 131]), (134, [none, some 135, some 136, some 137, none, some 138, some 139, none, some 140]), (141, [some 142]), (142, [none, some 143, some 144, some 145, none, some 146, some 147, none, some 148]), (149, [some 150]), (151, [some 152, some 158]), (152, [none, none, none, some 153, some 154, some 155, some 156, some 157]), (159, [some 160, some 167]), (160, [none, some 161, some 162, some 163, none, some 164, some 165, none, some 166]), (167, [none, some 168, some 169, some 170, none, some 171, some 172, none, some 173]), (177, [none, some 178, some 179, some 180, some 181, some 182, none, some 183, none, none, none, some 184, some 185, none, none, some 186, some 187, some 188, none, none, none, none, none, none, none, none, some 189, none, none, none, none, some 190, some 191, none, some 192, some 193, some 194, some 195, some 196, some 197, some 198, none, none, none, none, none, none, some 199, some 200])]
def glk : List (Nat × List (Option Int)) → Nat → Nat → Option Int
  | [], _, _ => none
  | x :: t, a, k => if x.1 = a then x.2.getD k none else glk t a k
/-- a reference that stands for good -/
def gref (a k : Nat) : Option Int := glk grefs a k
def gFin (g : gM) : Prop := ∀ (a k : Nat) (v : Int), gref a k = some v → g (a : Int) (k : Int) = v
theorem gFin.up {g : gM} {a k v : Int} (h : gFin g) (hn : gref a.toNat k.toNat = none) : gFin (gup g a k v) := by
  intro a2 k2 v2 e
  unfold gup
  by_cases h1 : (a2 : Int) = a
  · by_cases h2 : (k2 : Int) = k
    · subst h1; subst h2
      rw [show ((a2 : Int)).toNat = a2 from rfl, show ((k2 : Int)).toNat = k2 from rfl, e] at hn
      cases hn
    · rw [if_pos h1, if_neg h2, ← h1]; exact h a2 k2 v2 e
  · rw [if_neg h1]; exact h a2 k2 v2 e
theorem gFin.fr {g : gM} {a : Int} {f : Int → Int} (h : gFin g) (hn : ∀ k : Nat, gref a.toNat k = none) : gFin (gfr g a f) := by
  intro a2 k2 v2 e
  unfold gfr
  by_cases h1 : (a2 : Int) = a
  · subst h1
    have := hn k2
    rw [show ((a2 : Int)).toNat = a2 from rfl, e] at this
    cases this
  · rw [if_neg h1]; exact h a2 k2 v2 e
/-- memories that are alike but for some arrays -/
theorem gFin.of {g g2 : gM} (h : gFin g) (hg : ∀ (a k : Nat), gref a k ≠ none → g2 (a : Int) (k : Int) = g (a : Int) (k : Int)) : gFin g2 := fun a k v e => by rw [hg a k (by rw [e]; exact fun z => by cases z)]; exact h a k v e
theorem fr_0_0 {g : gM} (h : gFin g) : g 0 0 = 1 := h 0 0 _ rfl
theorem fr_0_1 {g : gM} (h : gFin g) : g 0 1 = 8 := h 0 1 _ rfl
theorem fr_0_2 {g : gM} (h : gFin g) : g 0 2 = 12 := h 0 2 _ rfl
theorem fr_0_3 {g : gM} (h : gFin g) : g 0 3 = 31 := h 0 3 _ rfl
theorem fr_0_4 {g : gM} (h : gFin g) : g 0 4 = 141 := h 0 4 _ rfl
theorem fr_0_5 {g : gM} (h : gFin g) : g 0 5 = 149 := h 0 5 _ rfl
theorem fr_0_6 {g : gM} (h : gFin g) : g 0 6 = 151 := h 0 6 _ rfl
theorem fr_0_7 {g : gM} (h : gFin g) : g 0 7 = 159 := h 0 7 _ rfl
theorem fr_0_8 {g : gM} (h : gFin g) : g 0 8 = 174 := h 0 8 _ rfl
theorem fr_0_9 {g : gM} (h : gFin g) : g 0 9 = 175 := h 0 9 _ rfl
theorem fr_0_10 {g : gM} (h : gFin g) : g 0 10 = 176 := h 0 10 _ rfl
theorem fr_1_1 {g : gM} (h : gFin g) : g 1 1 = 2 := h 1 1 _ rfl
theorem fr_1_2 {g : gM} (h : gFin g) : g 1 2 = 3 := h 1 2 _ rfl
theorem fr_1_3 {g : gM} (h : gFin g) : g 1 3 = 4 := h 1 3 _ rfl
theorem fr_1_5 {g : gM} (h : gFin g) : g 1 5 = 5 := h 1 5 _ rfl
theorem fr_1_6 {g : gM} (h : gFin g) : g 1 6 = 6 := h 1 6 _ rfl
theorem fr_1_8 {g : gM} (h : gFin g) : g 1 8 = 7 := h 1 8 _ rfl
theorem fr_8_0 {g : gM} (h : gFin g) : g 8 0 = 9 := h 8 0 _ rfl
theorem fr_8_1 {g : gM} (h : gFin g) : g 8 1 = 11 := h 8 1 _ rfl
theorem fr_9_0 {g : gM} (h : gFin g) : g 9 0 = 10 := h 9 0 _ rfl
theorem fr_12_0 {g : gM} (h : gFin g) : g 12 0 = 13 := h 12 0 _ rfl
theorem fr_12_2 {g : gM} (h : gFin g) : g 12 2 = 1 := h 12 2 _ rfl
theorem fr_12_3 {g : gM} (h : gFin g) : g 12 3 = 8 := h 12 3 _ rfl
theorem fr_12_4 {g : gM} (h : gFin g) : g 12 4 = 17 := h 12 4 _ rfl
theorem fr_12_5 {g : gM} (h : gFin g) : g 12 5 = 19 := h 12 5 _ rfl
theorem fr_12_6 {g : gM} (h : gFin g) : g 12 6 = 26 := h 12 6 _ rfl
theorem fr_12_7 {g : gM} (h : gFin g) : g 12 7 = 30 := h 12 7 _ rfl
theorem fr_13_0 {g : gM} (h : gFin g) : g 13 0 = 14 := h 13 0 _ rfl
theorem fr_13_1 {g : gM} (h : gFin g) : g 13 1 = 15 := h 13 1 _ rfl
theorem fr_13_2 {g : gM} (h : gFin g) : g 13 2 = 16 := h 13 2 _ rfl
theorem fr_17_0 {g : gM} (h : gFin g) : g 17 0 = 18 := h 17 0 _ rfl
theorem fr_19_1 {g : gM} (h : gFin g) : g 19 1 = 20 := h 19 1 _ rfl
theorem fr_19_2 {g : gM} (h : gFin g) : g 19 2 = 21 := h 19 2 _ rfl
theorem fr_19_3 {g : gM} (h : gFin g) : g 19 3 = 22 := h 19 3 _ rfl
theorem fr_19_5 {g : gM} (h : gFin g) : g 19 5 = 23 := h 19 5 _ rfl
theorem fr_19_6 {g : gM} (h : gFin g) : g 19 6 = 24 := h 19 6 _ rfl
theorem fr_19_8 {g : gM} (h : gFin g) : g 19 8 = 25 := h 19 8 _ rfl
theorem fr_26_0 {g : gM} (h : gFin g) : g 26 0 = 27 := h 26 0 _ rfl
theorem fr_26_1 {g : gM} (h : gFin g) : g 26 1 = 28 := h 26 1 _ rfl
theorem fr_26_2 {g : gM} (h : gFin g) : g 26 2 = 29 := h 26 2 _ rfl
theorem fr_31_2 {g : gM} (h : gFin g) : g 31 2 = 8 := h 31 2 _ rfl
theorem fr_31_3 {g : gM} (h : gFin g) : g 31 3 = 32 := h 31 3 _ rfl
theorem fr_31_4 {g : gM} (h : gFin g) : g 31 4 = 48 := h 31 4 _ rfl
theorem fr_31_5 {g : gM} (h : gFin g) : g 31 5 = 64 := h 31 5 _ rfl
theorem fr_31_6 {g : gM} (h : gFin g) : g 31 6 = 80 := h 31 6 _ rfl
theorem fr_31_7 {g : gM} (h : gFin g) : g 31 7 = 93 := h 31 7 _ rfl
theorem fr_31_8 {g : gM} (h : gFin g) : g 31 8 = 106 := h 31 8 _ rfl
theorem fr_31_9 {g : gM} (h : gFin g) : g 31 9 = 119 := h 31 9 _ rfl
theorem fr_31_10 {g : gM} (h : gFin g) : g 31 10 = 132 := h 31 10 _ rfl
theorem fr_31_11 {g : gM} (h : gFin g) : g 31 11 = 133 := h 31 11 _ rfl
theorem fr_31_12 {g : gM} (h : gFin g) : g 31 12 = 134 := h 31 12 _ rfl
theorem fr_32_0 {g : gM} (h : gFin g) : g 32 0 = 33 := h 32 0 _ rfl
theorem fr_32_2 {g : gM} (h : gFin g) : g 32 2 = 46 := h 32 2 _ rfl
theorem fr_32_3 {g : gM} (h : gFin g) : g 32 3 = 47 := h 32 3 _ rfl
theorem fr_33_0 {g : gM} (h : gFin g) : g 33 0 = 34 := h 33 0 _ rfl
theorem fr_33_1 {g : gM} (h : gFin g) : g 33 1 = 35 := h 33 1 _ rfl
theorem fr_33_2 {g : gM} (h : gFin g) : g 33 2 = 36 := h 33 2 _ rfl
theorem fr_33_3 {g : gM} (h : gFin g) : g 33 3 = 37 := h 33 3 _ rfl
theorem fr_33_4 {g : gM} (h : gFin g) : g 33 4 = 38 := h 33 4 _ rfl
theorem fr_33_5 {g : gM} (h : gFin g) : g 33 5 = 39 := h 33 5 _ rfl
theorem fr_33_6 {g : gM} (h : gFin g) : g 33 6 = 40 := h 33 6 _ rfl
theorem fr_33_7 {g : gM} (h : gFin g) : g 33 7 = 41 := h 33 7 _ rfl
theorem fr_33_8 {g : gM} (h : gFin g) : g 33 8 = 42 := h 33 8 _ rfl
theorem fr_33_9 {g : gM} (h : gFin g) : g 33 9 = 43 := h 33 9 _ rfl
theorem fr_33_10 {g : gM} (h : gFin g) : g 33 10 = 44 := h 33 10 _ rfl
theorem fr_33_11 {g : gM} (h : gFin g) : g 33 11 = 45 := h 33 11 _ rfl
theorem fr_48_0 {g : gM} (h : gFin g) : g 48 0 = 49 := h 48 0 _ rfl
theorem fr_48_2 {g : gM} (h : gFin g) : g 48 2 = 62 := h 48 2 _ rfl
theorem fr_48_3 {g : gM} (h : gFin g) : g 48 3 = 63 := h 48 3 _ rfl
theorem fr_49_0 {g : gM} (h : gFin g) : g 49 0 = 50 := h 49 0 _ rfl
theorem fr_49_1 {g : gM} (h : gFin g) : g 49 1 = 51 := h 49 1 _ rfl
theorem fr_49_2 {g : gM} (h : gFin g) : g 49 2 = 52 := h 49 2 _ rfl
theorem fr_49_3 {g : gM} (h : gFin g) : g 49 3 = 53 := h 49 3 _ rfl
theorem fr_49_4 {g : gM} (h : gFin g) : g 49 4 = 54 := h 49 4 _ rfl
theorem fr_49_5 {g : gM} (h : gFin g) : g 49 5 = 55 := h 49 5 _ rfl
theorem fr_49_6 {g : gM} (h : gFin g) : g 49 6 = 56 := h 49 6 _ rfl
theorem fr_49_7 {g : gM} (h : gFin g) : g 49 7 = 57 := h 49 7 _ rfl
theorem fr_49_8 {g : gM} (h : gFin g) : g 49 8 = 58 := h 49 8 _ rfl
theorem fr_49_9 {g : gM} (h : gFin g) : g 49 9 = 59 := h 49 9 _ rfl
theorem fr_49_10 {g : gM} (h : gFin g) : g 49 10 = 60 := h 49 10 _ rfl
theorem fr_49_11 {g : gM} (h : gFin g) : g 49 11 = 61 := h 49 11 _ rfl
theorem fr_64_0 {g : gM} (h : gFin g) : g 64 0 = 65 := h 64 0 _ rfl
theorem fr_64_2 {g : gM} (h : gFin g) : g 64 2 = 78 := h 64 2 _ rfl
theorem fr_64_3 {g : gM} (h : gFin g) : g 64 3 = 79 := h 64 3 _ rfl
theorem fr_65_0 {g : gM} (h : gFin g) : g 65 0 = 66 := h 65 0 _ rfl
theorem fr_65_1 {g : gM} (h : gFin g) : g 65 1 = 67 := h 65 1 _ rfl
theorem fr_65_2 {g : gM} (h : gFin g) : g 65 2 = 68 := h 65 2 _ rfl
theorem fr_65_3 {g : gM} (h : gFin g) : g 65 3 = 69 := h 65 3 _ rfl
theorem fr_65_4 {g : gM} (h : gFin g) : g 65 4 = 70 := h 65 4 _ rfl
theorem fr_65_5 {g : gM} (h : gFin g) : g 65 5 = 71 := h 65 5 _ rfl
theorem fr_65_6 {g : gM} (h : gFin g) : g 65 6 = 72 := h 65 6 _ rfl
theorem fr_65_7 {g : gM} (h : gFin g) : g 65 7 = 73 := h 65 7 _ rfl
theorem fr_65_8 {g : gM} (h : gFin g) : g 65 8 = 74 := h 65 8 _ rfl
theorem fr_65_9 {g : gM} (h : gFin g) : g 65 9 = 75 := h 65 9 _ rfl
theorem fr_65_10 {g : gM} (h : gFin g) : g 65 10 = 76 := h 65 10 _ rfl
theorem fr_65_11 {g : gM} (h : gFin g) : g 65 11 = 77 := h 65 11 _ rfl
theorem fr_80_0 {g : gM} (h : gFin g) : g 80 0 = 81 := h 80 0 _ rfl
theorem fr_80_1 {g : gM} (h : gFin g) : g 80 1 = 82 := h 80 1 _ rfl
theorem fr_80_2 {g : gM} (h : gFin g) : g 80 2 = 83 := h 80 2 _ rfl
theorem fr_80_3 {g : gM} (h : gFin g) : g 80 3 = 84 := h 80 3 _ rfl
theorem fr_80_4 {g : gM} (h : gFin g) : g 80 4 = 85 := h 80 4 _ rfl
theorem fr_80_5 {g : gM} (h : gFin g) : g 80 5 = 86 := h 80 5 _ rfl
theorem fr_80_6 {g : gM} (h : gFin g) : g 80 6 = 87 := h 80 6 _ rfl
theorem fr_80_7 {g : gM} (h : gFin g) : g 80 7 = 88 := h 80 7 _ rfl
theorem fr_80_8 {g : gM} (h : gFin g) : g 80 8 = 89 := h 80 8 _ rfl
theorem fr_80_9 {g : gM} (h : gFin g) : g 80 9 = 90 := h 80 9 _ rfl
theorem fr_80_10 {g : gM} (h : gFin g) : g 80 10 = 91 := h 80 10 _ rfl
theorem fr_80_11 {g : gM} (h : gFin g) : g 80 11 = 92 := h 80 11 _ rfl
theorem fr_93_0 {g : gM} (h : gFin g) : g 93 0 = 94 := h 93 0 _ rfl
theorem fr_93_1 {g : gM} (h : gFin g) : g 93 1 = 95 := h 93 1 _ rfl
theorem fr_93_2 {g : gM} (h : gFin g) : g 93 2 = 96 := h 93 2 _ rfl
theorem fr_93_3 {g : gM} (h : gFin g) : g 93 3 = 97 := h 93 3 _ rfl
theorem fr_93_4 {g : gM} (h : gFin g) : g 93 4 = 98 := h 93 4 _ rfl
theorem fr_93_5 {g : gM} (h : gFin g) : g 93 5 = 99 := h 93 5 _ rfl
theorem fr_93_6 {g : gM} (h : gFin g) : g 93 6 = 100 := h 93 6 _ rfl
theorem fr_93_7 {g : gM} (h : gFin g) : g 93 7 = 101 := h 93 7 _ rfl
theorem fr_93_8 {g : gM} (h : gFin g) : g 93 8 = 102 := h 93 8 _ rfl
theorem fr_93_9 {g : gM} (h : gFin g) : g 93 9 = 103 := h 93 9 _ rfl
theorem fr_93_10 {g : gM} (h : gFin g) : g 93 10 = 104 := h 93 10 _ rfl
theorem fr_93_11 {g : gM} (h : gFin g) : g 93 11 = 105 := h 93 11 _ rfl
theorem fr_106_0 {g : gM} (h : gFin g) : g 106 0 = 107 := h 106 0 _ rfl
theorem fr_106_1 {g : gM} (h : gFin g) : g 106 1 = 108 := h 106 1 _ rfl
theorem fr_106_2 {g : gM} (h : gFin g) : g 106 2 = 109 := h 106 2 _ rfl
theorem fr_106_3 {g : gM} (h : gFin g) : g 106 3 = 110 := h 106 3 _ rfl
theorem fr_106_4 {g : gM} (h : gFin g) : g 106 4 = 111 := h 106 4 _ rfl
theorem fr_106_5 {g : gM} (h : gFin g) : g 106 5 = 112 := h 106 5 _ rfl
theorem fr_106_6 {g : gM} (h : gFin g) : g 106 6 = 113 := h 106 6 _ rfl
theorem fr_106_7 {g : gM} (h : gFin g) : g 106 7 = 114 := h 106 7 _ rfl
theorem fr_106_8 {g : gM} (h : gFin g) : g 106 8 = 115 := h 106 8 _ rfl
theorem fr_106_9 {g : gM} (h : gFin g) : g 106 9 = 116 := h 106 9 _ rfl
theorem fr_106_10 {g : gM} (h : gFin g) : g 106 10 = 117 := h 106 10 _ rfl
theorem fr_106_11 {g : gM} (h : gFin g) : g 106 11 = 118 := h 106 11 _ rfl
theorem fr_119_0 {g : gM} (h : gFin g) : g 119 0 = 120 := h 119 0 _ rfl
theorem fr_119_1 {g : gM} (h : gFin g) : g 119 1 = 121 := h 119 1 _ rfl
theorem fr_119_2 {g : gM} (h : gFin g) : g 119 2 = 122 := h 119 2 _ rfl
theorem fr_119_3 {g : gM} (h : gFin g) : g 119 3 = 123 := h 119 3 _ rfl
theorem fr_119_4 {g : gM} (h : gFin g) : g 119 4 = 124 := h 119 4 _ rfl
theorem fr_119_5 {g : gM} (h : gFin g) : g 119 5 = 125 := h 119 5 _ rfl
theorem fr_119_6 {g : gM} (h : gFin g) : g 119 6 = 126 := h 119 6 _ rfl
theorem fr_119_7 {g : gM} (h : gFin g) : g 119 7 = 127 := h 119 7 _ rfl
theorem fr_119_8 {g : gM} (h : gFin g) : g 119 8 = 128 := h 119 8 _ rfl
theorem fr_119_9 {g : gM} (h : gFin g) : g 119 9 = 129 := h 119 9 _ rfl
theorem fr_119_10 {g : gM} (h : gFin g) : g 119 10 = 130 := h 119 10 _ rfl
theorem fr_119_11 {g : gM} (h : gFin g) : g 119 11 = 131 := h 119 11 _ rfl
theorem fr_134_1 {g : gM} (h : gFin g) : g 134 1 = 135 := h 134 1 _ rfl
theorem fr_134_2 {g : gM} (h : gFin g) : g 134 2 = 136 := h 134 2 _ rfl
theorem fr_134_3 {g : gM} (h : gFin g) : g 134 3 = 137 := h 134 3 _ rfl
theorem fr_134_5 {g : gM} (h : gFin g) : g 134 5 = 138 := h 134 5 _ rfl
theorem fr_134_6 {g : gM} (h : gFin g) : g 134 6 = 139 := h 134 6 _ rfl
theorem fr_134_8 {g : gM} (h : gFin g) : g 134 8 = 140 := h 134 8 _ rfl
theorem fr_141_0 {g : gM} (h : gFin g) : g 141 0 = 142 := h 141 0 _ rfl
theorem fr_142_1 {g : gM} (h : gFin g) : g 142 1 = 143 := h 142 1 _ rfl
theorem fr_142_2 {g : gM} (h : gFin g) : g 142 2 = 144 := h 142 2 _ rfl
theorem fr_142_3 {g : gM} (h : gFin g) : g 142 3 = 145 := h 142 3 _ rfl
theorem fr_142_5 {g : gM} (h : gFin g) : g 142 5 = 146 := h 142 5 _ rfl
theorem fr_142_6 {g : gM} (h : gFin g) : g 142 6 = 147 := h 142 6 _ rfl
theorem fr_142_8 {g : gM} (h : gFin g) : g 142 8 = 148 := h 142 8 _ rfl
theorem fr_149_0 {g : gM} (h : gFin g) : g 149 0 = 150 := h 149 0 _ rfl
theorem fr_151_0 {g : gM} (h : gFin g) : g 151 0 = 152 := h 151 0 _ rfl
theorem fr_151_1 {g : gM} (h : gFin g) : g 151 1 = 158 := h 151 1 _ rfl
theorem fr_152_3 {g : gM} (h : gFin g) : g 152 3 = 153 := h 152 3 _ rfl
theorem fr_152_4 {g : gM} (h : gFin g) : g 152 4 = 154 := h 152 4 _ rfl
theorem fr_152_5 {g : gM} (h : gFin g) : g 152 5 = 155 := h 152 5 _ rfl
theorem fr_152_6 {g : gM} (h : gFin g) : g 152 6 = 156 := h 152 6 _ rfl
theorem fr_152_7 {g : gM} (h : gFin g) : g 152 7 = 157 := h 152 7 _ rfl
theorem fr_159_0 {g : gM} (h : gFin g) : g 159 0 = 160 := h 159 0 _ rfl
theorem fr_159_1 {g : gM} (h : gFin g) : g 159 1 = 167 := h 159 1 _ rfl
theorem fr_160_1 {g : gM} (h : gFin g) : g 160 1 = 161 := h 160 1 _ rfl
theorem fr_160_2 {g : gM} (h : gFin g) : g 160 2 = 162 := h 160 2 _ rfl
theorem fr_160_3 {g : gM} (h : gFin g) : g 160 3 = 163 := h 160 3 _ rfl
theorem fr_160_5 {g : gM} (h : gFin g) : g 160 5 = 164 := h 160 5 _ rfl
theorem fr_160_6 {g : gM} (h : gFin g) : g 160 6 = 165 := h 160 6 _ rfl
theorem fr_160_8 {g : gM} (h : gFin g) : g 160 8 = 166 := h 160 8 _ rfl
theorem fr_167_1 {g : gM} (h : gFin g) : g 167 1 = 168 := h 167 1 _ rfl
theorem fr_167_2 {g : gM} (h : gFin g) : g 167 2 = 169 := h 167 2 _ rfl
theorem fr_167_3 {g : gM} (h : gFin g) : g 167 3 = 170 := h 167 3 _ rfl
theorem fr_167_5 {g : gM} (h : gFin g) : g 167 5 = 171 := h 167 5 _ rfl
theorem fr_167_6 {g : gM} (h : gFin g) : g 167 6 = 172 := h 167 6 _ rfl
theorem fr_167_8 {g : gM} (h : gFin g) : g 167 8 = 173 := h 167 8 _ rfl
theorem fr_177_1 {g : gM} (h : gFin g) : g 177 1 = 178 := h 177 1 _ rfl
theorem fr_177_2 {g : gM} (h : gFin g) : g 177 2 = 179 := h 177 2 _ rfl
theorem fr_177_3 {g : gM} (h : gFin g) : g 177 3 = 180 := h 177 3 _ rfl
theorem fr_177_4 {g : gM} (h : gFin g) : g 177 4 = 181 := h 177 4 _ rfl
theorem fr_177_5 {g : gM} (h : gFin g) : g 177 5 = 182 := h 177 5 _ rfl
theorem fr_177_7 {g : gM} (h : gFin g) : g 177 7 = 183 := h 177 7 _ rfl
theorem fr_177_11 {g : gM} (h : gFin g) : g 177 11 = 184 := h 177 11 _ rfl
theorem fr_177_12 {g : gM} (h : gFin g) : g 177 12 = 185 := h 177 12 _ rfl
theorem fr_177_15 {g : gM} (h : gFin g) : g 177 15 = 186 := h 177 15 _ rfl
theorem fr_177_16 {g : gM} (h : gFin g) : g 177 16 = 187 := h 177 16 _ rfl
theorem fr_177_17 {g : gM} (h : gFin g) : g 177 17 = 188 := h 177 17 _ rfl
theorem fr_177_26 {g : gM} (h : gFin g) : g 177 26 = 189 := h 177 26 _ rfl
theorem fr_177_31 {g : gM} (h : gFin g) : g 177 31 = 190 := h 177 31 _ rfl
theorem fr_177_32 {g : gM} (h : gFin g) : g 177 32 = 191 := h 177 32 _ rfl
theorem fr_177_34 {g : gM} (h : gFin g) : g 177 34 = 192 := h 177 34 _ rfl
theorem fr_177_35 {g : gM} (h : gFin g) : g 177 35 = 193 := h 177 35 _ rfl
theorem fr_177_36 {g : gM} (h : gFin g) : g 177 36 = 194 := h 177 36 _ rfl
theorem fr_177_37 {g : gM} (h : gFin g) : g 177 37 = 195 := h 177 37 _ rfl
theorem fr_177_38 {g : gM} (h : gFin g) : g 177 38 = 196 := h 177 38 _ rfl
theorem fr_177_39 {g : gM} (h : gFin g) : g 177 39 = 197 := h 177 39 _ rfl
theorem fr_177_40 {g : gM} (h : gFin g) : g 177 40 = 198 := h 177 40 _ rfl
theorem fr_177_47 {g : gM} (h : gFin g) : g 177 47 = 199 := h 177 47 _ rfl
theorem fr_177_48 {g : gM} (h : gFin g) : g 177 48 = 200 := h 177 48 _ rfl
/-! ===== rules with the standing references at hand ===== -/
section GL
variable {F Fy : gF} {d d2 mc ms n pc npc idx : Nat} {ls st st2 : List gV} {as : List gV} {sh : gS} {g : gM} {Q : gQ}
theorem gw_getref {q k N : Nat} {ty : FieldType} {fin : Bool} {a x : Int} (hi : gI F pc (.getfield idx) 3 npc) (hf : gFL F.1.cls idx q k N 2 ty fin) (hs : gsz sh a q N) (hv : g a (k : Int) = x) (kk : gWP F d mc ms npc ls ((2, x) :: st) sh g Q) : gWP F d mc ms pc ls ((2, a) :: st) sh g Q := by
  subst hv
  exact gw_getfield hi hf hs kk
/-- an end: this answer, these shapes, this memory -/
def gR (v : Option gV) (sh : gS) (g : gM) : gQ := fun r sh2 g2 => r = v ∧ sh2 = sh ∧ g2 = g
theorem gw_cS1 {v : gV} {g2 : gM} (hi : gI F pc (.invokestatic idx) 3 npc) (hy : gYs Fy n) (hlk : Cond.methodLink F.1.cls idx Fy.1 ∈ lw_good) (hT : gTri Fy d2 0 0 as sh g (gR (some v) sh g2)) (hst : st = as.reverse ++ st2) (hn : as.length = n) (hcat : Nat.ble (st2.map gca).sum 8 = true) (hdp : Nat.ble (d2 + 1) d = true) (kk : gWP F d mc ms npc ls (v :: st2) sh g2 Q) : gWP F d mc ms pc ls st sh g Q :=
  gw_callS hi hy hlk hT hst hn hcat hdp ⟨Nat.zero_le _, Nat.zero_le _⟩ (fun r sh2 g2 hq => by
    obtain ⟨rfl, rfl, rfl⟩ := hq
    exact kk)
/-- a call that makes nothing, by what holds behind it -/
theorem gw_xS1 {Q2 : gQ} (hi : gI F pc (.invokestatic idx) 3 npc) (hy : gYs Fy n) (hlk : Cond.methodLink F.1.cls idx Fy.1 ∈ lw_good) (hT : gTri Fy d2 0 0 as sh g Q2) (hst : st = as.reverse ++ st2) (hn : as.length = n) (hcat : Nat.ble (st2.map gca).sum 8 = true) (hdp : Nat.ble (d2 + 1) d = true) (kk : ∀ r sh2 g2, Q2 r sh2 g2 → gWP F d mc ms npc ls (r.toList ++ st2) sh2 g2 Q) : gWP F d mc ms pc ls st sh g Q :=
  gw_callS hi hy hlk hT hst hn hcat hdp ⟨Nat.zero_le _, Nat.zero_le _⟩ (fun r sh2 g2 hq => kk r sh2 g2 hq)
theorem gw_cS0 {g2 : gM} (hi : gI F pc (.invokestatic idx) 3 npc) (hy : gYs Fy n) (hlk : Cond.methodLink F.1.cls idx Fy.1 ∈ lw_good) (hT : gTri Fy d2 0 0 as sh g (gR none sh g2)) (hst : st = as.reverse ++ st2) (hn : as.length = n) (hcat : Nat.ble (st2.map gca).sum 8 = true) (hdp : Nat.ble (d2 + 1) d = true) (kk : gWP F d mc ms npc ls st2 sh g2 Q) : gWP F d mc ms pc ls st sh g Q :=
  gw_callS hi hy hlk hT hst hn hcat hdp ⟨Nat.zero_le _, Nat.zero_le _⟩ (fun r sh2 g2 hq => by
    obtain ⟨rfl, rfl, rfl⟩ := hq
    exact kk)
theorem gw_cSN1 {v : gV} {g2 : gM} (hi : gI F pc (.invokestatic idx) 3 npc) (hy : gYs Fy n) (hlk : ∃ h, (F.1.cls, idx, Fy.1, h) ∈ gNm) (hT : gTri Fy d2 0 0 as sh g (gR (some v) sh g2)) (hst : st = as.reverse ++ st2) (hn : as.length = n) (hcat : Nat.ble (st2.map gca).sum 8 = true) (hdp : Nat.ble (d2 + 1) d = true) (kk : gWP F d mc ms npc ls (v :: st2) sh g2 Q) : gWP F d mc ms pc ls st sh g Q :=
  gw_callSN hi hy hlk hT hst hn hcat hdp ⟨Nat.zero_le _, Nat.zero_le _⟩ (fun r sh2 g2 hq => by
    obtain ⟨rfl, rfl, rfl⟩ := hq
    exact kk)
/-- a call that makes nothing, by what holds behind it -/
theorem gw_xSN1 {Q2 : gQ} (hi : gI F pc (.invokestatic idx) 3 npc) (hy : gYs Fy n) (hlk : ∃ h, (F.1.cls, idx, Fy.1, h) ∈ gNm) (hT : gTri Fy d2 0 0 as sh g Q2) (hst : st = as.reverse ++ st2) (hn : as.length = n) (hcat : Nat.ble (st2.map gca).sum 8 = true) (hdp : Nat.ble (d2 + 1) d = true) (kk : ∀ r sh2 g2, Q2 r sh2 g2 → gWP F d mc ms npc ls (r.toList ++ st2) sh2 g2 Q) : gWP F d mc ms pc ls st sh g Q :=
  gw_callSN hi hy hlk hT hst hn hcat hdp ⟨Nat.zero_le _, Nat.zero_le _⟩ (fun r sh2 g2 hq => kk r sh2 g2 hq)
theorem gw_cSN0 {g2 : gM} (hi : gI F pc (.invokestatic idx) 3 npc) (hy : gYs Fy n) (hlk : ∃ h, (F.1.cls, idx, Fy.1, h) ∈ gNm) (hT : gTri Fy d2 0 0 as sh g (gR none sh g2)) (hst : st = as.reverse ++ st2) (hn : as.length = n) (hcat : Nat.ble (st2.map gca).sum 8 = true) (hdp : Nat.ble (d2 + 1) d = true) (kk : gWP F d mc ms npc ls st2 sh g2 Q) : gWP F d mc ms pc ls st sh g Q :=
  gw_callSN hi hy hlk hT hst hn hcat hdp ⟨Nat.zero_le _, Nat.zero_le _⟩ (fun r sh2 g2 hq => by
    obtain ⟨rfl, rfl, rfl⟩ := hq
    exact kk)
theorem gw_cV1 {b : Int} {q N : Nat} {v : gV} {g2 : gM} (hi : gI F pc (.invokevirtual idx) 3 npc) (hy : gYv Fy n q) (hlk : Cond.methodLink F.1.cls idx Fy.1 ∈ lw_good) (hT : gTri Fy d2 0 0 ((2, b) :: as) sh g (gR (some v) sh g2)) (hst : st = as.reverse ++ (2, b) :: st2) (hn : as.length = n) (hs : gsz sh b q N) (hcat : Nat.ble (st2.map gca).sum 8 = true) (hdp : Nat.ble (d2 + 1) d = true) (kk : gWP F d mc ms npc ls (v :: st2) sh g2 Q) : gWP F d mc ms pc ls st sh g Q :=
  gw_callV hi hy hlk hT hst hn hs hcat hdp ⟨Nat.zero_le _, Nat.zero_le _⟩ (fun r sh2 g2 hq => by
    obtain ⟨rfl, rfl, rfl⟩ := hq
    exact kk)
/-- a call that makes nothing, by what holds behind it -/
theorem gw_xV1 {b : Int} {q N : Nat} {Q2 : gQ} (hi : gI F pc (.invokevirtual idx) 3 npc) (hy : gYv Fy n q) (hlk : Cond.methodLink F.1.cls idx Fy.1 ∈ lw_good) (hT : gTri Fy d2 0 0 ((2, b) :: as) sh g Q2) (hst : st = as.reverse ++ (2, b) :: st2) (hn : as.length = n) (hs : gsz sh b q N) (hcat : Nat.ble (st2.map gca).sum 8 = true) (hdp : Nat.ble (d2 + 1) d = true) (kk : ∀ r sh2 g2, Q2 r sh2 g2 → gWP F d mc ms npc ls (r.toList ++ st2) sh2 g2 Q) : gWP F d mc ms pc ls st sh g Q :=
  gw_callV hi hy hlk hT hst hn hs hcat hdp ⟨Nat.zero_le _, Nat.zero_le _⟩ (fun r sh2 g2 hq => kk r sh2 g2 hq)
theorem gw_cV0 {b : Int} {q N : Nat} {g2 : gM} (hi : gI F pc (.invokevirtual idx) 3 npc) (hy : gYv Fy n q) (hlk : Cond.methodLink F.1.cls idx Fy.1 ∈ lw_good) (hT : gTri Fy d2 0 0 ((2, b) :: as) sh g (gR none sh g2)) (hst : st = as.reverse ++ (2, b) :: st2) (hn : as.length = n) (hs : gsz sh b q N) (hcat : Nat.ble (st2.map gca).sum 8 = true) (hdp : Nat.ble (d2 + 1) d = true) (kk : gWP F d mc ms npc ls st2 sh g2 Q) : gWP F d mc ms pc ls st sh g Q :=
  gw_callV hi hy hlk hT hst hn hs hcat hdp ⟨Nat.zero_le _, Nat.zero_le _⟩ (fun r sh2 g2 hq => by
    obtain ⟨rfl, rfl, rfl⟩ := hq
    exact kk)
theorem gw_istore_0 {x : gV} {t : List gV} {y : Int} (hi : gI F pc (.istore_n 0) 1 npc) (hn : Nat.ble 1 F.2.2.1 = true) (k : gWP F d mc ms npc ((0, y) :: t) st sh g Q) : gWP F d mc ms pc (x :: t) ((0, y) :: st) sh g Q := by
  have e : gset (x :: t) 0 (0, y) = (0, y) :: t := by simp [gset]
  exact gw_istore_n hi (Nat.le_of_ble_eq_true hn) (by rw [show ((0 : Fin 4) : Nat) = 0 from rfl, e]; exact k)
theorem gw_astore_0 {x : gV} {t : List gV} {y : Int} {tg : Nat} (hi : gI F pc (.astore_n 0) 1 npc) (hn : Nat.ble 1 F.2.2.1 = true) (ht : Nat.ble 2 tg = true) (k : gWP F d mc ms npc ((tg, y) :: t) st sh g Q) : gWP F d mc ms pc (x :: t) ((tg, y) :: st) sh g Q := by
  have e : gset (x :: t) 0 (tg, y) = (tg, y) :: t := by simp [gset]
  exact gw_astore_n hi (Nat.le_of_ble_eq_true hn) ht (by rw [show ((0 : Fin 4) : Nat) = 0 from rfl, e]; exact k)
theorem gw_iinc_0 {y m : Int} {t : List gV} (hi : gI F pc (.iinc 0 m) 3 npc) (hn : Nat.ble 1 F.2.2.1 = true) (k : gWP F d mc ms npc ((0, y + m) :: t) st sh g Q) : gWP F d mc ms pc ((0, y) :: t) st sh g Q := by
  have e : gset ((0, y) :: t) 0 (0, y + m) = (0, y + m) :: t := by simp [gset]
  exact gw_iinc hi rfl (Nat.le_of_ble_eq_true hn) (by rw [e]; exact k)
theorem gw_lstore_0 {x x2 : gV} {t : List gV} {y : Int} (hi : gI F pc (.lstore_n 0) 1 npc) (hn : Nat.ble 2 F.2.2.1 = true) (k : gWP F d mc ms npc ((1, y) :: (9, 0) :: t) st sh g Q) : gWP F d mc ms pc (x :: x2 :: t) ((1, y) :: st) sh g Q := by
  have e : (gset (x :: x2 :: t) 0 (1, y)).set 1 (9, 0) = (1, y) :: (9, 0) :: t := by simp [gset]
  exact gw_lstore_n hi (Nat.le_of_ble_eq_true hn) (by first | (rw [e]; exact k) | (rw [show ((0 : Fin 4) : Nat) = 0 from rfl, e]; exact k))
theorem gw_istore_1 {a0 : gV} {x : gV} {t : List gV} {y : Int} (hi : gI F pc (.istore_n 1) 1 npc) (hc : (a0.1 == 1) = false) (hn : Nat.ble 2 F.2.2.1 = true) (k : gWP F d mc ms npc (a0 :: (0, y) :: t) st sh g Q) : gWP F d mc ms pc (a0 :: x :: t) ((0, y) :: st) sh g Q := by
  have e : gset (a0 :: x :: t) 1 (0, y) = a0 :: (0, y) :: t := by simp [gset, show ¬ a0.1 = 1 from by simpa using hc]
  exact gw_istore_n hi (Nat.le_of_ble_eq_true hn) (by rw [show ((1 : Fin 4) : Nat) = 1 from rfl, e]; exact k)
theorem gw_astore_1 {a0 : gV} {x : gV} {t : List gV} {y : Int} {tg : Nat} (hi : gI F pc (.astore_n 1) 1 npc) (hc : (a0.1 == 1) = false) (hn : Nat.ble 2 F.2.2.1 = true) (ht : Nat.ble 2 tg = true) (k : gWP F d mc ms npc (a0 :: (tg, y) :: t) st sh g Q) : gWP F d mc ms pc (a0 :: x :: t) ((tg, y) :: st) sh g Q := by
  have e : gset (a0 :: x :: t) 1 (tg, y) = a0 :: (tg, y) :: t := by simp [gset, show ¬ a0.1 = 1 from by simpa using hc]
  exact gw_astore_n hi (Nat.le_of_ble_eq_true hn) ht (by rw [show ((1 : Fin 4) : Nat) = 1 from rfl, e]; exact k)
theorem gw_iinc_1 {a0 : gV} {y m : Int} {t : List gV} (hi : gI F pc (.iinc 1 m) 3 npc) (hc : (a0.1 == 1) = false) (hn : Nat.ble 2 F.2.2.1 = true) (k : gWP F d mc ms npc (a0 :: (0, y + m) :: t) st sh g Q) : gWP F d mc ms pc (a0 :: (0, y) :: t) st sh g Q := by
  have e : gset (a0 :: (0, y) :: t) 1 (0, y + m) = a0 :: (0, y + m) :: t := by simp [gset, show ¬ a0.1 = 1 from by simpa using hc]
  exact gw_iinc hi rfl (Nat.le_of_ble_eq_true hn) (by rw [e]; exact k)
theorem gw_lstore_1 {a0 : gV} {x x2 : gV} {t : List gV} {y : Int} (hi : gI F pc (.lstore_n 1) 1 npc) (hc : (a0.1 == 1) = false) (hn : Nat.ble 3 F.2.2.1 = true) (k : gWP F d mc ms npc (a0 :: (1, y) :: (9, 0) :: t) st sh g Q) : gWP F d mc ms pc (a0 :: x :: x2 :: t) ((1, y) :: st) sh g Q := by
  have e : (gset (a0 :: x :: x2 :: t) 1 (1, y)).set 2 (9, 0) = a0 :: (1, y) :: (9, 0) :: t := by simp [gset, show ¬ a0.1 = 1 from by simpa using hc]
  exact gw_lstore_n hi (Nat.le_of_ble_eq_true hn) (by first | (rw [e]; exact k) | (rw [show ((1 : Fin 4) : Nat) = 1 from rfl, e]; exact k))
theorem gw_istore_2 {a0 : gV} {a1 : gV} {x : gV} {t : List gV} {y : Int} (hi : gI F pc (.istore_n 2) 1 npc) (hc : (a1.1 == 1) = false) (hn : Nat.ble 3 F.2.2.1 = true) (k : gWP F d mc ms npc (a0 :: a1 :: (0, y) :: t) st sh g Q) : gWP F d mc ms pc (a0 :: a1 :: x :: t) ((0, y) :: st) sh g Q := by
  have e : gset (a0 :: a1 :: x :: t) 2 (0, y) = a0 :: a1 :: (0, y) :: t := by simp [gset, show ¬ a1.1 = 1 from by simpa using hc]
  exact gw_istore_n hi (Nat.le_of_ble_eq_true hn) (by rw [show ((2 : Fin 4) : Nat) = 2 from rfl, e]; exact k)
theorem gw_astore_2 {a0 : gV} {a1 : gV} {x : gV} {t : List gV} {y : Int} {tg : Nat} (hi : gI F pc (.astore_n 2) 1 npc) (hc : (a1.1 == 1) = false) (hn : Nat.ble 3 F.2.2.1 = true) (ht : Nat.ble 2 tg = true) (k : gWP F d mc ms npc (a0 :: a1 :: (tg, y) :: t) st sh g Q) : gWP F d mc ms pc (a0 :: a1 :: x :: t) ((tg, y) :: st) sh g Q := by
  have e : gset (a0 :: a1 :: x :: t) 2 (tg, y) = a0 :: a1 :: (tg, y) :: t := by simp [gset, show ¬ a1.1 = 1 from by simpa using hc]
  exact gw_astore_n hi (Nat.le_of_ble_eq_true hn) ht (by rw [show ((2 : Fin 4) : Nat) = 2 from rfl, e]; exact k)
theorem gw_iinc_2 {a0 : gV} {a1 : gV} {y m : Int} {t : List gV} (hi : gI F pc (.iinc 2 m) 3 npc) (hc : (a1.1 == 1) = false) (hn : Nat.ble 3 F.2.2.1 = true) (k : gWP F d mc ms npc (a0 :: a1 :: (0, y + m) :: t) st sh g Q) : gWP F d mc ms pc (a0 :: a1 :: (0, y) :: t) st sh g Q := by
  have e : gset (a0 :: a1 :: (0, y) :: t) 2 (0, y + m) = a0 :: a1 :: (0, y + m) :: t := by simp [gset, show ¬ a1.1 = 1 from by simpa using hc]
  exact gw_iinc hi rfl (Nat.le_of_ble_eq_true hn) (by rw [e]; exact k)
theorem gw_lstore_2 {a0 : gV} {a1 : gV} {x x2 : gV} {t : List gV} {y : Int} (hi : gI F pc (.lstore_n 2) 1 npc) (hc : (a1.1 == 1) = false) (hn : Nat.ble 4 F.2.2.1 = true) (k : gWP F d mc ms npc (a0 :: a1 :: (1, y) :: (9, 0) :: t) st sh g Q) : gWP F d mc ms pc (a0 :: a1 :: x :: x2 :: t) ((1, y) :: st) sh g Q := by
  have e : (gset (a0 :: a1 :: x :: x2 :: t) 2 (1, y)).set 3 (9, 0) = a0 :: a1 :: (1, y) :: (9, 0) :: t := by simp [gset, show ¬ a1.1 = 1 from by simpa using hc]
  exact gw_lstore_n hi (Nat.le_of_ble_eq_true hn) (by first | (rw [e]; exact k) | (rw [show ((2 : Fin 4) : Nat) = 2 from rfl, e]; exact k))
theorem gw_istore_3 {a0 : gV} {a1 : gV} {a2 : gV} {x : gV} {t : List gV} {y : Int} (hi : gI F pc (.istore_n 3) 1 npc) (hc : (a2.1 == 1) = false) (hn : Nat.ble 4 F.2.2.1 = true) (k : gWP F d mc ms npc (a0 :: a1 :: a2 :: (0, y) :: t) st sh g Q) : gWP F d mc ms pc (a0 :: a1 :: a2 :: x :: t) ((0, y) :: st) sh g Q := by
  have e : gset (a0 :: a1 :: a2 :: x :: t) 3 (0, y) = a0 :: a1 :: a2 :: (0, y) :: t := by simp [gset, show ¬ a2.1 = 1 from by simpa using hc]
  exact gw_istore_n hi (Nat.le_of_ble_eq_true hn) (by rw [show ((3 : Fin 4) : Nat) = 3 from rfl, e]; exact k)
theorem gw_astore_3 {a0 : gV} {a1 : gV} {a2 : gV} {x : gV} {t : List gV} {y : Int} {tg : Nat} (hi : gI F pc (.astore_n 3) 1 npc) (hc : (a2.1 == 1) = false) (hn : Nat.ble 4 F.2.2.1 = true) (ht : Nat.ble 2 tg = true) (k : gWP F d mc ms npc (a0 :: a1 :: a2 :: (tg, y) :: t) st sh g Q) : gWP F d mc ms pc (a0 :: a1 :: a2 :: x :: t) ((tg, y) :: st) sh g Q := by
  have e : gset (a0 :: a1 :: a2 :: x :: t) 3 (tg, y) = a0 :: a1 :: a2 :: (tg, y) :: t := by simp [gset, show ¬ a2.1 = 1 from by simpa using hc]
  exact gw_astore_n hi (Nat.le_of_ble_eq_true hn) ht (by rw [show ((3 : Fin 4) : Nat) = 3 from rfl, e]; exact k)
theorem gw_iinc_3 {a0 : gV} {a1 : gV} {a2 : gV} {y m : Int} {t : List gV} (hi : gI F pc (.iinc 3 m) 3 npc) (hc : (a2.1 == 1) = false) (hn : Nat.ble 4 F.2.2.1 = true) (k : gWP F d mc ms npc (a0 :: a1 :: a2 :: (0, y + m) :: t) st sh g Q) : gWP F d mc ms pc (a0 :: a1 :: a2 :: (0, y) :: t) st sh g Q := by
  have e : gset (a0 :: a1 :: a2 :: (0, y) :: t) 3 (0, y + m) = a0 :: a1 :: a2 :: (0, y + m) :: t := by simp [gset, show ¬ a2.1 = 1 from by simpa using hc]
  exact gw_iinc hi rfl (Nat.le_of_ble_eq_true hn) (by rw [e]; exact k)
theorem gw_lstore_3 {a0 : gV} {a1 : gV} {a2 : gV} {x x2 : gV} {t : List gV} {y : Int} (hi : gI F pc (.lstore_n 3) 1 npc) (hc : (a2.1 == 1) = false) (hn : Nat.ble 5 F.2.2.1 = true) (k : gWP F d mc ms npc (a0 :: a1 :: a2 :: (1, y) :: (9, 0) :: t) st sh g Q) : gWP F d mc ms pc (a0 :: a1 :: a2 :: x :: x2 :: t) ((1, y) :: st) sh g Q := by
  have e : (gset (a0 :: a1 :: a2 :: x :: x2 :: t) 3 (1, y)).set 4 (9, 0) = a0 :: a1 :: a2 :: (1, y) :: (9, 0) :: t := by simp [gset, show ¬ a2.1 = 1 from by simpa using hc]
  exact gw_lstore_n hi (Nat.le_of_ble_eq_true hn) (by first | (rw [e]; exact k) | (rw [show ((3 : Fin 4) : Nat) = 3 from rfl, e]; exact k))
theorem gw_istore_4 {a0 : gV} {a1 : gV} {a2 : gV} {a3 : gV} {x : gV} {t : List gV} {y : Int} (hi : gI F pc (.istore 4) 2 npc) (hc : (a3.1 == 1) = false) (hn : Nat.ble 5 F.2.2.1 = true) (k : gWP F d mc ms npc (a0 :: a1 :: a2 :: a3 :: (0, y) :: t) st sh g Q) : gWP F d mc ms pc (a0 :: a1 :: a2 :: a3 :: x :: t) ((0, y) :: st) sh g Q := by
  have e : gset (a0 :: a1 :: a2 :: a3 :: x :: t) 4 (0, y) = a0 :: a1 :: a2 :: a3 :: (0, y) :: t := by simp [gset, show ¬ a3.1 = 1 from by simpa using hc]
  exact gw_istore hi (Nat.le_of_ble_eq_true hn) (by rw [e]; exact k)
theorem gw_astore_4 {a0 : gV} {a1 : gV} {a2 : gV} {a3 : gV} {x : gV} {t : List gV} {y : Int} {tg : Nat} (hi : gI F pc (.astore 4) 2 npc) (hc : (a3.1 == 1) = false) (hn : Nat.ble 5 F.2.2.1 = true) (ht : Nat.ble 2 tg = true) (k : gWP F d mc ms npc (a0 :: a1 :: a2 :: a3 :: (tg, y) :: t) st sh g Q) : gWP F d mc ms pc (a0 :: a1 :: a2 :: a3 :: x :: t) ((tg, y) :: st) sh g Q := by
  have e : gset (a0 :: a1 :: a2 :: a3 :: x :: t) 4 (tg, y) = a0 :: a1 :: a2 :: a3 :: (tg, y) :: t := by simp [gset, show ¬ a3.1 = 1 from by simpa using hc]
  exact gw_astore hi (Nat.le_of_ble_eq_true hn) ht (by rw [e]; exact k)
theorem gw_iinc_4 {a0 : gV} {a1 : gV} {a2 : gV} {a3 : gV} {y m : Int} {t : List gV} (hi : gI F pc (.iinc 4 m) 3 npc) (hc : (a3.1 == 1) = false) (hn : Nat.ble 5 F.2.2.1 = true) (k : gWP F d mc ms npc (a0 :: a1 :: a2 :: a3 :: (0, y + m) :: t) st sh g Q) : gWP F d mc ms pc (a0 :: a1 :: a2 :: a3 :: (0, y) :: t) st sh g Q := by
  have e : gset (a0 :: a1 :: a2 :: a3 :: (0, y) :: t) 4 (0, y + m) = a0 :: a1 :: a2 :: a3 :: (0, y + m) :: t := by simp [gset, show ¬ a3.1 = 1 from by simpa using hc]
  exact gw_iinc hi rfl (Nat.le_of_ble_eq_true hn) (by rw [e]; exact k)
theorem gw_lstore_4 {a0 : gV} {a1 : gV} {a2 : gV} {a3 : gV} {x x2 : gV} {t : List gV} {y : Int} (hi : gI F pc (.lstore 4) 2 npc) (hc : (a3.1 == 1) = false) (hn : Nat.ble 6 F.2.2.1 = true) (k : gWP F d mc ms npc (a0 :: a1 :: a2 :: a3 :: (1, y) :: (9, 0) :: t) st sh g Q) : gWP F d mc ms pc (a0 :: a1 :: a2 :: a3 :: x :: x2 :: t) ((1, y) :: st) sh g Q := by
  have e : (gset (a0 :: a1 :: a2 :: a3 :: x :: x2 :: t) 4 (1, y)).set 5 (9, 0) = a0 :: a1 :: a2 :: a3 :: (1, y) :: (9, 0) :: t := by simp [gset, show ¬ a3.1 = 1 from by simpa using hc]
  exact gw_lstore hi (Nat.le_of_ble_eq_true hn) (by rw [e]; exact k)
theorem gw_istore_5 {a0 : gV} {a1 : gV} {a2 : gV} {a3 : gV} {a4 : gV} {x : gV} {t : List gV} {y : Int} (hi : gI F pc (.istore 5) 2 npc) (hc : (a4.1 == 1) = false) (hn : Nat.ble 6 F.2.2.1 = true) (k : gWP F d mc ms npc (a0 :: a1 :: a2 :: a3 :: a4 :: (0, y) :: t) st sh g Q) : gWP F d mc ms pc (a0 :: a1 :: a2 :: a3 :: a4 :: x :: t) ((0, y) :: st) sh g Q := by
  have e : gset (a0 :: a1 :: a2 :: a3 :: a4 :: x :: t) 5 (0, y) = a0 :: a1 :: a2 :: a3 :: a4 :: (0, y) :: t := by simp [gset, show ¬ a4.1 = 1 from by simpa using hc]
  exact gw_istore hi (Nat.le_of_ble_eq_true hn) (by rw [e]; exact k)
theorem gw_astore_5 {a0 : gV} {a1 : gV} {a2 : gV} {a3 : gV} {a4 : gV} {x : gV} {t : List gV} {y : Int} {tg : Nat} (hi : gI F pc (.astore 5) 2 npc) (hc : (a4.1 == 1) = false) (hn : Nat.ble 6 F.2.2.1 = true) (ht : Nat.ble 2 tg = true) (k : gWP F d mc ms npc (a0 :: a1 :: a2 :: a3 :: a4 :: (tg, y) :: t) st sh g Q) : gWP F d mc ms pc (a0 :: a1 :: a2 :: a3 :: a4 :: x :: t) ((tg, y) :: st) sh g Q := by
  have e : gset (a0 :: a1 :: a2 :: a3 :: a4 :: x :: t) 5 (tg, y) = a0 :: a1 :: a2 :: a3 :: a4 :: (tg, y) :: t := by simp [gset, show ¬ a4.1 = 1 from by simpa using hc]
  exact gw_astore hi (Nat.le_of_ble_eq_true hn) ht (by rw [e]; exact k)
theorem gw_iinc_5 {a0 : gV} {a1 : gV} {a2 : gV} {a3 : gV} {a4 : gV} {y m : Int} {t : List gV} (hi : gI F pc (.iinc 5 m) 3 npc) (hc : (a4.1 == 1) = false) (hn : Nat.ble 6 F.2.2.1 = true) (k : gWP F d mc ms npc (a0 :: a1 :: a2 :: a3 :: a4 :: (0, y + m) :: t) st sh g Q) : gWP F d mc ms pc (a0 :: a1 :: a2 :: a3 :: a4 :: (0, y) :: t) st sh g Q := by
  have e : gset (a0 :: a1 :: a2 :: a3 :: a4 :: (0, y) :: t) 5 (0, y + m) = a0 :: a1 :: a2 :: a3 :: a4 :: (0, y + m) :: t := by simp [gset, show ¬ a4.1 = 1 from by simpa using hc]
  exact gw_iinc hi rfl (Nat.le_of_ble_eq_true hn) (by rw [e]; exact k)
theorem gw_lstore_5 {a0 : gV} {a1 : gV} {a2 : gV} {a3 : gV} {a4 : gV} {x x2 : gV} {t : List gV} {y : Int} (hi : gI F pc (.lstore 5) 2 npc) (hc : (a4.1 == 1) = false) (hn : Nat.ble 7 F.2.2.1 = true) (k : gWP F d mc ms npc (a0 :: a1 :: a2 :: a3 :: a4 :: (1, y) :: (9, 0) :: t) st sh g Q) : gWP F d mc ms pc (a0 :: a1 :: a2 :: a3 :: a4 :: x :: x2 :: t) ((1, y) :: st) sh g Q := by
  have e : (gset (a0 :: a1 :: a2 :: a3 :: a4 :: x :: x2 :: t) 5 (1, y)).set 6 (9, 0) = a0 :: a1 :: a2 :: a3 :: a4 :: (1, y) :: (9, 0) :: t := by simp [gset, show ¬ a4.1 = 1 from by simpa using hc]
  exact gw_lstore hi (Nat.le_of_ble_eq_true hn) (by rw [e]; exact k)
theorem gw_istore_6 {a0 : gV} {a1 : gV} {a2 : gV} {a3 : gV} {a4 : gV} {a5 : gV} {x : gV} {t : List gV} {y : Int} (hi : gI F pc (.istore 6) 2 npc) (hc : (a5.1 == 1) = false) (hn : Nat.ble 7 F.2.2.1 = true) (k : gWP F d mc ms npc (a0 :: a1 :: a2 :: a3 :: a4 :: a5 :: (0, y) :: t) st sh g Q) : gWP F d mc ms pc (a0 :: a1 :: a2 :: a3 :: a4 :: a5 :: x :: t) ((0, y) :: st) sh g Q := by
  have e : gset (a0 :: a1 :: a2 :: a3 :: a4 :: a5 :: x :: t) 6 (0, y) = a0 :: a1 :: a2 :: a3 :: a4 :: a5 :: (0, y) :: t := by simp [gset, show ¬ a5.1 = 1 from by simpa using hc]
  exact gw_istore hi (Nat.le_of_ble_eq_true hn) (by rw [e]; exact k)
theorem gw_astore_6 {a0 : gV} {a1 : gV} {a2 : gV} {a3 : gV} {a4 : gV} {a5 : gV} {x : gV} {t : List gV} {y : Int} {tg : Nat} (hi : gI F pc (.astore 6) 2 npc) (hc : (a5.1 == 1) = false) (hn : Nat.ble 7 F.2.2.1 = true) (ht : Nat.ble 2 tg = true) (k : gWP F d mc ms npc (a0 :: a1 :: a2 :: a3 :: a4 :: a5 :: (tg, y) :: t) st sh g Q) : gWP F d mc ms pc (a0 :: a1 :: a2 :: a3 :: a4 :: a5 :: x :: t) ((tg, y) :: st) sh g Q := by
  have e : gset (a0 :: a1 :: a2 :: a3 :: a4 :: a5 :: x :: t) 6 (tg, y) = a0 :: a1 :: a2 :: a3 :: a4 :: a5 :: (tg, y) :: t := by simp [gset, show ¬ a5.1 = 1 from by simpa using hc]
  exact gw_astore hi (Nat.le_of_ble_eq_true hn) ht (by rw [e]; exact k)
theorem gw_iinc_6 {a0 : gV} {a1 : gV} {a2 : gV} {a3 : gV} {a4 : gV} {a5 : gV} {y m : Int} {t : List gV} (hi : gI F pc (.iinc 6 m) 3 npc) (hc : (a5.1 == 1) = false) (hn : Nat.ble 7 F.2.2.1 = true) (k : gWP F d mc ms npc (a0 :: a1 :: a2 :: a3 :: a4 :: a5 :: (0, y + m) :: t) st sh g Q) : gWP F d mc ms pc (a0 :: a1 :: a2 :: a3 :: a4 :: a5 :: (0, y) :: t) st sh g Q := by
  have e : gset (a0 :: a1 :: a2 :: a3 :: a4 :: a5 :: (0, y) :: t) 6 (0, y + m) = a0 :: a1 :: a2 :: a3 :: a4 :: a5 :: (0, y + m) :: t := by simp [gset, show ¬ a5.1 = 1 from by simpa using hc]
  exact gw_iinc hi rfl (Nat.le_of_ble_eq_true hn) (by rw [e]; exact k)
theorem gw_lstore_6 {a0 : gV} {a1 : gV} {a2 : gV} {a3 : gV} {a4 : gV} {a5 : gV} {x x2 : gV} {t : List gV} {y : Int} (hi : gI F pc (.lstore 6) 2 npc) (hc : (a5.1 == 1) = false) (hn : Nat.ble 8 F.2.2.1 = true) (k : gWP F d mc ms npc (a0 :: a1 :: a2 :: a3 :: a4 :: a5 :: (1, y) :: (9, 0) :: t) st sh g Q) : gWP F d mc ms pc (a0 :: a1 :: a2 :: a3 :: a4 :: a5 :: x :: x2 :: t) ((1, y) :: st) sh g Q := by
  have e : (gset (a0 :: a1 :: a2 :: a3 :: a4 :: a5 :: x :: x2 :: t) 6 (1, y)).set 7 (9, 0) = a0 :: a1 :: a2 :: a3 :: a4 :: a5 :: (1, y) :: (9, 0) :: t := by simp [gset, show ¬ a5.1 = 1 from by simpa using hc]
  exact gw_lstore hi (Nat.le_of_ble_eq_true hn) (by rw [e]; exact k)
theorem gw_istore_7 {a0 : gV} {a1 : gV} {a2 : gV} {a3 : gV} {a4 : gV} {a5 : gV} {a6 : gV} {x : gV} {t : List gV} {y : Int} (hi : gI F pc (.istore 7) 2 npc) (hc : (a6.1 == 1) = false) (hn : Nat.ble 8 F.2.2.1 = true) (k : gWP F d mc ms npc (a0 :: a1 :: a2 :: a3 :: a4 :: a5 :: a6 :: (0, y) :: t) st sh g Q) : gWP F d mc ms pc (a0 :: a1 :: a2 :: a3 :: a4 :: a5 :: a6 :: x :: t) ((0, y) :: st) sh g Q := by
  have e : gset (a0 :: a1 :: a2 :: a3 :: a4 :: a5 :: a6 :: x :: t) 7 (0, y) = a0 :: a1 :: a2 :: a3 :: a4 :: a5 :: a6 :: (0, y) :: t := by simp [gset, show ¬ a6.1 = 1 from by simpa using hc]
  exact gw_istore hi (Nat.le_of_ble_eq_true hn) (by rw [e]; exact k)
theorem gw_astore_7 {a0 : gV} {a1 : gV} {a2 : gV} {a3 : gV} {a4 : gV} {a5 : gV} {a6 : gV} {x : gV} {t : List gV} {y : Int} {tg : Nat} (hi : gI F pc (.astore 7) 2 npc) (hc : (a6.1 == 1) = false) (hn : Nat.ble 8 F.2.2.1 = true) (ht : Nat.ble 2 tg = true) (k : gWP F d mc ms npc (a0 :: a1 :: a2 :: a3 :: a4 :: a5 :: a6 :: (tg, y) :: t) st sh g Q) : gWP F d mc ms pc (a0 :: a1 :: a2 :: a3 :: a4 :: a5 :: a6 :: x :: t) ((tg, y) :: st) sh g Q := by
  have e : gset (a0 :: a1 :: a2 :: a3 :: a4 :: a5 :: a6 :: x :: t) 7 (tg, y) = a0 :: a1 :: a2 :: a3 :: a4 :: a5 :: a6 :: (tg, y) :: t := by simp [gset, show ¬ a6.1 = 1 from by simpa using hc]
  exact gw_astore hi (Nat.le_of_ble_eq_true hn) ht (by rw [e]; exact k)
theorem gw_iinc_7 {a0 : gV} {a1 : gV} {a2 : gV} {a3 : gV} {a4 : gV} {a5 : gV} {a6 : gV} {y m : Int} {t : List gV} (hi : gI F pc (.iinc 7 m) 3 npc) (hc : (a6.1 == 1) = false) (hn : Nat.ble 8 F.2.2.1 = true) (k : gWP F d mc ms npc (a0 :: a1 :: a2 :: a3 :: a4 :: a5 :: a6 :: (0, y + m) :: t) st sh g Q) : gWP F d mc ms pc (a0 :: a1 :: a2 :: a3 :: a4 :: a5 :: a6 :: (0, y) :: t) st sh g Q := by
  have e : gset (a0 :: a1 :: a2 :: a3 :: a4 :: a5 :: a6 :: (0, y) :: t) 7 (0, y + m) = a0 :: a1 :: a2 :: a3 :: a4 :: a5 :: a6 :: (0, y + m) :: t := by simp [gset, show ¬ a6.1 = 1 from by simpa using hc]
  exact gw_iinc hi rfl (Nat.le_of_ble_eq_true hn) (by rw [e]; exact k)
theorem gw_lstore_7 {a0 : gV} {a1 : gV} {a2 : gV} {a3 : gV} {a4 : gV} {a5 : gV} {a6 : gV} {x x2 : gV} {t : List gV} {y : Int} (hi : gI F pc (.lstore 7) 2 npc) (hc : (a6.1 == 1) = false) (hn : Nat.ble 9 F.2.2.1 = true) (k : gWP F d mc ms npc (a0 :: a1 :: a2 :: a3 :: a4 :: a5 :: a6 :: (1, y) :: (9, 0) :: t) st sh g Q) : gWP F d mc ms pc (a0 :: a1 :: a2 :: a3 :: a4 :: a5 :: a6 :: x :: x2 :: t) ((1, y) :: st) sh g Q := by
  have e : (gset (a0 :: a1 :: a2 :: a3 :: a4 :: a5 :: a6 :: x :: x2 :: t) 7 (1, y)).set 8 (9, 0) = a0 :: a1 :: a2 :: a3 :: a4 :: a5 :: a6 :: (1, y) :: (9, 0) :: t := by simp [gset, show ¬ a6.1 = 1 from by simpa using hc]
  exact gw_lstore hi (Nat.le_of_ble_eq_true hn) (by rw [e]; exact k)
theorem gw_istore_8 {a0 : gV} {a1 : gV} {a2 : gV} {a3 : gV} {a4 : gV} {a5 : gV} {a6 : gV} {a7 : gV} {x : gV} {t : List gV} {y : Int} (hi : gI F pc (.istore 8) 2 npc) (hc : (a7.1 == 1) = false) (hn : Nat.ble 9 F.2.2.1 = true) (k : gWP F d mc ms npc (a0 :: a1 :: a2 :: a3 :: a4 :: a5 :: a6 :: a7 :: (0, y) :: t) st sh g Q) : gWP F d mc ms pc (a0 :: a1 :: a2 :: a3 :: a4 :: a5 :: a6 :: a7 :: x :: t) ((0, y) :: st) sh g Q := by
  have e : gset (a0 :: a1 :: a2 :: a3 :: a4 :: a5 :: a6 :: a7 :: x :: t) 8 (0, y) = a0 :: a1 :: a2 :: a3 :: a4 :: a5 :: a6 :: a7 :: (0, y) :: t := by simp [gset, show ¬ a7.1 = 1 from by simpa using hc]
  exact gw_istore hi (Nat.le_of_ble_eq_true hn) (by rw [e]; exact k)
theorem gw_astore_8 {a0 : gV} {a1 : gV} {a2 : gV} {a3 : gV} {a4 : gV} {a5 : gV} {a6 : gV} {a7 : gV} {x : gV} {t : List gV} {y : Int} {tg : Nat} (hi : gI F pc (.astore 8) 2 npc) (hc : (a7.1 == 1) = false) (hn : Nat.ble 9 F.2.2.1 = true) (ht : Nat.ble 2 tg = true) (k : gWP F d mc ms npc (a0 :: a1 :: a2 :: a3 :: a4 :: a5 :: a6 :: a7 :: (tg, y) :: t) st sh g Q) : gWP F d mc ms pc (a0 :: a1 :: a2 :: a3 :: a4 :: a5 :: a6 :: a7 :: x :: t) ((tg, y) :: st) sh g Q := by
  have e : gset (a0 :: a1 :: a2 :: a3 :: a4 :: a5 :: a6 :: a7 :: x :: t) 8 (tg, y) = a0 :: a1 :: a2 :: a3 :: a4 :: a5 :: a6 :: a7 :: (tg, y) :: t := by simp [gset, show ¬ a7.1 = 1 from by simpa using hc]
  exact gw_astore hi (Nat.le_of_ble_eq_true hn) ht (by rw [e]; exact k)
theorem gw_iinc_8 {a0 : gV} {a1 : gV} {a2 : gV} {a3 : gV} {a4 : gV} {a5 : gV} {a6 : gV} {a7 : gV} {y m : Int} {t : List gV} (hi : gI F pc (.iinc 8 m) 3 npc) (hc : (a7.1 == 1) = false) (hn : Nat.ble 9 F.2.2.1 = true) (k : gWP F d mc ms npc (a0 :: a1 :: a2 :: a3 :: a4 :: a5 :: a6 :: a7 :: (0, y + m) :: t) st sh g Q) : gWP F d mc ms pc (a0 :: a1 :: a2 :: a3 :: a4 :: a5 :: a6 :: a7 :: (0, y) :: t) st sh g Q := by
  have e : gset (a0 :: a1 :: a2 :: a3 :: a4 :: a5 :: a6 :: a7 :: (0, y) :: t) 8 (0, y + m) = a0 :: a1 :: a2 :: a3 :: a4 :: a5 :: a6 :: a7 :: (0, y + m) :: t := by simp [gset, show ¬ a7.1 = 1 from by simpa using hc]
  exact gw_iinc hi rfl (Nat.le_of_ble_eq_true hn) (by rw [e]; exact k)
theorem gw_lstore_8 {a0 : gV} {a1 : gV} {a2 : gV} {a3 : gV} {a4 : gV} {a5 : gV} {a6 : gV} {a7 : gV} {x x2 : gV} {t : List gV} {y : Int} (hi : gI F pc (.lstore 8) 2 npc) (hc : (a7.1 == 1) = false) (hn : Nat.ble 10 F.2.2.1 = true) (k : gWP F d mc ms npc (a0 :: a1 :: a2 :: a3 :: a4 :: a5 :: a6 :: a7 :: (1, y) :: (9, 0) :: t) st sh g Q) : gWP F d mc ms pc (a0 :: a1 :: a2 :: a3 :: a4 :: a5 :: a6 :: a7 :: x :: x2 :: t) ((1, y) :: st) sh g Q := by
  have e : (gset (a0 :: a1 :: a2 :: a3 :: a4 :: a5 :: a6 :: a7 :: x :: x2 :: t) 8 (1, y)).set 9 (9, 0) = a0 :: a1 :: a2 :: a3 :: a4 :: a5 :: a6 :: a7 :: (1, y) :: (9, 0) :: t := by simp [gset, show ¬ a7.1 = 1 from by simpa using hc]
  exact gw_lstore hi (Nat.le_of_ble_eq_true hn) (by rw [e]; exact k)
theorem gw_istore_9 {a0 : gV} {a1 : gV} {a2 : gV} {a3 : gV} {a4 : gV} {a5 : gV} {a6 : gV} {a7 : gV} {a8 : gV} {x : gV} {t : List gV} {y : Int} (hi : gI F pc (.istore 9) 2 npc) (hc : (a8.1 == 1) = false) (hn : Nat.ble 10 F.2.2.1 = true) (k : gWP F d mc ms npc (a0 :: a1 :: a2 :: a3 :: a4 :: a5 :: a6 :: a7 :: a8 :: (0, y) :: t) st sh g Q) : gWP F d mc ms pc (a0 :: a1 :: a2 :: a3 :: a4 :: a5 :: a6 :: a7 :: a8 :: x :: t) ((0, y) :: st) sh g Q := by
  have e : gset (a0 :: a1 :: a2 :: a3 :: a4 :: a5 :: a6 :: a7 :: a8 :: x :: t) 9 (0, y) = a0 :: a1 :: a2 :: a3 :: a4 :: a5 :: a6 :: a7 :: a8 :: (0, y) :: t := by simp [gset, show ¬ a8.1 = 1 from by simpa using hc]
  exact gw_istore hi (Nat.le_of_ble_eq_true hn) (by rw [e]; exact k)
theorem gw_astore_9 {a0 : gV} {a1 : gV} {a2 : gV} {a3 : gV} {a4 : gV} {a5 : gV} {a6 : gV} {a7 : gV} {a8 : gV} {x : gV} {t : List gV} {y : Int} {tg : Nat} (hi : gI F pc (.astore 9) 2 npc) (hc : (a8.1 == 1) = false) (hn : Nat.ble 10 F.2.2.1 = true) (ht : Nat.ble 2 tg = true) (k : gWP F d mc ms npc (a0 :: a1 :: a2 :: a3 :: a4 :: a5 :: a6 :: a7 :: a8 :: (tg, y) :: t) st sh g Q) : gWP F d mc ms pc (a0 :: a1 :: a2 :: a3 :: a4 :: a5 :: a6 :: a7 :: a8 :: x :: t) ((tg, y) :: st) sh g Q := by
  have e : gset (a0 :: a1 :: a2 :: a3 :: a4 :: a5 :: a6 :: a7 :: a8 :: x :: t) 9 (tg, y) = a0 :: a1 :: a2 :: a3 :: a4 :: a5 :: a6 :: a7 :: a8 :: (tg, y) :: t := by simp [gset, show ¬ a8.1 = 1 from by simpa using hc]
  exact gw_astore hi (Nat.le_of_ble_eq_true hn) ht (by rw [e]; exact k)
theorem gw_iinc_9 {a0 : gV} {a1 : gV} {a2 : gV} {a3 : gV} {a4 : gV} {a5 : gV} {a6 : gV} {a7 : gV} {a8 : gV} {y m : Int} {t : List gV} (hi : gI F pc (.iinc 9 m) 3 npc) (hc : (a8.1 == 1) = false) (hn : Nat.ble 10 F.2.2.1 = true) (k : gWP F d mc ms npc (a0 :: a1 :: a2 :: a3 :: a4 :: a5 :: a6 :: a7 :: a8 :: (0, y + m) :: t) st sh g Q) : gWP F d mc ms pc (a0 :: a1 :: a2 :: a3 :: a4 :: a5 :: a6 :: a7 :: a8 :: (0, y) :: t) st sh g Q := by
  have e : gset (a0 :: a1 :: a2 :: a3 :: a4 :: a5 :: a6 :: a7 :: a8 :: (0, y) :: t) 9 (0, y + m) = a0 :: a1 :: a2 :: a3 :: a4 :: a5 :: a6 :: a7 :: a8 :: (0, y + m) :: t := by simp [gset, show ¬ a8.1 = 1 from by simpa using hc]
  exact gw_iinc hi rfl (Nat.le_of_ble_eq_true hn) (by rw [e]; exact k)
theorem gw_lstore_9 {a0 : gV} {a1 : gV} {a2 : gV} {a3 : gV} {a4 : gV} {a5 : gV} {a6 : gV} {a7 : gV} {a8 : gV} {x x2 : gV} {t : List gV} {y : Int} (hi : gI F pc (.lstore 9) 2 npc) (hc : (a8.1 == 1) = false) (hn : Nat.ble 11 F.2.2.1 = true) (k : gWP F d mc ms npc (a0 :: a1 :: a2 :: a3 :: a4 :: a5 :: a6 :: a7 :: a8 :: (1, y) :: (9, 0) :: t) st sh g Q) : gWP F d mc ms pc (a0 :: a1 :: a2 :: a3 :: a4 :: a5 :: a6 :: a7 :: a8 :: x :: x2 :: t) ((1, y) :: st) sh g Q := by
  have e : (gset (a0 :: a1 :: a2 :: a3 :: a4 :: a5 :: a6 :: a7 :: a8 :: x :: x2 :: t) 9 (1, y)).set 10 (9, 0) = a0 :: a1 :: a2 :: a3 :: a4 :: a5 :: a6 :: a7 :: a8 :: (1, y) :: (9, 0) :: t := by simp [gset, show ¬ a8.1 = 1 from by simpa using hc]
  exact gw_lstore hi (Nat.le_of_ble_eq_true hn) (by rw [e]; exact k)
theorem gw_istore_10 {a0 : gV} {a1 : gV} {a2 : gV} {a3 : gV} {a4 : gV} {a5 : gV} {a6 : gV} {a7 : gV} {a8 : gV} {a9 : gV} {x : gV} {t : List gV} {y : Int} (hi : gI F pc (.istore 10) 2 npc) (hc : (a9.1 == 1) = false) (hn : Nat.ble 11 F.2.2.1 = true) (k : gWP F d mc ms npc (a0 :: a1 :: a2 :: a3 :: a4 :: a5 :: a6 :: a7 :: a8 :: a9 :: (0, y) :: t) st sh g Q) : gWP F d mc ms pc (a0 :: a1 :: a2 :: a3 :: a4 :: a5 :: a6 :: a7 :: a8 :: a9 :: x :: t) ((0, y) :: st) sh g Q := by
  have e : gset (a0 :: a1 :: a2 :: a3 :: a4 :: a5 :: a6 :: a7 :: a8 :: a9 :: x :: t) 10 (0, y) = a0 :: a1 :: a2 :: a3 :: a4 :: a5 :: a6 :: a7 :: a8 :: a9 :: (0, y) :: t := by simp [gset, show ¬ a9.1 = 1 from by simpa using hc]
  exact gw_istore hi (Nat.le_of_ble_eq_true hn) (by rw [e]; exact k)
theorem gw_astore_10 {a0 : gV} {a1 : gV} {a2 : gV} {a3 : gV} {a4 : gV} {a5 : gV} {a6 : gV} {a7 : gV} {a8 : gV} {a9 : gV} {x : gV} {t : List gV} {y : Int} {tg : Nat} (hi : gI F pc (.astore 10) 2 npc) (hc : (a9.1 == 1) = false) (hn : Nat.ble 11 F.2.2.1 = true) (ht : Nat.ble 2 tg = true) (k : gWP F d mc ms npc (a0 :: a1 :: a2 :: a3 :: a4 :: a5 :: a6 :: a7 :: a8 :: a9 :: (tg, y) :: t) st sh g Q) : gWP F d mc ms pc (a0 :: a1 :: a2 :: a3 :: a4 :: a5 :: a6 :: a7 :: a8 :: a9 :: x :: t) ((tg, y) :: st) sh g Q := by
  have e : gset (a0 :: a1 :: a2 :: a3 :: a4 :: a5 :: a6 :: a7 :: a8 :: a9 :: x :: t) 10 (tg, y) = a0 :: a1 :: a2 :: a3 :: a4 :: a5 :: a6 :: a7 :: a8 :: a9 :: (tg, y) :: t := by simp [gset, show ¬ a9.1 = 1 from by simpa using hc]
  exact gw_astore hi (Nat.le_of_ble_eq_true hn) ht (by rw [e]; exact k)
theorem gw_iinc_10 {a0 : gV} {a1 : gV} {a2 : gV} {a3 : gV} {a4 : gV} {a5 : gV} {a6 : gV} {a7 : gV} {a8 : gV} {a9 : gV} {y m : Int} {t : List gV} (hi : gI F pc (.iinc 10 m) 3 npc) (hc : (a9.1 == 1) = false) (hn : Nat.ble 11 F.2.2.1 = true) (k : gWP F d mc ms npc (a0 :: a1 :: a2 :: a3 :: a4 :: a5 :: a6 :: a7 :: a8 :: a9 :: (0, y + m) :: t) st sh g Q) : gWP F d mc ms pc (a0 :: a1 :: a2 :: a3 :: a4 :: a5 :: a6 :: a7 :: a8 :: a9 :: (0, y) :: t) st sh g Q := by
  have e : gset (a0 :: a1 :: a2 :: a3 :: a4 :: a5 :: a6 :: a7 :: a8 :: a9 :: (0, y) :: t) 10 (0, y + m) = a0 :: a1 :: a2 :: a3 :: a4 :: a5 :: a6 :: a7 :: a8 :: a9 :: (0, y + m) :: t := by simp [gset, show ¬ a9.1 = 1 from by simpa using hc]
  exact gw_iinc hi rfl (Nat.le_of_ble_eq_true hn) (by rw [e]; exact k)
theorem gw_lstore_10 {a0 : gV} {a1 : gV} {a2 : gV} {a3 : gV} {a4 : gV} {a5 : gV} {a6 : gV} {a7 : gV} {a8 : gV} {a9 : gV} {x x2 : gV} {t : List gV} {y : Int} (hi : gI F pc (.lstore 10) 2 npc) (hc : (a9.1 == 1) = false) (hn : Nat.ble 12 F.2.2.1 = true) (k : gWP F d mc ms npc (a0 :: a1 :: a2 :: a3 :: a4 :: a5 :: a6 :: a7 :: a8 :: a9 :: (1, y) :: (9, 0) :: t) st sh g Q) : gWP F d mc ms pc (a0 :: a1 :: a2 :: a3 :: a4 :: a5 :: a6 :: a7 :: a8 :: a9 :: x :: x2 :: t) ((1, y) :: st) sh g Q := by
  have e : (gset (a0 :: a1 :: a2 :: a3 :: a4 :: a5 :: a6 :: a7 :: a8 :: a9 :: x :: x2 :: t) 10 (1, y)).set 11 (9, 0) = a0 :: a1 :: a2 :: a3 :: a4 :: a5 :: a6 :: a7 :: a8 :: a9 :: (1, y) :: (9, 0) :: t := by simp [gset, show ¬ a9.1 = 1 from by simpa using hc]
  exact gw_lstore hi (Nat.le_of_ble_eq_true hn) (by rw [e]; exact k)
theorem gw_istore_11 {a0 : gV} {a1 : gV} {a2 : gV} {a3 : gV} {a4 : gV} {a5 : gV} {a6 : gV} {a7 : gV} {a8 : gV} {a9 : gV} {a10 : gV} {x : gV} {t : List gV} {y : Int} (hi : gI F pc (.istore 11) 2 npc) (hc : (a10.1 == 1) = false) (hn : Nat.ble 12 F.2.2.1 = true) (k : gWP F d mc ms npc (a0 :: a1 :: a2 :: a3 :: a4 :: a5 :: a6 :: a7 :: a8 :: a9 :: a10 :: (0, y) :: t) st sh g Q) : gWP F d mc ms pc (a0 :: a1 :: a2 :: a3 :: a4 :: a5 :: a6 :: a7 :: a8 :: a9 :: a10 :: x :: t) ((0, y) :: st) sh g Q := by
  have e : gset (a0 :: a1 :: a2 :: a3 :: a4 :: a5 :: a6 :: a7 :: a8 :: a9 :: a10 :: x :: t) 11 (0, y) = a0 :: a1 :: a2 :: a3 :: a4 :: a5 :: a6 :: a7 :: a8 :: a9 :: a10 :: (0, y) :: t := by simp [gset, show ¬ a10.1 = 1 from by simpa using hc]
  exact gw_istore hi (Nat.le_of_ble_eq_true hn) (by rw [e]; exact k)
theorem gw_astore_11 {a0 : gV} {a1 : gV} {a2 : gV} {a3 : gV} {a4 : gV} {a5 : gV} {a6 : gV} {a7 : gV} {a8 : gV} {a9 : gV} {a10 : gV} {x : gV} {t : List gV} {y : Int} {tg : Nat} (hi : gI F pc (.astore 11) 2 npc) (hc : (a10.1 == 1) = false) (hn : Nat.ble 12 F.2.2.1 = true) (ht : Nat.ble 2 tg = true) (k : gWP F d mc ms npc (a0 :: a1 :: a2 :: a3 :: a4 :: a5 :: a6 :: a7 :: a8 :: a9 :: a10 :: (tg, y) :: t) st sh g Q) : gWP F d mc ms pc (a0 :: a1 :: a2 :: a3 :: a4 :: a5 :: a6 :: a7 :: a8 :: a9 :: a10 :: x :: t) ((tg, y) :: st) sh g Q := by
  have e : gset (a0 :: a1 :: a2 :: a3 :: a4 :: a5 :: a6 :: a7 :: a8 :: a9 :: a10 :: x :: t) 11 (tg, y) = a0 :: a1 :: a2 :: a3 :: a4 :: a5 :: a6 :: a7 :: a8 :: a9 :: a10 :: (tg, y) :: t := by simp [gset, show ¬ a10.1 = 1 from by simpa using hc]
  exact gw_astore hi (Nat.le_of_ble_eq_true hn) ht (by rw [e]; exact k)
theorem gw_iinc_11 {a0 : gV} {a1 : gV} {a2 : gV} {a3 : gV} {a4 : gV} {a5 : gV} {a6 : gV} {a7 : gV} {a8 : gV} {a9 : gV} {a10 : gV} {y m : Int} {t : List gV} (hi : gI F pc (.iinc 11 m) 3 npc) (hc : (a10.1 == 1) = false) (hn : Nat.ble 12 F.2.2.1 = true) (k : gWP F d mc ms npc (a0 :: a1 :: a2 :: a3 :: a4 :: a5 :: a6 :: a7 :: a8 :: a9 :: a10 :: (0, y + m) :: t) st sh g Q) : gWP F d mc ms pc (a0 :: a1 :: a2 :: a3 :: a4 :: a5 :: a6 :: a7 :: a8 :: a9 :: a10 :: (0, y) :: t) st sh g Q := by
  have e : gset (a0 :: a1 :: a2 :: a3 :: a4 :: a5 :: a6 :: a7 :: a8 :: a9 :: a10 :: (0, y) :: t) 11 (0, y + m) = a0 :: a1 :: a2 :: a3 :: a4 :: a5 :: a6 :: a7 :: a8 :: a9 :: a10 :: (0, y + m) :: t := by simp [gset, show ¬ a10.1 = 1 from by simpa using hc]
  exact gw_iinc hi rfl (Nat.le_of_ble_eq_true hn) (by rw [e]; exact k)
theorem gw_iastF {a i x : Int} {n : Nat} (hi : gI F pc (.iastore) 1 npc) (hs : gsz sh a 13 n) (hx : 0 ≤ i ∧ i < (n : Int) ∧ i ≤ 2147483647) (hf : gFin g) (hr : gref a.toNat i.toNat = none) (kk : gFin (gup g a i x) → gWP F d mc ms npc ls st sh (gup g a i x) Q) : gWP F d mc ms pc ls ((0, x) :: (0, i) :: (2, a) :: st) sh g Q := gw_iast hi hs hx (kk (hf.up hr))
theorem gw_zastF {a i x : Int} {n : Nat} (hi : gI F pc (.bastore) 1 npc) (hs : gsz sh a 14 n) (hx : 0 ≤ i ∧ i < (n : Int) ∧ i ≤ 2147483647) (hv : x = 0 ∨ x = 1) (hf : gFin g) (hr : gref a.toNat i.toNat = none) (kk : gFin (gup g a i x) → gWP F d mc ms npc ls st sh (gup g a i x) Q) : gWP F d mc ms pc ls ((0, x) :: (0, i) :: (2, a) :: st) sh g Q := gw_zast hi hs hx hv (kk (hf.up hr))
theorem gw_bastF {a i x : Int} {n : Nat} (hi : gI F pc (.bastore) 1 npc) (hs : gsz sh a 15 n) (hx : 0 ≤ i ∧ i < (n : Int) ∧ i ≤ 2147483647) (hv : -128 ≤ x ∧ x ≤ 127) (hf : gFin g) (hr : gref a.toNat i.toNat = none) (kk : gFin (gup g a i x) → gWP F d mc ms npc ls st sh (gup g a i x) Q) : gWP F d mc ms pc ls ((0, x) :: (0, i) :: (2, a) :: st) sh g Q := gw_bast hi hs hx hv (kk (hf.up hr))
theorem gw_lastF {a i x : Int} {n : Nat} (hi : gI F pc (.lastore) 1 npc) (hs : gsz sh a 16 n) (hx : 0 ≤ i ∧ i < (n : Int) ∧ i ≤ 2147483647) (hf : gFin g) (hr : gref a.toNat i.toNat = none) (kk : gFin (gup g a i x) → gWP F d mc ms npc ls st sh (gup g a i x) Q) : gWP F d mc ms pc ls ((1, x) :: (0, i) :: (2, a) :: st) sh g Q := gw_last hi hs hx (kk (hf.up hr))
theorem gw_putIF {q k N : Nat} {a x : Int} (hi : gI F pc (.putfield idx) 3 npc) (hfl : gFL F.1.cls idx q k N 0 .int false) (hs : gsz sh a q N) (hf : gFin g) (hr : gref a.toNat k = none) (kk : gFin (gup g a k x) → gWP F d mc ms npc ls st sh (gup g a k x) Q) : gWP F d mc ms pc ls ((0, x) :: (2, a) :: st) sh g Q := gw_putI hi hfl hs (Or.inl rfl) (kk (hf.up hr))
theorem gw_putJF {q k N : Nat} {a x : Int} (hi : gI F pc (.putfield idx) 3 npc) (hfl : gFL F.1.cls idx q k N 1 .long false) (hs : gsz sh a q N) (hf : gFin g) (hr : gref a.toNat k = none) (kk : gFin (gup g a k x) → gWP F d mc ms npc ls st sh (gup g a k x) Q) : gWP F d mc ms pc ls ((1, x) :: (2, a) :: st) sh g Q := gw_putJ hi hfl hs (Or.inl rfl) (kk (hf.up hr))
theorem gw_putZF {q k N : Nat} {a x : Int} (hi : gI F pc (.putfield idx) 3 npc) (hfl : gFL F.1.cls idx q k N 0 .boolean false) (hs : gsz sh a q N) (hx : x = 0 ∨ x = 1) (hf : gFin g) (hr : gref a.toNat k = none) (kk : gFin (gup g a k x) → gWP F d mc ms npc ls st sh (gup g a k x) Q) : gWP F d mc ms pc ls ((0, x) :: (2, a) :: st) sh g Q := gw_putZ hi hfl hs (Or.inl rfl) hx (kk (hf.up hr))
end GL
