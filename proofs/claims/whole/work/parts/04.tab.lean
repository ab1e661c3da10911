/-! THE LAYOUT, by program out of the constructors' bytecode: kinds of the cells (0 an object of a class, 1 ints, 2 longs, 3 references; class or length), sorts of the fields, the references that never change. -/
def zN : Nat := 100
def zKdL : List (Nat × Nat) := [(0, 9), (0, 7), (1, 6), (1, 6), (1, 6), (1, 6), (1, 30), (1, 30), (1, 30), (1, 30), (1, 8), (1, 8), (1, 8), (1, 8), (0, 5), (0, 2), (1, 30), (1, 30), (1, 30), (0, 8), (1, 6), (1, 6), (1, 6), (1, 6), (1, 6), (1, 8), (1, 8), (1, 8), (1, 8), (1, 60), (0, 8), (1, 6), (1, 6), (1, 6), (1, 6), (1, 6), (1, 8), (1, 8), (1, 8), (1, 8), (1, 60), (0, 1), (1, 40), (1, 40), (1, 40), (1, 40), (0, 3), (1, 120), (0, 0), (1, 50), (1, 24), (0, 6), (1, 6), (1, 6), (1, 6), (3, 6), (2, 60), (2, 60), (2, 60), (2, 60), (2, 60), (2, 60), (0, 4), (1, 128), (1, 128), (0, 4), (1, 128), (1, 128), (0, 10), (1, 66), (1, 40), (1, 40), (1, 40), (1, 6), (1, 6), (1, 6), (1, 30), (1, 30), (1, 8), (1, 8), (1, 8), (1, 8), (1, 120), (1, 120), (1, 8), (1, 8), (1, 8), (1, 6), (1, 6), (1, 6), (1, 8), (1, 8), (1, 8), (1, 6), (1, 50), (1, 24), (1, 6), (1, 6), (2, 360), (2, 60)]
def zKd (k : Nat) : Nat × Nat := zKdL.getD k (9, 0)
def zFtL : List (List Nat) := [[1, 1, 0, 0, 0], [1, 1, 1, 1, 0, 0], [1, 1, 1, 1, 0], [1, 0, 0, 2], [1, 1, 0, 0], [1], [1, 1, 1, 1], [0, 1, 1, 1, 1, 0, 1, 1, 1, 1, 0, 1, 1, 1, 1], [1, 1, 1, 1, 1, 1, 1, 1, 1, 1, 1, 0, 0, 0, 0, 0], [1, 1, 1, 1, 1, 1, 1, 1, 1, 2, 2], [1, 1, 1, 1, 0, 0, 0, 1, 1, 1, 0, 1, 1, 0, 1, 1, 1, 1, 1, 0, 1, 0, 0, 0, 0, 0, 0, 1, 1, 1, 1, 1, 1, 1, 0, 0, 1, 1, 1, 0, 1, 1, 0, 0, 0, 1, 1, 1, 1]]
def zFt (c : Nat) : List Nat := zFtL.getD c []
def zRcL : List (List (Option Nat)) := [[some 1, some 14, some 15, some 19, some 30, some 41, some 46, some 48, some 51, none, none], [none, some 2, some 3, some 4, some 5, none, some 6, some 7, some 8, some 9, none, some 10, some 11, some 12, some 13], [], [], [], [], [], [], [], [], [], [], [], [], [some 1], [some 1, some 16, some 17, some 18, none], [], [], [], [some 1, some 20, some 21, some 22, some 23, some 24, some 25, some 26, some 27, some 28, some 29, none, none, none, none, none], [], [], [], [], [], [], [], [], [], [], [some 1, some 31, some 32, some 33, some 34, some 35, some 36, some 37, some 38, some 39, some 40, none, none, none, none, none], [], [], [], [], [], [], [], [], [], [], [some 42, some 43, some 44, some 45, none, none], [], [], [], [], [some 47, none, none, none], [], [some 49, some 50, none, none, none], [], [], [some 52, some 53, some 54, some 55], [], [], [], [some 56, some 57, some 58, some 59, some 60, some 61], [], [], [], [], [], [], [some 63, some 64, none, none], [], [], [some 66, some 67, none, none], [], [], [some 69, some 70, some 71, some 72, none, none, none, some 73, some 74, some 75, none, some 76, some 77, none, some 78, some 79, some 80, some 81, some 82, none, some 83, none, none, none, none, none, none, some 84, some 85, some 86, some 87, some 88, some 89, some 90, none, none, some 91, some 92, some 93, none, some 94, some 95, none, none, none, some 96, some 97, some 98, some 99], [], [], [], [], [], [], [], [], [], [], [], [], [], [], [], [], [], [], [], [], [], [], [], [], [], [], [], [], [], [], []]
def zRc (k f : Nat) : Option Nat := (zRcL.getD k []).getD f none
theorem kd_0 : zKd 0 = (0, 9) := rfl
theorem kd_1 : zKd 1 = (0, 7) := rfl
theorem kd_2 : zKd 2 = (1, 6) := rfl
theorem kd_3 : zKd 3 = (1, 6) := rfl
theorem kd_4 : zKd 4 = (1, 6) := rfl
theorem kd_5 : zKd 5 = (1, 6) := rfl
theorem kd_6 : zKd 6 = (1, 30) := rfl
theorem kd_7 : zKd 7 = (1, 30) := rfl
theorem kd_8 : zKd 8 = (1, 30) := rfl
theorem kd_9 : zKd 9 = (1, 30) := rfl
theorem kd_10 : zKd 10 = (1, 8) := rfl
theorem kd_11 : zKd 11 = (1, 8) := rfl
theorem kd_12 : zKd 12 = (1, 8) := rfl
theorem kd_13 : zKd 13 = (1, 8) := rfl
theorem kd_14 : zKd 14 = (0, 5) := rfl
theorem kd_15 : zKd 15 = (0, 2) := rfl
theorem kd_16 : zKd 16 = (1, 30) := rfl
theorem kd_17 : zKd 17 = (1, 30) := rfl
theorem kd_18 : zKd 18 = (1, 30) := rfl
theorem kd_19 : zKd 19 = (0, 8) := rfl
theorem kd_20 : zKd 20 = (1, 6) := rfl
theorem kd_21 : zKd 21 = (1, 6) := rfl
theorem kd_22 : zKd 22 = (1, 6) := rfl
theorem kd_23 : zKd 23 = (1, 6) := rfl
theorem kd_24 : zKd 24 = (1, 6) := rfl
theorem kd_25 : zKd 25 = (1, 8) := rfl
theorem kd_26 : zKd 26 = (1, 8) := rfl
theorem kd_27 : zKd 27 = (1, 8) := rfl
theorem kd_28 : zKd 28 = (1, 8) := rfl
theorem kd_29 : zKd 29 = (1, 60) := rfl
theorem kd_30 : zKd 30 = (0, 8) := rfl
theorem kd_31 : zKd 31 = (1, 6) := rfl
theorem kd_32 : zKd 32 = (1, 6) := rfl
theorem kd_33 : zKd 33 = (1, 6) := rfl
theorem kd_34 : zKd 34 = (1, 6) := rfl
theorem kd_35 : zKd 35 = (1, 6) := rfl
theorem kd_36 : zKd 36 = (1, 8) := rfl
theorem kd_37 : zKd 37 = (1, 8) := rfl
theorem kd_38 : zKd 38 = (1, 8) := rfl
theorem kd_39 : zKd 39 = (1, 8) := rfl
theorem kd_40 : zKd 40 = (1, 60) := rfl
theorem kd_41 : zKd 41 = (0, 1) := rfl
theorem kd_42 : zKd 42 = (1, 40) := rfl
theorem kd_43 : zKd 43 = (1, 40) := rfl
theorem kd_44 : zKd 44 = (1, 40) := rfl
theorem kd_45 : zKd 45 = (1, 40) := rfl
theorem kd_46 : zKd 46 = (0, 3) := rfl
theorem kd_47 : zKd 47 = (1, 120) := rfl
theorem kd_48 : zKd 48 = (0, 0) := rfl
theorem kd_49 : zKd 49 = (1, 50) := rfl
theorem kd_50 : zKd 50 = (1, 24) := rfl
theorem kd_51 : zKd 51 = (0, 6) := rfl
theorem kd_52 : zKd 52 = (1, 6) := rfl
theorem kd_53 : zKd 53 = (1, 6) := rfl
theorem kd_54 : zKd 54 = (1, 6) := rfl
theorem kd_55 : zKd 55 = (3, 6) := rfl
theorem kd_56 : zKd 56 = (2, 60) := rfl
theorem kd_57 : zKd 57 = (2, 60) := rfl
theorem kd_58 : zKd 58 = (2, 60) := rfl
theorem kd_59 : zKd 59 = (2, 60) := rfl
theorem kd_60 : zKd 60 = (2, 60) := rfl
theorem kd_61 : zKd 61 = (2, 60) := rfl
theorem kd_62 : zKd 62 = (0, 4) := rfl
theorem kd_63 : zKd 63 = (1, 128) := rfl
theorem kd_64 : zKd 64 = (1, 128) := rfl
theorem kd_65 : zKd 65 = (0, 4) := rfl
theorem kd_66 : zKd 66 = (1, 128) := rfl
theorem kd_67 : zKd 67 = (1, 128) := rfl
theorem kd_68 : zKd 68 = (0, 10) := rfl
theorem kd_69 : zKd 69 = (1, 66) := rfl
theorem kd_70 : zKd 70 = (1, 40) := rfl
theorem kd_71 : zKd 71 = (1, 40) := rfl
theorem kd_72 : zKd 72 = (1, 40) := rfl
theorem kd_73 : zKd 73 = (1, 6) := rfl
theorem kd_74 : zKd 74 = (1, 6) := rfl
theorem kd_75 : zKd 75 = (1, 6) := rfl
theorem kd_76 : zKd 76 = (1, 30) := rfl
theorem kd_77 : zKd 77 = (1, 30) := rfl
theorem kd_78 : zKd 78 = (1, 8) := rfl
theorem kd_79 : zKd 79 = (1, 8) := rfl
theorem kd_80 : zKd 80 = (1, 8) := rfl
theorem kd_81 : zKd 81 = (1, 8) := rfl
theorem kd_82 : zKd 82 = (1, 120) := rfl
theorem kd_83 : zKd 83 = (1, 120) := rfl
theorem kd_84 : zKd 84 = (1, 8) := rfl
theorem kd_85 : zKd 85 = (1, 8) := rfl
theorem kd_86 : zKd 86 = (1, 8) := rfl
theorem kd_87 : zKd 87 = (1, 6) := rfl
theorem kd_88 : zKd 88 = (1, 6) := rfl
theorem kd_89 : zKd 89 = (1, 6) := rfl
theorem kd_90 : zKd 90 = (1, 8) := rfl
theorem kd_91 : zKd 91 = (1, 8) := rfl
theorem kd_92 : zKd 92 = (1, 8) := rfl
theorem kd_93 : zKd 93 = (1, 6) := rfl
theorem kd_94 : zKd 94 = (1, 50) := rfl
theorem kd_95 : zKd 95 = (1, 24) := rfl
theorem kd_96 : zKd 96 = (1, 6) := rfl
theorem kd_97 : zKd 97 = (1, 6) := rfl
theorem kd_98 : zKd 98 = (2, 360) := rfl
theorem kd_99 : zKd 99 = (2, 60) := rfl
theorem zKd_lt {k a b : Nat} (h : zKd k = (a, b)) (ha : a < 9) : k < zN := by
  rcases Nat.lt_or_ge k zN with q | q
  · exact q
  · exfalso
    unfold zKd at h
    rw [List.getD_eq_getElem?_getD, List.getElem?_eq_none (by exact q)] at h
    cases h
    exact absurd ha (by decide)
