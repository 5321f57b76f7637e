theorem sh_0 : am_sh 0 = .inr 10 := by decide +kernel
theorem sh_1 : am_sh 1 = .inr 9 := by decide +kernel
theorem sh_2 : am_sh 2 = .inl (.int, 260) := by decide +kernel
theorem sh_3 : am_sh 3 = .inr 7 := by decide +kernel
theorem sh_4 : am_sh 4 = .inr 1 := by decide +kernel
theorem sh_5 : am_sh 5 = .inr 8 := by decide +kernel
theorem sh_6 : am_sh 6 = .inl (.int, 64) := by decide +kernel
theorem sh_7 : am_sh 7 = .inl (.int, 26) := by decide +kernel
theorem sh_8 : am_sh 8 = .inr 2 := by decide +kernel
theorem sh_9 : am_sh 9 = .inl (.boolean, 12) := by decide +kernel
theorem sh_10 : am_sh 10 = .inr 6 := by decide +kernel
theorem sh_11 : am_sh 11 = .inl (.int, 24) := by decide +kernel
theorem sh_12 : am_sh 12 = .inl (.int, 24) := by decide +kernel
theorem sh_13 : am_sh 13 = .inl (.int, 1024) := by decide +kernel
theorem sh_14 : am_sh 14 = .inl (.int, 256) := by decide +kernel
theorem sh_15 : am_sh 15 = .inl (.int, 256) := by decide +kernel
theorem sh_16 : am_sh 16 = .inr 5 := by decide +kernel
theorem sh_17 : am_sh 17 = .inl (.int, 256) := by decide +kernel
theorem sh_18 : am_sh 18 = .inl (.int, 256) := by decide +kernel
theorem sh_19 : am_sh 19 = .inl (.int, 256) := by decide +kernel
theorem sh_20 : am_sh 20 = .inr 0 := by decide +kernel
theorem sh_21 : am_sh 21 = .inl (.int, 12) := by decide +kernel
theorem sh_22 : am_sh 22 = .inl (.int, 12) := by decide +kernel
theorem sh_23 : am_sh 23 = .inl (.int, 12) := by decide +kernel
theorem sh_24 : am_sh 24 = .inl (.int, 24) := by decide +kernel
theorem sh_25 : am_sh 25 = .inl (.int, 24) := by decide +kernel
theorem sh_26 : am_sh 26 = .inl (.int, 24) := by decide +kernel
theorem sh_27 : am_sh 27 = .inl (.int, 24) := by decide +kernel
theorem sh_28 : am_sh 28 = .inl (.int, 24) := by decide +kernel
theorem sh_29 : am_sh 29 = .inr 0 := by decide +kernel
theorem sh_30 : am_sh 30 = .inl (.int, 12) := by decide +kernel
theorem sh_31 : am_sh 31 = .inl (.int, 12) := by decide +kernel
theorem sh_32 : am_sh 32 = .inl (.int, 12) := by decide +kernel
theorem sh_33 : am_sh 33 = .inl (.int, 24) := by decide +kernel
theorem sh_34 : am_sh 34 = .inl (.int, 24) := by decide +kernel
theorem sh_35 : am_sh 35 = .inl (.int, 24) := by decide +kernel
theorem sh_36 : am_sh 36 = .inl (.int, 24) := by decide +kernel
theorem sh_37 : am_sh 37 = .inl (.int, 24) := by decide +kernel
theorem sh_38 : am_sh 38 = .inr 0 := by decide +kernel
theorem sh_39 : am_sh 39 = .inl (.int, 12) := by decide +kernel
theorem sh_40 : am_sh 40 = .inl (.int, 12) := by decide +kernel
theorem sh_41 : am_sh 41 = .inl (.int, 12) := by decide +kernel
theorem sh_42 : am_sh 42 = .inl (.int, 24) := by decide +kernel
theorem sh_43 : am_sh 43 = .inl (.int, 24) := by decide +kernel
theorem sh_44 : am_sh 44 = .inl (.int, 24) := by decide +kernel
theorem sh_45 : am_sh 45 = .inl (.int, 24) := by decide +kernel
theorem sh_46 : am_sh 46 = .inl (.int, 24) := by decide +kernel
theorem sh_47 : am_sh 47 = .inr 0 := by decide +kernel
theorem sh_48 : am_sh 48 = .inl (.int, 12) := by decide +kernel
theorem sh_49 : am_sh 49 = .inl (.int, 12) := by decide +kernel
theorem sh_50 : am_sh 50 = .inl (.int, 12) := by decide +kernel
theorem sh_51 : am_sh 51 = .inl (.int, 24) := by decide +kernel
theorem sh_52 : am_sh 52 = .inl (.int, 24) := by decide +kernel
theorem sh_53 : am_sh 53 = .inl (.int, 24) := by decide +kernel
theorem sh_54 : am_sh 54 = .inl (.int, 24) := by decide +kernel
theorem sh_55 : am_sh 55 = .inl (.int, 24) := by decide +kernel
theorem sh_56 : am_sh 56 = .inr 3 := by decide +kernel
theorem sh_57 : am_sh 57 = .inl (.int, 16) := by decide +kernel
theorem sh_58 : am_sh 58 = .inl (.int, 16) := by decide +kernel
theorem sh_59 : am_sh 59 = .inl (.int, 16) := by decide +kernel
theorem sh_60 : am_sh 60 = .inl (.int, 16) := by decide +kernel
theorem sh_61 : am_sh 61 = .inl (.int, 512) := by decide +kernel
theorem sh_62 : am_sh 62 = .inl (.int, 64) := by decide +kernel
theorem sh_63 : am_sh 63 = .inl (.int, 10) := by decide +kernel
theorem sh_64 : am_sh 64 = .inr 3 := by decide +kernel
theorem sh_65 : am_sh 65 = .inl (.int, 16) := by decide +kernel
theorem sh_66 : am_sh 66 = .inl (.int, 16) := by decide +kernel
theorem sh_67 : am_sh 67 = .inl (.int, 16) := by decide +kernel
theorem sh_68 : am_sh 68 = .inl (.int, 16) := by decide +kernel
theorem sh_69 : am_sh 69 = .inl (.int, 512) := by decide +kernel
theorem sh_70 : am_sh 70 = .inl (.int, 64) := by decide +kernel
theorem sh_71 : am_sh 71 = .inl (.int, 10) := by decide +kernel
theorem sh_72 : am_sh 72 = .inr 4 := by decide +kernel
theorem sh_73 : am_sh 73 = .inr 11 := by decide +kernel
theorem sh_74 : am_sh 74 = .inl (.int, 74) := by decide +kernel
theorem sh_75 : am_sh 75 = .inl (.int, 74) := by decide +kernel
theorem sh_76 : am_sh 76 = .inl (.int, 74) := by decide +kernel
theorem sh_77 : am_sh 77 = .inl (.int, 12) := by decide +kernel
theorem sh_78 : am_sh 78 = .inl (.int, 24) := by decide +kernel
theorem sh_79 : am_sh 79 = .inl (.int, 24) := by decide +kernel
theorem sh_80 : am_sh 80 = .inl (.byte, 260) := by decide +kernel
theorem sh_81 : am_sh 81 = .inl (.int, 260) := by decide +kernel
theorem sh_82 : am_sh 82 = .inl (.int, 260) := by decide +kernel
theorem sh_83 : am_sh 83 = .inl (.int, 16) := by decide +kernel
theorem sh_84 : am_sh 84 = .inl (.int, 16) := by decide +kernel
theorem sh_85 : am_sh 85 = .inl (.int, 16) := by decide +kernel
theorem sh_86 : am_sh 86 = .inl (.int, 16) := by decide +kernel
theorem sh_87 : am_sh 87 = .inl (.int, 260) := by decide +kernel
theorem sh_88 : am_sh 88 = .inl (.int, 16) := by decide +kernel
theorem sh_89 : am_sh 89 = .inl (.int, 16) := by decide +kernel
theorem sh_90 : am_sh 90 = .inl (.int, 16) := by decide +kernel
theorem sh_91 : am_sh 91 = .inl (.int, 16) := by decide +kernel
theorem sh_92 : am_sh 92 = .inl (.int, 260) := by decide +kernel
theorem sh_93 : am_sh 93 = .inl (.int, 10) := by decide +kernel
theorem sh_94 : am_sh 94 = .inl (.int, 12) := by decide +kernel
theorem sh_95 : am_sh 95 = .inl (.int, 12) := by decide +kernel
theorem sh_96 : am_sh 96 = .inl (.int, 24) := by decide +kernel
theorem sh_97 : am_sh 97 = .inl (.int, 24) := by decide +kernel
theorem sh_98 : am_sh 98 = .inl (.int, 24) := by decide +kernel
theorem sh_99 : am_sh 99 = .inl (.int, 1024) := by decide +kernel
theorem sh_100 : am_sh 100 = .inl (.int, 1024) := by decide +kernel
theorem sh_101 : am_sh 101 = .inl (.int, 64) := by decide +kernel
theorem sh_102 : am_sh 102 = .inl (.int, 2) := by decide +kernel
theorem sh_103 : am_sh 103 = .inl (.int, 2) := by decide +kernel
theorem sh_104 : am_sh 104 = .inl (.int, 2) := by decide +kernel
theorem sh_105 : am_sh 105 = .inl (.int, 256) := by decide +kernel
theorem sh_106 : am_sh 106 = .inl (.int, 256) := by decide +kernel
theorem sh_107 : am_sh 107 = .inl (.int, 20) := by decide +kernel
theorem sh_108 : am_sh 108 = .inl (.int, 256) := by decide +kernel
theorem sh_109 : am_sh 109 = .inl (.int, 256) := by decide +kernel
theorem sh_110 : am_sh 110 = .inl (.int, 16) := by decide +kernel
theorem sh_111 : am_sh 111 = .inl (.int, 16) := by decide +kernel
theorem fk_0_0 : am_fk 0 0 = 1 := by decide +kernel
theorem fk_0_1 : am_fk 0 1 = 1 := by decide +kernel
theorem fk_0_2 : am_fk 0 2 = 1 := by decide +kernel
theorem fk_0_3 : am_fk 0 3 = 1 := by decide +kernel
theorem fk_0_4 : am_fk 0 4 = 1 := by decide +kernel
theorem fk_0_5 : am_fk 0 5 = 1 := by decide +kernel
theorem fk_0_6 : am_fk 0 6 = 1 := by decide +kernel
theorem fk_0_7 : am_fk 0 7 = 1 := by decide +kernel
theorem fk_0_8 : am_fk 0 8 = 0 := by decide +kernel
theorem fk_0_9 : am_fk 0 9 = 0 := by decide +kernel
theorem fk_0_10 : am_fk 0 10 = 0 := by decide +kernel
theorem fk_1_0 : am_fk 1 0 = 1 := by decide +kernel
theorem fk_2_0 : am_fk 2 0 = 1 := by decide +kernel
theorem fk_2_1 : am_fk 2 1 = 0 := by decide +kernel
theorem fk_2_2 : am_fk 2 2 = 0 := by decide +kernel
theorem fk_3_0 : am_fk 3 0 = 1 := by decide +kernel
theorem fk_3_1 : am_fk 3 1 = 1 := by decide +kernel
theorem fk_3_2 : am_fk 3 2 = 1 := by decide +kernel
theorem fk_3_3 : am_fk 3 3 = 1 := by decide +kernel
theorem fk_3_4 : am_fk 3 4 = 1 := by decide +kernel
theorem fk_3_5 : am_fk 3 5 = 1 := by decide +kernel
theorem fk_3_6 : am_fk 3 6 = 1 := by decide +kernel
theorem fk_3_7 : am_fk 3 7 = 0 := by decide +kernel
theorem fk_3_8 : am_fk 3 8 = 0 := by decide +kernel
theorem fk_4_0 : am_fk 4 0 = 1 := by decide +kernel
theorem fk_4_1 : am_fk 4 1 = 2 := by decide +kernel
theorem fk_5_0 : am_fk 5 0 = 1 := by decide +kernel
theorem fk_5_1 : am_fk 5 1 = 1 := by decide +kernel
theorem fk_5_2 : am_fk 5 2 = 1 := by decide +kernel
theorem fk_5_3 : am_fk 5 3 = 1 := by decide +kernel
theorem fk_5_4 : am_fk 5 4 = 0 := by decide +kernel
theorem fk_6_0 : am_fk 6 0 = 1 := by decide +kernel
theorem fk_6_1 : am_fk 6 1 = 1 := by decide +kernel
theorem fk_6_2 : am_fk 6 2 = 1 := by decide +kernel
theorem fk_6_3 : am_fk 6 3 = 1 := by decide +kernel
theorem fk_6_4 : am_fk 6 4 = 1 := by decide +kernel
theorem fk_6_5 : am_fk 6 5 = 1 := by decide +kernel
theorem fk_7_0 : am_fk 7 0 = 1 := by decide +kernel
theorem fk_7_1 : am_fk 7 1 = 0 := by decide +kernel
theorem fk_7_2 : am_fk 7 2 = 0 := by decide +kernel
theorem fk_7_3 : am_fk 7 3 = 0 := by decide +kernel
theorem fk_8_0 : am_fk 8 0 = 1 := by decide +kernel
theorem fk_8_1 : am_fk 8 1 = 1 := by decide +kernel
theorem fk_8_2 : am_fk 8 2 = 1 := by decide +kernel
theorem fk_8_3 : am_fk 8 3 = 0 := by decide +kernel
theorem fk_9_0 : am_fk 9 0 = 1 := by decide +kernel
theorem fk_9_1 : am_fk 9 1 = 0 := by decide +kernel
theorem fk_10_0 : am_fk 10 0 = 1 := by decide +kernel
theorem fk_10_1 : am_fk 10 1 = 1 := by decide +kernel
theorem fk_10_2 : am_fk 10 2 = 1 := by decide +kernel
theorem fk_10_3 : am_fk 10 3 = 1 := by decide +kernel
theorem fk_10_4 : am_fk 10 4 = 1 := by decide +kernel
theorem fk_10_5 : am_fk 10 5 = 1 := by decide +kernel
theorem fk_10_6 : am_fk 10 6 = 1 := by decide +kernel
theorem fk_10_7 : am_fk 10 7 = 1 := by decide +kernel
theorem fk_10_8 : am_fk 10 8 = 1 := by decide +kernel
theorem fk_10_9 : am_fk 10 9 = 1 := by decide +kernel
theorem fk_10_10 : am_fk 10 10 = 2 := by decide +kernel
theorem fk_10_11 : am_fk 10 11 = 2 := by decide +kernel
theorem fk_10_12 : am_fk 10 12 = 2 := by decide +kernel
theorem fk_10_13 : am_fk 10 13 = 2 := by decide +kernel
theorem fk_10_14 : am_fk 10 14 = 0 := by decide +kernel
theorem fk_11_0 : am_fk 11 0 = 1 := by decide +kernel
theorem fk_11_1 : am_fk 11 1 = 1 := by decide +kernel
theorem fk_11_2 : am_fk 11 2 = 1 := by decide +kernel
theorem fk_11_3 : am_fk 11 3 = 1 := by decide +kernel
theorem fk_11_4 : am_fk 11 4 = 1 := by decide +kernel
theorem fk_11_5 : am_fk 11 5 = 1 := by decide +kernel
theorem fk_11_6 : am_fk 11 6 = 0 := by decide +kernel
theorem fk_11_7 : am_fk 11 7 = 0 := by decide +kernel
theorem fk_11_8 : am_fk 11 8 = 1 := by decide +kernel
theorem fk_11_9 : am_fk 11 9 = 0 := by decide +kernel
theorem fk_11_10 : am_fk 11 10 = 0 := by decide +kernel
theorem fk_11_11 : am_fk 11 11 = 0 := by decide +kernel
theorem fk_11_12 : am_fk 11 12 = 0 := by decide +kernel
theorem fk_11_13 : am_fk 11 13 = 0 := by decide +kernel
theorem fk_11_14 : am_fk 11 14 = 0 := by decide +kernel
theorem fk_11_15 : am_fk 11 15 = 0 := by decide +kernel
theorem fk_11_16 : am_fk 11 16 = 0 := by decide +kernel
theorem fk_11_17 : am_fk 11 17 = 0 := by decide +kernel
theorem fk_11_18 : am_fk 11 18 = 0 := by decide +kernel
theorem fk_11_19 : am_fk 11 19 = 1 := by decide +kernel
theorem fk_11_20 : am_fk 11 20 = 1 := by decide +kernel
theorem fk_11_21 : am_fk 11 21 = 1 := by decide +kernel
theorem fk_11_22 : am_fk 11 22 = 1 := by decide +kernel
theorem fk_11_23 : am_fk 11 23 = 1 := by decide +kernel
theorem fk_11_24 : am_fk 11 24 = 1 := by decide +kernel
theorem fk_11_25 : am_fk 11 25 = 1 := by decide +kernel
theorem fk_11_26 : am_fk 11 26 = 1 := by decide +kernel
theorem fk_11_27 : am_fk 11 27 = 1 := by decide +kernel
theorem fk_11_28 : am_fk 11 28 = 1 := by decide +kernel
theorem fk_11_29 : am_fk 11 29 = 1 := by decide +kernel
theorem fk_11_30 : am_fk 11 30 = 1 := by decide +kernel
theorem fk_11_31 : am_fk 11 31 = 1 := by decide +kernel
theorem fk_11_32 : am_fk 11 32 = 1 := by decide +kernel
theorem fk_11_33 : am_fk 11 33 = 1 := by decide +kernel
theorem fk_11_34 : am_fk 11 34 = 1 := by decide +kernel
theorem fk_11_35 : am_fk 11 35 = 1 := by decide +kernel
theorem fk_11_36 : am_fk 11 36 = 1 := by decide +kernel
theorem fk_11_37 : am_fk 11 37 = 0 := by decide +kernel
theorem fk_11_38 : am_fk 11 38 = 0 := by decide +kernel
theorem fk_11_39 : am_fk 11 39 = 0 := by decide +kernel
theorem fk_11_40 : am_fk 11 40 = 0 := by decide +kernel
theorem fk_11_41 : am_fk 11 41 = 0 := by decide +kernel
theorem fk_11_42 : am_fk 11 42 = 0 := by decide +kernel
theorem fk_11_43 : am_fk 11 43 = 1 := by decide +kernel
theorem fk_11_44 : am_fk 11 44 = 1 := by decide +kernel
theorem fk_11_45 : am_fk 11 45 = 1 := by decide +kernel
theorem fk_11_46 : am_fk 11 46 = 1 := by decide +kernel
theorem fk_11_47 : am_fk 11 47 = 1 := by decide +kernel
theorem fk_11_48 : am_fk 11 48 = 1 := by decide +kernel
theorem fk_11_49 : am_fk 11 49 = 0 := by decide +kernel
theorem fk_11_50 : am_fk 11 50 = 0 := by decide +kernel
theorem fk_11_51 : am_fk 11 51 = 0 := by decide +kernel
theorem fk_11_52 : am_fk 11 52 = 0 := by decide +kernel
theorem fk_11_53 : am_fk 11 53 = 1 := by decide +kernel
theorem fk_11_54 : am_fk 11 54 = 1 := by decide +kernel
theorem fk_11_55 : am_fk 11 55 = 1 := by decide +kernel
theorem fk_11_56 : am_fk 11 56 = 1 := by decide +kernel
theorem fk_11_57 : am_fk 11 57 = 1 := by decide +kernel
theorem fk_11_58 : am_fk 11 58 = 1 := by decide +kernel
theorem fk_11_59 : am_fk 11 59 = 1 := by decide +kernel
theorem fk_11_60 : am_fk 11 60 = 0 := by decide +kernel
theorem fk_11_61 : am_fk 11 61 = 0 := by decide +kernel
def am_bu (a : Nat) : Prop := a = 20 ∨ a = 29 ∨ a = 38 ∨ a = 47
def am_la (a : Nat) : Prop := a = 56 ∨ a = 64
theorem bu_0 {a : Nat} (h : am_bu a) : am_sh (a) = .inr 0 := by rcases h with rfl | rfl | rfl | rfl <;> decide +kernel
theorem bu_1 {a : Nat} (h : am_bu a) : am_sh (a + 1) = .inl (.int, 12) := by rcases h with rfl | rfl | rfl | rfl <;> decide +kernel
theorem bu_2 {a : Nat} (h : am_bu a) : am_sh (a + 2) = .inl (.int, 12) := by rcases h with rfl | rfl | rfl | rfl <;> decide +kernel
theorem bu_3 {a : Nat} (h : am_bu a) : am_sh (a + 3) = .inl (.int, 12) := by rcases h with rfl | rfl | rfl | rfl <;> decide +kernel
theorem bu_4 {a : Nat} (h : am_bu a) : am_sh (a + 4) = .inl (.int, 24) := by rcases h with rfl | rfl | rfl | rfl <;> decide +kernel
theorem bu_5 {a : Nat} (h : am_bu a) : am_sh (a + 5) = .inl (.int, 24) := by rcases h with rfl | rfl | rfl | rfl <;> decide +kernel
theorem bu_6 {a : Nat} (h : am_bu a) : am_sh (a + 6) = .inl (.int, 24) := by rcases h with rfl | rfl | rfl | rfl <;> decide +kernel
theorem bu_7 {a : Nat} (h : am_bu a) : am_sh (a + 7) = .inl (.int, 24) := by rcases h with rfl | rfl | rfl | rfl <;> decide +kernel
theorem bu_8 {a : Nat} (h : am_bu a) : am_sh (a + 8) = .inl (.int, 24) := by rcases h with rfl | rfl | rfl | rfl <;> decide +kernel
theorem la_0 {a : Nat} (h : am_la a) : am_sh (a) = .inr 3 := by rcases h with rfl | rfl <;> decide +kernel
theorem la_1 {a : Nat} (h : am_la a) : am_sh (a + 1) = .inl (.int, 16) := by rcases h with rfl | rfl <;> decide +kernel
theorem la_2 {a : Nat} (h : am_la a) : am_sh (a + 2) = .inl (.int, 16) := by rcases h with rfl | rfl <;> decide +kernel
theorem la_3 {a : Nat} (h : am_la a) : am_sh (a + 3) = .inl (.int, 16) := by rcases h with rfl | rfl <;> decide +kernel
theorem la_4 {a : Nat} (h : am_la a) : am_sh (a + 4) = .inl (.int, 16) := by rcases h with rfl | rfl <;> decide +kernel
theorem la_5 {a : Nat} (h : am_la a) : am_sh (a + 5) = .inl (.int, 512) := by rcases h with rfl | rfl <;> decide +kernel
theorem la_6 {a : Nat} (h : am_la a) : am_sh (a + 6) = .inl (.int, 64) := by rcases h with rfl | rfl <;> decide +kernel
theorem la_7 {a : Nat} (h : am_la a) : am_sh (a + 7) = .inl (.int, 10) := by rcases h with rfl | rfl <;> decide +kernel

theorem am_gR (h : am_H) (a : Nat) (f : Nat → Int32) (a' : Nat) : (am_sR h a f).2.2 a' = if a' = a then f else h.2.2 a' := rfl
theorem am_gR1 (h : am_H) (a : Nat) (f : Nat → Int32) : (am_sR h a f).1 = h.1 := rfl
theorem am_gR2 (h : am_H) (a : Nat) (f : Nat → Int32) : (am_sR h a f).2.1 = h.2.1 := rfl
theorem am_gI (h : am_H) (a k : Nat) (x : Int32) (a' k' : Nat) : (am_sI h a k x).1 a' k' = if a' = a ∧ k' = k then x else h.1 a' k' := by
  unfold am_sI
  by_cases h1 : a' = a
  · subst h1
    by_cases h2 : k' = k
    · subst h2; simp [upd]
    · simp [upd, h2]
  · simp [h1]
theorem am_gI2 (h : am_H) (a k : Nat) (x : Int32) : (am_sI h a k x).2 = h.2 := rfl
theorem am_gP (h : am_H) (a k q a' k' : Nat) : (am_sP h a k q).2.1 a' k' = if a' = a ∧ k' = k then q else h.2.1 a' k' := by
  unfold am_sP
  by_cases h1 : a' = a
  · subst h1
    by_cases h2 : k' = k
    · subst h2; simp
    · simp [h2]
  · simp [h1]
theorem am_gP1 (h : am_H) (a k q : Nat) : (am_sP h a k q).1 = h.1 := rfl
theorem am_gP2 (h : am_H) (a k q : Nat) : (am_sP h a k q).2.2 = h.2.2 := rfl
theorem am_uu (f : Nat → Int32) (k : Nat) (x : Int32) (j : Nat) : upd f k x j = if j = k then x else f j := rfl

