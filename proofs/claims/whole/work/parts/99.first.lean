-- the state behind the constructors
def am_h0 : am_H := (fun a k => if k = 10 ∧ (a = 20 ∨ a = 29 ∨ a = 38 ∨ a = 47) then 1 else 0, fun a k => if a = 0 then (if k = 10 then 38 else if k = 11 then 47 else if k = 12 then 56 else if k = 13 then 64 else 0) else if a = 72 then 64 else 0, fun a => if a = 74 then upd (fun _ => 0) 73 1 else fun _ => 0)
abbrev am_B0 : am_AB := ((0, 0, 1), fun _ => 0, fun _ => 0, fun _ => 0, fun _ => 12, fun _ => 0, fun _ => 0)
theorem am_inv0 : am_inv am_h0 := by
  refine ⟨0, 38, 47, 56, 64, am_B0, ⟨by omega, rfl, rfl, fun i hi => absurd hi (Nat.not_lt_zero i)⟩, ⟨Or.inl ⟨rfl, rfl⟩, Or.inl ⟨rfl, rfl⟩, rfl, rfl, rfl, rfl⟩, ⟨⟨rfl, rfl, rfl, fun i _ => ⟨rfl, rfl, rfl⟩, fun p hp => absurd hp (Nat.not_lt_zero p)⟩, ⟨rfl, rfl, fun p hp => absurd hp (Nat.not_lt_zero p)⟩, ⟨rfl, ⟨0, by decide, rfl, fun i _ => ?_⟩, fun i _ q => absurd q (Nat.lt_irrefl 0), fun p hp => absurd hp (Nat.not_lt_zero p)⟩, ⟨Nat.zero_le _, Nat.zero_le _, by decide, fun i _ => ⟨Nat.zero_le _, Nat.le_refl _⟩, fun p hp => absurd hp (Nat.not_lt_zero p)⟩⟩, ⟨0, 1, rfl, rfl, by omega, by omega⟩, ⟨(0, fun _ => 0, fun _ => 0, fun _ => 0, fun _ => 0, fun _ => (0, 0)), ⟨rfl, Nat.zero_le _, fun q hq => absurd hq (Nat.not_lt_zero q)⟩, ⟨rfl, fun q hq => absurd hq (Nat.not_lt_zero q)⟩⟩, ⟨rfl, fun q => absurd rfl q⟩⟩
  rw [Nat.zero_testBit]; exact ⟨fun q => (by cases q), fun q => absurd q (Nat.lt_irrefl 0)⟩
def am_F0 : List am_E := zX10 ++ zX11 73
theorem w0_0 (G : am_G) (cT : FieldType → ClassId) : (am_F0[0]?).map (am_ce G cT) = some (am_cell G cT am_h0 0) := rfl
theorem w0_1 (G : am_G) (cT : FieldType → ClassId) : (am_F0[1]?).map (am_ce G cT) = some (am_cell G cT am_h0 1) := rfl
theorem w0_2 (G : am_G) (cT : FieldType → ClassId) : (am_F0[2]?).map (am_ce G cT) = some (am_cell G cT am_h0 2) := rfl
theorem w0_3 (G : am_G) (cT : FieldType → ClassId) : (am_F0[3]?).map (am_ce G cT) = some (am_cell G cT am_h0 3) := rfl
theorem w0_4 (G : am_G) (cT : FieldType → ClassId) : (am_F0[4]?).map (am_ce G cT) = some (am_cell G cT am_h0 4) := rfl
theorem w0_5 (G : am_G) (cT : FieldType → ClassId) : (am_F0[5]?).map (am_ce G cT) = some (am_cell G cT am_h0 5) := rfl
theorem w0_6 (G : am_G) (cT : FieldType → ClassId) : (am_F0[6]?).map (am_ce G cT) = some (am_cell G cT am_h0 6) := rfl
theorem w0_7 (G : am_G) (cT : FieldType → ClassId) : (am_F0[7]?).map (am_ce G cT) = some (am_cell G cT am_h0 7) := rfl
theorem w0_8 (G : am_G) (cT : FieldType → ClassId) : (am_F0[8]?).map (am_ce G cT) = some (am_cell G cT am_h0 8) := rfl
theorem w0_9 (G : am_G) (cT : FieldType → ClassId) : (am_F0[9]?).map (am_ce G cT) = some (am_cell G cT am_h0 9) := rfl
theorem w0_10 (G : am_G) (cT : FieldType → ClassId) : (am_F0[10]?).map (am_ce G cT) = some (am_cell G cT am_h0 10) := rfl
theorem w0_11 (G : am_G) (cT : FieldType → ClassId) : (am_F0[11]?).map (am_ce G cT) = some (am_cell G cT am_h0 11) := rfl
theorem w0_12 (G : am_G) (cT : FieldType → ClassId) : (am_F0[12]?).map (am_ce G cT) = some (am_cell G cT am_h0 12) := rfl
theorem w0_13 (G : am_G) (cT : FieldType → ClassId) : (am_F0[13]?).map (am_ce G cT) = some (am_cell G cT am_h0 13) := rfl
theorem w0_14 (G : am_G) (cT : FieldType → ClassId) : (am_F0[14]?).map (am_ce G cT) = some (am_cell G cT am_h0 14) := rfl
theorem w0_15 (G : am_G) (cT : FieldType → ClassId) : (am_F0[15]?).map (am_ce G cT) = some (am_cell G cT am_h0 15) := rfl
theorem w0_16 (G : am_G) (cT : FieldType → ClassId) : (am_F0[16]?).map (am_ce G cT) = some (am_cell G cT am_h0 16) := rfl
theorem w0_17 (G : am_G) (cT : FieldType → ClassId) : (am_F0[17]?).map (am_ce G cT) = some (am_cell G cT am_h0 17) := rfl
theorem w0_18 (G : am_G) (cT : FieldType → ClassId) : (am_F0[18]?).map (am_ce G cT) = some (am_cell G cT am_h0 18) := rfl
theorem w0_19 (G : am_G) (cT : FieldType → ClassId) : (am_F0[19]?).map (am_ce G cT) = some (am_cell G cT am_h0 19) := rfl
theorem w0_20 (G : am_G) (cT : FieldType → ClassId) : (am_F0[20]?).map (am_ce G cT) = some (am_cell G cT am_h0 20) := rfl
theorem w0_21 (G : am_G) (cT : FieldType → ClassId) : (am_F0[21]?).map (am_ce G cT) = some (am_cell G cT am_h0 21) := rfl
theorem w0_22 (G : am_G) (cT : FieldType → ClassId) : (am_F0[22]?).map (am_ce G cT) = some (am_cell G cT am_h0 22) := rfl
theorem w0_23 (G : am_G) (cT : FieldType → ClassId) : (am_F0[23]?).map (am_ce G cT) = some (am_cell G cT am_h0 23) := rfl
theorem w0_24 (G : am_G) (cT : FieldType → ClassId) : (am_F0[24]?).map (am_ce G cT) = some (am_cell G cT am_h0 24) := rfl
theorem w0_25 (G : am_G) (cT : FieldType → ClassId) : (am_F0[25]?).map (am_ce G cT) = some (am_cell G cT am_h0 25) := rfl
theorem w0_26 (G : am_G) (cT : FieldType → ClassId) : (am_F0[26]?).map (am_ce G cT) = some (am_cell G cT am_h0 26) := rfl
theorem w0_27 (G : am_G) (cT : FieldType → ClassId) : (am_F0[27]?).map (am_ce G cT) = some (am_cell G cT am_h0 27) := rfl
theorem w0_28 (G : am_G) (cT : FieldType → ClassId) : (am_F0[28]?).map (am_ce G cT) = some (am_cell G cT am_h0 28) := rfl
theorem w0_29 (G : am_G) (cT : FieldType → ClassId) : (am_F0[29]?).map (am_ce G cT) = some (am_cell G cT am_h0 29) := rfl
theorem w0_30 (G : am_G) (cT : FieldType → ClassId) : (am_F0[30]?).map (am_ce G cT) = some (am_cell G cT am_h0 30) := rfl
theorem w0_31 (G : am_G) (cT : FieldType → ClassId) : (am_F0[31]?).map (am_ce G cT) = some (am_cell G cT am_h0 31) := rfl
theorem w0_32 (G : am_G) (cT : FieldType → ClassId) : (am_F0[32]?).map (am_ce G cT) = some (am_cell G cT am_h0 32) := rfl
theorem w0_33 (G : am_G) (cT : FieldType → ClassId) : (am_F0[33]?).map (am_ce G cT) = some (am_cell G cT am_h0 33) := rfl
theorem w0_34 (G : am_G) (cT : FieldType → ClassId) : (am_F0[34]?).map (am_ce G cT) = some (am_cell G cT am_h0 34) := rfl
theorem w0_35 (G : am_G) (cT : FieldType → ClassId) : (am_F0[35]?).map (am_ce G cT) = some (am_cell G cT am_h0 35) := rfl
theorem w0_36 (G : am_G) (cT : FieldType → ClassId) : (am_F0[36]?).map (am_ce G cT) = some (am_cell G cT am_h0 36) := rfl
theorem w0_37 (G : am_G) (cT : FieldType → ClassId) : (am_F0[37]?).map (am_ce G cT) = some (am_cell G cT am_h0 37) := rfl
theorem w0_38 (G : am_G) (cT : FieldType → ClassId) : (am_F0[38]?).map (am_ce G cT) = some (am_cell G cT am_h0 38) := rfl
theorem w0_39 (G : am_G) (cT : FieldType → ClassId) : (am_F0[39]?).map (am_ce G cT) = some (am_cell G cT am_h0 39) := rfl
theorem w0_40 (G : am_G) (cT : FieldType → ClassId) : (am_F0[40]?).map (am_ce G cT) = some (am_cell G cT am_h0 40) := rfl
theorem w0_41 (G : am_G) (cT : FieldType → ClassId) : (am_F0[41]?).map (am_ce G cT) = some (am_cell G cT am_h0 41) := rfl
theorem w0_42 (G : am_G) (cT : FieldType → ClassId) : (am_F0[42]?).map (am_ce G cT) = some (am_cell G cT am_h0 42) := rfl
theorem w0_43 (G : am_G) (cT : FieldType → ClassId) : (am_F0[43]?).map (am_ce G cT) = some (am_cell G cT am_h0 43) := rfl
theorem w0_44 (G : am_G) (cT : FieldType → ClassId) : (am_F0[44]?).map (am_ce G cT) = some (am_cell G cT am_h0 44) := rfl
theorem w0_45 (G : am_G) (cT : FieldType → ClassId) : (am_F0[45]?).map (am_ce G cT) = some (am_cell G cT am_h0 45) := rfl
theorem w0_46 (G : am_G) (cT : FieldType → ClassId) : (am_F0[46]?).map (am_ce G cT) = some (am_cell G cT am_h0 46) := rfl
theorem w0_47 (G : am_G) (cT : FieldType → ClassId) : (am_F0[47]?).map (am_ce G cT) = some (am_cell G cT am_h0 47) := rfl
theorem w0_48 (G : am_G) (cT : FieldType → ClassId) : (am_F0[48]?).map (am_ce G cT) = some (am_cell G cT am_h0 48) := rfl
theorem w0_49 (G : am_G) (cT : FieldType → ClassId) : (am_F0[49]?).map (am_ce G cT) = some (am_cell G cT am_h0 49) := rfl
theorem w0_50 (G : am_G) (cT : FieldType → ClassId) : (am_F0[50]?).map (am_ce G cT) = some (am_cell G cT am_h0 50) := rfl
theorem w0_51 (G : am_G) (cT : FieldType → ClassId) : (am_F0[51]?).map (am_ce G cT) = some (am_cell G cT am_h0 51) := rfl
theorem w0_52 (G : am_G) (cT : FieldType → ClassId) : (am_F0[52]?).map (am_ce G cT) = some (am_cell G cT am_h0 52) := rfl
theorem w0_53 (G : am_G) (cT : FieldType → ClassId) : (am_F0[53]?).map (am_ce G cT) = some (am_cell G cT am_h0 53) := rfl
theorem w0_54 (G : am_G) (cT : FieldType → ClassId) : (am_F0[54]?).map (am_ce G cT) = some (am_cell G cT am_h0 54) := rfl
theorem w0_55 (G : am_G) (cT : FieldType → ClassId) : (am_F0[55]?).map (am_ce G cT) = some (am_cell G cT am_h0 55) := rfl
theorem w0_56 (G : am_G) (cT : FieldType → ClassId) : (am_F0[56]?).map (am_ce G cT) = some (am_cell G cT am_h0 56) := rfl
theorem w0_57 (G : am_G) (cT : FieldType → ClassId) : (am_F0[57]?).map (am_ce G cT) = some (am_cell G cT am_h0 57) := rfl
theorem w0_58 (G : am_G) (cT : FieldType → ClassId) : (am_F0[58]?).map (am_ce G cT) = some (am_cell G cT am_h0 58) := rfl
theorem w0_59 (G : am_G) (cT : FieldType → ClassId) : (am_F0[59]?).map (am_ce G cT) = some (am_cell G cT am_h0 59) := rfl
theorem w0_60 (G : am_G) (cT : FieldType → ClassId) : (am_F0[60]?).map (am_ce G cT) = some (am_cell G cT am_h0 60) := rfl
theorem w0_61 (G : am_G) (cT : FieldType → ClassId) : (am_F0[61]?).map (am_ce G cT) = some (am_cell G cT am_h0 61) := rfl
theorem w0_62 (G : am_G) (cT : FieldType → ClassId) : (am_F0[62]?).map (am_ce G cT) = some (am_cell G cT am_h0 62) := rfl
theorem w0_63 (G : am_G) (cT : FieldType → ClassId) : (am_F0[63]?).map (am_ce G cT) = some (am_cell G cT am_h0 63) := rfl
theorem w0_64 (G : am_G) (cT : FieldType → ClassId) : (am_F0[64]?).map (am_ce G cT) = some (am_cell G cT am_h0 64) := rfl
theorem w0_65 (G : am_G) (cT : FieldType → ClassId) : (am_F0[65]?).map (am_ce G cT) = some (am_cell G cT am_h0 65) := rfl
theorem w0_66 (G : am_G) (cT : FieldType → ClassId) : (am_F0[66]?).map (am_ce G cT) = some (am_cell G cT am_h0 66) := rfl
theorem w0_67 (G : am_G) (cT : FieldType → ClassId) : (am_F0[67]?).map (am_ce G cT) = some (am_cell G cT am_h0 67) := rfl
theorem w0_68 (G : am_G) (cT : FieldType → ClassId) : (am_F0[68]?).map (am_ce G cT) = some (am_cell G cT am_h0 68) := rfl
theorem w0_69 (G : am_G) (cT : FieldType → ClassId) : (am_F0[69]?).map (am_ce G cT) = some (am_cell G cT am_h0 69) := rfl
theorem w0_70 (G : am_G) (cT : FieldType → ClassId) : (am_F0[70]?).map (am_ce G cT) = some (am_cell G cT am_h0 70) := rfl
theorem w0_71 (G : am_G) (cT : FieldType → ClassId) : (am_F0[71]?).map (am_ce G cT) = some (am_cell G cT am_h0 71) := rfl
theorem w0_72 (G : am_G) (cT : FieldType → ClassId) : (am_F0[72]?).map (am_ce G cT) = some (am_cell G cT am_h0 72) := rfl
theorem w0_73 (G : am_G) (cT : FieldType → ClassId) : (am_F0[73]?).map (am_ce G cT) = some (am_cell G cT am_h0 73) := rfl
theorem w0_74 (G : am_G) (cT : FieldType → ClassId) : (am_F0[74]?).map (am_ce G cT) = some (am_cell G cT am_h0 74) := rfl
theorem w0_75 (G : am_G) (cT : FieldType → ClassId) : (am_F0[75]?).map (am_ce G cT) = some (am_cell G cT am_h0 75) := rfl
theorem w0_76 (G : am_G) (cT : FieldType → ClassId) : (am_F0[76]?).map (am_ce G cT) = some (am_cell G cT am_h0 76) := rfl
theorem w0_77 (G : am_G) (cT : FieldType → ClassId) : (am_F0[77]?).map (am_ce G cT) = some (am_cell G cT am_h0 77) := rfl
theorem w0_78 (G : am_G) (cT : FieldType → ClassId) : (am_F0[78]?).map (am_ce G cT) = some (am_cell G cT am_h0 78) := rfl
theorem w0_79 (G : am_G) (cT : FieldType → ClassId) : (am_F0[79]?).map (am_ce G cT) = some (am_cell G cT am_h0 79) := rfl
theorem w0_80 (G : am_G) (cT : FieldType → ClassId) : (am_F0[80]?).map (am_ce G cT) = some (am_cell G cT am_h0 80) := rfl
theorem w0_81 (G : am_G) (cT : FieldType → ClassId) : (am_F0[81]?).map (am_ce G cT) = some (am_cell G cT am_h0 81) := rfl
theorem w0_82 (G : am_G) (cT : FieldType → ClassId) : (am_F0[82]?).map (am_ce G cT) = some (am_cell G cT am_h0 82) := rfl
theorem w0_83 (G : am_G) (cT : FieldType → ClassId) : (am_F0[83]?).map (am_ce G cT) = some (am_cell G cT am_h0 83) := rfl
theorem w0_84 (G : am_G) (cT : FieldType → ClassId) : (am_F0[84]?).map (am_ce G cT) = some (am_cell G cT am_h0 84) := rfl
theorem w0_85 (G : am_G) (cT : FieldType → ClassId) : (am_F0[85]?).map (am_ce G cT) = some (am_cell G cT am_h0 85) := rfl
theorem w0_86 (G : am_G) (cT : FieldType → ClassId) : (am_F0[86]?).map (am_ce G cT) = some (am_cell G cT am_h0 86) := rfl
theorem w0_87 (G : am_G) (cT : FieldType → ClassId) : (am_F0[87]?).map (am_ce G cT) = some (am_cell G cT am_h0 87) := rfl
theorem w0_88 (G : am_G) (cT : FieldType → ClassId) : (am_F0[88]?).map (am_ce G cT) = some (am_cell G cT am_h0 88) := rfl
theorem w0_89 (G : am_G) (cT : FieldType → ClassId) : (am_F0[89]?).map (am_ce G cT) = some (am_cell G cT am_h0 89) := rfl
theorem w0_90 (G : am_G) (cT : FieldType → ClassId) : (am_F0[90]?).map (am_ce G cT) = some (am_cell G cT am_h0 90) := rfl
theorem w0_91 (G : am_G) (cT : FieldType → ClassId) : (am_F0[91]?).map (am_ce G cT) = some (am_cell G cT am_h0 91) := rfl
theorem w0_92 (G : am_G) (cT : FieldType → ClassId) : (am_F0[92]?).map (am_ce G cT) = some (am_cell G cT am_h0 92) := rfl
theorem w0_93 (G : am_G) (cT : FieldType → ClassId) : (am_F0[93]?).map (am_ce G cT) = some (am_cell G cT am_h0 93) := rfl
theorem w0_94 (G : am_G) (cT : FieldType → ClassId) : (am_F0[94]?).map (am_ce G cT) = some (am_cell G cT am_h0 94) := rfl
theorem w0_95 (G : am_G) (cT : FieldType → ClassId) : (am_F0[95]?).map (am_ce G cT) = some (am_cell G cT am_h0 95) := rfl
theorem w0_96 (G : am_G) (cT : FieldType → ClassId) : (am_F0[96]?).map (am_ce G cT) = some (am_cell G cT am_h0 96) := rfl
theorem w0_97 (G : am_G) (cT : FieldType → ClassId) : (am_F0[97]?).map (am_ce G cT) = some (am_cell G cT am_h0 97) := rfl
theorem w0_98 (G : am_G) (cT : FieldType → ClassId) : (am_F0[98]?).map (am_ce G cT) = some (am_cell G cT am_h0 98) := rfl
theorem w0_99 (G : am_G) (cT : FieldType → ClassId) : (am_F0[99]?).map (am_ce G cT) = some (am_cell G cT am_h0 99) := rfl
theorem w0_100 (G : am_G) (cT : FieldType → ClassId) : (am_F0[100]?).map (am_ce G cT) = some (am_cell G cT am_h0 100) := rfl
theorem w0_101 (G : am_G) (cT : FieldType → ClassId) : (am_F0[101]?).map (am_ce G cT) = some (am_cell G cT am_h0 101) := rfl
theorem w0_102 (G : am_G) (cT : FieldType → ClassId) : (am_F0[102]?).map (am_ce G cT) = some (am_cell G cT am_h0 102) := rfl
theorem w0_103 (G : am_G) (cT : FieldType → ClassId) : (am_F0[103]?).map (am_ce G cT) = some (am_cell G cT am_h0 103) := rfl
theorem w0_104 (G : am_G) (cT : FieldType → ClassId) : (am_F0[104]?).map (am_ce G cT) = some (am_cell G cT am_h0 104) := rfl
theorem w0_105 (G : am_G) (cT : FieldType → ClassId) : (am_F0[105]?).map (am_ce G cT) = some (am_cell G cT am_h0 105) := rfl
theorem w0_106 (G : am_G) (cT : FieldType → ClassId) : (am_F0[106]?).map (am_ce G cT) = some (am_cell G cT am_h0 106) := rfl
theorem w0_107 (G : am_G) (cT : FieldType → ClassId) : (am_F0[107]?).map (am_ce G cT) = some (am_cell G cT am_h0 107) := rfl
theorem w0_108 (G : am_G) (cT : FieldType → ClassId) : (am_F0[108]?).map (am_ce G cT) = some (am_cell G cT am_h0 108) := rfl
theorem w0_109 (G : am_G) (cT : FieldType → ClassId) : (am_F0[109]?).map (am_ce G cT) = some (am_cell G cT am_h0 109) := rfl
theorem w0_110 (G : am_G) (cT : FieldType → ClassId) : (am_F0[110]?).map (am_ce G cT) = some (am_cell G cT am_h0 110) := rfl
theorem w0_111 (G : am_G) (cT : FieldType → ClassId) : (am_F0[111]?).map (am_ce G cT) = some (am_cell G cT am_h0 111) := rfl
theorem am_ws0 (G : am_G) (cT : FieldType → ClassId) : am_wc G cT am_F0 = am_ws G cT am_h0 := by
  apply List.ext_getElem?
  intro a
  have key : ∀ a, a < 112 → (am_F0[a]?).map (am_ce G cT) = some (am_cell G cT am_h0 a) := fun a ha => match a, ha with
    | 0, _ => w0_0 G cT
    | 1, _ => w0_1 G cT
    | 2, _ => w0_2 G cT
    | 3, _ => w0_3 G cT
    | 4, _ => w0_4 G cT
    | 5, _ => w0_5 G cT
    | 6, _ => w0_6 G cT
    | 7, _ => w0_7 G cT
    | 8, _ => w0_8 G cT
    | 9, _ => w0_9 G cT
    | 10, _ => w0_10 G cT
    | 11, _ => w0_11 G cT
    | 12, _ => w0_12 G cT
    | 13, _ => w0_13 G cT
    | 14, _ => w0_14 G cT
    | 15, _ => w0_15 G cT
    | 16, _ => w0_16 G cT
    | 17, _ => w0_17 G cT
    | 18, _ => w0_18 G cT
    | 19, _ => w0_19 G cT
    | 20, _ => w0_20 G cT
    | 21, _ => w0_21 G cT
    | 22, _ => w0_22 G cT
    | 23, _ => w0_23 G cT
    | 24, _ => w0_24 G cT
    | 25, _ => w0_25 G cT
    | 26, _ => w0_26 G cT
    | 27, _ => w0_27 G cT
    | 28, _ => w0_28 G cT
    | 29, _ => w0_29 G cT
    | 30, _ => w0_30 G cT
    | 31, _ => w0_31 G cT
    | 32, _ => w0_32 G cT
    | 33, _ => w0_33 G cT
    | 34, _ => w0_34 G cT
    | 35, _ => w0_35 G cT
    | 36, _ => w0_36 G cT
    | 37, _ => w0_37 G cT
    | 38, _ => w0_38 G cT
    | 39, _ => w0_39 G cT
    | 40, _ => w0_40 G cT
    | 41, _ => w0_41 G cT
    | 42, _ => w0_42 G cT
    | 43, _ => w0_43 G cT
    | 44, _ => w0_44 G cT
    | 45, _ => w0_45 G cT
    | 46, _ => w0_46 G cT
    | 47, _ => w0_47 G cT
    | 48, _ => w0_48 G cT
    | 49, _ => w0_49 G cT
    | 50, _ => w0_50 G cT
    | 51, _ => w0_51 G cT
    | 52, _ => w0_52 G cT
    | 53, _ => w0_53 G cT
    | 54, _ => w0_54 G cT
    | 55, _ => w0_55 G cT
    | 56, _ => w0_56 G cT
    | 57, _ => w0_57 G cT
    | 58, _ => w0_58 G cT
    | 59, _ => w0_59 G cT
    | 60, _ => w0_60 G cT
    | 61, _ => w0_61 G cT
    | 62, _ => w0_62 G cT
    | 63, _ => w0_63 G cT
    | 64, _ => w0_64 G cT
    | 65, _ => w0_65 G cT
    | 66, _ => w0_66 G cT
    | 67, _ => w0_67 G cT
    | 68, _ => w0_68 G cT
    | 69, _ => w0_69 G cT
    | 70, _ => w0_70 G cT
    | 71, _ => w0_71 G cT
    | 72, _ => w0_72 G cT
    | 73, _ => w0_73 G cT
    | 74, _ => w0_74 G cT
    | 75, _ => w0_75 G cT
    | 76, _ => w0_76 G cT
    | 77, _ => w0_77 G cT
    | 78, _ => w0_78 G cT
    | 79, _ => w0_79 G cT
    | 80, _ => w0_80 G cT
    | 81, _ => w0_81 G cT
    | 82, _ => w0_82 G cT
    | 83, _ => w0_83 G cT
    | 84, _ => w0_84 G cT
    | 85, _ => w0_85 G cT
    | 86, _ => w0_86 G cT
    | 87, _ => w0_87 G cT
    | 88, _ => w0_88 G cT
    | 89, _ => w0_89 G cT
    | 90, _ => w0_90 G cT
    | 91, _ => w0_91 G cT
    | 92, _ => w0_92 G cT
    | 93, _ => w0_93 G cT
    | 94, _ => w0_94 G cT
    | 95, _ => w0_95 G cT
    | 96, _ => w0_96 G cT
    | 97, _ => w0_97 G cT
    | 98, _ => w0_98 G cT
    | 99, _ => w0_99 G cT
    | 100, _ => w0_100 G cT
    | 101, _ => w0_101 G cT
    | 102, _ => w0_102 G cT
    | 103, _ => w0_103 G cT
    | 104, _ => w0_104 G cT
    | 105, _ => w0_105 G cT
    | 106, _ => w0_106 G cT
    | 107, _ => w0_107 G cT
    | 108, _ => w0_108 G cT
    | 109, _ => w0_109 G cT
    | 110, _ => w0_110 G cT
    | 111, _ => w0_111 G cT
    | a + 112, ha => absurd ha (by omega)
  by_cases ha : a < am_NC
  · rw [am_ws_get ha, am_wc_get]
    have w := key a ha
    cases e : am_F0[a]? with
    | none => rw [e] at w; cases w
    | some x => rw [e] at w; rw [← Option.some.inj w]; rfl
  · rw [am_ws_none ha, am_wc_get, List.getElem?_eq_none (by have : am_F0.length = 112 := rfl; have : am_NC = 112 := rfl; omega)]; rfl
