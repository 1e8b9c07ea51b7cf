theorem dop_76 {c : ByteArray} {p : Nat} {r : List Nat} (h : dn c p = 76 :: r) : decode c p = .ok (.astore_n 1, 1) := by
  refine dn_k ?_
  unfold Jvm.ClassFile.Decoder.instr
  refine (dn_bind (dn_u1 h)).trans ?_
  rfl
theorem dop_77 {c : ByteArray} {p : Nat} {r : List Nat} (h : dn c p = 77 :: r) : decode c p = .ok (.astore_n 2, 1) := by
  refine dn_k ?_
  unfold Jvm.ClassFile.Decoder.instr
  refine (dn_bind (dn_u1 h)).trans ?_
  rfl
theorem dop_121 {c : ByteArray} {p : Nat} {r : List Nat} (h : dn c p = 121 :: r) : decode c p = .ok (.lshl, 1) := by
  refine dn_k ?_
  unfold Jvm.ClassFile.Decoder.instr
  refine (dn_bind (dn_u1 h)).trans ?_
  rfl
theorem dop_129 {c : ByteArray} {p : Nat} {r : List Nat} (h : dn c p = 129 :: r) : decode c p = .ok (.lor, 1) := by
  refine dn_k ?_
  unfold Jvm.ClassFile.Decoder.instr
  refine (dn_bind (dn_u1 h)).trans ?_
  rfl
noncomputable def dtL0_91 : List Nat := 5 :: 167 :: 250 :: 97 :: 4 :: 172 :: []
noncomputable def dtL0_90 : List Nat := 16 :: 43 :: 182 :: 0 :: 178 :: 87 :: 44 :: 182 :: 0 :: 181 :: 87 :: 167 :: 0 :: 3 :: 132 :: 3 :: dtL0_91
noncomputable def dtL0_89 : List Nat := 87 :: 167 :: 0 :: 29 :: 43 :: 182 :: 0 :: 174 :: 87 :: 44 :: 182 :: 0 :: 177 :: 87 :: 167 :: 0 :: dtL0_90
noncomputable def dtL0_88 : List Nat := 4 :: 96 :: 46 :: 182 :: 0 :: 170 :: 87 :: 44 :: 42 :: 29 :: 4 :: 96 :: 46 :: 182 :: 0 :: 173 :: dtL0_89
noncomputable def dtL0_87 : List Nat := 44 :: 42 :: 29 :: 4 :: 96 :: 46 :: 182 :: 0 :: 169 :: 87 :: 167 :: 0 :: 52 :: 43 :: 42 :: 29 :: dtL0_88
noncomputable def dtL0_86 : List Nat := 0 :: 165 :: 87 :: 167 :: 0 :: 75 :: 43 :: 42 :: 29 :: 4 :: 96 :: 46 :: 182 :: 0 :: 166 :: 87 :: dtL0_87
noncomputable def dtL0_85 : List Nat := 42 :: 29 :: 4 :: 96 :: 46 :: 42 :: 29 :: 5 :: 96 :: 46 :: 42 :: 29 :: 6 :: 96 :: 46 :: 182 :: dtL0_86
noncomputable def dtL0_84 : List Nat := 46 :: 42 :: 29 :: 5 :: 96 :: 46 :: 42 :: 29 :: 6 :: 96 :: 46 :: 182 :: 0 :: 162 :: 87 :: 44 :: dtL0_85
noncomputable def dtL0_83 : List Nat := 29 :: 5 :: 96 :: 46 :: 182 :: 0 :: 161 :: 87 :: 167 :: 0 :: 118 :: 43 :: 42 :: 29 :: 4 :: 96 :: dtL0_84
noncomputable def dtL0_82 : List Nat := 42 :: 29 :: 5 :: 96 :: 46 :: 182 :: 0 :: 158 :: 87 :: 44 :: 42 :: 29 :: 4 :: 96 :: 46 :: 42 :: dtL0_83
noncomputable def dtL0_81 : List Nat := 6 :: 96 :: 46 :: 182 :: 0 :: 157 :: 87 :: 167 :: 0 :: 151 :: 43 :: 42 :: 29 :: 4 :: 96 :: 46 :: dtL0_82
noncomputable def dtL0_80 : List Nat := 0 :: 154 :: 87 :: 44 :: 42 :: 29 :: 4 :: 96 :: 46 :: 42 :: 29 :: 5 :: 96 :: 46 :: 42 :: 29 :: dtL0_81
noncomputable def dtL0_79 : List Nat := 42 :: 29 :: 4 :: 96 :: 46 :: 42 :: 29 :: 5 :: 96 :: 46 :: 42 :: 29 :: 6 :: 96 :: 46 :: 182 :: dtL0_80
noncomputable def dtL0_78 : List Nat := 5 :: 96 :: 46 :: 42 :: 29 :: 6 :: 96 :: 46 :: 182 :: 0 :: 153 :: 87 :: 167 :: 0 :: 194 :: 43 :: dtL0_79
noncomputable def dtL0_77 : List Nat := 29 :: 6 :: 96 :: 46 :: 182 :: 0 :: 150 :: 87 :: 44 :: 42 :: 29 :: 4 :: 96 :: 46 :: 42 :: 29 :: dtL0_78
noncomputable def dtL0_76 : List Nat := 87 :: 167 :: 0 :: 237 :: 43 :: 42 :: 29 :: 4 :: 96 :: 46 :: 42 :: 29 :: 5 :: 96 :: 46 :: 42 :: dtL0_77
noncomputable def dtL0_75 : List Nat := 4 :: 96 :: 46 :: 42 :: 29 :: 5 :: 96 :: 46 :: 42 :: 29 :: 6 :: 96 :: 46 :: 182 :: 0 :: 149 :: dtL0_76
noncomputable def dtL0_74 : List Nat := 29 :: 5 :: 96 :: 46 :: 42 :: 29 :: 6 :: 96 :: 46 :: 182 :: 0 :: 146 :: 87 :: 44 :: 42 :: 29 :: dtL0_75
noncomputable def dtL0_73 : List Nat := 96 :: 46 :: 182 :: 0 :: 145 :: 87 :: 167 :: 1 :: 24 :: 43 :: 42 :: 29 :: 4 :: 96 :: 46 :: 42 :: dtL0_74
noncomputable def dtL0_72 : List Nat := 142 :: 87 :: 44 :: 42 :: 29 :: 4 :: 96 :: 46 :: 42 :: 29 :: 5 :: 96 :: 46 :: 42 :: 29 :: 6 :: dtL0_73
noncomputable def dtL0_71 : List Nat := 29 :: 4 :: 96 :: 46 :: 42 :: 29 :: 5 :: 96 :: 46 :: 42 :: 29 :: 6 :: 96 :: 46 :: 182 :: 0 :: dtL0_72
noncomputable def dtL0_70 : List Nat := 96 :: 46 :: 42 :: 29 :: 7 :: 96 :: 46 :: 182 :: 0 :: 141 :: 87 :: 167 :: 1 :: 67 :: 43 :: 42 :: dtL0_71
noncomputable def dtL0_69 : List Nat := 138 :: 87 :: 44 :: 42 :: 29 :: 4 :: 96 :: 46 :: 42 :: 29 :: 5 :: 96 :: 46 :: 42 :: 29 :: 6 :: dtL0_70
noncomputable def dtL0_68 : List Nat := 29 :: 5 :: 96 :: 46 :: 42 :: 29 :: 6 :: 96 :: 46 :: 42 :: 29 :: 7 :: 96 :: 46 :: 182 :: 0 :: dtL0_69
noncomputable def dtL0_67 : List Nat := 87 :: 44 :: 182 :: 0 :: 137 :: 87 :: 167 :: 1 :: 120 :: 43 :: 42 :: 29 :: 4 :: 96 :: 46 :: 42 :: dtL0_68
noncomputable def dtL0_66 : List Nat := 29 :: 6 :: 96 :: 46 :: 182 :: 0 :: 133 :: 159 :: 1 :: 135 :: 3 :: 172 :: 43 :: 182 :: 0 :: 134 :: dtL0_67
noncomputable def dtL0_65 : List Nat := 46 :: 182 :: 0 :: 130 :: 44 :: 42 :: 29 :: 4 :: 96 :: 46 :: 42 :: 29 :: 5 :: 96 :: 46 :: 42 :: dtL0_66
noncomputable def dtL0_64 : List Nat := 176 :: 43 :: 42 :: 29 :: 4 :: 96 :: 46 :: 42 :: 29 :: 5 :: 96 :: 46 :: 42 :: 29 :: 6 :: 96 :: dtL0_65
noncomputable def dtL0_63 : List Nat := 42 :: 29 :: 4 :: 96 :: 46 :: 42 :: 29 :: 5 :: 96 :: 46 :: 182 :: 0 :: 129 :: 87 :: 167 :: 1 :: dtL0_64
noncomputable def dtL0_62 : List Nat := 43 :: 42 :: 29 :: 4 :: 96 :: 46 :: 42 :: 29 :: 5 :: 96 :: 46 :: 182 :: 0 :: 126 :: 87 :: 44 :: dtL0_63
noncomputable def dtL0_61 : List Nat := 0 :: 122 :: 87 :: 44 :: 42 :: 29 :: 4 :: 96 :: 46 :: 182 :: 0 :: 125 :: 87 :: 167 :: 1 :: 209 :: dtL0_62
noncomputable def dtL0_60 : List Nat := 87 :: 44 :: 182 :: 0 :: 121 :: 87 :: 167 :: 1 :: 232 :: 43 :: 42 :: 29 :: 4 :: 96 :: 46 :: 182 :: dtL0_61
noncomputable def dtL0_59 : List Nat := 42 :: 29 :: 4 :: 96 :: 46 :: 182 :: 0 :: 117 :: 87 :: 167 :: 1 :: 245 :: 43 :: 182 :: 0 :: 118 :: dtL0_60
noncomputable def dtL0_58 : List Nat := 113 :: 87 :: 167 :: 2 :: 12 :: 43 :: 42 :: 29 :: 4 :: 96 :: 46 :: 182 :: 0 :: 114 :: 87 :: 44 :: dtL0_59
noncomputable def dtL0_57 : List Nat := 29 :: 4 :: 96 :: 46 :: 182 :: 0 :: 110 :: 87 :: 44 :: 42 :: 29 :: 4 :: 96 :: 46 :: 182 :: 0 :: dtL0_58
noncomputable def dtL0_56 : List Nat := 87 :: 44 :: 42 :: 29 :: 4 :: 96 :: 46 :: 182 :: 0 :: 109 :: 87 :: 167 :: 2 :: 35 :: 43 :: 42 :: dtL0_57
noncomputable def dtL0_55 : List Nat := 182 :: 0 :: 105 :: 87 :: 167 :: 2 :: 58 :: 43 :: 42 :: 29 :: 4 :: 96 :: 46 :: 182 :: 0 :: 106 :: dtL0_56
noncomputable def dtL0_54 : List Nat := 44 :: 42 :: 29 :: 4 :: 96 :: 46 :: 42 :: 29 :: 5 :: 96 :: 46 :: 42 :: 29 :: 6 :: 96 :: 46 :: dtL0_55
noncomputable def dtL0_53 : List Nat := 96 :: 46 :: 42 :: 29 :: 5 :: 96 :: 46 :: 42 :: 29 :: 6 :: 96 :: 46 :: 182 :: 0 :: 102 :: 87 :: dtL0_54
noncomputable def dtL0_52 : List Nat := 42 :: 29 :: 4 :: 96 :: 46 :: 182 :: 0 :: 101 :: 87 :: 167 :: 2 :: 101 :: 43 :: 42 :: 29 :: 4 :: dtL0_53
noncomputable def dtL0_51 : List Nat := 97 :: 87 :: 167 :: 2 :: 124 :: 43 :: 42 :: 29 :: 4 :: 96 :: 46 :: 182 :: 0 :: 98 :: 87 :: 44 :: dtL0_52
noncomputable def dtL0_50 : List Nat := 29 :: 4 :: 96 :: 46 :: 42 :: 29 :: 5 :: 96 :: 46 :: 42 :: 29 :: 6 :: 96 :: 46 :: 182 :: 0 :: dtL0_51
noncomputable def dtL0_49 : List Nat := 42 :: 29 :: 5 :: 96 :: 46 :: 42 :: 29 :: 6 :: 96 :: 46 :: 182 :: 0 :: 94 :: 87 :: 44 :: 42 :: dtL0_50
noncomputable def dtL0_48 : List Nat := 4 :: 96 :: 46 :: 182 :: 0 :: 93 :: 87 :: 167 :: 2 :: 167 :: 43 :: 42 :: 29 :: 4 :: 96 :: 46 :: dtL0_49
noncomputable def dtL0_47 : List Nat := 167 :: 2 :: 190 :: 43 :: 42 :: 29 :: 4 :: 96 :: 46 :: 182 :: 0 :: 90 :: 87 :: 44 :: 42 :: 29 :: dtL0_48
noncomputable def dtL0_46 : List Nat := 96 :: 46 :: 182 :: 0 :: 86 :: 87 :: 44 :: 42 :: 29 :: 4 :: 96 :: 46 :: 182 :: 0 :: 89 :: 87 :: dtL0_47
noncomputable def dtL0_45 : List Nat := 42 :: 29 :: 4 :: 96 :: 46 :: 182 :: 0 :: 85 :: 87 :: 167 :: 2 :: 213 :: 43 :: 42 :: 29 :: 4 :: dtL0_46
noncomputable def dtL0_44 : List Nat := 81 :: 87 :: 167 :: 2 :: 236 :: 43 :: 42 :: 29 :: 4 :: 96 :: 46 :: 182 :: 0 :: 82 :: 87 :: 44 :: dtL0_45
noncomputable def dtL0_43 : List Nat := 29 :: 4 :: 96 :: 46 :: 182 :: 0 :: 78 :: 87 :: 44 :: 42 :: 29 :: 4 :: 96 :: 46 :: 182 :: 0 :: dtL0_44
noncomputable def dtL0_42 : List Nat := 0 :: 7 :: 4 :: 167 :: 0 :: 4 :: 3 :: 182 :: 0 :: 77 :: 87 :: 167 :: 3 :: 3 :: 43 :: 42 :: dtL0_43
noncomputable def dtL0_41 : List Nat := 42 :: 29 :: 4 :: 96 :: 46 :: 42 :: 29 :: 5 :: 96 :: 46 :: 42 :: 29 :: 6 :: 96 :: 46 :: 153 :: dtL0_42
noncomputable def dtL0_40 : List Nat := 6 :: 96 :: 46 :: 153 :: 0 :: 7 :: 4 :: 167 :: 0 :: 4 :: 3 :: 182 :: 0 :: 73 :: 87 :: 44 :: dtL0_41
noncomputable def dtL0_39 : List Nat := 167 :: 3 :: 62 :: 43 :: 42 :: 29 :: 4 :: 96 :: 46 :: 42 :: 29 :: 5 :: 96 :: 46 :: 42 :: 29 :: dtL0_40
noncomputable def dtL0_38 : List Nat := 96 :: 46 :: 182 :: 0 :: 69 :: 87 :: 44 :: 42 :: 29 :: 4 :: 96 :: 46 :: 182 :: 0 :: 72 :: 87 :: dtL0_39
noncomputable def dtL0_37 : List Nat := 42 :: 29 :: 4 :: 96 :: 46 :: 182 :: 0 :: 68 :: 87 :: 167 :: 3 :: 85 :: 43 :: 42 :: 29 :: 4 :: dtL0_38
noncomputable def dtL0_36 : List Nat := 64 :: 87 :: 167 :: 3 :: 108 :: 43 :: 42 :: 29 :: 4 :: 96 :: 46 :: 182 :: 0 :: 65 :: 87 :: 44 :: dtL0_37
noncomputable def dtL0_35 : List Nat := 29 :: 4 :: 96 :: 46 :: 182 :: 0 :: 60 :: 87 :: 44 :: 42 :: 29 :: 4 :: 96 :: 46 :: 182 :: 0 :: dtL0_36
noncomputable def dtL0_34 : List Nat := 144 :: 43 :: 182 :: 0 :: 56 :: 87 :: 44 :: 182 :: 0 :: 59 :: 87 :: 167 :: 3 :: 131 :: 43 :: 42 :: dtL0_35
noncomputable def dtL0_33 : List Nat := 42 :: 29 :: 4 :: 96 :: 46 :: 42 :: 29 :: 5 :: 96 :: 46 :: 182 :: 0 :: 55 :: 87 :: 167 :: 3 :: dtL0_34
noncomputable def dtL0_32 : List Nat := 43 :: 42 :: 29 :: 4 :: 96 :: 46 :: 42 :: 29 :: 5 :: 96 :: 46 :: 182 :: 0 :: 52 :: 87 :: 44 :: dtL0_33
noncomputable def dtL0_31 : List Nat := 29 :: 4 :: 96 :: 46 :: 42 :: 29 :: 5 :: 96 :: 46 :: 182 :: 0 :: 51 :: 87 :: 167 :: 3 :: 177 :: dtL0_32
noncomputable def dtL0_30 : List Nat := 42 :: 29 :: 4 :: 96 :: 46 :: 42 :: 29 :: 5 :: 96 :: 46 :: 182 :: 0 :: 48 :: 87 :: 44 :: 42 :: dtL0_31
noncomputable def dtL0_29 : List Nat := 4 :: 96 :: 46 :: 42 :: 29 :: 5 :: 96 :: 46 :: 182 :: 0 :: 47 :: 87 :: 167 :: 3 :: 210 :: 43 :: dtL0_30
noncomputable def dtL0_28 : List Nat := 29 :: 4 :: 96 :: 46 :: 42 :: 29 :: 5 :: 96 :: 46 :: 182 :: 0 :: 44 :: 87 :: 44 :: 42 :: 29 :: dtL0_29
noncomputable def dtL0_27 : List Nat := 96 :: 46 :: 42 :: 29 :: 5 :: 96 :: 46 :: 182 :: 0 :: 43 :: 87 :: 167 :: 3 :: 243 :: 43 :: 42 :: dtL0_28
noncomputable def dtL0_26 : List Nat := 4 :: 96 :: 46 :: 42 :: 29 :: 5 :: 96 :: 46 :: 182 :: 0 :: 40 :: 87 :: 44 :: 42 :: 29 :: 4 :: dtL0_27
noncomputable def dtL0_25 : List Nat := 46 :: 42 :: 29 :: 6 :: 96 :: 46 :: 182 :: 0 :: 39 :: 87 :: 167 :: 4 :: 20 :: 43 :: 42 :: 29 :: dtL0_26
noncomputable def dtL0_24 : List Nat := 96 :: 46 :: 182 :: 0 :: 35 :: 87 :: 44 :: 42 :: 29 :: 4 :: 96 :: 46 :: 42 :: 29 :: 5 :: 96 :: dtL0_25
noncomputable def dtL0_23 : List Nat := 4 :: 63 :: 43 :: 42 :: 29 :: 4 :: 96 :: 46 :: 42 :: 29 :: 5 :: 96 :: 46 :: 42 :: 29 :: 6 :: dtL0_24
noncomputable def dtL0_22 : List Nat := 44 :: 42 :: 29 :: 4 :: 96 :: 46 :: 42 :: 29 :: 5 :: 96 :: 46 :: 182 :: 0 :: 34 :: 87 :: 167 :: dtL0_23
noncomputable def dtL0_21 : List Nat := 96 :: 43 :: 42 :: 29 :: 4 :: 96 :: 46 :: 42 :: 29 :: 5 :: 96 :: 46 :: 182 :: 0 :: 30 :: 87 :: dtL0_22
noncomputable def dtL0_20 : List Nat := 42 :: 29 :: 6 :: 96 :: 46 :: 42 :: 29 :: 7 :: 96 :: 46 :: 182 :: 0 :: 29 :: 87 :: 167 :: 4 :: dtL0_21
noncomputable def dtL0_19 : List Nat := 46 :: 182 :: 0 :: 25 :: 87 :: 44 :: 42 :: 29 :: 4 :: 96 :: 46 :: 42 :: 29 :: 5 :: 96 :: 46 :: dtL0_20
noncomputable def dtL0_18 : List Nat := 96 :: 46 :: 42 :: 29 :: 5 :: 96 :: 46 :: 42 :: 29 :: 6 :: 96 :: 46 :: 42 :: 29 :: 7 :: 96 :: dtL0_19
noncomputable def dtL0_17 : List Nat := 182 :: 0 :: 20 :: 87 :: 44 :: 182 :: 0 :: 24 :: 87 :: 167 :: 4 :: 149 :: 43 :: 42 :: 29 :: 4 :: dtL0_18
noncomputable def dtL0_16 : List Nat := 13 :: 127 :: 129 :: 42 :: 29 :: 6 :: 96 :: 46 :: 182 :: 0 :: 19 :: 87 :: 167 :: 4 :: 162 :: 43 :: dtL0_17
noncomputable def dtL0_15 : List Nat := 29 :: 4 :: 96 :: 46 :: 133 :: 16 :: 32 :: 121 :: 42 :: 29 :: 5 :: 96 :: 46 :: 133 :: 20 :: 0 :: dtL0_16
noncomputable def dtL0_14 : List Nat := 20 :: 0 :: 13 :: 127 :: 129 :: 42 :: 29 :: 6 :: 96 :: 46 :: 182 :: 0 :: 15 :: 87 :: 44 :: 42 :: dtL0_15
noncomputable def dtL0_13 : List Nat := 43 :: 42 :: 29 :: 4 :: 96 :: 46 :: 133 :: 16 :: 32 :: 121 :: 42 :: 29 :: 5 :: 96 :: 46 :: 133 :: dtL0_14
noncomputable def dtL0_12 : List Nat := 0 :: 0 :: 5 :: 70 :: 0 :: 0 :: 5 :: 93 :: 0 :: 0 :: 5 :: 116 :: 0 :: 0 :: 5 :: 129 :: dtL0_13
noncomputable def dtL0_11 : List Nat := 0 :: 0 :: 4 :: 164 :: 0 :: 0 :: 4 :: 207 :: 0 :: 0 :: 4 :: 250 :: 0 :: 0 :: 5 :: 27 :: dtL0_12
noncomputable def dtL0_10 : List Nat := 0 :: 0 :: 4 :: 12 :: 0 :: 0 :: 4 :: 25 :: 0 :: 0 :: 4 :: 78 :: 0 :: 0 :: 4 :: 121 :: dtL0_11
noncomputable def dtL0_9 : List Nat := 0 :: 0 :: 3 :: 156 :: 0 :: 0 :: 3 :: 169 :: 0 :: 0 :: 3 :: 192 :: 0 :: 0 :: 3 :: 225 :: dtL0_10
noncomputable def dtL0_8 : List Nat := 0 :: 0 :: 3 :: 44 :: 0 :: 0 :: 3 :: 87 :: 0 :: 0 :: 3 :: 110 :: 0 :: 0 :: 3 :: 133 :: dtL0_9
noncomputable def dtL0_7 : List Nat := 0 :: 0 :: 2 :: 188 :: 0 :: 0 :: 2 :: 211 :: 0 :: 0 :: 2 :: 234 :: 0 :: 0 :: 3 :: 21 :: dtL0_8
noncomputable def dtL0_6 : List Nat := 0 :: 0 :: 2 :: 60 :: 0 :: 0 :: 2 :: 83 :: 0 :: 0 :: 2 :: 142 :: 0 :: 0 :: 2 :: 165 :: dtL0_7
noncomputable def dtL0_5 : List Nat := 0 :: 0 :: 1 :: 224 :: 0 :: 0 :: 2 :: 1 :: 0 :: 0 :: 2 :: 14 :: 0 :: 0 :: 2 :: 37 :: dtL0_6
noncomputable def dtL0_4 : List Nat := 0 :: 0 :: 1 :: 82 :: 0 :: 0 :: 1 :: 125 :: 0 :: 0 :: 1 :: 158 :: 0 :: 0 :: 1 :: 191 :: dtL0_5
noncomputable def dtL0_3 : List Nat := 0 :: 0 :: 0 :: 176 :: 0 :: 0 :: 0 :: 239 :: 0 :: 0 :: 0 :: 252 :: 0 :: 0 :: 1 :: 49 :: dtL0_4
noncomputable def dtL0_2 : List Nat := 170 :: 0 :: 0 :: 0 :: 0 :: 0 :: 5 :: 142 :: 0 :: 0 :: 0 :: 0 :: 0 :: 0 :: 0 :: 39 :: dtL0_3
noncomputable def dtL0_1 : List Nat := 3 :: 62 :: 29 :: 42 :: 190 :: 8 :: 100 :: 163 :: 5 :: 157 :: 42 :: 29 :: 46 :: 16 :: 63 :: 126 :: dtL0_2
noncomputable def dtL0_0 : List Nat := 187 :: 0 :: 7 :: 89 :: 183 :: 0 :: 9 :: 76 :: 187 :: 0 :: 10 :: 89 :: 183 :: 0 :: 12 :: 77 :: dtL0_1
theorem dwL0_0 : dn cL_law 0 = dtL0_0 := by decide +kernel
theorem dwL0_1 : dn cL_law 16 = dtL0_1 := dn_w dwL0_0 16 rfl
theorem dwL0_2 : dn cL_law 32 = dtL0_2 := dn_w dwL0_1 16 rfl
theorem dwL0_3 : dn cL_law 48 = dtL0_3 := dn_w dwL0_2 16 rfl
theorem dwL0_4 : dn cL_law 64 = dtL0_4 := dn_w dwL0_3 16 rfl
theorem dwL0_5 : dn cL_law 80 = dtL0_5 := dn_w dwL0_4 16 rfl
theorem dwL0_6 : dn cL_law 96 = dtL0_6 := dn_w dwL0_5 16 rfl
theorem dwL0_7 : dn cL_law 112 = dtL0_7 := dn_w dwL0_6 16 rfl
theorem dwL0_8 : dn cL_law 128 = dtL0_8 := dn_w dwL0_7 16 rfl
theorem dwL0_9 : dn cL_law 144 = dtL0_9 := dn_w dwL0_8 16 rfl
theorem dwL0_10 : dn cL_law 160 = dtL0_10 := dn_w dwL0_9 16 rfl
theorem dwL0_11 : dn cL_law 176 = dtL0_11 := dn_w dwL0_10 16 rfl
theorem dwL0_12 : dn cL_law 192 = dtL0_12 := dn_w dwL0_11 16 rfl
theorem dwL0_13 : dn cL_law 208 = dtL0_13 := dn_w dwL0_12 16 rfl
theorem dwL0_14 : dn cL_law 224 = dtL0_14 := dn_w dwL0_13 16 rfl
theorem dwL0_15 : dn cL_law 240 = dtL0_15 := dn_w dwL0_14 16 rfl
theorem dwL0_16 : dn cL_law 256 = dtL0_16 := dn_w dwL0_15 16 rfl
theorem dwL0_17 : dn cL_law 272 = dtL0_17 := dn_w dwL0_16 16 rfl
theorem dwL0_18 : dn cL_law 288 = dtL0_18 := dn_w dwL0_17 16 rfl
theorem dwL0_19 : dn cL_law 304 = dtL0_19 := dn_w dwL0_18 16 rfl
theorem dwL0_20 : dn cL_law 320 = dtL0_20 := dn_w dwL0_19 16 rfl
theorem dwL0_21 : dn cL_law 336 = dtL0_21 := dn_w dwL0_20 16 rfl
theorem dwL0_22 : dn cL_law 352 = dtL0_22 := dn_w dwL0_21 16 rfl
theorem dwL0_23 : dn cL_law 368 = dtL0_23 := dn_w dwL0_22 16 rfl
theorem dwL0_24 : dn cL_law 384 = dtL0_24 := dn_w dwL0_23 16 rfl
theorem dwL0_25 : dn cL_law 400 = dtL0_25 := dn_w dwL0_24 16 rfl
theorem dwL0_26 : dn cL_law 416 = dtL0_26 := dn_w dwL0_25 16 rfl
theorem dwL0_27 : dn cL_law 432 = dtL0_27 := dn_w dwL0_26 16 rfl
theorem dwL0_28 : dn cL_law 448 = dtL0_28 := dn_w dwL0_27 16 rfl
theorem dwL0_29 : dn cL_law 464 = dtL0_29 := dn_w dwL0_28 16 rfl
theorem dwL0_30 : dn cL_law 480 = dtL0_30 := dn_w dwL0_29 16 rfl
theorem dwL0_31 : dn cL_law 496 = dtL0_31 := dn_w dwL0_30 16 rfl
theorem dwL0_32 : dn cL_law 512 = dtL0_32 := dn_w dwL0_31 16 rfl
theorem dwL0_33 : dn cL_law 528 = dtL0_33 := dn_w dwL0_32 16 rfl
theorem dwL0_34 : dn cL_law 544 = dtL0_34 := dn_w dwL0_33 16 rfl
theorem dwL0_35 : dn cL_law 560 = dtL0_35 := dn_w dwL0_34 16 rfl
theorem dwL0_36 : dn cL_law 576 = dtL0_36 := dn_w dwL0_35 16 rfl
theorem dwL0_37 : dn cL_law 592 = dtL0_37 := dn_w dwL0_36 16 rfl
theorem dwL0_38 : dn cL_law 608 = dtL0_38 := dn_w dwL0_37 16 rfl
theorem dwL0_39 : dn cL_law 624 = dtL0_39 := dn_w dwL0_38 16 rfl
theorem dwL0_40 : dn cL_law 640 = dtL0_40 := dn_w dwL0_39 16 rfl
theorem dwL0_41 : dn cL_law 656 = dtL0_41 := dn_w dwL0_40 16 rfl
theorem dwL0_42 : dn cL_law 672 = dtL0_42 := dn_w dwL0_41 16 rfl
theorem dwL0_43 : dn cL_law 688 = dtL0_43 := dn_w dwL0_42 16 rfl
theorem dwL0_44 : dn cL_law 704 = dtL0_44 := dn_w dwL0_43 16 rfl
theorem dwL0_45 : dn cL_law 720 = dtL0_45 := dn_w dwL0_44 16 rfl
theorem dwL0_46 : dn cL_law 736 = dtL0_46 := dn_w dwL0_45 16 rfl
theorem dwL0_47 : dn cL_law 752 = dtL0_47 := dn_w dwL0_46 16 rfl
theorem dwL0_48 : dn cL_law 768 = dtL0_48 := dn_w dwL0_47 16 rfl
theorem dwL0_49 : dn cL_law 784 = dtL0_49 := dn_w dwL0_48 16 rfl
theorem dwL0_50 : dn cL_law 800 = dtL0_50 := dn_w dwL0_49 16 rfl
theorem dwL0_51 : dn cL_law 816 = dtL0_51 := dn_w dwL0_50 16 rfl
theorem dwL0_52 : dn cL_law 832 = dtL0_52 := dn_w dwL0_51 16 rfl
theorem dwL0_53 : dn cL_law 848 = dtL0_53 := dn_w dwL0_52 16 rfl
theorem dwL0_54 : dn cL_law 864 = dtL0_54 := dn_w dwL0_53 16 rfl
theorem dwL0_55 : dn cL_law 880 = dtL0_55 := dn_w dwL0_54 16 rfl
theorem dwL0_56 : dn cL_law 896 = dtL0_56 := dn_w dwL0_55 16 rfl
theorem dwL0_57 : dn cL_law 912 = dtL0_57 := dn_w dwL0_56 16 rfl
theorem dwL0_58 : dn cL_law 928 = dtL0_58 := dn_w dwL0_57 16 rfl
theorem dwL0_59 : dn cL_law 944 = dtL0_59 := dn_w dwL0_58 16 rfl
theorem dwL0_60 : dn cL_law 960 = dtL0_60 := dn_w dwL0_59 16 rfl
theorem dwL0_61 : dn cL_law 976 = dtL0_61 := dn_w dwL0_60 16 rfl
theorem dwL0_62 : dn cL_law 992 = dtL0_62 := dn_w dwL0_61 16 rfl
theorem dwL0_63 : dn cL_law 1008 = dtL0_63 := dn_w dwL0_62 16 rfl
theorem dwL0_64 : dn cL_law 1024 = dtL0_64 := dn_w dwL0_63 16 rfl
theorem dwL0_65 : dn cL_law 1040 = dtL0_65 := dn_w dwL0_64 16 rfl
theorem dwL0_66 : dn cL_law 1056 = dtL0_66 := dn_w dwL0_65 16 rfl
theorem dwL0_67 : dn cL_law 1072 = dtL0_67 := dn_w dwL0_66 16 rfl
theorem dwL0_68 : dn cL_law 1088 = dtL0_68 := dn_w dwL0_67 16 rfl
theorem dwL0_69 : dn cL_law 1104 = dtL0_69 := dn_w dwL0_68 16 rfl
theorem dwL0_70 : dn cL_law 1120 = dtL0_70 := dn_w dwL0_69 16 rfl
theorem dwL0_71 : dn cL_law 1136 = dtL0_71 := dn_w dwL0_70 16 rfl
theorem dwL0_72 : dn cL_law 1152 = dtL0_72 := dn_w dwL0_71 16 rfl
theorem dwL0_73 : dn cL_law 1168 = dtL0_73 := dn_w dwL0_72 16 rfl
theorem dwL0_74 : dn cL_law 1184 = dtL0_74 := dn_w dwL0_73 16 rfl
theorem dwL0_75 : dn cL_law 1200 = dtL0_75 := dn_w dwL0_74 16 rfl
theorem dwL0_76 : dn cL_law 1216 = dtL0_76 := dn_w dwL0_75 16 rfl
theorem dwL0_77 : dn cL_law 1232 = dtL0_77 := dn_w dwL0_76 16 rfl
theorem dwL0_78 : dn cL_law 1248 = dtL0_78 := dn_w dwL0_77 16 rfl
theorem dwL0_79 : dn cL_law 1264 = dtL0_79 := dn_w dwL0_78 16 rfl
theorem dwL0_80 : dn cL_law 1280 = dtL0_80 := dn_w dwL0_79 16 rfl
theorem dwL0_81 : dn cL_law 1296 = dtL0_81 := dn_w dwL0_80 16 rfl
theorem dwL0_82 : dn cL_law 1312 = dtL0_82 := dn_w dwL0_81 16 rfl
theorem dwL0_83 : dn cL_law 1328 = dtL0_83 := dn_w dwL0_82 16 rfl
theorem dwL0_84 : dn cL_law 1344 = dtL0_84 := dn_w dwL0_83 16 rfl
theorem dwL0_85 : dn cL_law 1360 = dtL0_85 := dn_w dwL0_84 16 rfl
theorem dwL0_86 : dn cL_law 1376 = dtL0_86 := dn_w dwL0_85 16 rfl
theorem dwL0_87 : dn cL_law 1392 = dtL0_87 := dn_w dwL0_86 16 rfl
theorem dwL0_88 : dn cL_law 1408 = dtL0_88 := dn_w dwL0_87 16 rfl
theorem dwL0_89 : dn cL_law 1424 = dtL0_89 := dn_w dwL0_88 16 rfl
theorem dwL0_90 : dn cL_law 1440 = dtL0_90 := dn_w dwL0_89 16 rfl
theorem dwL0_91 : dn cL_law 1456 = dtL0_91 := dn_w dwL0_90 16 rfl
theorem dL_law_0 : decode cL_law 0 = .ok (.new 7, 3) := dop_187 (dn_w dwL0_0 0 rfl) rfl
theorem dL_law_3 : decode cL_law 3 = .ok (.dup, 1) := dop_89 (dn_w dwL0_0 3 rfl)
theorem dL_law_4 : decode cL_law 4 = .ok (.invokespecial 9, 3) := dop_183 (dn_w dwL0_0 4 rfl) rfl
theorem dL_law_7 : decode cL_law 7 = .ok (.astore_n 1, 1) := dop_76 (dn_w dwL0_0 7 rfl)
theorem dL_law_8 : decode cL_law 8 = .ok (.new 10, 3) := dop_187 (dn_w dwL0_0 8 rfl) rfl
theorem dL_law_11 : decode cL_law 11 = .ok (.dup, 1) := dop_89 (dn_w dwL0_0 11 rfl)
theorem dL_law_12 : decode cL_law 12 = .ok (.invokespecial 12, 3) := dop_183 (dn_w dwL0_0 12 rfl) rfl
theorem dL_law_15 : decode cL_law 15 = .ok (.astore_n 2, 1) := dop_77 (dn_w dwL0_0 15 rfl)
theorem dL_law_16 : decode cL_law 16 = .ok (.iconst 0, 1) := dop_3 (dn_w dwL0_1 0 rfl)
theorem dL_law_17 : decode cL_law 17 = .ok (.istore_n 3, 1) := dop_62 (dn_w dwL0_1 1 rfl)
theorem dL_law_18 : decode cL_law 18 = .ok (.iload_n 3, 1) := dop_29 (dn_w dwL0_1 2 rfl)
theorem dL_law_19 : decode cL_law 19 = .ok (.aload_n 0, 1) := dop_42 (dn_w dwL0_1 3 rfl)
theorem dL_law_20 : decode cL_law 20 = .ok (.arraylength, 1) := dop_190 (dn_w dwL0_1 4 rfl)
theorem dL_law_21 : decode cL_law 21 = .ok (.iconst 5, 1) := dop_8 (dn_w dwL0_1 5 rfl)
theorem dL_law_22 : decode cL_law 22 = .ok (.isub, 1) := dop_100 (dn_w dwL0_1 6 rfl)
theorem dL_law_23 : decode cL_law 23 = .ok (.if_icmp .gt 1437, 3) := dop_163 (dn_w dwL0_1 7 rfl) rfl
theorem dL_law_26 : decode cL_law 26 = .ok (.aload_n 0, 1) := dop_42 (dn_w dwL0_1 10 rfl)
theorem dL_law_27 : decode cL_law 27 = .ok (.iload_n 3, 1) := dop_29 (dn_w dwL0_1 11 rfl)
theorem dL_law_28 : decode cL_law 28 = .ok (.iaload, 1) := dop_46 (dn_w dwL0_1 12 rfl)
theorem dL_law_29 : decode cL_law 29 = .ok (.bipush 63, 2) := dop_16 (dn_w dwL0_1 13 rfl) rfl
theorem dL_law_31 : decode cL_law 31 = .ok (.iand, 1) := dop_126 (dn_w dwL0_1 15 rfl)
theorem dL_law_32 : decode cL_law 32 = .ok (.tableswitch 1422 0 39 #[176, 239, 252, 305, 338, 381, 414, 447, 480, 513, 526, 549, 572, 595, 654, 677, 700, 723, 746, 789, 812, 855, 878, 901, 924, 937, 960, 993, 1036, 1049, 1102, 1145, 1188, 1231, 1274, 1307, 1350, 1373, 1396, 1409], 176) := by decide +kernel
theorem dL_law_208 : decode cL_law 208 = .ok (.aload_n 1, 1) := dop_43 (dn_w dwL0_13 0 rfl)
theorem dL_law_209 : decode cL_law 209 = .ok (.aload_n 0, 1) := dop_42 (dn_w dwL0_13 1 rfl)
theorem dL_law_210 : decode cL_law 210 = .ok (.iload_n 3, 1) := dop_29 (dn_w dwL0_13 2 rfl)
theorem dL_law_211 : decode cL_law 211 = .ok (.iconst 1, 1) := dop_4 (dn_w dwL0_13 3 rfl)
theorem dL_law_212 : decode cL_law 212 = .ok (.iadd, 1) := dop_96 (dn_w dwL0_13 4 rfl)
theorem dL_law_213 : decode cL_law 213 = .ok (.iaload, 1) := dop_46 (dn_w dwL0_13 5 rfl)
theorem dL_law_214 : decode cL_law 214 = .ok (.i2l, 1) := dop_133 (dn_w dwL0_13 6 rfl)
theorem dL_law_215 : decode cL_law 215 = .ok (.bipush 32, 2) := dop_16 (dn_w dwL0_13 7 rfl) rfl
theorem dL_law_217 : decode cL_law 217 = .ok (.lshl, 1) := dop_121 (dn_w dwL0_13 9 rfl)
theorem dL_law_218 : decode cL_law 218 = .ok (.aload_n 0, 1) := dop_42 (dn_w dwL0_13 10 rfl)
theorem dL_law_219 : decode cL_law 219 = .ok (.iload_n 3, 1) := dop_29 (dn_w dwL0_13 11 rfl)
theorem dL_law_220 : decode cL_law 220 = .ok (.iconst 2, 1) := dop_5 (dn_w dwL0_13 12 rfl)
theorem dL_law_221 : decode cL_law 221 = .ok (.iadd, 1) := dop_96 (dn_w dwL0_13 13 rfl)
theorem dL_law_222 : decode cL_law 222 = .ok (.iaload, 1) := dop_46 (dn_w dwL0_13 14 rfl)
theorem dL_law_223 : decode cL_law 223 = .ok (.i2l, 1) := dop_133 (dn_w dwL0_13 15 rfl)
theorem dL_law_224 : decode cL_law 224 = .ok (.ldc2_w 13, 3) := dop_20 (dn_w dwL0_14 0 rfl) rfl
theorem dL_law_227 : decode cL_law 227 = .ok (.land, 1) := dop_127 (dn_w dwL0_14 3 rfl)
theorem dL_law_228 : decode cL_law 228 = .ok (.lor, 1) := dop_129 (dn_w dwL0_14 4 rfl)
theorem dL_law_229 : decode cL_law 229 = .ok (.aload_n 0, 1) := dop_42 (dn_w dwL0_14 5 rfl)
theorem dL_law_230 : decode cL_law 230 = .ok (.iload_n 3, 1) := dop_29 (dn_w dwL0_14 6 rfl)
theorem dL_law_231 : decode cL_law 231 = .ok (.iconst 3, 1) := dop_6 (dn_w dwL0_14 7 rfl)
theorem dL_law_232 : decode cL_law 232 = .ok (.iadd, 1) := dop_96 (dn_w dwL0_14 8 rfl)
theorem dL_law_233 : decode cL_law 233 = .ok (.iaload, 1) := dop_46 (dn_w dwL0_14 9 rfl)
theorem dL_law_234 : decode cL_law 234 = .ok (.invokevirtual 15, 3) := dop_182 (dn_w dwL0_14 10 rfl) rfl
theorem dL_law_237 : decode cL_law 237 = .ok (.pop, 1) := dop_87 (dn_w dwL0_14 13 rfl)
theorem dL_law_238 : decode cL_law 238 = .ok (.aload_n 2, 1) := dop_44 (dn_w dwL0_14 14 rfl)
theorem dL_law_239 : decode cL_law 239 = .ok (.aload_n 0, 1) := dop_42 (dn_w dwL0_14 15 rfl)
theorem dL_law_240 : decode cL_law 240 = .ok (.iload_n 3, 1) := dop_29 (dn_w dwL0_15 0 rfl)
theorem dL_law_241 : decode cL_law 241 = .ok (.iconst 1, 1) := dop_4 (dn_w dwL0_15 1 rfl)
theorem dL_law_242 : decode cL_law 242 = .ok (.iadd, 1) := dop_96 (dn_w dwL0_15 2 rfl)
theorem dL_law_243 : decode cL_law 243 = .ok (.iaload, 1) := dop_46 (dn_w dwL0_15 3 rfl)
theorem dL_law_244 : decode cL_law 244 = .ok (.i2l, 1) := dop_133 (dn_w dwL0_15 4 rfl)
theorem dL_law_245 : decode cL_law 245 = .ok (.bipush 32, 2) := dop_16 (dn_w dwL0_15 5 rfl) rfl
theorem dL_law_247 : decode cL_law 247 = .ok (.lshl, 1) := dop_121 (dn_w dwL0_15 7 rfl)
theorem dL_law_248 : decode cL_law 248 = .ok (.aload_n 0, 1) := dop_42 (dn_w dwL0_15 8 rfl)
theorem dL_law_249 : decode cL_law 249 = .ok (.iload_n 3, 1) := dop_29 (dn_w dwL0_15 9 rfl)
theorem dL_law_250 : decode cL_law 250 = .ok (.iconst 2, 1) := dop_5 (dn_w dwL0_15 10 rfl)
theorem dL_law_251 : decode cL_law 251 = .ok (.iadd, 1) := dop_96 (dn_w dwL0_15 11 rfl)
theorem dL_law_252 : decode cL_law 252 = .ok (.iaload, 1) := dop_46 (dn_w dwL0_15 12 rfl)
theorem dL_law_253 : decode cL_law 253 = .ok (.i2l, 1) := dop_133 (dn_w dwL0_15 13 rfl)
theorem dL_law_254 : decode cL_law 254 = .ok (.ldc2_w 13, 3) := dop_20 (dn_w dwL0_15 14 rfl) rfl
theorem dL_law_257 : decode cL_law 257 = .ok (.land, 1) := dop_127 (dn_w dwL0_16 1 rfl)
theorem dL_law_258 : decode cL_law 258 = .ok (.lor, 1) := dop_129 (dn_w dwL0_16 2 rfl)
theorem dL_law_259 : decode cL_law 259 = .ok (.aload_n 0, 1) := dop_42 (dn_w dwL0_16 3 rfl)
theorem dL_law_260 : decode cL_law 260 = .ok (.iload_n 3, 1) := dop_29 (dn_w dwL0_16 4 rfl)
theorem dL_law_261 : decode cL_law 261 = .ok (.iconst 3, 1) := dop_6 (dn_w dwL0_16 5 rfl)
theorem dL_law_262 : decode cL_law 262 = .ok (.iadd, 1) := dop_96 (dn_w dwL0_16 6 rfl)
theorem dL_law_263 : decode cL_law 263 = .ok (.iaload, 1) := dop_46 (dn_w dwL0_16 7 rfl)
theorem dL_law_264 : decode cL_law 264 = .ok (.invokevirtual 19, 3) := dop_182 (dn_w dwL0_16 8 rfl) rfl
theorem dL_law_267 : decode cL_law 267 = .ok (.pop, 1) := dop_87 (dn_w dwL0_16 11 rfl)
theorem dL_law_268 : decode cL_law 268 = .ok (.goto 1186, 3) := dop_167 (dn_w dwL0_16 12 rfl) rfl
theorem dL_law_271 : decode cL_law 271 = .ok (.aload_n 1, 1) := dop_43 (dn_w dwL0_16 15 rfl)
theorem dL_law_272 : decode cL_law 272 = .ok (.invokevirtual 20, 3) := dop_182 (dn_w dwL0_17 0 rfl) rfl
theorem dL_law_275 : decode cL_law 275 = .ok (.pop, 1) := dop_87 (dn_w dwL0_17 3 rfl)
theorem dL_law_276 : decode cL_law 276 = .ok (.aload_n 2, 1) := dop_44 (dn_w dwL0_17 4 rfl)
theorem dL_law_277 : decode cL_law 277 = .ok (.invokevirtual 24, 3) := dop_182 (dn_w dwL0_17 5 rfl) rfl
theorem dL_law_280 : decode cL_law 280 = .ok (.pop, 1) := dop_87 (dn_w dwL0_17 8 rfl)
theorem dL_law_281 : decode cL_law 281 = .ok (.goto 1173, 3) := dop_167 (dn_w dwL0_17 9 rfl) rfl
theorem dL_law_284 : decode cL_law 284 = .ok (.aload_n 1, 1) := dop_43 (dn_w dwL0_17 12 rfl)
theorem dL_law_285 : decode cL_law 285 = .ok (.aload_n 0, 1) := dop_42 (dn_w dwL0_17 13 rfl)
theorem dL_law_286 : decode cL_law 286 = .ok (.iload_n 3, 1) := dop_29 (dn_w dwL0_17 14 rfl)
theorem dL_law_287 : decode cL_law 287 = .ok (.iconst 1, 1) := dop_4 (dn_w dwL0_17 15 rfl)
theorem dL_law_288 : decode cL_law 288 = .ok (.iadd, 1) := dop_96 (dn_w dwL0_18 0 rfl)
theorem dL_law_289 : decode cL_law 289 = .ok (.iaload, 1) := dop_46 (dn_w dwL0_18 1 rfl)
theorem dL_law_290 : decode cL_law 290 = .ok (.aload_n 0, 1) := dop_42 (dn_w dwL0_18 2 rfl)
theorem dL_law_291 : decode cL_law 291 = .ok (.iload_n 3, 1) := dop_29 (dn_w dwL0_18 3 rfl)
theorem dL_law_292 : decode cL_law 292 = .ok (.iconst 2, 1) := dop_5 (dn_w dwL0_18 4 rfl)
theorem dL_law_293 : decode cL_law 293 = .ok (.iadd, 1) := dop_96 (dn_w dwL0_18 5 rfl)
theorem dL_law_294 : decode cL_law 294 = .ok (.iaload, 1) := dop_46 (dn_w dwL0_18 6 rfl)
theorem dL_law_295 : decode cL_law 295 = .ok (.aload_n 0, 1) := dop_42 (dn_w dwL0_18 7 rfl)
theorem dL_law_296 : decode cL_law 296 = .ok (.iload_n 3, 1) := dop_29 (dn_w dwL0_18 8 rfl)
theorem dL_law_297 : decode cL_law 297 = .ok (.iconst 3, 1) := dop_6 (dn_w dwL0_18 9 rfl)
theorem dL_law_298 : decode cL_law 298 = .ok (.iadd, 1) := dop_96 (dn_w dwL0_18 10 rfl)
theorem dL_law_299 : decode cL_law 299 = .ok (.iaload, 1) := dop_46 (dn_w dwL0_18 11 rfl)
theorem dL_law_300 : decode cL_law 300 = .ok (.aload_n 0, 1) := dop_42 (dn_w dwL0_18 12 rfl)
theorem dL_law_301 : decode cL_law 301 = .ok (.iload_n 3, 1) := dop_29 (dn_w dwL0_18 13 rfl)
theorem dL_law_302 : decode cL_law 302 = .ok (.iconst 4, 1) := dop_7 (dn_w dwL0_18 14 rfl)
theorem dL_law_303 : decode cL_law 303 = .ok (.iadd, 1) := dop_96 (dn_w dwL0_18 15 rfl)
theorem dL_law_304 : decode cL_law 304 = .ok (.iaload, 1) := dop_46 (dn_w dwL0_19 0 rfl)
theorem dL_law_305 : decode cL_law 305 = .ok (.invokevirtual 25, 3) := dop_182 (dn_w dwL0_19 1 rfl) rfl
theorem dL_law_308 : decode cL_law 308 = .ok (.pop, 1) := dop_87 (dn_w dwL0_19 4 rfl)
theorem dL_law_309 : decode cL_law 309 = .ok (.aload_n 2, 1) := dop_44 (dn_w dwL0_19 5 rfl)
theorem dL_law_310 : decode cL_law 310 = .ok (.aload_n 0, 1) := dop_42 (dn_w dwL0_19 6 rfl)
theorem dL_law_311 : decode cL_law 311 = .ok (.iload_n 3, 1) := dop_29 (dn_w dwL0_19 7 rfl)
theorem dL_law_312 : decode cL_law 312 = .ok (.iconst 1, 1) := dop_4 (dn_w dwL0_19 8 rfl)
theorem dL_law_313 : decode cL_law 313 = .ok (.iadd, 1) := dop_96 (dn_w dwL0_19 9 rfl)
theorem dL_law_314 : decode cL_law 314 = .ok (.iaload, 1) := dop_46 (dn_w dwL0_19 10 rfl)
theorem dL_law_315 : decode cL_law 315 = .ok (.aload_n 0, 1) := dop_42 (dn_w dwL0_19 11 rfl)
theorem dL_law_316 : decode cL_law 316 = .ok (.iload_n 3, 1) := dop_29 (dn_w dwL0_19 12 rfl)
theorem dL_law_317 : decode cL_law 317 = .ok (.iconst 2, 1) := dop_5 (dn_w dwL0_19 13 rfl)
theorem dL_law_318 : decode cL_law 318 = .ok (.iadd, 1) := dop_96 (dn_w dwL0_19 14 rfl)
theorem dL_law_319 : decode cL_law 319 = .ok (.iaload, 1) := dop_46 (dn_w dwL0_19 15 rfl)
theorem dL_law_320 : decode cL_law 320 = .ok (.aload_n 0, 1) := dop_42 (dn_w dwL0_20 0 rfl)
theorem dL_law_321 : decode cL_law 321 = .ok (.iload_n 3, 1) := dop_29 (dn_w dwL0_20 1 rfl)
theorem dL_law_322 : decode cL_law 322 = .ok (.iconst 3, 1) := dop_6 (dn_w dwL0_20 2 rfl)
theorem dL_law_323 : decode cL_law 323 = .ok (.iadd, 1) := dop_96 (dn_w dwL0_20 3 rfl)
theorem dL_law_324 : decode cL_law 324 = .ok (.iaload, 1) := dop_46 (dn_w dwL0_20 4 rfl)
theorem dL_law_325 : decode cL_law 325 = .ok (.aload_n 0, 1) := dop_42 (dn_w dwL0_20 5 rfl)
theorem dL_law_326 : decode cL_law 326 = .ok (.iload_n 3, 1) := dop_29 (dn_w dwL0_20 6 rfl)
theorem dL_law_327 : decode cL_law 327 = .ok (.iconst 4, 1) := dop_7 (dn_w dwL0_20 7 rfl)
theorem dL_law_328 : decode cL_law 328 = .ok (.iadd, 1) := dop_96 (dn_w dwL0_20 8 rfl)
theorem dL_law_329 : decode cL_law 329 = .ok (.iaload, 1) := dop_46 (dn_w dwL0_20 9 rfl)
theorem dL_law_330 : decode cL_law 330 = .ok (.invokevirtual 29, 3) := dop_182 (dn_w dwL0_20 10 rfl) rfl
theorem dL_law_333 : decode cL_law 333 = .ok (.pop, 1) := dop_87 (dn_w dwL0_20 13 rfl)
theorem dL_law_334 : decode cL_law 334 = .ok (.goto 1120, 3) := dop_167 (dn_w dwL0_20 14 rfl) rfl
theorem dL_law_337 : decode cL_law 337 = .ok (.aload_n 1, 1) := dop_43 (dn_w dwL0_21 1 rfl)
theorem dL_law_338 : decode cL_law 338 = .ok (.aload_n 0, 1) := dop_42 (dn_w dwL0_21 2 rfl)
theorem dL_law_339 : decode cL_law 339 = .ok (.iload_n 3, 1) := dop_29 (dn_w dwL0_21 3 rfl)
theorem dL_law_340 : decode cL_law 340 = .ok (.iconst 1, 1) := dop_4 (dn_w dwL0_21 4 rfl)
theorem dL_law_341 : decode cL_law 341 = .ok (.iadd, 1) := dop_96 (dn_w dwL0_21 5 rfl)
theorem dL_law_342 : decode cL_law 342 = .ok (.iaload, 1) := dop_46 (dn_w dwL0_21 6 rfl)
theorem dL_law_343 : decode cL_law 343 = .ok (.aload_n 0, 1) := dop_42 (dn_w dwL0_21 7 rfl)
theorem dL_law_344 : decode cL_law 344 = .ok (.iload_n 3, 1) := dop_29 (dn_w dwL0_21 8 rfl)
theorem dL_law_345 : decode cL_law 345 = .ok (.iconst 2, 1) := dop_5 (dn_w dwL0_21 9 rfl)
theorem dL_law_346 : decode cL_law 346 = .ok (.iadd, 1) := dop_96 (dn_w dwL0_21 10 rfl)
theorem dL_law_347 : decode cL_law 347 = .ok (.iaload, 1) := dop_46 (dn_w dwL0_21 11 rfl)
theorem dL_law_348 : decode cL_law 348 = .ok (.invokevirtual 30, 3) := dop_182 (dn_w dwL0_21 12 rfl) rfl
theorem dL_law_351 : decode cL_law 351 = .ok (.pop, 1) := dop_87 (dn_w dwL0_21 15 rfl)
theorem dL_law_352 : decode cL_law 352 = .ok (.aload_n 2, 1) := dop_44 (dn_w dwL0_22 0 rfl)
theorem dL_law_353 : decode cL_law 353 = .ok (.aload_n 0, 1) := dop_42 (dn_w dwL0_22 1 rfl)
theorem dL_law_354 : decode cL_law 354 = .ok (.iload_n 3, 1) := dop_29 (dn_w dwL0_22 2 rfl)
theorem dL_law_355 : decode cL_law 355 = .ok (.iconst 1, 1) := dop_4 (dn_w dwL0_22 3 rfl)
theorem dL_law_356 : decode cL_law 356 = .ok (.iadd, 1) := dop_96 (dn_w dwL0_22 4 rfl)
theorem dL_law_357 : decode cL_law 357 = .ok (.iaload, 1) := dop_46 (dn_w dwL0_22 5 rfl)
theorem dL_law_358 : decode cL_law 358 = .ok (.aload_n 0, 1) := dop_42 (dn_w dwL0_22 6 rfl)
theorem dL_law_359 : decode cL_law 359 = .ok (.iload_n 3, 1) := dop_29 (dn_w dwL0_22 7 rfl)
theorem dL_law_360 : decode cL_law 360 = .ok (.iconst 2, 1) := dop_5 (dn_w dwL0_22 8 rfl)
theorem dL_law_361 : decode cL_law 361 = .ok (.iadd, 1) := dop_96 (dn_w dwL0_22 9 rfl)
theorem dL_law_362 : decode cL_law 362 = .ok (.iaload, 1) := dop_46 (dn_w dwL0_22 10 rfl)
theorem dL_law_363 : decode cL_law 363 = .ok (.invokevirtual 34, 3) := dop_182 (dn_w dwL0_22 11 rfl) rfl
theorem dL_law_366 : decode cL_law 366 = .ok (.pop, 1) := dop_87 (dn_w dwL0_22 14 rfl)
theorem dL_law_367 : decode cL_law 367 = .ok (.goto 1087, 3) := dop_167 (dn_w dwL0_22 15 rfl) rfl
theorem dL_law_370 : decode cL_law 370 = .ok (.aload_n 1, 1) := dop_43 (dn_w dwL0_23 2 rfl)
theorem dL_law_371 : decode cL_law 371 = .ok (.aload_n 0, 1) := dop_42 (dn_w dwL0_23 3 rfl)
theorem dL_law_372 : decode cL_law 372 = .ok (.iload_n 3, 1) := dop_29 (dn_w dwL0_23 4 rfl)
theorem dL_law_373 : decode cL_law 373 = .ok (.iconst 1, 1) := dop_4 (dn_w dwL0_23 5 rfl)
theorem dL_law_374 : decode cL_law 374 = .ok (.iadd, 1) := dop_96 (dn_w dwL0_23 6 rfl)
theorem dL_law_375 : decode cL_law 375 = .ok (.iaload, 1) := dop_46 (dn_w dwL0_23 7 rfl)
theorem dL_law_376 : decode cL_law 376 = .ok (.aload_n 0, 1) := dop_42 (dn_w dwL0_23 8 rfl)
theorem dL_law_377 : decode cL_law 377 = .ok (.iload_n 3, 1) := dop_29 (dn_w dwL0_23 9 rfl)
theorem dL_law_378 : decode cL_law 378 = .ok (.iconst 2, 1) := dop_5 (dn_w dwL0_23 10 rfl)
theorem dL_law_379 : decode cL_law 379 = .ok (.iadd, 1) := dop_96 (dn_w dwL0_23 11 rfl)
theorem dL_law_380 : decode cL_law 380 = .ok (.iaload, 1) := dop_46 (dn_w dwL0_23 12 rfl)
theorem dL_law_381 : decode cL_law 381 = .ok (.aload_n 0, 1) := dop_42 (dn_w dwL0_23 13 rfl)
theorem dL_law_382 : decode cL_law 382 = .ok (.iload_n 3, 1) := dop_29 (dn_w dwL0_23 14 rfl)
theorem dL_law_383 : decode cL_law 383 = .ok (.iconst 3, 1) := dop_6 (dn_w dwL0_23 15 rfl)
theorem dL_law_384 : decode cL_law 384 = .ok (.iadd, 1) := dop_96 (dn_w dwL0_24 0 rfl)
theorem dL_law_385 : decode cL_law 385 = .ok (.iaload, 1) := dop_46 (dn_w dwL0_24 1 rfl)
theorem dL_law_386 : decode cL_law 386 = .ok (.invokevirtual 35, 3) := dop_182 (dn_w dwL0_24 2 rfl) rfl
theorem dL_law_389 : decode cL_law 389 = .ok (.pop, 1) := dop_87 (dn_w dwL0_24 5 rfl)
theorem dL_law_390 : decode cL_law 390 = .ok (.aload_n 2, 1) := dop_44 (dn_w dwL0_24 6 rfl)
theorem dL_law_391 : decode cL_law 391 = .ok (.aload_n 0, 1) := dop_42 (dn_w dwL0_24 7 rfl)
theorem dL_law_392 : decode cL_law 392 = .ok (.iload_n 3, 1) := dop_29 (dn_w dwL0_24 8 rfl)
theorem dL_law_393 : decode cL_law 393 = .ok (.iconst 1, 1) := dop_4 (dn_w dwL0_24 9 rfl)
theorem dL_law_394 : decode cL_law 394 = .ok (.iadd, 1) := dop_96 (dn_w dwL0_24 10 rfl)
theorem dL_law_395 : decode cL_law 395 = .ok (.iaload, 1) := dop_46 (dn_w dwL0_24 11 rfl)
theorem dL_law_396 : decode cL_law 396 = .ok (.aload_n 0, 1) := dop_42 (dn_w dwL0_24 12 rfl)
theorem dL_law_397 : decode cL_law 397 = .ok (.iload_n 3, 1) := dop_29 (dn_w dwL0_24 13 rfl)
theorem dL_law_398 : decode cL_law 398 = .ok (.iconst 2, 1) := dop_5 (dn_w dwL0_24 14 rfl)
theorem dL_law_399 : decode cL_law 399 = .ok (.iadd, 1) := dop_96 (dn_w dwL0_24 15 rfl)
theorem dL_law_400 : decode cL_law 400 = .ok (.iaload, 1) := dop_46 (dn_w dwL0_25 0 rfl)
theorem dL_law_401 : decode cL_law 401 = .ok (.aload_n 0, 1) := dop_42 (dn_w dwL0_25 1 rfl)
theorem dL_law_402 : decode cL_law 402 = .ok (.iload_n 3, 1) := dop_29 (dn_w dwL0_25 2 rfl)
theorem dL_law_403 : decode cL_law 403 = .ok (.iconst 3, 1) := dop_6 (dn_w dwL0_25 3 rfl)
theorem dL_law_404 : decode cL_law 404 = .ok (.iadd, 1) := dop_96 (dn_w dwL0_25 4 rfl)
theorem dL_law_405 : decode cL_law 405 = .ok (.iaload, 1) := dop_46 (dn_w dwL0_25 5 rfl)
theorem dL_law_406 : decode cL_law 406 = .ok (.invokevirtual 39, 3) := dop_182 (dn_w dwL0_25 6 rfl) rfl
theorem dL_law_409 : decode cL_law 409 = .ok (.pop, 1) := dop_87 (dn_w dwL0_25 9 rfl)
theorem dL_law_410 : decode cL_law 410 = .ok (.goto 1044, 3) := dop_167 (dn_w dwL0_25 10 rfl) rfl
theorem dL_law_413 : decode cL_law 413 = .ok (.aload_n 1, 1) := dop_43 (dn_w dwL0_25 13 rfl)
theorem dL_law_414 : decode cL_law 414 = .ok (.aload_n 0, 1) := dop_42 (dn_w dwL0_25 14 rfl)
theorem dL_law_415 : decode cL_law 415 = .ok (.iload_n 3, 1) := dop_29 (dn_w dwL0_25 15 rfl)
theorem dL_law_416 : decode cL_law 416 = .ok (.iconst 1, 1) := dop_4 (dn_w dwL0_26 0 rfl)
theorem dL_law_417 : decode cL_law 417 = .ok (.iadd, 1) := dop_96 (dn_w dwL0_26 1 rfl)
theorem dL_law_418 : decode cL_law 418 = .ok (.iaload, 1) := dop_46 (dn_w dwL0_26 2 rfl)
theorem dL_law_419 : decode cL_law 419 = .ok (.aload_n 0, 1) := dop_42 (dn_w dwL0_26 3 rfl)
theorem dL_law_420 : decode cL_law 420 = .ok (.iload_n 3, 1) := dop_29 (dn_w dwL0_26 4 rfl)
theorem dL_law_421 : decode cL_law 421 = .ok (.iconst 2, 1) := dop_5 (dn_w dwL0_26 5 rfl)
theorem dL_law_422 : decode cL_law 422 = .ok (.iadd, 1) := dop_96 (dn_w dwL0_26 6 rfl)
theorem dL_law_423 : decode cL_law 423 = .ok (.iaload, 1) := dop_46 (dn_w dwL0_26 7 rfl)
theorem dL_law_424 : decode cL_law 424 = .ok (.invokevirtual 40, 3) := dop_182 (dn_w dwL0_26 8 rfl) rfl
theorem dL_law_427 : decode cL_law 427 = .ok (.pop, 1) := dop_87 (dn_w dwL0_26 11 rfl)
theorem dL_law_428 : decode cL_law 428 = .ok (.aload_n 2, 1) := dop_44 (dn_w dwL0_26 12 rfl)
theorem dL_law_429 : decode cL_law 429 = .ok (.aload_n 0, 1) := dop_42 (dn_w dwL0_26 13 rfl)
theorem dL_law_430 : decode cL_law 430 = .ok (.iload_n 3, 1) := dop_29 (dn_w dwL0_26 14 rfl)
theorem dL_law_431 : decode cL_law 431 = .ok (.iconst 1, 1) := dop_4 (dn_w dwL0_26 15 rfl)
theorem dL_law_432 : decode cL_law 432 = .ok (.iadd, 1) := dop_96 (dn_w dwL0_27 0 rfl)
theorem dL_law_433 : decode cL_law 433 = .ok (.iaload, 1) := dop_46 (dn_w dwL0_27 1 rfl)
theorem dL_law_434 : decode cL_law 434 = .ok (.aload_n 0, 1) := dop_42 (dn_w dwL0_27 2 rfl)
theorem dL_law_435 : decode cL_law 435 = .ok (.iload_n 3, 1) := dop_29 (dn_w dwL0_27 3 rfl)
theorem dL_law_436 : decode cL_law 436 = .ok (.iconst 2, 1) := dop_5 (dn_w dwL0_27 4 rfl)
theorem dL_law_437 : decode cL_law 437 = .ok (.iadd, 1) := dop_96 (dn_w dwL0_27 5 rfl)
theorem dL_law_438 : decode cL_law 438 = .ok (.iaload, 1) := dop_46 (dn_w dwL0_27 6 rfl)
theorem dL_law_439 : decode cL_law 439 = .ok (.invokevirtual 43, 3) := dop_182 (dn_w dwL0_27 7 rfl) rfl
theorem dL_law_442 : decode cL_law 442 = .ok (.pop, 1) := dop_87 (dn_w dwL0_27 10 rfl)
theorem dL_law_443 : decode cL_law 443 = .ok (.goto 1011, 3) := dop_167 (dn_w dwL0_27 11 rfl) rfl
theorem dL_law_446 : decode cL_law 446 = .ok (.aload_n 1, 1) := dop_43 (dn_w dwL0_27 14 rfl)
theorem dL_law_447 : decode cL_law 447 = .ok (.aload_n 0, 1) := dop_42 (dn_w dwL0_27 15 rfl)
theorem dL_law_448 : decode cL_law 448 = .ok (.iload_n 3, 1) := dop_29 (dn_w dwL0_28 0 rfl)
theorem dL_law_449 : decode cL_law 449 = .ok (.iconst 1, 1) := dop_4 (dn_w dwL0_28 1 rfl)
theorem dL_law_450 : decode cL_law 450 = .ok (.iadd, 1) := dop_96 (dn_w dwL0_28 2 rfl)
theorem dL_law_451 : decode cL_law 451 = .ok (.iaload, 1) := dop_46 (dn_w dwL0_28 3 rfl)
theorem dL_law_452 : decode cL_law 452 = .ok (.aload_n 0, 1) := dop_42 (dn_w dwL0_28 4 rfl)
theorem dL_law_453 : decode cL_law 453 = .ok (.iload_n 3, 1) := dop_29 (dn_w dwL0_28 5 rfl)
theorem dL_law_454 : decode cL_law 454 = .ok (.iconst 2, 1) := dop_5 (dn_w dwL0_28 6 rfl)
theorem dL_law_455 : decode cL_law 455 = .ok (.iadd, 1) := dop_96 (dn_w dwL0_28 7 rfl)
theorem dL_law_456 : decode cL_law 456 = .ok (.iaload, 1) := dop_46 (dn_w dwL0_28 8 rfl)
theorem dL_law_457 : decode cL_law 457 = .ok (.invokevirtual 44, 3) := dop_182 (dn_w dwL0_28 9 rfl) rfl
theorem dL_law_460 : decode cL_law 460 = .ok (.pop, 1) := dop_87 (dn_w dwL0_28 12 rfl)
theorem dL_law_461 : decode cL_law 461 = .ok (.aload_n 2, 1) := dop_44 (dn_w dwL0_28 13 rfl)
theorem dL_law_462 : decode cL_law 462 = .ok (.aload_n 0, 1) := dop_42 (dn_w dwL0_28 14 rfl)
theorem dL_law_463 : decode cL_law 463 = .ok (.iload_n 3, 1) := dop_29 (dn_w dwL0_28 15 rfl)
theorem dL_law_464 : decode cL_law 464 = .ok (.iconst 1, 1) := dop_4 (dn_w dwL0_29 0 rfl)
theorem dL_law_465 : decode cL_law 465 = .ok (.iadd, 1) := dop_96 (dn_w dwL0_29 1 rfl)
theorem dL_law_466 : decode cL_law 466 = .ok (.iaload, 1) := dop_46 (dn_w dwL0_29 2 rfl)
theorem dL_law_467 : decode cL_law 467 = .ok (.aload_n 0, 1) := dop_42 (dn_w dwL0_29 3 rfl)
theorem dL_law_468 : decode cL_law 468 = .ok (.iload_n 3, 1) := dop_29 (dn_w dwL0_29 4 rfl)
theorem dL_law_469 : decode cL_law 469 = .ok (.iconst 2, 1) := dop_5 (dn_w dwL0_29 5 rfl)
theorem dL_law_470 : decode cL_law 470 = .ok (.iadd, 1) := dop_96 (dn_w dwL0_29 6 rfl)
theorem dL_law_471 : decode cL_law 471 = .ok (.iaload, 1) := dop_46 (dn_w dwL0_29 7 rfl)
theorem dL_law_472 : decode cL_law 472 = .ok (.invokevirtual 47, 3) := dop_182 (dn_w dwL0_29 8 rfl) rfl
theorem dL_law_475 : decode cL_law 475 = .ok (.pop, 1) := dop_87 (dn_w dwL0_29 11 rfl)
theorem dL_law_476 : decode cL_law 476 = .ok (.goto 978, 3) := dop_167 (dn_w dwL0_29 12 rfl) rfl
theorem dL_law_479 : decode cL_law 479 = .ok (.aload_n 1, 1) := dop_43 (dn_w dwL0_29 15 rfl)
theorem dL_law_480 : decode cL_law 480 = .ok (.aload_n 0, 1) := dop_42 (dn_w dwL0_30 0 rfl)
theorem dL_law_481 : decode cL_law 481 = .ok (.iload_n 3, 1) := dop_29 (dn_w dwL0_30 1 rfl)
theorem dL_law_482 : decode cL_law 482 = .ok (.iconst 1, 1) := dop_4 (dn_w dwL0_30 2 rfl)
theorem dL_law_483 : decode cL_law 483 = .ok (.iadd, 1) := dop_96 (dn_w dwL0_30 3 rfl)
theorem dL_law_484 : decode cL_law 484 = .ok (.iaload, 1) := dop_46 (dn_w dwL0_30 4 rfl)
theorem dL_law_485 : decode cL_law 485 = .ok (.aload_n 0, 1) := dop_42 (dn_w dwL0_30 5 rfl)
theorem dL_law_486 : decode cL_law 486 = .ok (.iload_n 3, 1) := dop_29 (dn_w dwL0_30 6 rfl)
theorem dL_law_487 : decode cL_law 487 = .ok (.iconst 2, 1) := dop_5 (dn_w dwL0_30 7 rfl)
theorem dL_law_488 : decode cL_law 488 = .ok (.iadd, 1) := dop_96 (dn_w dwL0_30 8 rfl)
theorem dL_law_489 : decode cL_law 489 = .ok (.iaload, 1) := dop_46 (dn_w dwL0_30 9 rfl)
theorem dL_law_490 : decode cL_law 490 = .ok (.invokevirtual 48, 3) := dop_182 (dn_w dwL0_30 10 rfl) rfl
theorem dL_law_493 : decode cL_law 493 = .ok (.pop, 1) := dop_87 (dn_w dwL0_30 13 rfl)
theorem dL_law_494 : decode cL_law 494 = .ok (.aload_n 2, 1) := dop_44 (dn_w dwL0_30 14 rfl)
theorem dL_law_495 : decode cL_law 495 = .ok (.aload_n 0, 1) := dop_42 (dn_w dwL0_30 15 rfl)
theorem dL_law_496 : decode cL_law 496 = .ok (.iload_n 3, 1) := dop_29 (dn_w dwL0_31 0 rfl)
theorem dL_law_497 : decode cL_law 497 = .ok (.iconst 1, 1) := dop_4 (dn_w dwL0_31 1 rfl)
theorem dL_law_498 : decode cL_law 498 = .ok (.iadd, 1) := dop_96 (dn_w dwL0_31 2 rfl)
theorem dL_law_499 : decode cL_law 499 = .ok (.iaload, 1) := dop_46 (dn_w dwL0_31 3 rfl)
theorem dL_law_500 : decode cL_law 500 = .ok (.aload_n 0, 1) := dop_42 (dn_w dwL0_31 4 rfl)
theorem dL_law_501 : decode cL_law 501 = .ok (.iload_n 3, 1) := dop_29 (dn_w dwL0_31 5 rfl)
theorem dL_law_502 : decode cL_law 502 = .ok (.iconst 2, 1) := dop_5 (dn_w dwL0_31 6 rfl)
theorem dL_law_503 : decode cL_law 503 = .ok (.iadd, 1) := dop_96 (dn_w dwL0_31 7 rfl)
theorem dL_law_504 : decode cL_law 504 = .ok (.iaload, 1) := dop_46 (dn_w dwL0_31 8 rfl)
theorem dL_law_505 : decode cL_law 505 = .ok (.invokevirtual 51, 3) := dop_182 (dn_w dwL0_31 9 rfl) rfl
theorem dL_law_508 : decode cL_law 508 = .ok (.pop, 1) := dop_87 (dn_w dwL0_31 12 rfl)
theorem dL_law_509 : decode cL_law 509 = .ok (.goto 945, 3) := dop_167 (dn_w dwL0_31 13 rfl) rfl
theorem dL_law_512 : decode cL_law 512 = .ok (.aload_n 1, 1) := dop_43 (dn_w dwL0_32 0 rfl)
theorem dL_law_513 : decode cL_law 513 = .ok (.aload_n 0, 1) := dop_42 (dn_w dwL0_32 1 rfl)
theorem dL_law_514 : decode cL_law 514 = .ok (.iload_n 3, 1) := dop_29 (dn_w dwL0_32 2 rfl)
theorem dL_law_515 : decode cL_law 515 = .ok (.iconst 1, 1) := dop_4 (dn_w dwL0_32 3 rfl)
theorem dL_law_516 : decode cL_law 516 = .ok (.iadd, 1) := dop_96 (dn_w dwL0_32 4 rfl)
theorem dL_law_517 : decode cL_law 517 = .ok (.iaload, 1) := dop_46 (dn_w dwL0_32 5 rfl)
theorem dL_law_518 : decode cL_law 518 = .ok (.aload_n 0, 1) := dop_42 (dn_w dwL0_32 6 rfl)
theorem dL_law_519 : decode cL_law 519 = .ok (.iload_n 3, 1) := dop_29 (dn_w dwL0_32 7 rfl)
theorem dL_law_520 : decode cL_law 520 = .ok (.iconst 2, 1) := dop_5 (dn_w dwL0_32 8 rfl)
theorem dL_law_521 : decode cL_law 521 = .ok (.iadd, 1) := dop_96 (dn_w dwL0_32 9 rfl)
theorem dL_law_522 : decode cL_law 522 = .ok (.iaload, 1) := dop_46 (dn_w dwL0_32 10 rfl)
theorem dL_law_523 : decode cL_law 523 = .ok (.invokevirtual 52, 3) := dop_182 (dn_w dwL0_32 11 rfl) rfl
theorem dL_law_526 : decode cL_law 526 = .ok (.pop, 1) := dop_87 (dn_w dwL0_32 14 rfl)
theorem dL_law_527 : decode cL_law 527 = .ok (.aload_n 2, 1) := dop_44 (dn_w dwL0_32 15 rfl)
theorem dL_law_528 : decode cL_law 528 = .ok (.aload_n 0, 1) := dop_42 (dn_w dwL0_33 0 rfl)
theorem dL_law_529 : decode cL_law 529 = .ok (.iload_n 3, 1) := dop_29 (dn_w dwL0_33 1 rfl)
theorem dL_law_530 : decode cL_law 530 = .ok (.iconst 1, 1) := dop_4 (dn_w dwL0_33 2 rfl)
theorem dL_law_531 : decode cL_law 531 = .ok (.iadd, 1) := dop_96 (dn_w dwL0_33 3 rfl)
theorem dL_law_532 : decode cL_law 532 = .ok (.iaload, 1) := dop_46 (dn_w dwL0_33 4 rfl)
theorem dL_law_533 : decode cL_law 533 = .ok (.aload_n 0, 1) := dop_42 (dn_w dwL0_33 5 rfl)
theorem dL_law_534 : decode cL_law 534 = .ok (.iload_n 3, 1) := dop_29 (dn_w dwL0_33 6 rfl)
theorem dL_law_535 : decode cL_law 535 = .ok (.iconst 2, 1) := dop_5 (dn_w dwL0_33 7 rfl)
theorem dL_law_536 : decode cL_law 536 = .ok (.iadd, 1) := dop_96 (dn_w dwL0_33 8 rfl)
theorem dL_law_537 : decode cL_law 537 = .ok (.iaload, 1) := dop_46 (dn_w dwL0_33 9 rfl)
theorem dL_law_538 : decode cL_law 538 = .ok (.invokevirtual 55, 3) := dop_182 (dn_w dwL0_33 10 rfl) rfl
theorem dL_law_541 : decode cL_law 541 = .ok (.pop, 1) := dop_87 (dn_w dwL0_33 13 rfl)
theorem dL_law_542 : decode cL_law 542 = .ok (.goto 912, 3) := dop_167 (dn_w dwL0_33 14 rfl) rfl
theorem dL_law_545 : decode cL_law 545 = .ok (.aload_n 1, 1) := dop_43 (dn_w dwL0_34 1 rfl)
theorem dL_law_546 : decode cL_law 546 = .ok (.invokevirtual 56, 3) := dop_182 (dn_w dwL0_34 2 rfl) rfl
theorem dL_law_549 : decode cL_law 549 = .ok (.pop, 1) := dop_87 (dn_w dwL0_34 5 rfl)
theorem dL_law_550 : decode cL_law 550 = .ok (.aload_n 2, 1) := dop_44 (dn_w dwL0_34 6 rfl)
theorem dL_law_551 : decode cL_law 551 = .ok (.invokevirtual 59, 3) := dop_182 (dn_w dwL0_34 7 rfl) rfl
theorem dL_law_554 : decode cL_law 554 = .ok (.pop, 1) := dop_87 (dn_w dwL0_34 10 rfl)
theorem dL_law_555 : decode cL_law 555 = .ok (.goto 899, 3) := dop_167 (dn_w dwL0_34 11 rfl) rfl
theorem dL_law_558 : decode cL_law 558 = .ok (.aload_n 1, 1) := dop_43 (dn_w dwL0_34 14 rfl)
theorem dL_law_559 : decode cL_law 559 = .ok (.aload_n 0, 1) := dop_42 (dn_w dwL0_34 15 rfl)
theorem dL_law_560 : decode cL_law 560 = .ok (.iload_n 3, 1) := dop_29 (dn_w dwL0_35 0 rfl)
theorem dL_law_561 : decode cL_law 561 = .ok (.iconst 1, 1) := dop_4 (dn_w dwL0_35 1 rfl)
theorem dL_law_562 : decode cL_law 562 = .ok (.iadd, 1) := dop_96 (dn_w dwL0_35 2 rfl)
theorem dL_law_563 : decode cL_law 563 = .ok (.iaload, 1) := dop_46 (dn_w dwL0_35 3 rfl)
theorem dL_law_564 : decode cL_law 564 = .ok (.invokevirtual 60, 3) := dop_182 (dn_w dwL0_35 4 rfl) rfl
theorem dL_law_567 : decode cL_law 567 = .ok (.pop, 1) := dop_87 (dn_w dwL0_35 7 rfl)
theorem dL_law_568 : decode cL_law 568 = .ok (.aload_n 2, 1) := dop_44 (dn_w dwL0_35 8 rfl)
theorem dL_law_569 : decode cL_law 569 = .ok (.aload_n 0, 1) := dop_42 (dn_w dwL0_35 9 rfl)
theorem dL_law_570 : decode cL_law 570 = .ok (.iload_n 3, 1) := dop_29 (dn_w dwL0_35 10 rfl)
theorem dL_law_571 : decode cL_law 571 = .ok (.iconst 1, 1) := dop_4 (dn_w dwL0_35 11 rfl)
theorem dL_law_572 : decode cL_law 572 = .ok (.iadd, 1) := dop_96 (dn_w dwL0_35 12 rfl)
theorem dL_law_573 : decode cL_law 573 = .ok (.iaload, 1) := dop_46 (dn_w dwL0_35 13 rfl)
theorem dL_law_574 : decode cL_law 574 = .ok (.invokevirtual 64, 3) := dop_182 (dn_w dwL0_35 14 rfl) rfl
theorem dL_law_577 : decode cL_law 577 = .ok (.pop, 1) := dop_87 (dn_w dwL0_36 1 rfl)
theorem dL_law_578 : decode cL_law 578 = .ok (.goto 876, 3) := dop_167 (dn_w dwL0_36 2 rfl) rfl
theorem dL_law_581 : decode cL_law 581 = .ok (.aload_n 1, 1) := dop_43 (dn_w dwL0_36 5 rfl)
theorem dL_law_582 : decode cL_law 582 = .ok (.aload_n 0, 1) := dop_42 (dn_w dwL0_36 6 rfl)
theorem dL_law_583 : decode cL_law 583 = .ok (.iload_n 3, 1) := dop_29 (dn_w dwL0_36 7 rfl)
theorem dL_law_584 : decode cL_law 584 = .ok (.iconst 1, 1) := dop_4 (dn_w dwL0_36 8 rfl)
theorem dL_law_585 : decode cL_law 585 = .ok (.iadd, 1) := dop_96 (dn_w dwL0_36 9 rfl)
theorem dL_law_586 : decode cL_law 586 = .ok (.iaload, 1) := dop_46 (dn_w dwL0_36 10 rfl)
theorem dL_law_587 : decode cL_law 587 = .ok (.invokevirtual 65, 3) := dop_182 (dn_w dwL0_36 11 rfl) rfl
theorem dL_law_590 : decode cL_law 590 = .ok (.pop, 1) := dop_87 (dn_w dwL0_36 14 rfl)
theorem dL_law_591 : decode cL_law 591 = .ok (.aload_n 2, 1) := dop_44 (dn_w dwL0_36 15 rfl)
theorem dL_law_592 : decode cL_law 592 = .ok (.aload_n 0, 1) := dop_42 (dn_w dwL0_37 0 rfl)
theorem dL_law_593 : decode cL_law 593 = .ok (.iload_n 3, 1) := dop_29 (dn_w dwL0_37 1 rfl)
theorem dL_law_594 : decode cL_law 594 = .ok (.iconst 1, 1) := dop_4 (dn_w dwL0_37 2 rfl)
theorem dL_law_595 : decode cL_law 595 = .ok (.iadd, 1) := dop_96 (dn_w dwL0_37 3 rfl)
theorem dL_law_596 : decode cL_law 596 = .ok (.iaload, 1) := dop_46 (dn_w dwL0_37 4 rfl)
theorem dL_law_597 : decode cL_law 597 = .ok (.invokevirtual 68, 3) := dop_182 (dn_w dwL0_37 5 rfl) rfl
theorem dL_law_600 : decode cL_law 600 = .ok (.pop, 1) := dop_87 (dn_w dwL0_37 8 rfl)
theorem dL_law_601 : decode cL_law 601 = .ok (.goto 853, 3) := dop_167 (dn_w dwL0_37 9 rfl) rfl
theorem dL_law_604 : decode cL_law 604 = .ok (.aload_n 1, 1) := dop_43 (dn_w dwL0_37 12 rfl)
theorem dL_law_605 : decode cL_law 605 = .ok (.aload_n 0, 1) := dop_42 (dn_w dwL0_37 13 rfl)
theorem dL_law_606 : decode cL_law 606 = .ok (.iload_n 3, 1) := dop_29 (dn_w dwL0_37 14 rfl)
theorem dL_law_607 : decode cL_law 607 = .ok (.iconst 1, 1) := dop_4 (dn_w dwL0_37 15 rfl)
theorem dL_law_608 : decode cL_law 608 = .ok (.iadd, 1) := dop_96 (dn_w dwL0_38 0 rfl)
theorem dL_law_609 : decode cL_law 609 = .ok (.iaload, 1) := dop_46 (dn_w dwL0_38 1 rfl)
theorem dL_law_610 : decode cL_law 610 = .ok (.invokevirtual 69, 3) := dop_182 (dn_w dwL0_38 2 rfl) rfl
theorem dL_law_613 : decode cL_law 613 = .ok (.pop, 1) := dop_87 (dn_w dwL0_38 5 rfl)
theorem dL_law_614 : decode cL_law 614 = .ok (.aload_n 2, 1) := dop_44 (dn_w dwL0_38 6 rfl)
theorem dL_law_615 : decode cL_law 615 = .ok (.aload_n 0, 1) := dop_42 (dn_w dwL0_38 7 rfl)
theorem dL_law_616 : decode cL_law 616 = .ok (.iload_n 3, 1) := dop_29 (dn_w dwL0_38 8 rfl)
theorem dL_law_617 : decode cL_law 617 = .ok (.iconst 1, 1) := dop_4 (dn_w dwL0_38 9 rfl)
theorem dL_law_618 : decode cL_law 618 = .ok (.iadd, 1) := dop_96 (dn_w dwL0_38 10 rfl)
theorem dL_law_619 : decode cL_law 619 = .ok (.iaload, 1) := dop_46 (dn_w dwL0_38 11 rfl)
theorem dL_law_620 : decode cL_law 620 = .ok (.invokevirtual 72, 3) := dop_182 (dn_w dwL0_38 12 rfl) rfl
theorem dL_law_623 : decode cL_law 623 = .ok (.pop, 1) := dop_87 (dn_w dwL0_38 15 rfl)
theorem dL_law_624 : decode cL_law 624 = .ok (.goto 830, 3) := dop_167 (dn_w dwL0_39 0 rfl) rfl
theorem dL_law_627 : decode cL_law 627 = .ok (.aload_n 1, 1) := dop_43 (dn_w dwL0_39 3 rfl)
theorem dL_law_628 : decode cL_law 628 = .ok (.aload_n 0, 1) := dop_42 (dn_w dwL0_39 4 rfl)
theorem dL_law_629 : decode cL_law 629 = .ok (.iload_n 3, 1) := dop_29 (dn_w dwL0_39 5 rfl)
theorem dL_law_630 : decode cL_law 630 = .ok (.iconst 1, 1) := dop_4 (dn_w dwL0_39 6 rfl)
theorem dL_law_631 : decode cL_law 631 = .ok (.iadd, 1) := dop_96 (dn_w dwL0_39 7 rfl)
theorem dL_law_632 : decode cL_law 632 = .ok (.iaload, 1) := dop_46 (dn_w dwL0_39 8 rfl)
theorem dL_law_633 : decode cL_law 633 = .ok (.aload_n 0, 1) := dop_42 (dn_w dwL0_39 9 rfl)
theorem dL_law_634 : decode cL_law 634 = .ok (.iload_n 3, 1) := dop_29 (dn_w dwL0_39 10 rfl)
theorem dL_law_635 : decode cL_law 635 = .ok (.iconst 2, 1) := dop_5 (dn_w dwL0_39 11 rfl)
theorem dL_law_636 : decode cL_law 636 = .ok (.iadd, 1) := dop_96 (dn_w dwL0_39 12 rfl)
theorem dL_law_637 : decode cL_law 637 = .ok (.iaload, 1) := dop_46 (dn_w dwL0_39 13 rfl)
theorem dL_law_638 : decode cL_law 638 = .ok (.aload_n 0, 1) := dop_42 (dn_w dwL0_39 14 rfl)
theorem dL_law_639 : decode cL_law 639 = .ok (.iload_n 3, 1) := dop_29 (dn_w dwL0_39 15 rfl)
theorem dL_law_640 : decode cL_law 640 = .ok (.iconst 3, 1) := dop_6 (dn_w dwL0_40 0 rfl)
theorem dL_law_641 : decode cL_law 641 = .ok (.iadd, 1) := dop_96 (dn_w dwL0_40 1 rfl)
theorem dL_law_642 : decode cL_law 642 = .ok (.iaload, 1) := dop_46 (dn_w dwL0_40 2 rfl)
theorem dL_law_643 : decode cL_law 643 = .ok (.ifCond .eq 7, 3) := dop_153 (dn_w dwL0_40 3 rfl) rfl
theorem dL_law_646 : decode cL_law 646 = .ok (.iconst 1, 1) := dop_4 (dn_w dwL0_40 6 rfl)
theorem dL_law_647 : decode cL_law 647 = .ok (.goto 4, 3) := dop_167 (dn_w dwL0_40 7 rfl) rfl
theorem dL_law_650 : decode cL_law 650 = .ok (.iconst 0, 1) := dop_3 (dn_w dwL0_40 10 rfl)
theorem dL_law_651 : decode cL_law 651 = .ok (.invokevirtual 73, 3) := dop_182 (dn_w dwL0_40 11 rfl) rfl
theorem dL_law_654 : decode cL_law 654 = .ok (.pop, 1) := dop_87 (dn_w dwL0_40 14 rfl)
theorem dL_law_655 : decode cL_law 655 = .ok (.aload_n 2, 1) := dop_44 (dn_w dwL0_40 15 rfl)
theorem dL_law_656 : decode cL_law 656 = .ok (.aload_n 0, 1) := dop_42 (dn_w dwL0_41 0 rfl)
theorem dL_law_657 : decode cL_law 657 = .ok (.iload_n 3, 1) := dop_29 (dn_w dwL0_41 1 rfl)
theorem dL_law_658 : decode cL_law 658 = .ok (.iconst 1, 1) := dop_4 (dn_w dwL0_41 2 rfl)
theorem dL_law_659 : decode cL_law 659 = .ok (.iadd, 1) := dop_96 (dn_w dwL0_41 3 rfl)
theorem dL_law_660 : decode cL_law 660 = .ok (.iaload, 1) := dop_46 (dn_w dwL0_41 4 rfl)
theorem dL_law_661 : decode cL_law 661 = .ok (.aload_n 0, 1) := dop_42 (dn_w dwL0_41 5 rfl)
theorem dL_law_662 : decode cL_law 662 = .ok (.iload_n 3, 1) := dop_29 (dn_w dwL0_41 6 rfl)
theorem dL_law_663 : decode cL_law 663 = .ok (.iconst 2, 1) := dop_5 (dn_w dwL0_41 7 rfl)
theorem dL_law_664 : decode cL_law 664 = .ok (.iadd, 1) := dop_96 (dn_w dwL0_41 8 rfl)
theorem dL_law_665 : decode cL_law 665 = .ok (.iaload, 1) := dop_46 (dn_w dwL0_41 9 rfl)
theorem dL_law_666 : decode cL_law 666 = .ok (.aload_n 0, 1) := dop_42 (dn_w dwL0_41 10 rfl)
theorem dL_law_667 : decode cL_law 667 = .ok (.iload_n 3, 1) := dop_29 (dn_w dwL0_41 11 rfl)
theorem dL_law_668 : decode cL_law 668 = .ok (.iconst 3, 1) := dop_6 (dn_w dwL0_41 12 rfl)
theorem dL_law_669 : decode cL_law 669 = .ok (.iadd, 1) := dop_96 (dn_w dwL0_41 13 rfl)
theorem dL_law_670 : decode cL_law 670 = .ok (.iaload, 1) := dop_46 (dn_w dwL0_41 14 rfl)
theorem dL_law_671 : decode cL_law 671 = .ok (.ifCond .eq 7, 3) := dop_153 (dn_w dwL0_41 15 rfl) rfl
theorem dL_law_674 : decode cL_law 674 = .ok (.iconst 1, 1) := dop_4 (dn_w dwL0_42 2 rfl)
theorem dL_law_675 : decode cL_law 675 = .ok (.goto 4, 3) := dop_167 (dn_w dwL0_42 3 rfl) rfl
theorem dL_law_678 : decode cL_law 678 = .ok (.iconst 0, 1) := dop_3 (dn_w dwL0_42 6 rfl)
theorem dL_law_679 : decode cL_law 679 = .ok (.invokevirtual 77, 3) := dop_182 (dn_w dwL0_42 7 rfl) rfl
theorem dL_law_682 : decode cL_law 682 = .ok (.pop, 1) := dop_87 (dn_w dwL0_42 10 rfl)
theorem dL_law_683 : decode cL_law 683 = .ok (.goto 771, 3) := dop_167 (dn_w dwL0_42 11 rfl) rfl
theorem dL_law_686 : decode cL_law 686 = .ok (.aload_n 1, 1) := dop_43 (dn_w dwL0_42 14 rfl)
theorem dL_law_687 : decode cL_law 687 = .ok (.aload_n 0, 1) := dop_42 (dn_w dwL0_42 15 rfl)
theorem dL_law_688 : decode cL_law 688 = .ok (.iload_n 3, 1) := dop_29 (dn_w dwL0_43 0 rfl)
theorem dL_law_689 : decode cL_law 689 = .ok (.iconst 1, 1) := dop_4 (dn_w dwL0_43 1 rfl)
theorem dL_law_690 : decode cL_law 690 = .ok (.iadd, 1) := dop_96 (dn_w dwL0_43 2 rfl)
theorem dL_law_691 : decode cL_law 691 = .ok (.iaload, 1) := dop_46 (dn_w dwL0_43 3 rfl)
theorem dL_law_692 : decode cL_law 692 = .ok (.invokevirtual 78, 3) := dop_182 (dn_w dwL0_43 4 rfl) rfl
theorem dL_law_695 : decode cL_law 695 = .ok (.pop, 1) := dop_87 (dn_w dwL0_43 7 rfl)
theorem dL_law_696 : decode cL_law 696 = .ok (.aload_n 2, 1) := dop_44 (dn_w dwL0_43 8 rfl)
theorem dL_law_697 : decode cL_law 697 = .ok (.aload_n 0, 1) := dop_42 (dn_w dwL0_43 9 rfl)
theorem dL_law_698 : decode cL_law 698 = .ok (.iload_n 3, 1) := dop_29 (dn_w dwL0_43 10 rfl)
theorem dL_law_699 : decode cL_law 699 = .ok (.iconst 1, 1) := dop_4 (dn_w dwL0_43 11 rfl)
theorem dL_law_700 : decode cL_law 700 = .ok (.iadd, 1) := dop_96 (dn_w dwL0_43 12 rfl)
theorem dL_law_701 : decode cL_law 701 = .ok (.iaload, 1) := dop_46 (dn_w dwL0_43 13 rfl)
theorem dL_law_702 : decode cL_law 702 = .ok (.invokevirtual 81, 3) := dop_182 (dn_w dwL0_43 14 rfl) rfl
theorem dL_law_705 : decode cL_law 705 = .ok (.pop, 1) := dop_87 (dn_w dwL0_44 1 rfl)
theorem dL_law_706 : decode cL_law 706 = .ok (.goto 748, 3) := dop_167 (dn_w dwL0_44 2 rfl) rfl
theorem dL_law_709 : decode cL_law 709 = .ok (.aload_n 1, 1) := dop_43 (dn_w dwL0_44 5 rfl)
theorem dL_law_710 : decode cL_law 710 = .ok (.aload_n 0, 1) := dop_42 (dn_w dwL0_44 6 rfl)
theorem dL_law_711 : decode cL_law 711 = .ok (.iload_n 3, 1) := dop_29 (dn_w dwL0_44 7 rfl)
theorem dL_law_712 : decode cL_law 712 = .ok (.iconst 1, 1) := dop_4 (dn_w dwL0_44 8 rfl)
theorem dL_law_713 : decode cL_law 713 = .ok (.iadd, 1) := dop_96 (dn_w dwL0_44 9 rfl)
theorem dL_law_714 : decode cL_law 714 = .ok (.iaload, 1) := dop_46 (dn_w dwL0_44 10 rfl)
theorem dL_law_715 : decode cL_law 715 = .ok (.invokevirtual 82, 3) := dop_182 (dn_w dwL0_44 11 rfl) rfl
theorem dL_law_718 : decode cL_law 718 = .ok (.pop, 1) := dop_87 (dn_w dwL0_44 14 rfl)
theorem dL_law_719 : decode cL_law 719 = .ok (.aload_n 2, 1) := dop_44 (dn_w dwL0_44 15 rfl)
theorem dL_law_720 : decode cL_law 720 = .ok (.aload_n 0, 1) := dop_42 (dn_w dwL0_45 0 rfl)
theorem dL_law_721 : decode cL_law 721 = .ok (.iload_n 3, 1) := dop_29 (dn_w dwL0_45 1 rfl)
theorem dL_law_722 : decode cL_law 722 = .ok (.iconst 1, 1) := dop_4 (dn_w dwL0_45 2 rfl)
theorem dL_law_723 : decode cL_law 723 = .ok (.iadd, 1) := dop_96 (dn_w dwL0_45 3 rfl)
theorem dL_law_724 : decode cL_law 724 = .ok (.iaload, 1) := dop_46 (dn_w dwL0_45 4 rfl)
theorem dL_law_725 : decode cL_law 725 = .ok (.invokevirtual 85, 3) := dop_182 (dn_w dwL0_45 5 rfl) rfl
theorem dL_law_728 : decode cL_law 728 = .ok (.pop, 1) := dop_87 (dn_w dwL0_45 8 rfl)
theorem dL_law_729 : decode cL_law 729 = .ok (.goto 725, 3) := dop_167 (dn_w dwL0_45 9 rfl) rfl
theorem dL_law_732 : decode cL_law 732 = .ok (.aload_n 1, 1) := dop_43 (dn_w dwL0_45 12 rfl)
theorem dL_law_733 : decode cL_law 733 = .ok (.aload_n 0, 1) := dop_42 (dn_w dwL0_45 13 rfl)
theorem dL_law_734 : decode cL_law 734 = .ok (.iload_n 3, 1) := dop_29 (dn_w dwL0_45 14 rfl)
theorem dL_law_735 : decode cL_law 735 = .ok (.iconst 1, 1) := dop_4 (dn_w dwL0_45 15 rfl)
theorem dL_law_736 : decode cL_law 736 = .ok (.iadd, 1) := dop_96 (dn_w dwL0_46 0 rfl)
theorem dL_law_737 : decode cL_law 737 = .ok (.iaload, 1) := dop_46 (dn_w dwL0_46 1 rfl)
theorem dL_law_738 : decode cL_law 738 = .ok (.invokevirtual 86, 3) := dop_182 (dn_w dwL0_46 2 rfl) rfl
theorem dL_law_741 : decode cL_law 741 = .ok (.pop, 1) := dop_87 (dn_w dwL0_46 5 rfl)
theorem dL_law_742 : decode cL_law 742 = .ok (.aload_n 2, 1) := dop_44 (dn_w dwL0_46 6 rfl)
theorem dL_law_743 : decode cL_law 743 = .ok (.aload_n 0, 1) := dop_42 (dn_w dwL0_46 7 rfl)
theorem dL_law_744 : decode cL_law 744 = .ok (.iload_n 3, 1) := dop_29 (dn_w dwL0_46 8 rfl)
theorem dL_law_745 : decode cL_law 745 = .ok (.iconst 1, 1) := dop_4 (dn_w dwL0_46 9 rfl)
theorem dL_law_746 : decode cL_law 746 = .ok (.iadd, 1) := dop_96 (dn_w dwL0_46 10 rfl)
theorem dL_law_747 : decode cL_law 747 = .ok (.iaload, 1) := dop_46 (dn_w dwL0_46 11 rfl)
theorem dL_law_748 : decode cL_law 748 = .ok (.invokevirtual 89, 3) := dop_182 (dn_w dwL0_46 12 rfl) rfl
theorem dL_law_751 : decode cL_law 751 = .ok (.pop, 1) := dop_87 (dn_w dwL0_46 15 rfl)
theorem dL_law_752 : decode cL_law 752 = .ok (.goto 702, 3) := dop_167 (dn_w dwL0_47 0 rfl) rfl
theorem dL_law_755 : decode cL_law 755 = .ok (.aload_n 1, 1) := dop_43 (dn_w dwL0_47 3 rfl)
theorem dL_law_756 : decode cL_law 756 = .ok (.aload_n 0, 1) := dop_42 (dn_w dwL0_47 4 rfl)
theorem dL_law_757 : decode cL_law 757 = .ok (.iload_n 3, 1) := dop_29 (dn_w dwL0_47 5 rfl)
theorem dL_law_758 : decode cL_law 758 = .ok (.iconst 1, 1) := dop_4 (dn_w dwL0_47 6 rfl)
theorem dL_law_759 : decode cL_law 759 = .ok (.iadd, 1) := dop_96 (dn_w dwL0_47 7 rfl)
theorem dL_law_760 : decode cL_law 760 = .ok (.iaload, 1) := dop_46 (dn_w dwL0_47 8 rfl)
theorem dL_law_761 : decode cL_law 761 = .ok (.invokevirtual 90, 3) := dop_182 (dn_w dwL0_47 9 rfl) rfl
theorem dL_law_764 : decode cL_law 764 = .ok (.pop, 1) := dop_87 (dn_w dwL0_47 12 rfl)
theorem dL_law_765 : decode cL_law 765 = .ok (.aload_n 2, 1) := dop_44 (dn_w dwL0_47 13 rfl)
theorem dL_law_766 : decode cL_law 766 = .ok (.aload_n 0, 1) := dop_42 (dn_w dwL0_47 14 rfl)
theorem dL_law_767 : decode cL_law 767 = .ok (.iload_n 3, 1) := dop_29 (dn_w dwL0_47 15 rfl)
theorem dL_law_768 : decode cL_law 768 = .ok (.iconst 1, 1) := dop_4 (dn_w dwL0_48 0 rfl)
theorem dL_law_769 : decode cL_law 769 = .ok (.iadd, 1) := dop_96 (dn_w dwL0_48 1 rfl)
theorem dL_law_770 : decode cL_law 770 = .ok (.iaload, 1) := dop_46 (dn_w dwL0_48 2 rfl)
theorem dL_law_771 : decode cL_law 771 = .ok (.invokevirtual 93, 3) := dop_182 (dn_w dwL0_48 3 rfl) rfl
theorem dL_law_774 : decode cL_law 774 = .ok (.pop, 1) := dop_87 (dn_w dwL0_48 6 rfl)
theorem dL_law_775 : decode cL_law 775 = .ok (.goto 679, 3) := dop_167 (dn_w dwL0_48 7 rfl) rfl
theorem dL_law_778 : decode cL_law 778 = .ok (.aload_n 1, 1) := dop_43 (dn_w dwL0_48 10 rfl)
theorem dL_law_779 : decode cL_law 779 = .ok (.aload_n 0, 1) := dop_42 (dn_w dwL0_48 11 rfl)
theorem dL_law_780 : decode cL_law 780 = .ok (.iload_n 3, 1) := dop_29 (dn_w dwL0_48 12 rfl)
theorem dL_law_781 : decode cL_law 781 = .ok (.iconst 1, 1) := dop_4 (dn_w dwL0_48 13 rfl)
theorem dL_law_782 : decode cL_law 782 = .ok (.iadd, 1) := dop_96 (dn_w dwL0_48 14 rfl)
theorem dL_law_783 : decode cL_law 783 = .ok (.iaload, 1) := dop_46 (dn_w dwL0_48 15 rfl)
theorem dL_law_784 : decode cL_law 784 = .ok (.aload_n 0, 1) := dop_42 (dn_w dwL0_49 0 rfl)
theorem dL_law_785 : decode cL_law 785 = .ok (.iload_n 3, 1) := dop_29 (dn_w dwL0_49 1 rfl)
theorem dL_law_786 : decode cL_law 786 = .ok (.iconst 2, 1) := dop_5 (dn_w dwL0_49 2 rfl)
theorem dL_law_787 : decode cL_law 787 = .ok (.iadd, 1) := dop_96 (dn_w dwL0_49 3 rfl)
theorem dL_law_788 : decode cL_law 788 = .ok (.iaload, 1) := dop_46 (dn_w dwL0_49 4 rfl)
theorem dL_law_789 : decode cL_law 789 = .ok (.aload_n 0, 1) := dop_42 (dn_w dwL0_49 5 rfl)
theorem dL_law_790 : decode cL_law 790 = .ok (.iload_n 3, 1) := dop_29 (dn_w dwL0_49 6 rfl)
theorem dL_law_791 : decode cL_law 791 = .ok (.iconst 3, 1) := dop_6 (dn_w dwL0_49 7 rfl)
theorem dL_law_792 : decode cL_law 792 = .ok (.iadd, 1) := dop_96 (dn_w dwL0_49 8 rfl)
theorem dL_law_793 : decode cL_law 793 = .ok (.iaload, 1) := dop_46 (dn_w dwL0_49 9 rfl)
theorem dL_law_794 : decode cL_law 794 = .ok (.invokevirtual 94, 3) := dop_182 (dn_w dwL0_49 10 rfl) rfl
theorem dL_law_797 : decode cL_law 797 = .ok (.pop, 1) := dop_87 (dn_w dwL0_49 13 rfl)
theorem dL_law_798 : decode cL_law 798 = .ok (.aload_n 2, 1) := dop_44 (dn_w dwL0_49 14 rfl)
theorem dL_law_799 : decode cL_law 799 = .ok (.aload_n 0, 1) := dop_42 (dn_w dwL0_49 15 rfl)
theorem dL_law_800 : decode cL_law 800 = .ok (.iload_n 3, 1) := dop_29 (dn_w dwL0_50 0 rfl)
theorem dL_law_801 : decode cL_law 801 = .ok (.iconst 1, 1) := dop_4 (dn_w dwL0_50 1 rfl)
theorem dL_law_802 : decode cL_law 802 = .ok (.iadd, 1) := dop_96 (dn_w dwL0_50 2 rfl)
theorem dL_law_803 : decode cL_law 803 = .ok (.iaload, 1) := dop_46 (dn_w dwL0_50 3 rfl)
theorem dL_law_804 : decode cL_law 804 = .ok (.aload_n 0, 1) := dop_42 (dn_w dwL0_50 4 rfl)
theorem dL_law_805 : decode cL_law 805 = .ok (.iload_n 3, 1) := dop_29 (dn_w dwL0_50 5 rfl)
theorem dL_law_806 : decode cL_law 806 = .ok (.iconst 2, 1) := dop_5 (dn_w dwL0_50 6 rfl)
theorem dL_law_807 : decode cL_law 807 = .ok (.iadd, 1) := dop_96 (dn_w dwL0_50 7 rfl)
theorem dL_law_808 : decode cL_law 808 = .ok (.iaload, 1) := dop_46 (dn_w dwL0_50 8 rfl)
theorem dL_law_809 : decode cL_law 809 = .ok (.aload_n 0, 1) := dop_42 (dn_w dwL0_50 9 rfl)
theorem dL_law_810 : decode cL_law 810 = .ok (.iload_n 3, 1) := dop_29 (dn_w dwL0_50 10 rfl)
theorem dL_law_811 : decode cL_law 811 = .ok (.iconst 3, 1) := dop_6 (dn_w dwL0_50 11 rfl)
theorem dL_law_812 : decode cL_law 812 = .ok (.iadd, 1) := dop_96 (dn_w dwL0_50 12 rfl)
theorem dL_law_813 : decode cL_law 813 = .ok (.iaload, 1) := dop_46 (dn_w dwL0_50 13 rfl)
theorem dL_law_814 : decode cL_law 814 = .ok (.invokevirtual 97, 3) := dop_182 (dn_w dwL0_50 14 rfl) rfl
theorem dL_law_817 : decode cL_law 817 = .ok (.pop, 1) := dop_87 (dn_w dwL0_51 1 rfl)
theorem dL_law_818 : decode cL_law 818 = .ok (.goto 636, 3) := dop_167 (dn_w dwL0_51 2 rfl) rfl
theorem dL_law_821 : decode cL_law 821 = .ok (.aload_n 1, 1) := dop_43 (dn_w dwL0_51 5 rfl)
theorem dL_law_822 : decode cL_law 822 = .ok (.aload_n 0, 1) := dop_42 (dn_w dwL0_51 6 rfl)
theorem dL_law_823 : decode cL_law 823 = .ok (.iload_n 3, 1) := dop_29 (dn_w dwL0_51 7 rfl)
theorem dL_law_824 : decode cL_law 824 = .ok (.iconst 1, 1) := dop_4 (dn_w dwL0_51 8 rfl)
theorem dL_law_825 : decode cL_law 825 = .ok (.iadd, 1) := dop_96 (dn_w dwL0_51 9 rfl)
theorem dL_law_826 : decode cL_law 826 = .ok (.iaload, 1) := dop_46 (dn_w dwL0_51 10 rfl)
theorem dL_law_827 : decode cL_law 827 = .ok (.invokevirtual 98, 3) := dop_182 (dn_w dwL0_51 11 rfl) rfl
theorem dL_law_830 : decode cL_law 830 = .ok (.pop, 1) := dop_87 (dn_w dwL0_51 14 rfl)
theorem dL_law_831 : decode cL_law 831 = .ok (.aload_n 2, 1) := dop_44 (dn_w dwL0_51 15 rfl)
theorem dL_law_832 : decode cL_law 832 = .ok (.aload_n 0, 1) := dop_42 (dn_w dwL0_52 0 rfl)
theorem dL_law_833 : decode cL_law 833 = .ok (.iload_n 3, 1) := dop_29 (dn_w dwL0_52 1 rfl)
theorem dL_law_834 : decode cL_law 834 = .ok (.iconst 1, 1) := dop_4 (dn_w dwL0_52 2 rfl)
theorem dL_law_835 : decode cL_law 835 = .ok (.iadd, 1) := dop_96 (dn_w dwL0_52 3 rfl)
theorem dL_law_836 : decode cL_law 836 = .ok (.iaload, 1) := dop_46 (dn_w dwL0_52 4 rfl)
theorem dL_law_837 : decode cL_law 837 = .ok (.invokevirtual 101, 3) := dop_182 (dn_w dwL0_52 5 rfl) rfl
theorem dL_law_840 : decode cL_law 840 = .ok (.pop, 1) := dop_87 (dn_w dwL0_52 8 rfl)
theorem dL_law_841 : decode cL_law 841 = .ok (.goto 613, 3) := dop_167 (dn_w dwL0_52 9 rfl) rfl
theorem dL_law_844 : decode cL_law 844 = .ok (.aload_n 1, 1) := dop_43 (dn_w dwL0_52 12 rfl)
theorem dL_law_845 : decode cL_law 845 = .ok (.aload_n 0, 1) := dop_42 (dn_w dwL0_52 13 rfl)
theorem dL_law_846 : decode cL_law 846 = .ok (.iload_n 3, 1) := dop_29 (dn_w dwL0_52 14 rfl)
theorem dL_law_847 : decode cL_law 847 = .ok (.iconst 1, 1) := dop_4 (dn_w dwL0_52 15 rfl)
theorem dL_law_848 : decode cL_law 848 = .ok (.iadd, 1) := dop_96 (dn_w dwL0_53 0 rfl)
theorem dL_law_849 : decode cL_law 849 = .ok (.iaload, 1) := dop_46 (dn_w dwL0_53 1 rfl)
theorem dL_law_850 : decode cL_law 850 = .ok (.aload_n 0, 1) := dop_42 (dn_w dwL0_53 2 rfl)
theorem dL_law_851 : decode cL_law 851 = .ok (.iload_n 3, 1) := dop_29 (dn_w dwL0_53 3 rfl)
theorem dL_law_852 : decode cL_law 852 = .ok (.iconst 2, 1) := dop_5 (dn_w dwL0_53 4 rfl)
theorem dL_law_853 : decode cL_law 853 = .ok (.iadd, 1) := dop_96 (dn_w dwL0_53 5 rfl)
theorem dL_law_854 : decode cL_law 854 = .ok (.iaload, 1) := dop_46 (dn_w dwL0_53 6 rfl)
theorem dL_law_855 : decode cL_law 855 = .ok (.aload_n 0, 1) := dop_42 (dn_w dwL0_53 7 rfl)
theorem dL_law_856 : decode cL_law 856 = .ok (.iload_n 3, 1) := dop_29 (dn_w dwL0_53 8 rfl)
theorem dL_law_857 : decode cL_law 857 = .ok (.iconst 3, 1) := dop_6 (dn_w dwL0_53 9 rfl)
theorem dL_law_858 : decode cL_law 858 = .ok (.iadd, 1) := dop_96 (dn_w dwL0_53 10 rfl)
theorem dL_law_859 : decode cL_law 859 = .ok (.iaload, 1) := dop_46 (dn_w dwL0_53 11 rfl)
theorem dL_law_860 : decode cL_law 860 = .ok (.invokevirtual 102, 3) := dop_182 (dn_w dwL0_53 12 rfl) rfl
theorem dL_law_863 : decode cL_law 863 = .ok (.pop, 1) := dop_87 (dn_w dwL0_53 15 rfl)
theorem dL_law_864 : decode cL_law 864 = .ok (.aload_n 2, 1) := dop_44 (dn_w dwL0_54 0 rfl)
theorem dL_law_865 : decode cL_law 865 = .ok (.aload_n 0, 1) := dop_42 (dn_w dwL0_54 1 rfl)
theorem dL_law_866 : decode cL_law 866 = .ok (.iload_n 3, 1) := dop_29 (dn_w dwL0_54 2 rfl)
theorem dL_law_867 : decode cL_law 867 = .ok (.iconst 1, 1) := dop_4 (dn_w dwL0_54 3 rfl)
theorem dL_law_868 : decode cL_law 868 = .ok (.iadd, 1) := dop_96 (dn_w dwL0_54 4 rfl)
theorem dL_law_869 : decode cL_law 869 = .ok (.iaload, 1) := dop_46 (dn_w dwL0_54 5 rfl)
theorem dL_law_870 : decode cL_law 870 = .ok (.aload_n 0, 1) := dop_42 (dn_w dwL0_54 6 rfl)
theorem dL_law_871 : decode cL_law 871 = .ok (.iload_n 3, 1) := dop_29 (dn_w dwL0_54 7 rfl)
theorem dL_law_872 : decode cL_law 872 = .ok (.iconst 2, 1) := dop_5 (dn_w dwL0_54 8 rfl)
theorem dL_law_873 : decode cL_law 873 = .ok (.iadd, 1) := dop_96 (dn_w dwL0_54 9 rfl)
theorem dL_law_874 : decode cL_law 874 = .ok (.iaload, 1) := dop_46 (dn_w dwL0_54 10 rfl)
theorem dL_law_875 : decode cL_law 875 = .ok (.aload_n 0, 1) := dop_42 (dn_w dwL0_54 11 rfl)
theorem dL_law_876 : decode cL_law 876 = .ok (.iload_n 3, 1) := dop_29 (dn_w dwL0_54 12 rfl)
theorem dL_law_877 : decode cL_law 877 = .ok (.iconst 3, 1) := dop_6 (dn_w dwL0_54 13 rfl)
theorem dL_law_878 : decode cL_law 878 = .ok (.iadd, 1) := dop_96 (dn_w dwL0_54 14 rfl)
theorem dL_law_879 : decode cL_law 879 = .ok (.iaload, 1) := dop_46 (dn_w dwL0_54 15 rfl)
theorem dL_law_880 : decode cL_law 880 = .ok (.invokevirtual 105, 3) := dop_182 (dn_w dwL0_55 0 rfl) rfl
theorem dL_law_883 : decode cL_law 883 = .ok (.pop, 1) := dop_87 (dn_w dwL0_55 3 rfl)
theorem dL_law_884 : decode cL_law 884 = .ok (.goto 570, 3) := dop_167 (dn_w dwL0_55 4 rfl) rfl
theorem dL_law_887 : decode cL_law 887 = .ok (.aload_n 1, 1) := dop_43 (dn_w dwL0_55 7 rfl)
theorem dL_law_888 : decode cL_law 888 = .ok (.aload_n 0, 1) := dop_42 (dn_w dwL0_55 8 rfl)
theorem dL_law_889 : decode cL_law 889 = .ok (.iload_n 3, 1) := dop_29 (dn_w dwL0_55 9 rfl)
theorem dL_law_890 : decode cL_law 890 = .ok (.iconst 1, 1) := dop_4 (dn_w dwL0_55 10 rfl)
theorem dL_law_891 : decode cL_law 891 = .ok (.iadd, 1) := dop_96 (dn_w dwL0_55 11 rfl)
theorem dL_law_892 : decode cL_law 892 = .ok (.iaload, 1) := dop_46 (dn_w dwL0_55 12 rfl)
theorem dL_law_893 : decode cL_law 893 = .ok (.invokevirtual 106, 3) := dop_182 (dn_w dwL0_55 13 rfl) rfl
theorem dL_law_896 : decode cL_law 896 = .ok (.pop, 1) := dop_87 (dn_w dwL0_56 0 rfl)
theorem dL_law_897 : decode cL_law 897 = .ok (.aload_n 2, 1) := dop_44 (dn_w dwL0_56 1 rfl)
theorem dL_law_898 : decode cL_law 898 = .ok (.aload_n 0, 1) := dop_42 (dn_w dwL0_56 2 rfl)
theorem dL_law_899 : decode cL_law 899 = .ok (.iload_n 3, 1) := dop_29 (dn_w dwL0_56 3 rfl)
theorem dL_law_900 : decode cL_law 900 = .ok (.iconst 1, 1) := dop_4 (dn_w dwL0_56 4 rfl)
theorem dL_law_901 : decode cL_law 901 = .ok (.iadd, 1) := dop_96 (dn_w dwL0_56 5 rfl)
theorem dL_law_902 : decode cL_law 902 = .ok (.iaload, 1) := dop_46 (dn_w dwL0_56 6 rfl)
theorem dL_law_903 : decode cL_law 903 = .ok (.invokevirtual 109, 3) := dop_182 (dn_w dwL0_56 7 rfl) rfl
theorem dL_law_906 : decode cL_law 906 = .ok (.pop, 1) := dop_87 (dn_w dwL0_56 10 rfl)
theorem dL_law_907 : decode cL_law 907 = .ok (.goto 547, 3) := dop_167 (dn_w dwL0_56 11 rfl) rfl
theorem dL_law_910 : decode cL_law 910 = .ok (.aload_n 1, 1) := dop_43 (dn_w dwL0_56 14 rfl)
theorem dL_law_911 : decode cL_law 911 = .ok (.aload_n 0, 1) := dop_42 (dn_w dwL0_56 15 rfl)
theorem dL_law_912 : decode cL_law 912 = .ok (.iload_n 3, 1) := dop_29 (dn_w dwL0_57 0 rfl)
theorem dL_law_913 : decode cL_law 913 = .ok (.iconst 1, 1) := dop_4 (dn_w dwL0_57 1 rfl)
theorem dL_law_914 : decode cL_law 914 = .ok (.iadd, 1) := dop_96 (dn_w dwL0_57 2 rfl)
theorem dL_law_915 : decode cL_law 915 = .ok (.iaload, 1) := dop_46 (dn_w dwL0_57 3 rfl)
theorem dL_law_916 : decode cL_law 916 = .ok (.invokevirtual 110, 3) := dop_182 (dn_w dwL0_57 4 rfl) rfl
theorem dL_law_919 : decode cL_law 919 = .ok (.pop, 1) := dop_87 (dn_w dwL0_57 7 rfl)
theorem dL_law_920 : decode cL_law 920 = .ok (.aload_n 2, 1) := dop_44 (dn_w dwL0_57 8 rfl)
theorem dL_law_921 : decode cL_law 921 = .ok (.aload_n 0, 1) := dop_42 (dn_w dwL0_57 9 rfl)
theorem dL_law_922 : decode cL_law 922 = .ok (.iload_n 3, 1) := dop_29 (dn_w dwL0_57 10 rfl)
theorem dL_law_923 : decode cL_law 923 = .ok (.iconst 1, 1) := dop_4 (dn_w dwL0_57 11 rfl)
theorem dL_law_924 : decode cL_law 924 = .ok (.iadd, 1) := dop_96 (dn_w dwL0_57 12 rfl)
theorem dL_law_925 : decode cL_law 925 = .ok (.iaload, 1) := dop_46 (dn_w dwL0_57 13 rfl)
theorem dL_law_926 : decode cL_law 926 = .ok (.invokevirtual 113, 3) := dop_182 (dn_w dwL0_57 14 rfl) rfl
theorem dL_law_929 : decode cL_law 929 = .ok (.pop, 1) := dop_87 (dn_w dwL0_58 1 rfl)
theorem dL_law_930 : decode cL_law 930 = .ok (.goto 524, 3) := dop_167 (dn_w dwL0_58 2 rfl) rfl
theorem dL_law_933 : decode cL_law 933 = .ok (.aload_n 1, 1) := dop_43 (dn_w dwL0_58 5 rfl)
theorem dL_law_934 : decode cL_law 934 = .ok (.aload_n 0, 1) := dop_42 (dn_w dwL0_58 6 rfl)
theorem dL_law_935 : decode cL_law 935 = .ok (.iload_n 3, 1) := dop_29 (dn_w dwL0_58 7 rfl)
theorem dL_law_936 : decode cL_law 936 = .ok (.iconst 1, 1) := dop_4 (dn_w dwL0_58 8 rfl)
theorem dL_law_937 : decode cL_law 937 = .ok (.iadd, 1) := dop_96 (dn_w dwL0_58 9 rfl)
theorem dL_law_938 : decode cL_law 938 = .ok (.iaload, 1) := dop_46 (dn_w dwL0_58 10 rfl)
theorem dL_law_939 : decode cL_law 939 = .ok (.invokevirtual 114, 3) := dop_182 (dn_w dwL0_58 11 rfl) rfl
theorem dL_law_942 : decode cL_law 942 = .ok (.pop, 1) := dop_87 (dn_w dwL0_58 14 rfl)
theorem dL_law_943 : decode cL_law 943 = .ok (.aload_n 2, 1) := dop_44 (dn_w dwL0_58 15 rfl)
theorem dL_law_944 : decode cL_law 944 = .ok (.aload_n 0, 1) := dop_42 (dn_w dwL0_59 0 rfl)
theorem dL_law_945 : decode cL_law 945 = .ok (.iload_n 3, 1) := dop_29 (dn_w dwL0_59 1 rfl)
theorem dL_law_946 : decode cL_law 946 = .ok (.iconst 1, 1) := dop_4 (dn_w dwL0_59 2 rfl)
theorem dL_law_947 : decode cL_law 947 = .ok (.iadd, 1) := dop_96 (dn_w dwL0_59 3 rfl)
theorem dL_law_948 : decode cL_law 948 = .ok (.iaload, 1) := dop_46 (dn_w dwL0_59 4 rfl)
theorem dL_law_949 : decode cL_law 949 = .ok (.invokevirtual 117, 3) := dop_182 (dn_w dwL0_59 5 rfl) rfl
theorem dL_law_952 : decode cL_law 952 = .ok (.pop, 1) := dop_87 (dn_w dwL0_59 8 rfl)
theorem dL_law_953 : decode cL_law 953 = .ok (.goto 501, 3) := dop_167 (dn_w dwL0_59 9 rfl) rfl
theorem dL_law_956 : decode cL_law 956 = .ok (.aload_n 1, 1) := dop_43 (dn_w dwL0_59 12 rfl)
theorem dL_law_957 : decode cL_law 957 = .ok (.invokevirtual 118, 3) := dop_182 (dn_w dwL0_59 13 rfl) rfl
theorem dL_law_960 : decode cL_law 960 = .ok (.pop, 1) := dop_87 (dn_w dwL0_60 0 rfl)
theorem dL_law_961 : decode cL_law 961 = .ok (.aload_n 2, 1) := dop_44 (dn_w dwL0_60 1 rfl)
theorem dL_law_962 : decode cL_law 962 = .ok (.invokevirtual 121, 3) := dop_182 (dn_w dwL0_60 2 rfl) rfl
theorem dL_law_965 : decode cL_law 965 = .ok (.pop, 1) := dop_87 (dn_w dwL0_60 5 rfl)
theorem dL_law_966 : decode cL_law 966 = .ok (.goto 488, 3) := dop_167 (dn_w dwL0_60 6 rfl) rfl
theorem dL_law_969 : decode cL_law 969 = .ok (.aload_n 1, 1) := dop_43 (dn_w dwL0_60 9 rfl)
theorem dL_law_970 : decode cL_law 970 = .ok (.aload_n 0, 1) := dop_42 (dn_w dwL0_60 10 rfl)
theorem dL_law_971 : decode cL_law 971 = .ok (.iload_n 3, 1) := dop_29 (dn_w dwL0_60 11 rfl)
theorem dL_law_972 : decode cL_law 972 = .ok (.iconst 1, 1) := dop_4 (dn_w dwL0_60 12 rfl)
theorem dL_law_973 : decode cL_law 973 = .ok (.iadd, 1) := dop_96 (dn_w dwL0_60 13 rfl)
theorem dL_law_974 : decode cL_law 974 = .ok (.iaload, 1) := dop_46 (dn_w dwL0_60 14 rfl)
theorem dL_law_975 : decode cL_law 975 = .ok (.invokevirtual 122, 3) := dop_182 (dn_w dwL0_60 15 rfl) rfl
theorem dL_law_978 : decode cL_law 978 = .ok (.pop, 1) := dop_87 (dn_w dwL0_61 2 rfl)
theorem dL_law_979 : decode cL_law 979 = .ok (.aload_n 2, 1) := dop_44 (dn_w dwL0_61 3 rfl)
theorem dL_law_980 : decode cL_law 980 = .ok (.aload_n 0, 1) := dop_42 (dn_w dwL0_61 4 rfl)
theorem dL_law_981 : decode cL_law 981 = .ok (.iload_n 3, 1) := dop_29 (dn_w dwL0_61 5 rfl)
theorem dL_law_982 : decode cL_law 982 = .ok (.iconst 1, 1) := dop_4 (dn_w dwL0_61 6 rfl)
theorem dL_law_983 : decode cL_law 983 = .ok (.iadd, 1) := dop_96 (dn_w dwL0_61 7 rfl)
theorem dL_law_984 : decode cL_law 984 = .ok (.iaload, 1) := dop_46 (dn_w dwL0_61 8 rfl)
theorem dL_law_985 : decode cL_law 985 = .ok (.invokevirtual 125, 3) := dop_182 (dn_w dwL0_61 9 rfl) rfl
theorem dL_law_988 : decode cL_law 988 = .ok (.pop, 1) := dop_87 (dn_w dwL0_61 12 rfl)
theorem dL_law_989 : decode cL_law 989 = .ok (.goto 465, 3) := dop_167 (dn_w dwL0_61 13 rfl) rfl
theorem dL_law_992 : decode cL_law 992 = .ok (.aload_n 1, 1) := dop_43 (dn_w dwL0_62 0 rfl)
theorem dL_law_993 : decode cL_law 993 = .ok (.aload_n 0, 1) := dop_42 (dn_w dwL0_62 1 rfl)
theorem dL_law_994 : decode cL_law 994 = .ok (.iload_n 3, 1) := dop_29 (dn_w dwL0_62 2 rfl)
theorem dL_law_995 : decode cL_law 995 = .ok (.iconst 1, 1) := dop_4 (dn_w dwL0_62 3 rfl)
theorem dL_law_996 : decode cL_law 996 = .ok (.iadd, 1) := dop_96 (dn_w dwL0_62 4 rfl)
theorem dL_law_997 : decode cL_law 997 = .ok (.iaload, 1) := dop_46 (dn_w dwL0_62 5 rfl)
theorem dL_law_998 : decode cL_law 998 = .ok (.aload_n 0, 1) := dop_42 (dn_w dwL0_62 6 rfl)
theorem dL_law_999 : decode cL_law 999 = .ok (.iload_n 3, 1) := dop_29 (dn_w dwL0_62 7 rfl)
theorem dL_law_1000 : decode cL_law 1000 = .ok (.iconst 2, 1) := dop_5 (dn_w dwL0_62 8 rfl)
theorem dL_law_1001 : decode cL_law 1001 = .ok (.iadd, 1) := dop_96 (dn_w dwL0_62 9 rfl)
theorem dL_law_1002 : decode cL_law 1002 = .ok (.iaload, 1) := dop_46 (dn_w dwL0_62 10 rfl)
theorem dL_law_1003 : decode cL_law 1003 = .ok (.invokevirtual 126, 3) := dop_182 (dn_w dwL0_62 11 rfl) rfl
theorem dL_law_1006 : decode cL_law 1006 = .ok (.pop, 1) := dop_87 (dn_w dwL0_62 14 rfl)
theorem dL_law_1007 : decode cL_law 1007 = .ok (.aload_n 2, 1) := dop_44 (dn_w dwL0_62 15 rfl)
theorem dL_law_1008 : decode cL_law 1008 = .ok (.aload_n 0, 1) := dop_42 (dn_w dwL0_63 0 rfl)
theorem dL_law_1009 : decode cL_law 1009 = .ok (.iload_n 3, 1) := dop_29 (dn_w dwL0_63 1 rfl)
theorem dL_law_1010 : decode cL_law 1010 = .ok (.iconst 1, 1) := dop_4 (dn_w dwL0_63 2 rfl)
theorem dL_law_1011 : decode cL_law 1011 = .ok (.iadd, 1) := dop_96 (dn_w dwL0_63 3 rfl)
theorem dL_law_1012 : decode cL_law 1012 = .ok (.iaload, 1) := dop_46 (dn_w dwL0_63 4 rfl)
theorem dL_law_1013 : decode cL_law 1013 = .ok (.aload_n 0, 1) := dop_42 (dn_w dwL0_63 5 rfl)
theorem dL_law_1014 : decode cL_law 1014 = .ok (.iload_n 3, 1) := dop_29 (dn_w dwL0_63 6 rfl)
theorem dL_law_1015 : decode cL_law 1015 = .ok (.iconst 2, 1) := dop_5 (dn_w dwL0_63 7 rfl)
theorem dL_law_1016 : decode cL_law 1016 = .ok (.iadd, 1) := dop_96 (dn_w dwL0_63 8 rfl)
theorem dL_law_1017 : decode cL_law 1017 = .ok (.iaload, 1) := dop_46 (dn_w dwL0_63 9 rfl)
theorem dL_law_1018 : decode cL_law 1018 = .ok (.invokevirtual 129, 3) := dop_182 (dn_w dwL0_63 10 rfl) rfl
theorem dL_law_1021 : decode cL_law 1021 = .ok (.pop, 1) := dop_87 (dn_w dwL0_63 13 rfl)
theorem dL_law_1022 : decode cL_law 1022 = .ok (.goto 432, 3) := dop_167 (dn_w dwL0_63 14 rfl) rfl
theorem dL_law_1025 : decode cL_law 1025 = .ok (.aload_n 1, 1) := dop_43 (dn_w dwL0_64 1 rfl)
theorem dL_law_1026 : decode cL_law 1026 = .ok (.aload_n 0, 1) := dop_42 (dn_w dwL0_64 2 rfl)
theorem dL_law_1027 : decode cL_law 1027 = .ok (.iload_n 3, 1) := dop_29 (dn_w dwL0_64 3 rfl)
theorem dL_law_1028 : decode cL_law 1028 = .ok (.iconst 1, 1) := dop_4 (dn_w dwL0_64 4 rfl)
theorem dL_law_1029 : decode cL_law 1029 = .ok (.iadd, 1) := dop_96 (dn_w dwL0_64 5 rfl)
theorem dL_law_1030 : decode cL_law 1030 = .ok (.iaload, 1) := dop_46 (dn_w dwL0_64 6 rfl)
theorem dL_law_1031 : decode cL_law 1031 = .ok (.aload_n 0, 1) := dop_42 (dn_w dwL0_64 7 rfl)
theorem dL_law_1032 : decode cL_law 1032 = .ok (.iload_n 3, 1) := dop_29 (dn_w dwL0_64 8 rfl)
theorem dL_law_1033 : decode cL_law 1033 = .ok (.iconst 2, 1) := dop_5 (dn_w dwL0_64 9 rfl)
theorem dL_law_1034 : decode cL_law 1034 = .ok (.iadd, 1) := dop_96 (dn_w dwL0_64 10 rfl)
theorem dL_law_1035 : decode cL_law 1035 = .ok (.iaload, 1) := dop_46 (dn_w dwL0_64 11 rfl)
theorem dL_law_1036 : decode cL_law 1036 = .ok (.aload_n 0, 1) := dop_42 (dn_w dwL0_64 12 rfl)
theorem dL_law_1037 : decode cL_law 1037 = .ok (.iload_n 3, 1) := dop_29 (dn_w dwL0_64 13 rfl)
theorem dL_law_1038 : decode cL_law 1038 = .ok (.iconst 3, 1) := dop_6 (dn_w dwL0_64 14 rfl)
theorem dL_law_1039 : decode cL_law 1039 = .ok (.iadd, 1) := dop_96 (dn_w dwL0_64 15 rfl)
theorem dL_law_1040 : decode cL_law 1040 = .ok (.iaload, 1) := dop_46 (dn_w dwL0_65 0 rfl)
theorem dL_law_1041 : decode cL_law 1041 = .ok (.invokevirtual 130, 3) := dop_182 (dn_w dwL0_65 1 rfl) rfl
theorem dL_law_1044 : decode cL_law 1044 = .ok (.aload_n 2, 1) := dop_44 (dn_w dwL0_65 4 rfl)
theorem dL_law_1045 : decode cL_law 1045 = .ok (.aload_n 0, 1) := dop_42 (dn_w dwL0_65 5 rfl)
theorem dL_law_1046 : decode cL_law 1046 = .ok (.iload_n 3, 1) := dop_29 (dn_w dwL0_65 6 rfl)
theorem dL_law_1047 : decode cL_law 1047 = .ok (.iconst 1, 1) := dop_4 (dn_w dwL0_65 7 rfl)
theorem dL_law_1048 : decode cL_law 1048 = .ok (.iadd, 1) := dop_96 (dn_w dwL0_65 8 rfl)
theorem dL_law_1049 : decode cL_law 1049 = .ok (.iaload, 1) := dop_46 (dn_w dwL0_65 9 rfl)
theorem dL_law_1050 : decode cL_law 1050 = .ok (.aload_n 0, 1) := dop_42 (dn_w dwL0_65 10 rfl)
theorem dL_law_1051 : decode cL_law 1051 = .ok (.iload_n 3, 1) := dop_29 (dn_w dwL0_65 11 rfl)
theorem dL_law_1052 : decode cL_law 1052 = .ok (.iconst 2, 1) := dop_5 (dn_w dwL0_65 12 rfl)
theorem dL_law_1053 : decode cL_law 1053 = .ok (.iadd, 1) := dop_96 (dn_w dwL0_65 13 rfl)
theorem dL_law_1054 : decode cL_law 1054 = .ok (.iaload, 1) := dop_46 (dn_w dwL0_65 14 rfl)
theorem dL_law_1055 : decode cL_law 1055 = .ok (.aload_n 0, 1) := dop_42 (dn_w dwL0_65 15 rfl)
theorem dL_law_1056 : decode cL_law 1056 = .ok (.iload_n 3, 1) := dop_29 (dn_w dwL0_66 0 rfl)
theorem dL_law_1057 : decode cL_law 1057 = .ok (.iconst 3, 1) := dop_6 (dn_w dwL0_66 1 rfl)
theorem dL_law_1058 : decode cL_law 1058 = .ok (.iadd, 1) := dop_96 (dn_w dwL0_66 2 rfl)
theorem dL_law_1059 : decode cL_law 1059 = .ok (.iaload, 1) := dop_46 (dn_w dwL0_66 3 rfl)
theorem dL_law_1060 : decode cL_law 1060 = .ok (.invokevirtual 133, 3) := dop_182 (dn_w dwL0_66 4 rfl) rfl
theorem dL_law_1063 : decode cL_law 1063 = .ok (.if_icmp .eq 391, 3) := dop_159 (dn_w dwL0_66 7 rfl) rfl
theorem dL_law_1066 : decode cL_law 1066 = .ok (.iconst 0, 1) := dop_3 (dn_w dwL0_66 10 rfl)
theorem dL_law_1067 : decode cL_law 1067 = .ok (.ireturn, 1) := dop_172 (dn_w dwL0_66 11 rfl)
theorem dL_law_1068 : decode cL_law 1068 = .ok (.aload_n 1, 1) := dop_43 (dn_w dwL0_66 12 rfl)
theorem dL_law_1069 : decode cL_law 1069 = .ok (.invokevirtual 134, 3) := dop_182 (dn_w dwL0_66 13 rfl) rfl
theorem dL_law_1072 : decode cL_law 1072 = .ok (.pop, 1) := dop_87 (dn_w dwL0_67 0 rfl)
theorem dL_law_1073 : decode cL_law 1073 = .ok (.aload_n 2, 1) := dop_44 (dn_w dwL0_67 1 rfl)
theorem dL_law_1074 : decode cL_law 1074 = .ok (.invokevirtual 137, 3) := dop_182 (dn_w dwL0_67 2 rfl) rfl
theorem dL_law_1077 : decode cL_law 1077 = .ok (.pop, 1) := dop_87 (dn_w dwL0_67 5 rfl)
theorem dL_law_1078 : decode cL_law 1078 = .ok (.goto 376, 3) := dop_167 (dn_w dwL0_67 6 rfl) rfl
theorem dL_law_1081 : decode cL_law 1081 = .ok (.aload_n 1, 1) := dop_43 (dn_w dwL0_67 9 rfl)
theorem dL_law_1082 : decode cL_law 1082 = .ok (.aload_n 0, 1) := dop_42 (dn_w dwL0_67 10 rfl)
theorem dL_law_1083 : decode cL_law 1083 = .ok (.iload_n 3, 1) := dop_29 (dn_w dwL0_67 11 rfl)
theorem dL_law_1084 : decode cL_law 1084 = .ok (.iconst 1, 1) := dop_4 (dn_w dwL0_67 12 rfl)
theorem dL_law_1085 : decode cL_law 1085 = .ok (.iadd, 1) := dop_96 (dn_w dwL0_67 13 rfl)
theorem dL_law_1086 : decode cL_law 1086 = .ok (.iaload, 1) := dop_46 (dn_w dwL0_67 14 rfl)
theorem dL_law_1087 : decode cL_law 1087 = .ok (.aload_n 0, 1) := dop_42 (dn_w dwL0_67 15 rfl)
theorem dL_law_1088 : decode cL_law 1088 = .ok (.iload_n 3, 1) := dop_29 (dn_w dwL0_68 0 rfl)
theorem dL_law_1089 : decode cL_law 1089 = .ok (.iconst 2, 1) := dop_5 (dn_w dwL0_68 1 rfl)
theorem dL_law_1090 : decode cL_law 1090 = .ok (.iadd, 1) := dop_96 (dn_w dwL0_68 2 rfl)
theorem dL_law_1091 : decode cL_law 1091 = .ok (.iaload, 1) := dop_46 (dn_w dwL0_68 3 rfl)
theorem dL_law_1092 : decode cL_law 1092 = .ok (.aload_n 0, 1) := dop_42 (dn_w dwL0_68 4 rfl)
theorem dL_law_1093 : decode cL_law 1093 = .ok (.iload_n 3, 1) := dop_29 (dn_w dwL0_68 5 rfl)
theorem dL_law_1094 : decode cL_law 1094 = .ok (.iconst 3, 1) := dop_6 (dn_w dwL0_68 6 rfl)
theorem dL_law_1095 : decode cL_law 1095 = .ok (.iadd, 1) := dop_96 (dn_w dwL0_68 7 rfl)
theorem dL_law_1096 : decode cL_law 1096 = .ok (.iaload, 1) := dop_46 (dn_w dwL0_68 8 rfl)
theorem dL_law_1097 : decode cL_law 1097 = .ok (.aload_n 0, 1) := dop_42 (dn_w dwL0_68 9 rfl)
theorem dL_law_1098 : decode cL_law 1098 = .ok (.iload_n 3, 1) := dop_29 (dn_w dwL0_68 10 rfl)
theorem dL_law_1099 : decode cL_law 1099 = .ok (.iconst 4, 1) := dop_7 (dn_w dwL0_68 11 rfl)
theorem dL_law_1100 : decode cL_law 1100 = .ok (.iadd, 1) := dop_96 (dn_w dwL0_68 12 rfl)
theorem dL_law_1101 : decode cL_law 1101 = .ok (.iaload, 1) := dop_46 (dn_w dwL0_68 13 rfl)
theorem dL_law_1102 : decode cL_law 1102 = .ok (.invokevirtual 138, 3) := dop_182 (dn_w dwL0_68 14 rfl) rfl
theorem dL_law_1105 : decode cL_law 1105 = .ok (.pop, 1) := dop_87 (dn_w dwL0_69 1 rfl)
theorem dL_law_1106 : decode cL_law 1106 = .ok (.aload_n 2, 1) := dop_44 (dn_w dwL0_69 2 rfl)
theorem dL_law_1107 : decode cL_law 1107 = .ok (.aload_n 0, 1) := dop_42 (dn_w dwL0_69 3 rfl)
theorem dL_law_1108 : decode cL_law 1108 = .ok (.iload_n 3, 1) := dop_29 (dn_w dwL0_69 4 rfl)
theorem dL_law_1109 : decode cL_law 1109 = .ok (.iconst 1, 1) := dop_4 (dn_w dwL0_69 5 rfl)
theorem dL_law_1110 : decode cL_law 1110 = .ok (.iadd, 1) := dop_96 (dn_w dwL0_69 6 rfl)
theorem dL_law_1111 : decode cL_law 1111 = .ok (.iaload, 1) := dop_46 (dn_w dwL0_69 7 rfl)
theorem dL_law_1112 : decode cL_law 1112 = .ok (.aload_n 0, 1) := dop_42 (dn_w dwL0_69 8 rfl)
theorem dL_law_1113 : decode cL_law 1113 = .ok (.iload_n 3, 1) := dop_29 (dn_w dwL0_69 9 rfl)
theorem dL_law_1114 : decode cL_law 1114 = .ok (.iconst 2, 1) := dop_5 (dn_w dwL0_69 10 rfl)
theorem dL_law_1115 : decode cL_law 1115 = .ok (.iadd, 1) := dop_96 (dn_w dwL0_69 11 rfl)
theorem dL_law_1116 : decode cL_law 1116 = .ok (.iaload, 1) := dop_46 (dn_w dwL0_69 12 rfl)
theorem dL_law_1117 : decode cL_law 1117 = .ok (.aload_n 0, 1) := dop_42 (dn_w dwL0_69 13 rfl)
theorem dL_law_1118 : decode cL_law 1118 = .ok (.iload_n 3, 1) := dop_29 (dn_w dwL0_69 14 rfl)
theorem dL_law_1119 : decode cL_law 1119 = .ok (.iconst 3, 1) := dop_6 (dn_w dwL0_69 15 rfl)
theorem dL_law_1120 : decode cL_law 1120 = .ok (.iadd, 1) := dop_96 (dn_w dwL0_70 0 rfl)
theorem dL_law_1121 : decode cL_law 1121 = .ok (.iaload, 1) := dop_46 (dn_w dwL0_70 1 rfl)
theorem dL_law_1122 : decode cL_law 1122 = .ok (.aload_n 0, 1) := dop_42 (dn_w dwL0_70 2 rfl)
theorem dL_law_1123 : decode cL_law 1123 = .ok (.iload_n 3, 1) := dop_29 (dn_w dwL0_70 3 rfl)
theorem dL_law_1124 : decode cL_law 1124 = .ok (.iconst 4, 1) := dop_7 (dn_w dwL0_70 4 rfl)
theorem dL_law_1125 : decode cL_law 1125 = .ok (.iadd, 1) := dop_96 (dn_w dwL0_70 5 rfl)
theorem dL_law_1126 : decode cL_law 1126 = .ok (.iaload, 1) := dop_46 (dn_w dwL0_70 6 rfl)
theorem dL_law_1127 : decode cL_law 1127 = .ok (.invokevirtual 141, 3) := dop_182 (dn_w dwL0_70 7 rfl) rfl
theorem dL_law_1130 : decode cL_law 1130 = .ok (.pop, 1) := dop_87 (dn_w dwL0_70 10 rfl)
theorem dL_law_1131 : decode cL_law 1131 = .ok (.goto 323, 3) := dop_167 (dn_w dwL0_70 11 rfl) rfl
theorem dL_law_1134 : decode cL_law 1134 = .ok (.aload_n 1, 1) := dop_43 (dn_w dwL0_70 14 rfl)
theorem dL_law_1135 : decode cL_law 1135 = .ok (.aload_n 0, 1) := dop_42 (dn_w dwL0_70 15 rfl)
theorem dL_law_1136 : decode cL_law 1136 = .ok (.iload_n 3, 1) := dop_29 (dn_w dwL0_71 0 rfl)
theorem dL_law_1137 : decode cL_law 1137 = .ok (.iconst 1, 1) := dop_4 (dn_w dwL0_71 1 rfl)
theorem dL_law_1138 : decode cL_law 1138 = .ok (.iadd, 1) := dop_96 (dn_w dwL0_71 2 rfl)
theorem dL_law_1139 : decode cL_law 1139 = .ok (.iaload, 1) := dop_46 (dn_w dwL0_71 3 rfl)
theorem dL_law_1140 : decode cL_law 1140 = .ok (.aload_n 0, 1) := dop_42 (dn_w dwL0_71 4 rfl)
theorem dL_law_1141 : decode cL_law 1141 = .ok (.iload_n 3, 1) := dop_29 (dn_w dwL0_71 5 rfl)
theorem dL_law_1142 : decode cL_law 1142 = .ok (.iconst 2, 1) := dop_5 (dn_w dwL0_71 6 rfl)
theorem dL_law_1143 : decode cL_law 1143 = .ok (.iadd, 1) := dop_96 (dn_w dwL0_71 7 rfl)
theorem dL_law_1144 : decode cL_law 1144 = .ok (.iaload, 1) := dop_46 (dn_w dwL0_71 8 rfl)
theorem dL_law_1145 : decode cL_law 1145 = .ok (.aload_n 0, 1) := dop_42 (dn_w dwL0_71 9 rfl)
theorem dL_law_1146 : decode cL_law 1146 = .ok (.iload_n 3, 1) := dop_29 (dn_w dwL0_71 10 rfl)
theorem dL_law_1147 : decode cL_law 1147 = .ok (.iconst 3, 1) := dop_6 (dn_w dwL0_71 11 rfl)
theorem dL_law_1148 : decode cL_law 1148 = .ok (.iadd, 1) := dop_96 (dn_w dwL0_71 12 rfl)
theorem dL_law_1149 : decode cL_law 1149 = .ok (.iaload, 1) := dop_46 (dn_w dwL0_71 13 rfl)
theorem dL_law_1150 : decode cL_law 1150 = .ok (.invokevirtual 142, 3) := dop_182 (dn_w dwL0_71 14 rfl) rfl
theorem dL_law_1153 : decode cL_law 1153 = .ok (.pop, 1) := dop_87 (dn_w dwL0_72 1 rfl)
theorem dL_law_1154 : decode cL_law 1154 = .ok (.aload_n 2, 1) := dop_44 (dn_w dwL0_72 2 rfl)
theorem dL_law_1155 : decode cL_law 1155 = .ok (.aload_n 0, 1) := dop_42 (dn_w dwL0_72 3 rfl)
theorem dL_law_1156 : decode cL_law 1156 = .ok (.iload_n 3, 1) := dop_29 (dn_w dwL0_72 4 rfl)
theorem dL_law_1157 : decode cL_law 1157 = .ok (.iconst 1, 1) := dop_4 (dn_w dwL0_72 5 rfl)
theorem dL_law_1158 : decode cL_law 1158 = .ok (.iadd, 1) := dop_96 (dn_w dwL0_72 6 rfl)
theorem dL_law_1159 : decode cL_law 1159 = .ok (.iaload, 1) := dop_46 (dn_w dwL0_72 7 rfl)
theorem dL_law_1160 : decode cL_law 1160 = .ok (.aload_n 0, 1) := dop_42 (dn_w dwL0_72 8 rfl)
theorem dL_law_1161 : decode cL_law 1161 = .ok (.iload_n 3, 1) := dop_29 (dn_w dwL0_72 9 rfl)
theorem dL_law_1162 : decode cL_law 1162 = .ok (.iconst 2, 1) := dop_5 (dn_w dwL0_72 10 rfl)
theorem dL_law_1163 : decode cL_law 1163 = .ok (.iadd, 1) := dop_96 (dn_w dwL0_72 11 rfl)
theorem dL_law_1164 : decode cL_law 1164 = .ok (.iaload, 1) := dop_46 (dn_w dwL0_72 12 rfl)
theorem dL_law_1165 : decode cL_law 1165 = .ok (.aload_n 0, 1) := dop_42 (dn_w dwL0_72 13 rfl)
theorem dL_law_1166 : decode cL_law 1166 = .ok (.iload_n 3, 1) := dop_29 (dn_w dwL0_72 14 rfl)
theorem dL_law_1167 : decode cL_law 1167 = .ok (.iconst 3, 1) := dop_6 (dn_w dwL0_72 15 rfl)
theorem dL_law_1168 : decode cL_law 1168 = .ok (.iadd, 1) := dop_96 (dn_w dwL0_73 0 rfl)
theorem dL_law_1169 : decode cL_law 1169 = .ok (.iaload, 1) := dop_46 (dn_w dwL0_73 1 rfl)
theorem dL_law_1170 : decode cL_law 1170 = .ok (.invokevirtual 145, 3) := dop_182 (dn_w dwL0_73 2 rfl) rfl
theorem dL_law_1173 : decode cL_law 1173 = .ok (.pop, 1) := dop_87 (dn_w dwL0_73 5 rfl)
theorem dL_law_1174 : decode cL_law 1174 = .ok (.goto 280, 3) := dop_167 (dn_w dwL0_73 6 rfl) rfl
theorem dL_law_1177 : decode cL_law 1177 = .ok (.aload_n 1, 1) := dop_43 (dn_w dwL0_73 9 rfl)
theorem dL_law_1178 : decode cL_law 1178 = .ok (.aload_n 0, 1) := dop_42 (dn_w dwL0_73 10 rfl)
theorem dL_law_1179 : decode cL_law 1179 = .ok (.iload_n 3, 1) := dop_29 (dn_w dwL0_73 11 rfl)
theorem dL_law_1180 : decode cL_law 1180 = .ok (.iconst 1, 1) := dop_4 (dn_w dwL0_73 12 rfl)
theorem dL_law_1181 : decode cL_law 1181 = .ok (.iadd, 1) := dop_96 (dn_w dwL0_73 13 rfl)
theorem dL_law_1182 : decode cL_law 1182 = .ok (.iaload, 1) := dop_46 (dn_w dwL0_73 14 rfl)
theorem dL_law_1183 : decode cL_law 1183 = .ok (.aload_n 0, 1) := dop_42 (dn_w dwL0_73 15 rfl)
theorem dL_law_1184 : decode cL_law 1184 = .ok (.iload_n 3, 1) := dop_29 (dn_w dwL0_74 0 rfl)
theorem dL_law_1185 : decode cL_law 1185 = .ok (.iconst 2, 1) := dop_5 (dn_w dwL0_74 1 rfl)
theorem dL_law_1186 : decode cL_law 1186 = .ok (.iadd, 1) := dop_96 (dn_w dwL0_74 2 rfl)
theorem dL_law_1187 : decode cL_law 1187 = .ok (.iaload, 1) := dop_46 (dn_w dwL0_74 3 rfl)
theorem dL_law_1188 : decode cL_law 1188 = .ok (.aload_n 0, 1) := dop_42 (dn_w dwL0_74 4 rfl)
theorem dL_law_1189 : decode cL_law 1189 = .ok (.iload_n 3, 1) := dop_29 (dn_w dwL0_74 5 rfl)
theorem dL_law_1190 : decode cL_law 1190 = .ok (.iconst 3, 1) := dop_6 (dn_w dwL0_74 6 rfl)
theorem dL_law_1191 : decode cL_law 1191 = .ok (.iadd, 1) := dop_96 (dn_w dwL0_74 7 rfl)
theorem dL_law_1192 : decode cL_law 1192 = .ok (.iaload, 1) := dop_46 (dn_w dwL0_74 8 rfl)
theorem dL_law_1193 : decode cL_law 1193 = .ok (.invokevirtual 146, 3) := dop_182 (dn_w dwL0_74 9 rfl) rfl
theorem dL_law_1196 : decode cL_law 1196 = .ok (.pop, 1) := dop_87 (dn_w dwL0_74 12 rfl)
theorem dL_law_1197 : decode cL_law 1197 = .ok (.aload_n 2, 1) := dop_44 (dn_w dwL0_74 13 rfl)
theorem dL_law_1198 : decode cL_law 1198 = .ok (.aload_n 0, 1) := dop_42 (dn_w dwL0_74 14 rfl)
theorem dL_law_1199 : decode cL_law 1199 = .ok (.iload_n 3, 1) := dop_29 (dn_w dwL0_74 15 rfl)
theorem dL_law_1200 : decode cL_law 1200 = .ok (.iconst 1, 1) := dop_4 (dn_w dwL0_75 0 rfl)
theorem dL_law_1201 : decode cL_law 1201 = .ok (.iadd, 1) := dop_96 (dn_w dwL0_75 1 rfl)
theorem dL_law_1202 : decode cL_law 1202 = .ok (.iaload, 1) := dop_46 (dn_w dwL0_75 2 rfl)
theorem dL_law_1203 : decode cL_law 1203 = .ok (.aload_n 0, 1) := dop_42 (dn_w dwL0_75 3 rfl)
theorem dL_law_1204 : decode cL_law 1204 = .ok (.iload_n 3, 1) := dop_29 (dn_w dwL0_75 4 rfl)
theorem dL_law_1205 : decode cL_law 1205 = .ok (.iconst 2, 1) := dop_5 (dn_w dwL0_75 5 rfl)
theorem dL_law_1206 : decode cL_law 1206 = .ok (.iadd, 1) := dop_96 (dn_w dwL0_75 6 rfl)
theorem dL_law_1207 : decode cL_law 1207 = .ok (.iaload, 1) := dop_46 (dn_w dwL0_75 7 rfl)
theorem dL_law_1208 : decode cL_law 1208 = .ok (.aload_n 0, 1) := dop_42 (dn_w dwL0_75 8 rfl)
theorem dL_law_1209 : decode cL_law 1209 = .ok (.iload_n 3, 1) := dop_29 (dn_w dwL0_75 9 rfl)
theorem dL_law_1210 : decode cL_law 1210 = .ok (.iconst 3, 1) := dop_6 (dn_w dwL0_75 10 rfl)
theorem dL_law_1211 : decode cL_law 1211 = .ok (.iadd, 1) := dop_96 (dn_w dwL0_75 11 rfl)
theorem dL_law_1212 : decode cL_law 1212 = .ok (.iaload, 1) := dop_46 (dn_w dwL0_75 12 rfl)
theorem dL_law_1213 : decode cL_law 1213 = .ok (.invokevirtual 149, 3) := dop_182 (dn_w dwL0_75 13 rfl) rfl
theorem dL_law_1216 : decode cL_law 1216 = .ok (.pop, 1) := dop_87 (dn_w dwL0_76 0 rfl)
theorem dL_law_1217 : decode cL_law 1217 = .ok (.goto 237, 3) := dop_167 (dn_w dwL0_76 1 rfl) rfl
theorem dL_law_1220 : decode cL_law 1220 = .ok (.aload_n 1, 1) := dop_43 (dn_w dwL0_76 4 rfl)
theorem dL_law_1221 : decode cL_law 1221 = .ok (.aload_n 0, 1) := dop_42 (dn_w dwL0_76 5 rfl)
theorem dL_law_1222 : decode cL_law 1222 = .ok (.iload_n 3, 1) := dop_29 (dn_w dwL0_76 6 rfl)
theorem dL_law_1223 : decode cL_law 1223 = .ok (.iconst 1, 1) := dop_4 (dn_w dwL0_76 7 rfl)
theorem dL_law_1224 : decode cL_law 1224 = .ok (.iadd, 1) := dop_96 (dn_w dwL0_76 8 rfl)
theorem dL_law_1225 : decode cL_law 1225 = .ok (.iaload, 1) := dop_46 (dn_w dwL0_76 9 rfl)
theorem dL_law_1226 : decode cL_law 1226 = .ok (.aload_n 0, 1) := dop_42 (dn_w dwL0_76 10 rfl)
theorem dL_law_1227 : decode cL_law 1227 = .ok (.iload_n 3, 1) := dop_29 (dn_w dwL0_76 11 rfl)
theorem dL_law_1228 : decode cL_law 1228 = .ok (.iconst 2, 1) := dop_5 (dn_w dwL0_76 12 rfl)
theorem dL_law_1229 : decode cL_law 1229 = .ok (.iadd, 1) := dop_96 (dn_w dwL0_76 13 rfl)
theorem dL_law_1230 : decode cL_law 1230 = .ok (.iaload, 1) := dop_46 (dn_w dwL0_76 14 rfl)
theorem dL_law_1231 : decode cL_law 1231 = .ok (.aload_n 0, 1) := dop_42 (dn_w dwL0_76 15 rfl)
theorem dL_law_1232 : decode cL_law 1232 = .ok (.iload_n 3, 1) := dop_29 (dn_w dwL0_77 0 rfl)
theorem dL_law_1233 : decode cL_law 1233 = .ok (.iconst 3, 1) := dop_6 (dn_w dwL0_77 1 rfl)
theorem dL_law_1234 : decode cL_law 1234 = .ok (.iadd, 1) := dop_96 (dn_w dwL0_77 2 rfl)
theorem dL_law_1235 : decode cL_law 1235 = .ok (.iaload, 1) := dop_46 (dn_w dwL0_77 3 rfl)
theorem dL_law_1236 : decode cL_law 1236 = .ok (.invokevirtual 150, 3) := dop_182 (dn_w dwL0_77 4 rfl) rfl
theorem dL_law_1239 : decode cL_law 1239 = .ok (.pop, 1) := dop_87 (dn_w dwL0_77 7 rfl)
theorem dL_law_1240 : decode cL_law 1240 = .ok (.aload_n 2, 1) := dop_44 (dn_w dwL0_77 8 rfl)
theorem dL_law_1241 : decode cL_law 1241 = .ok (.aload_n 0, 1) := dop_42 (dn_w dwL0_77 9 rfl)
theorem dL_law_1242 : decode cL_law 1242 = .ok (.iload_n 3, 1) := dop_29 (dn_w dwL0_77 10 rfl)
theorem dL_law_1243 : decode cL_law 1243 = .ok (.iconst 1, 1) := dop_4 (dn_w dwL0_77 11 rfl)
theorem dL_law_1244 : decode cL_law 1244 = .ok (.iadd, 1) := dop_96 (dn_w dwL0_77 12 rfl)
theorem dL_law_1245 : decode cL_law 1245 = .ok (.iaload, 1) := dop_46 (dn_w dwL0_77 13 rfl)
theorem dL_law_1246 : decode cL_law 1246 = .ok (.aload_n 0, 1) := dop_42 (dn_w dwL0_77 14 rfl)
theorem dL_law_1247 : decode cL_law 1247 = .ok (.iload_n 3, 1) := dop_29 (dn_w dwL0_77 15 rfl)
theorem dL_law_1248 : decode cL_law 1248 = .ok (.iconst 2, 1) := dop_5 (dn_w dwL0_78 0 rfl)
theorem dL_law_1249 : decode cL_law 1249 = .ok (.iadd, 1) := dop_96 (dn_w dwL0_78 1 rfl)
theorem dL_law_1250 : decode cL_law 1250 = .ok (.iaload, 1) := dop_46 (dn_w dwL0_78 2 rfl)
theorem dL_law_1251 : decode cL_law 1251 = .ok (.aload_n 0, 1) := dop_42 (dn_w dwL0_78 3 rfl)
theorem dL_law_1252 : decode cL_law 1252 = .ok (.iload_n 3, 1) := dop_29 (dn_w dwL0_78 4 rfl)
theorem dL_law_1253 : decode cL_law 1253 = .ok (.iconst 3, 1) := dop_6 (dn_w dwL0_78 5 rfl)
theorem dL_law_1254 : decode cL_law 1254 = .ok (.iadd, 1) := dop_96 (dn_w dwL0_78 6 rfl)
theorem dL_law_1255 : decode cL_law 1255 = .ok (.iaload, 1) := dop_46 (dn_w dwL0_78 7 rfl)
theorem dL_law_1256 : decode cL_law 1256 = .ok (.invokevirtual 153, 3) := dop_182 (dn_w dwL0_78 8 rfl) rfl
theorem dL_law_1259 : decode cL_law 1259 = .ok (.pop, 1) := dop_87 (dn_w dwL0_78 11 rfl)
theorem dL_law_1260 : decode cL_law 1260 = .ok (.goto 194, 3) := dop_167 (dn_w dwL0_78 12 rfl) rfl
theorem dL_law_1263 : decode cL_law 1263 = .ok (.aload_n 1, 1) := dop_43 (dn_w dwL0_78 15 rfl)
theorem dL_law_1264 : decode cL_law 1264 = .ok (.aload_n 0, 1) := dop_42 (dn_w dwL0_79 0 rfl)
theorem dL_law_1265 : decode cL_law 1265 = .ok (.iload_n 3, 1) := dop_29 (dn_w dwL0_79 1 rfl)
theorem dL_law_1266 : decode cL_law 1266 = .ok (.iconst 1, 1) := dop_4 (dn_w dwL0_79 2 rfl)
theorem dL_law_1267 : decode cL_law 1267 = .ok (.iadd, 1) := dop_96 (dn_w dwL0_79 3 rfl)
theorem dL_law_1268 : decode cL_law 1268 = .ok (.iaload, 1) := dop_46 (dn_w dwL0_79 4 rfl)
theorem dL_law_1269 : decode cL_law 1269 = .ok (.aload_n 0, 1) := dop_42 (dn_w dwL0_79 5 rfl)
theorem dL_law_1270 : decode cL_law 1270 = .ok (.iload_n 3, 1) := dop_29 (dn_w dwL0_79 6 rfl)
theorem dL_law_1271 : decode cL_law 1271 = .ok (.iconst 2, 1) := dop_5 (dn_w dwL0_79 7 rfl)
theorem dL_law_1272 : decode cL_law 1272 = .ok (.iadd, 1) := dop_96 (dn_w dwL0_79 8 rfl)
theorem dL_law_1273 : decode cL_law 1273 = .ok (.iaload, 1) := dop_46 (dn_w dwL0_79 9 rfl)
theorem dL_law_1274 : decode cL_law 1274 = .ok (.aload_n 0, 1) := dop_42 (dn_w dwL0_79 10 rfl)
theorem dL_law_1275 : decode cL_law 1275 = .ok (.iload_n 3, 1) := dop_29 (dn_w dwL0_79 11 rfl)
theorem dL_law_1276 : decode cL_law 1276 = .ok (.iconst 3, 1) := dop_6 (dn_w dwL0_79 12 rfl)
theorem dL_law_1277 : decode cL_law 1277 = .ok (.iadd, 1) := dop_96 (dn_w dwL0_79 13 rfl)
theorem dL_law_1278 : decode cL_law 1278 = .ok (.iaload, 1) := dop_46 (dn_w dwL0_79 14 rfl)
theorem dL_law_1279 : decode cL_law 1279 = .ok (.invokevirtual 154, 3) := dop_182 (dn_w dwL0_79 15 rfl) rfl
theorem dL_law_1282 : decode cL_law 1282 = .ok (.pop, 1) := dop_87 (dn_w dwL0_80 2 rfl)
theorem dL_law_1283 : decode cL_law 1283 = .ok (.aload_n 2, 1) := dop_44 (dn_w dwL0_80 3 rfl)
theorem dL_law_1284 : decode cL_law 1284 = .ok (.aload_n 0, 1) := dop_42 (dn_w dwL0_80 4 rfl)
theorem dL_law_1285 : decode cL_law 1285 = .ok (.iload_n 3, 1) := dop_29 (dn_w dwL0_80 5 rfl)
theorem dL_law_1286 : decode cL_law 1286 = .ok (.iconst 1, 1) := dop_4 (dn_w dwL0_80 6 rfl)
theorem dL_law_1287 : decode cL_law 1287 = .ok (.iadd, 1) := dop_96 (dn_w dwL0_80 7 rfl)
theorem dL_law_1288 : decode cL_law 1288 = .ok (.iaload, 1) := dop_46 (dn_w dwL0_80 8 rfl)
theorem dL_law_1289 : decode cL_law 1289 = .ok (.aload_n 0, 1) := dop_42 (dn_w dwL0_80 9 rfl)
theorem dL_law_1290 : decode cL_law 1290 = .ok (.iload_n 3, 1) := dop_29 (dn_w dwL0_80 10 rfl)
theorem dL_law_1291 : decode cL_law 1291 = .ok (.iconst 2, 1) := dop_5 (dn_w dwL0_80 11 rfl)
theorem dL_law_1292 : decode cL_law 1292 = .ok (.iadd, 1) := dop_96 (dn_w dwL0_80 12 rfl)
theorem dL_law_1293 : decode cL_law 1293 = .ok (.iaload, 1) := dop_46 (dn_w dwL0_80 13 rfl)
theorem dL_law_1294 : decode cL_law 1294 = .ok (.aload_n 0, 1) := dop_42 (dn_w dwL0_80 14 rfl)
theorem dL_law_1295 : decode cL_law 1295 = .ok (.iload_n 3, 1) := dop_29 (dn_w dwL0_80 15 rfl)
theorem dL_law_1296 : decode cL_law 1296 = .ok (.iconst 3, 1) := dop_6 (dn_w dwL0_81 0 rfl)
theorem dL_law_1297 : decode cL_law 1297 = .ok (.iadd, 1) := dop_96 (dn_w dwL0_81 1 rfl)
theorem dL_law_1298 : decode cL_law 1298 = .ok (.iaload, 1) := dop_46 (dn_w dwL0_81 2 rfl)
theorem dL_law_1299 : decode cL_law 1299 = .ok (.invokevirtual 157, 3) := dop_182 (dn_w dwL0_81 3 rfl) rfl
theorem dL_law_1302 : decode cL_law 1302 = .ok (.pop, 1) := dop_87 (dn_w dwL0_81 6 rfl)
theorem dL_law_1303 : decode cL_law 1303 = .ok (.goto 151, 3) := dop_167 (dn_w dwL0_81 7 rfl) rfl
theorem dL_law_1306 : decode cL_law 1306 = .ok (.aload_n 1, 1) := dop_43 (dn_w dwL0_81 10 rfl)
theorem dL_law_1307 : decode cL_law 1307 = .ok (.aload_n 0, 1) := dop_42 (dn_w dwL0_81 11 rfl)
theorem dL_law_1308 : decode cL_law 1308 = .ok (.iload_n 3, 1) := dop_29 (dn_w dwL0_81 12 rfl)
theorem dL_law_1309 : decode cL_law 1309 = .ok (.iconst 1, 1) := dop_4 (dn_w dwL0_81 13 rfl)
theorem dL_law_1310 : decode cL_law 1310 = .ok (.iadd, 1) := dop_96 (dn_w dwL0_81 14 rfl)
theorem dL_law_1311 : decode cL_law 1311 = .ok (.iaload, 1) := dop_46 (dn_w dwL0_81 15 rfl)
theorem dL_law_1312 : decode cL_law 1312 = .ok (.aload_n 0, 1) := dop_42 (dn_w dwL0_82 0 rfl)
theorem dL_law_1313 : decode cL_law 1313 = .ok (.iload_n 3, 1) := dop_29 (dn_w dwL0_82 1 rfl)
theorem dL_law_1314 : decode cL_law 1314 = .ok (.iconst 2, 1) := dop_5 (dn_w dwL0_82 2 rfl)
theorem dL_law_1315 : decode cL_law 1315 = .ok (.iadd, 1) := dop_96 (dn_w dwL0_82 3 rfl)
theorem dL_law_1316 : decode cL_law 1316 = .ok (.iaload, 1) := dop_46 (dn_w dwL0_82 4 rfl)
theorem dL_law_1317 : decode cL_law 1317 = .ok (.invokevirtual 158, 3) := dop_182 (dn_w dwL0_82 5 rfl) rfl
theorem dL_law_1320 : decode cL_law 1320 = .ok (.pop, 1) := dop_87 (dn_w dwL0_82 8 rfl)
theorem dL_law_1321 : decode cL_law 1321 = .ok (.aload_n 2, 1) := dop_44 (dn_w dwL0_82 9 rfl)
theorem dL_law_1322 : decode cL_law 1322 = .ok (.aload_n 0, 1) := dop_42 (dn_w dwL0_82 10 rfl)
theorem dL_law_1323 : decode cL_law 1323 = .ok (.iload_n 3, 1) := dop_29 (dn_w dwL0_82 11 rfl)
theorem dL_law_1324 : decode cL_law 1324 = .ok (.iconst 1, 1) := dop_4 (dn_w dwL0_82 12 rfl)
theorem dL_law_1325 : decode cL_law 1325 = .ok (.iadd, 1) := dop_96 (dn_w dwL0_82 13 rfl)
theorem dL_law_1326 : decode cL_law 1326 = .ok (.iaload, 1) := dop_46 (dn_w dwL0_82 14 rfl)
theorem dL_law_1327 : decode cL_law 1327 = .ok (.aload_n 0, 1) := dop_42 (dn_w dwL0_82 15 rfl)
theorem dL_law_1328 : decode cL_law 1328 = .ok (.iload_n 3, 1) := dop_29 (dn_w dwL0_83 0 rfl)
theorem dL_law_1329 : decode cL_law 1329 = .ok (.iconst 2, 1) := dop_5 (dn_w dwL0_83 1 rfl)
theorem dL_law_1330 : decode cL_law 1330 = .ok (.iadd, 1) := dop_96 (dn_w dwL0_83 2 rfl)
theorem dL_law_1331 : decode cL_law 1331 = .ok (.iaload, 1) := dop_46 (dn_w dwL0_83 3 rfl)
theorem dL_law_1332 : decode cL_law 1332 = .ok (.invokevirtual 161, 3) := dop_182 (dn_w dwL0_83 4 rfl) rfl
theorem dL_law_1335 : decode cL_law 1335 = .ok (.pop, 1) := dop_87 (dn_w dwL0_83 7 rfl)
theorem dL_law_1336 : decode cL_law 1336 = .ok (.goto 118, 3) := dop_167 (dn_w dwL0_83 8 rfl) rfl
theorem dL_law_1339 : decode cL_law 1339 = .ok (.aload_n 1, 1) := dop_43 (dn_w dwL0_83 11 rfl)
theorem dL_law_1340 : decode cL_law 1340 = .ok (.aload_n 0, 1) := dop_42 (dn_w dwL0_83 12 rfl)
theorem dL_law_1341 : decode cL_law 1341 = .ok (.iload_n 3, 1) := dop_29 (dn_w dwL0_83 13 rfl)
theorem dL_law_1342 : decode cL_law 1342 = .ok (.iconst 1, 1) := dop_4 (dn_w dwL0_83 14 rfl)
theorem dL_law_1343 : decode cL_law 1343 = .ok (.iadd, 1) := dop_96 (dn_w dwL0_83 15 rfl)
theorem dL_law_1344 : decode cL_law 1344 = .ok (.iaload, 1) := dop_46 (dn_w dwL0_84 0 rfl)
theorem dL_law_1345 : decode cL_law 1345 = .ok (.aload_n 0, 1) := dop_42 (dn_w dwL0_84 1 rfl)
theorem dL_law_1346 : decode cL_law 1346 = .ok (.iload_n 3, 1) := dop_29 (dn_w dwL0_84 2 rfl)
theorem dL_law_1347 : decode cL_law 1347 = .ok (.iconst 2, 1) := dop_5 (dn_w dwL0_84 3 rfl)
theorem dL_law_1348 : decode cL_law 1348 = .ok (.iadd, 1) := dop_96 (dn_w dwL0_84 4 rfl)
theorem dL_law_1349 : decode cL_law 1349 = .ok (.iaload, 1) := dop_46 (dn_w dwL0_84 5 rfl)
theorem dL_law_1350 : decode cL_law 1350 = .ok (.aload_n 0, 1) := dop_42 (dn_w dwL0_84 6 rfl)
theorem dL_law_1351 : decode cL_law 1351 = .ok (.iload_n 3, 1) := dop_29 (dn_w dwL0_84 7 rfl)
theorem dL_law_1352 : decode cL_law 1352 = .ok (.iconst 3, 1) := dop_6 (dn_w dwL0_84 8 rfl)
theorem dL_law_1353 : decode cL_law 1353 = .ok (.iadd, 1) := dop_96 (dn_w dwL0_84 9 rfl)
theorem dL_law_1354 : decode cL_law 1354 = .ok (.iaload, 1) := dop_46 (dn_w dwL0_84 10 rfl)
theorem dL_law_1355 : decode cL_law 1355 = .ok (.invokevirtual 162, 3) := dop_182 (dn_w dwL0_84 11 rfl) rfl
theorem dL_law_1358 : decode cL_law 1358 = .ok (.pop, 1) := dop_87 (dn_w dwL0_84 14 rfl)
theorem dL_law_1359 : decode cL_law 1359 = .ok (.aload_n 2, 1) := dop_44 (dn_w dwL0_84 15 rfl)
theorem dL_law_1360 : decode cL_law 1360 = .ok (.aload_n 0, 1) := dop_42 (dn_w dwL0_85 0 rfl)
theorem dL_law_1361 : decode cL_law 1361 = .ok (.iload_n 3, 1) := dop_29 (dn_w dwL0_85 1 rfl)
theorem dL_law_1362 : decode cL_law 1362 = .ok (.iconst 1, 1) := dop_4 (dn_w dwL0_85 2 rfl)
theorem dL_law_1363 : decode cL_law 1363 = .ok (.iadd, 1) := dop_96 (dn_w dwL0_85 3 rfl)
theorem dL_law_1364 : decode cL_law 1364 = .ok (.iaload, 1) := dop_46 (dn_w dwL0_85 4 rfl)
theorem dL_law_1365 : decode cL_law 1365 = .ok (.aload_n 0, 1) := dop_42 (dn_w dwL0_85 5 rfl)
theorem dL_law_1366 : decode cL_law 1366 = .ok (.iload_n 3, 1) := dop_29 (dn_w dwL0_85 6 rfl)
theorem dL_law_1367 : decode cL_law 1367 = .ok (.iconst 2, 1) := dop_5 (dn_w dwL0_85 7 rfl)
theorem dL_law_1368 : decode cL_law 1368 = .ok (.iadd, 1) := dop_96 (dn_w dwL0_85 8 rfl)
theorem dL_law_1369 : decode cL_law 1369 = .ok (.iaload, 1) := dop_46 (dn_w dwL0_85 9 rfl)
theorem dL_law_1370 : decode cL_law 1370 = .ok (.aload_n 0, 1) := dop_42 (dn_w dwL0_85 10 rfl)
theorem dL_law_1371 : decode cL_law 1371 = .ok (.iload_n 3, 1) := dop_29 (dn_w dwL0_85 11 rfl)
theorem dL_law_1372 : decode cL_law 1372 = .ok (.iconst 3, 1) := dop_6 (dn_w dwL0_85 12 rfl)
theorem dL_law_1373 : decode cL_law 1373 = .ok (.iadd, 1) := dop_96 (dn_w dwL0_85 13 rfl)
theorem dL_law_1374 : decode cL_law 1374 = .ok (.iaload, 1) := dop_46 (dn_w dwL0_85 14 rfl)
theorem dL_law_1375 : decode cL_law 1375 = .ok (.invokevirtual 165, 3) := dop_182 (dn_w dwL0_85 15 rfl) rfl
theorem dL_law_1378 : decode cL_law 1378 = .ok (.pop, 1) := dop_87 (dn_w dwL0_86 2 rfl)
theorem dL_law_1379 : decode cL_law 1379 = .ok (.goto 75, 3) := dop_167 (dn_w dwL0_86 3 rfl) rfl
theorem dL_law_1382 : decode cL_law 1382 = .ok (.aload_n 1, 1) := dop_43 (dn_w dwL0_86 6 rfl)
theorem dL_law_1383 : decode cL_law 1383 = .ok (.aload_n 0, 1) := dop_42 (dn_w dwL0_86 7 rfl)
theorem dL_law_1384 : decode cL_law 1384 = .ok (.iload_n 3, 1) := dop_29 (dn_w dwL0_86 8 rfl)
theorem dL_law_1385 : decode cL_law 1385 = .ok (.iconst 1, 1) := dop_4 (dn_w dwL0_86 9 rfl)
theorem dL_law_1386 : decode cL_law 1386 = .ok (.iadd, 1) := dop_96 (dn_w dwL0_86 10 rfl)
theorem dL_law_1387 : decode cL_law 1387 = .ok (.iaload, 1) := dop_46 (dn_w dwL0_86 11 rfl)
theorem dL_law_1388 : decode cL_law 1388 = .ok (.invokevirtual 166, 3) := dop_182 (dn_w dwL0_86 12 rfl) rfl
theorem dL_law_1391 : decode cL_law 1391 = .ok (.pop, 1) := dop_87 (dn_w dwL0_86 15 rfl)
theorem dL_law_1392 : decode cL_law 1392 = .ok (.aload_n 2, 1) := dop_44 (dn_w dwL0_87 0 rfl)
theorem dL_law_1393 : decode cL_law 1393 = .ok (.aload_n 0, 1) := dop_42 (dn_w dwL0_87 1 rfl)
theorem dL_law_1394 : decode cL_law 1394 = .ok (.iload_n 3, 1) := dop_29 (dn_w dwL0_87 2 rfl)
theorem dL_law_1395 : decode cL_law 1395 = .ok (.iconst 1, 1) := dop_4 (dn_w dwL0_87 3 rfl)
theorem dL_law_1396 : decode cL_law 1396 = .ok (.iadd, 1) := dop_96 (dn_w dwL0_87 4 rfl)
theorem dL_law_1397 : decode cL_law 1397 = .ok (.iaload, 1) := dop_46 (dn_w dwL0_87 5 rfl)
theorem dL_law_1398 : decode cL_law 1398 = .ok (.invokevirtual 169, 3) := dop_182 (dn_w dwL0_87 6 rfl) rfl
theorem dL_law_1401 : decode cL_law 1401 = .ok (.pop, 1) := dop_87 (dn_w dwL0_87 9 rfl)
theorem dL_law_1402 : decode cL_law 1402 = .ok (.goto 52, 3) := dop_167 (dn_w dwL0_87 10 rfl) rfl
theorem dL_law_1405 : decode cL_law 1405 = .ok (.aload_n 1, 1) := dop_43 (dn_w dwL0_87 13 rfl)
theorem dL_law_1406 : decode cL_law 1406 = .ok (.aload_n 0, 1) := dop_42 (dn_w dwL0_87 14 rfl)
theorem dL_law_1407 : decode cL_law 1407 = .ok (.iload_n 3, 1) := dop_29 (dn_w dwL0_87 15 rfl)
theorem dL_law_1408 : decode cL_law 1408 = .ok (.iconst 1, 1) := dop_4 (dn_w dwL0_88 0 rfl)
theorem dL_law_1409 : decode cL_law 1409 = .ok (.iadd, 1) := dop_96 (dn_w dwL0_88 1 rfl)
theorem dL_law_1410 : decode cL_law 1410 = .ok (.iaload, 1) := dop_46 (dn_w dwL0_88 2 rfl)
theorem dL_law_1411 : decode cL_law 1411 = .ok (.invokevirtual 170, 3) := dop_182 (dn_w dwL0_88 3 rfl) rfl
theorem dL_law_1414 : decode cL_law 1414 = .ok (.pop, 1) := dop_87 (dn_w dwL0_88 6 rfl)
theorem dL_law_1415 : decode cL_law 1415 = .ok (.aload_n 2, 1) := dop_44 (dn_w dwL0_88 7 rfl)
theorem dL_law_1416 : decode cL_law 1416 = .ok (.aload_n 0, 1) := dop_42 (dn_w dwL0_88 8 rfl)
theorem dL_law_1417 : decode cL_law 1417 = .ok (.iload_n 3, 1) := dop_29 (dn_w dwL0_88 9 rfl)
theorem dL_law_1418 : decode cL_law 1418 = .ok (.iconst 1, 1) := dop_4 (dn_w dwL0_88 10 rfl)
theorem dL_law_1419 : decode cL_law 1419 = .ok (.iadd, 1) := dop_96 (dn_w dwL0_88 11 rfl)
theorem dL_law_1420 : decode cL_law 1420 = .ok (.iaload, 1) := dop_46 (dn_w dwL0_88 12 rfl)
theorem dL_law_1421 : decode cL_law 1421 = .ok (.invokevirtual 173, 3) := dop_182 (dn_w dwL0_88 13 rfl) rfl
theorem dL_law_1424 : decode cL_law 1424 = .ok (.pop, 1) := dop_87 (dn_w dwL0_89 0 rfl)
theorem dL_law_1425 : decode cL_law 1425 = .ok (.goto 29, 3) := dop_167 (dn_w dwL0_89 1 rfl) rfl
theorem dL_law_1428 : decode cL_law 1428 = .ok (.aload_n 1, 1) := dop_43 (dn_w dwL0_89 4 rfl)
theorem dL_law_1429 : decode cL_law 1429 = .ok (.invokevirtual 174, 3) := dop_182 (dn_w dwL0_89 5 rfl) rfl
theorem dL_law_1432 : decode cL_law 1432 = .ok (.pop, 1) := dop_87 (dn_w dwL0_89 8 rfl)
theorem dL_law_1433 : decode cL_law 1433 = .ok (.aload_n 2, 1) := dop_44 (dn_w dwL0_89 9 rfl)
theorem dL_law_1434 : decode cL_law 1434 = .ok (.invokevirtual 177, 3) := dop_182 (dn_w dwL0_89 10 rfl) rfl
theorem dL_law_1437 : decode cL_law 1437 = .ok (.pop, 1) := dop_87 (dn_w dwL0_89 13 rfl)
theorem dL_law_1438 : decode cL_law 1438 = .ok (.goto 16, 3) := dop_167 (dn_w dwL0_89 14 rfl) rfl
theorem dL_law_1441 : decode cL_law 1441 = .ok (.aload_n 1, 1) := dop_43 (dn_w dwL0_90 1 rfl)
theorem dL_law_1442 : decode cL_law 1442 = .ok (.invokevirtual 178, 3) := dop_182 (dn_w dwL0_90 2 rfl) rfl
theorem dL_law_1445 : decode cL_law 1445 = .ok (.pop, 1) := dop_87 (dn_w dwL0_90 5 rfl)
theorem dL_law_1446 : decode cL_law 1446 = .ok (.aload_n 2, 1) := dop_44 (dn_w dwL0_90 6 rfl)
theorem dL_law_1447 : decode cL_law 1447 = .ok (.invokevirtual 181, 3) := dop_182 (dn_w dwL0_90 7 rfl) rfl
theorem dL_law_1450 : decode cL_law 1450 = .ok (.pop, 1) := dop_87 (dn_w dwL0_90 10 rfl)
theorem dL_law_1451 : decode cL_law 1451 = .ok (.goto 3, 3) := dop_167 (dn_w dwL0_90 11 rfl) rfl
theorem dL_law_1454 : decode cL_law 1454 = .ok (.iinc 3 5, 3) := dop_132 (dn_w dwL0_90 14 rfl) rfl
theorem dL_law_1457 : decode cL_law 1457 = .ok (.goto (-1439), 3) := dop_167 (dn_w dwL0_91 1 rfl) rfl
theorem dL_law_1460 : decode cL_law 1460 = .ok (.iconst 1, 1) := dop_4 (dn_w dwL0_91 4 rfl)
theorem dL_law_1461 : decode cL_law 1461 = .ok (.ireturn, 1) := dop_172 (dn_w dwL0_91 5 rfl)
