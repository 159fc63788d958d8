theorem k_0 : chkM 0 tb_0 = true := by decide +kernel
theorem k_1 : chkM 1 tb_1 = true := by decide +kernel
theorem k_2 : chkM 2 tb_2 = true := by decide +kernel
theorem k_3 : chkM 3 tb_3 = true := by decide +kernel
theorem k_4 : chkM 4 tb_4 = true := by decide +kernel
theorem k_5 : chkM 5 tb_5 = true := by decide +kernel
theorem k_6 : chkM 6 tb_6 = true := by decide +kernel
theorem k_7 : chkM 7 tb_7 = true := by decide +kernel
theorem k_8 : chkM 8 tb_8 = true := by decide +kernel
theorem k_9 : chkM 9 tb_9 = true := by decide +kernel
theorem k_10 : chkM 10 tb_10 = true := by decide +kernel
theorem k_11 : chkM 11 tb_11 = true := by decide +kernel
theorem k_12 : chkM 12 tb_12 = true := by decide +kernel
theorem k_13 : chkM 13 tb_13 = true := by decide +kernel
theorem k_14 : chkM 14 tb_14 = true := by decide +kernel
theorem k_15 : chkM 15 tb_15 = true := by decide +kernel
theorem k_16 : chkM 16 tb_16 = true := by decide +kernel
theorem k_17 : chkM 17 tb_17 = true := by decide +kernel
theorem k_18 : chkM 18 tb_18 = true := by decide +kernel
theorem k_19 : chkM 19 tb_19 = true := by decide +kernel
theorem k_20 : chkM 20 tb_20 = true := by decide +kernel
theorem k_21 : chkM 21 tb_21 = true := by decide +kernel
theorem k_22 : chkM 22 tb_22 = true := by decide +kernel
theorem k_23 : chkM 23 tb_23 = true := by decide +kernel
theorem k_24 : chkM 24 tb_24 = true := by decide +kernel
theorem k_25 : chkM 25 tb_25 = true := by decide +kernel
theorem k_26 : chkM 26 tb_26 = true := by decide +kernel
theorem k_27 : chkM 27 tb_27 = true := by decide +kernel
theorem k_28 : chkM 28 tb_28 = true := by decide +kernel
theorem k_29 : chkM 29 tb_29 = true := by decide +kernel
theorem k_30 : chkM 30 tb_30 = true := by decide +kernel
theorem k_31 : chkM 31 tb_31 = true := by decide +kernel
theorem k_32 : chkM 32 tb_32 = true := by decide +kernel
theorem k_33 : chkM 33 tb_33 = true := by decide +kernel
theorem k_34 : chkM 34 tb_34 = true := by decide +kernel
theorem k_35 : chkM 35 tb_35 = true := by decide +kernel
theorem k_36 : chkM 36 tb_36 = true := by decide +kernel
theorem k_37 : chkM 37 tb_37 = true := by decide +kernel
theorem k_38 : chkM 38 tb_38 = true := by decide +kernel
theorem k_39 : chkM 39 tb_39 = true := by decide +kernel
theorem k_40 : chkM 40 tb_40 = true := by decide +kernel
theorem k_41 : chkM 41 tb_41 = true := by decide +kernel
theorem k_42 : chkM 42 tb_42 = true := by decide +kernel
theorem k_43 : chkM 43 tb_43 = true := by decide +kernel
theorem k_44 : chkM 44 tb_44 = true := by decide +kernel
theorem k_45 : chkM 45 tb_45 = true := by decide +kernel
theorem k_46 : chkM 46 tb_46 = true := by decide +kernel
theorem k_47 : chkM 47 tb_47 = true := by decide +kernel
theorem k_48 : chkM 48 tb_48 = true := by decide +kernel
theorem k_49 : chkM 49 tb_49 = true := by decide +kernel
theorem k_50 : chkM 50 tb_50 = true := by decide +kernel
theorem k_51 : chkM 51 tb_51 = true := by decide +kernel
theorem k_52 : chkM 52 tb_52 = true := by decide +kernel
theorem k_53 : chkM 53 tb_53 = true := by decide +kernel
theorem k_54 : chkM 54 tb_54 = true := by decide +kernel
theorem k_55 : chkM 55 tb_55 = true := by decide +kernel
theorem k_56 : chkM 56 tb_56 = true := by decide +kernel
theorem k_57 : chkM 57 tb_57 = true := by decide +kernel
theorem k_58 : chkM 58 tb_58 = true := by decide +kernel
theorem k_59 : chkM 59 tb_59 = true := by decide +kernel
theorem k_60 : chkM 60 tb_60 = true := by decide +kernel
theorem k_61 : chkM 61 tb_61 = true := by decide +kernel
theorem k_62 : chkM 62 tb_62 = true := by decide +kernel
theorem k_63 : chkM 63 tb_63 = true := by decide +kernel
theorem k_64 : chkM 64 tb_64 = true := by decide +kernel
theorem k_65 : chkM 65 tb_65 = true := by decide +kernel
theorem k_66 : chkM 66 tb_66 = true := by decide +kernel
theorem k_67 : chkM 67 tb_67 = true := by decide +kernel
theorem k_68 : chkM 68 tb_68 = true := by decide +kernel
theorem k_69 : chkM 69 tb_69 = true := by decide +kernel
theorem k_70 : chkM 70 tb_70 = true := by decide +kernel
theorem k_71 : chkM 71 tb_71 = true := by decide +kernel
theorem k_72 : chkM 72 tb_72 = true := by decide +kernel
theorem k_73 : chkM 73 tb_73 = true := by decide +kernel
theorem k_74 : chkM 74 tb_74 = true := by decide +kernel
theorem k_75 : chkM 75 tb_75 = true := by decide +kernel
theorem k_76 : chkM 76 tb_76 = true := by decide +kernel
theorem k_77 : chkM 77 tb_77 = true := by decide +kernel
theorem k_78 : chkM 78 tb_78 = true := by decide +kernel
theorem k_79 : chkM 79 tb_79 = true := by decide +kernel
theorem k_80 : chkM 80 tb_80 = true := by decide +kernel
theorem k_81 : chkM 81 tb_81 = true := by decide +kernel
theorem k_82 : chkM 82 tb_82 = true := by decide +kernel
theorem k_83 : chkM 83 tb_83 = true := by decide +kernel
theorem k_84 : chkM 84 tb_84 = true := by decide +kernel
theorem k_85 : chkM 85 tb_85 = true := by decide +kernel
theorem k_86 : chkM 86 tb_86 = true := by decide +kernel
theorem k_87 : chkM 87 tb_87 = true := by decide +kernel
theorem k_88 : chkM 88 tb_88 = true := by decide +kernel
theorem k_89 : chkM 89 tb_89 = true := by decide +kernel
theorem k_90 : chkM 90 tb_90 = true := by decide +kernel
theorem k_91 : chkM 91 tb_91 = true := by decide +kernel
theorem k_92 : chkM 92 tb_92 = true := by decide +kernel
theorem k_93 : chkM 93 tb_93 = true := by decide +kernel
theorem k_94 : chkM 94 tb_94 = true := by decide +kernel
theorem k_95 : chkM 95 tb_95 = true := by decide +kernel
theorem k_96 : chkM 96 tb_96 = true := by decide +kernel
theorem k_97 : chkM 97 tb_97 = true := by decide +kernel
theorem k_98 : chkM 98 tb_98 = true := by decide +kernel
theorem k_99 : chkM 99 tb_99 = true := by decide +kernel
theorem k_100 : chkM 100 tb_100 = true := by decide +kernel
theorem k_101 : chkM 101 tb_101 = true := by decide +kernel
theorem k_102 : chkM 102 tb_102 = true := by decide +kernel
theorem k_103 : chkM 103 tb_103 = true := by decide +kernel
theorem k_104 : chkM 104 tb_104 = true := by decide +kernel
theorem k_105 : chkM 105 tb_105 = true := by decide +kernel
theorem k_106 : chkM 106 tb_106 = true := by decide +kernel
theorem k_107 : chkM 107 tb_107 = true := by decide +kernel
theorem k_108 : chkM 108 tb_108 = true := by decide +kernel
theorem k_109 : chkM 109 tb_109 = true := by decide +kernel
theorem k_110 : chkM 110 tb_110 = true := by decide +kernel
theorem k_111 : chkM 111 tb_111 = true := by decide +kernel
theorem k_112 : chkM 112 tb_112 = true := by decide +kernel
theorem k_113 : chkM 113 tb_113 = true := by decide +kernel
theorem k_114 : chkM 114 tb_114 = true := by decide +kernel
theorem k_115 : chkM 115 tb_115 = true := by decide +kernel
theorem k_116 : chkM 116 tb_116 = true := by decide +kernel
theorem k_117 : chkM 117 tb_117 = true := by decide +kernel
theorem k_118 : chkM 118 tb_118 = true := by decide +kernel
theorem k_119 : chkM 119 tb_119 = true := by decide +kernel
theorem k_120 : chkM 120 tb_120 = true := by decide +kernel
theorem k_121 : chkM 121 tb_121 = true := by decide +kernel
theorem k_122 : chkM 122 tb_122 = true := by decide +kernel
theorem k_123 : chkM 123 tb_123 = true := by decide +kernel
theorem k_124 : chkM 124 tb_124 = true := by decide +kernel
theorem k_125 : chkM 125 tb_125 = true := by decide +kernel
theorem k_126 : chkM 126 tb_126 = true := by decide +kernel
theorem k_127 : chkM 127 tb_127 = true := by decide +kernel
theorem k_128 : chkM 128 tb_128 = true := by decide +kernel
theorem k_129 : chkM 129 tb_129 = true := by decide +kernel
theorem k_130 : chkM 130 tb_130 = true := by decide +kernel
theorem k_131 : chkM 131 tb_131 = true := by decide +kernel
theorem k_132 : chkM 132 tb_132 = true := by decide +kernel
theorem k_133 : chkM 133 tb_133 = true := by decide +kernel
theorem k_134 : chkM 134 tb_134 = true := by decide +kernel
theorem k_135 : chkM 135 tb_135 = true := by decide +kernel
theorem k_136 : chkM 136 tb_136 = true := by decide +kernel
theorem k_137 : chkM 137 tb_137 = true := by decide +kernel
theorem k_138 : chkM 138 tb_138 = true := by decide +kernel
theorem k_139 : chkM 139 tb_139 = true := by decide +kernel
theorem k_140 : chkM 140 tb_140 = true := by decide +kernel
theorem k_141 : chkM 141 tb_141 = true := by decide +kernel
theorem k_142 : chkM 142 tb_142 = true := by decide +kernel
theorem k_143 : chkM 143 tb_143 = true := by decide +kernel
theorem k_144 : chkM 144 tb_144 = true := by decide +kernel
theorem k_145 : chkM 145 tb_145 = true := by decide +kernel
theorem k_146 : chkM 146 tb_146 = true := by decide +kernel
theorem k_147 : chkM 147 tb_147 = true := by decide +kernel
theorem k_148 : chkM 148 tb_148 = true := by decide +kernel
theorem k_149 : chkM 149 tb_149 = true := by decide +kernel
theorem k_150 : chkM 150 tb_150 = true := by decide +kernel
theorem k_151 : chkM 151 tb_151 = true := by decide +kernel
theorem k_152 : chkM 152 tb_152 = true := by decide +kernel
def allFrom (f : Nat → List mEnt → Bool) : Nat → List (List mEnt) → Prop
  | _, [] => True
  | i, t :: ts => f i t = true ∧ allFrom f (i + 1) ts
theorem allFrom_get {f : Nat → List mEnt → Bool} (h0 : ∀ i, f i [] = true) : ∀ (l : List (List mEnt)) (i k : Nat), allFrom f i l → f (i + k) (l.getD k []) = true := by
  intro l
  induction l with
  | nil => intro i k _; simpa using h0 (i + k)
  | cons t ts ih =>
    intro i k h
    cases k with
    | zero => simpa using h.1
    | succ k =>
      have := ih (i + 1) k h.2
      rw [show i + (k + 1) = i + 1 + k by omega]
      simpa using this
set_option maxRecDepth 20000 in
theorem tbAll : allFrom chkM 0 tbL := And.intro k_0 (And.intro k_1 (And.intro k_2 (And.intro k_3 (And.intro k_4 (And.intro k_5 (And.intro k_6 (And.intro k_7 (And.intro k_8 (And.intro k_9 (And.intro k_10 (And.intro k_11 (And.intro k_12 (And.intro k_13 (And.intro k_14 (And.intro k_15 (And.intro k_16 (And.intro k_17 (And.intro k_18 (And.intro k_19 (And.intro k_20 (And.intro k_21 (And.intro k_22 (And.intro k_23 (And.intro k_24 (And.intro k_25 (And.intro k_26 (And.intro k_27 (And.intro k_28 (And.intro k_29 (And.intro k_30 (And.intro k_31 (And.intro k_32 (And.intro k_33 (And.intro k_34 (And.intro k_35 (And.intro k_36 (And.intro k_37 (And.intro k_38 (And.intro k_39 (And.intro k_40 (And.intro k_41 (And.intro k_42 (And.intro k_43 (And.intro k_44 (And.intro k_45 (And.intro k_46 (And.intro k_47 (And.intro k_48 (And.intro k_49 (And.intro k_50 (And.intro k_51 (And.intro k_52 (And.intro k_53 (And.intro k_54 (And.intro k_55 (And.intro k_56 (And.intro k_57 (And.intro k_58 (And.intro k_59 (And.intro k_60 (And.intro k_61 (And.intro k_62 (And.intro k_63 (And.intro k_64 (And.intro k_65 (And.intro k_66 (And.intro k_67 (And.intro k_68 (And.intro k_69 (And.intro k_70 (And.intro k_71 (And.intro k_72 (And.intro k_73 (And.intro k_74 (And.intro k_75 (And.intro k_76 (And.intro k_77 (And.intro k_78 (And.intro k_79 (And.intro k_80 (And.intro k_81 (And.intro k_82 (And.intro k_83 (And.intro k_84 (And.intro k_85 (And.intro k_86 (And.intro k_87 (And.intro k_88 (And.intro k_89 (And.intro k_90 (And.intro k_91 (And.intro k_92 (And.intro k_93 (And.intro k_94 (And.intro k_95 (And.intro k_96 (And.intro k_97 (And.intro k_98 (And.intro k_99 (And.intro k_100 (And.intro k_101 (And.intro k_102 (And.intro k_103 (And.intro k_104 (And.intro k_105 (And.intro k_106 (And.intro k_107 (And.intro k_108 (And.intro k_109 (And.intro k_110 (And.intro k_111 (And.intro k_112 (And.intro k_113 (And.intro k_114 (And.intro k_115 (And.intro k_116 (And.intro k_117 (And.intro k_118 (And.intro k_119 (And.intro k_120 (And.intro k_121 (And.intro k_122 (And.intro k_123 (And.intro k_124 (And.intro k_125 (And.intro k_126 (And.intro k_127 (And.intro k_128 (And.intro k_129 (And.intro k_130 (And.intro k_131 (And.intro k_132 (And.intro k_133 (And.intro k_134 (And.intro k_135 (And.intro k_136 (And.intro k_137 (And.intro k_138 (And.intro k_139 (And.intro k_140 (And.intro k_141 (And.intro k_142 (And.intro k_143 (And.intro k_144 (And.intro k_145 (And.intro k_146 (And.intro k_147 (And.intro k_148 (And.intro k_149 (And.intro k_150 (And.intro k_151 (And.intro k_152 (trivial)))))))))))))))))))))))))))))))))))))))))))))))))))))))))))))))))))))))))))))))))))))))))))))))))))))))))))))))))))))))))))))))))))))))))))))))))))))))))
