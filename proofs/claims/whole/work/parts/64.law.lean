/-! methods' runs, laid by wip/whole/walk.py out of wip/whole/specs28.py -/
/-! the law: its cases, one by one -/

set_option maxRecDepth 20000 in
theorem lq_0 {X : az_X} {w : az_W} {sz sl : Nat} {j : Nat} {v4 v5 v6 v7 : Value} {x : Int32} {w1 w2 : az_W} {fs8 fs9 : List Value} {res : az_R} (h1 : vp_in (nI (3 * j) + 1) X.1) (h2 : vp_in (nI (3 * j) + 2) X.1) (r1 : w 0 = .inr (8, fs8)) (r2 : w1 151 = .inr (9, fs9)) (m1 : az_M X 94 [.ref 0, .int (X.2 (nI (3 * j) + 1).toNatClampNeg), .int (X.2 (nI (3 * j) + 2).toNatClampNeg)] w sz sl (some (.int x), w1, sz, sl)) (m2 : az_M X 146 [.ref 151, .int (X.2 (nI (3 * j) + 1).toNatClampNeg), .int (X.2 (nI (3 * j) + 2).toNatClampNeg)] w1 sz sl (some (.int x), w2, sz, sl)) (hc : az_Ev X 0 408 [.retAddr 0, .ref 0, .ref 151, .int (nI (3 * j)), v4, v5, v6, v7] [] w2 sz sl res) : az_Ev X 0 22 [.retAddr 0, .ref 0, .ref 151, .int (nI (3 * j)), v4, v5, v6, v7] [] w sz sl res := by
  refine E_al1 k0_22 ?_
  refine E_alS0 k0_23 ?_
  refine E_il3 k0_24 ?_
  refine E_iconst k0_25 ?_
  refine E_iadd k0_26 ?_
  refine E_sld k0_27 rfl h1 ?_
  refine E_alS0 k0_28 ?_
  refine E_il3 k0_29 ?_
  refine E_iconst k0_30 ?_
  refine E_iadd k0_31 ?_
  refine E_sld k0_32 rfl h2 ?_
  refine E_cv2 k0_33 (Or.inl rfl) r1 cl94 rfl rfl m1 ?_
  refine E_al2 k0_34 ?_
  refine E_alS0 k0_35 ?_
  refine E_il3 k0_36 ?_
  refine E_iconst k0_37 ?_
  refine E_iadd k0_38 ?_
  refine E_sld k0_39 rfl h1 ?_
  refine E_alS0 k0_40 ?_
  refine E_il3 k0_41 ?_
  refine E_iconst k0_42 ?_
  refine E_iadd k0_43 ?_
  refine E_sld k0_44 rfl h2 ?_
  refine E_cv2 k0_45 (Or.inl rfl) r2 cl146 rfl rfl m2 ?_
  refine E_iceq k0_46 (fun c46 => ?_) (fun d46 => ?_)
  · skip
    exact hc
  · skip
    exact absurd rfl d46
set_option maxRecDepth 20000 in
theorem lq_1 {X : az_X} {w : az_W} {sz sl : Nat} {j : Nat} {v4 v5 v6 v7 : Value} {x : Int32} {w1 w2 : az_W} {fs8 fs9 : List Value} {res : az_R} (h1 : vp_in (nI (3 * j) + 1) X.1) (h2 : vp_in (nI (3 * j) + 2) X.1) (r1 : w 0 = .inr (8, fs8)) (r2 : w1 151 = .inr (9, fs9)) (m1 : az_M X 95 [.ref 0, .int (X.2 (nI (3 * j) + 1).toNatClampNeg)] w sz sl (some (.int x), w1, sz, sl)) (m2 : az_M X 147 [.ref 151, .int (X.2 (nI (3 * j) + 1).toNatClampNeg)] w1 sz sl (some (.int x), w2, sz, sl)) (hc : az_Ev X 0 408 [.retAddr 0, .ref 0, .ref 151, .int (nI (3 * j)), v4, v5, v6, v7] [] w2 sz sl res) : az_Ev X 0 49 [.retAddr 0, .ref 0, .ref 151, .int (nI (3 * j)), v4, v5, v6, v7] [] w sz sl res := by
  refine E_al1 k0_49 ?_
  refine E_alS0 k0_50 ?_
  refine E_il3 k0_51 ?_
  refine E_iconst k0_52 ?_
  refine E_iadd k0_53 ?_
  refine E_sld k0_54 rfl h1 ?_
  refine E_cv1 k0_55 (Or.inl rfl) r1 cl95 rfl rfl m1 ?_
  refine E_al2 k0_56 ?_
  refine E_alS0 k0_57 ?_
  refine E_il3 k0_58 ?_
  refine E_iconst k0_59 ?_
  refine E_iadd k0_60 ?_
  refine E_sld k0_61 rfl h1 ?_
  refine E_cv1 k0_62 (Or.inl rfl) r2 cl147 rfl rfl m2 ?_
  refine E_iceq k0_63 (fun c63 => ?_) (fun d63 => ?_)
  · skip
    exact hc
  · skip
    exact absurd rfl d63
set_option maxRecDepth 20000 in
theorem lq_2 {X : az_X} {w : az_W} {sz sl : Nat} {j : Nat} {v4 v5 v6 v7 : Value} {x : Int32} {w1 w2 : az_W} {fs8 fs9 : List Value} {res : az_R} (h1 : vp_in (nI (3 * j) + 1) X.1) (h2 : vp_in (nI (3 * j) + 2) X.1) (r1 : w 0 = .inr (8, fs8)) (r2 : w1 151 = .inr (9, fs9)) (m1 : az_M X 97 [.ref 0] w sz sl (some (.int x), w1, sz, sl)) (m2 : az_M X 148 [.ref 151] w1 sz sl (some (.int x), w2, sz, sl)) (hc : az_Ev X 0 408 [.retAddr 0, .ref 0, .ref 151, .int (nI (3 * j)), v4, v5, v6, v7] [] w2 sz sl res) : az_Ev X 0 66 [.retAddr 0, .ref 0, .ref 151, .int (nI (3 * j)), v4, v5, v6, v7] [] w sz sl res := by
  refine E_al1 k0_66 ?_
  refine E_cv0 k0_67 (Or.inl rfl) r1 cl97 rfl rfl m1 ?_
  refine E_al2 k0_68 ?_
  refine E_cv0 k0_69 (Or.inl rfl) r2 cl148 rfl rfl m2 ?_
  refine E_iceq k0_70 (fun c70 => ?_) (fun d70 => ?_)
  · skip
    exact hc
  · skip
    exact absurd rfl d70
set_option maxRecDepth 20000 in
theorem lq_3 {X : az_X} {w : az_W} {sz sl : Nat} {j : Nat} {v4 v5 v6 v7 : Value} {x : Int32} {w1 w2 : az_W} {fs8 fs9 : List Value} {res : az_R} (h1 : vp_in (nI (3 * j) + 1) X.1) (h2 : vp_in (nI (3 * j) + 2) X.1) (r1 : w 0 = .inr (8, fs8)) (r2 : w1 151 = .inr (9, fs9)) (m1 : az_M X 98 [.ref 0] w sz sl (some (.int x), w1, sz, sl)) (m2 : az_M X 149 [.ref 151] w1 sz sl (some (.int x), w2, sz, sl)) (hc : az_Ev X 0 408 [.retAddr 0, .ref 0, .ref 151, .int (nI (3 * j)), v4, v5, v6, v7] [] w2 sz sl res) : az_Ev X 0 73 [.retAddr 0, .ref 0, .ref 151, .int (nI (3 * j)), v4, v5, v6, v7] [] w sz sl res := by
  refine E_al1 k0_73 ?_
  refine E_cv0 k0_74 (Or.inl rfl) r1 cl98 rfl rfl m1 ?_
  refine E_al2 k0_75 ?_
  refine E_cv0 k0_76 (Or.inl rfl) r2 cl149 rfl rfl m2 ?_
  refine E_iceq k0_77 (fun c77 => ?_) (fun d77 => ?_)
  · skip
    exact hc
  · skip
    exact absurd rfl d77
set_option maxRecDepth 20000 in
theorem lq_4 {X : az_X} {w : az_W} {sz sl : Nat} {j : Nat} {v4 v5 v6 v7 : Value} {x : Int32} {w1 w2 : az_W} {fs8 fs9 : List Value} {res : az_R} (h1 : vp_in (nI (3 * j) + 1) X.1) (h2 : vp_in (nI (3 * j) + 2) X.1) (r1 : w 0 = .inr (8, fs8)) (r2 : w1 151 = .inr (9, fs9)) (m1 : az_M X 99 [.ref 0] w sz sl (some (.int x), w1, sz, sl)) (m2 : az_M X 157 [.ref 151] w1 sz sl (some (.int x), w2, sz, sl)) (hc : az_Ev X 0 408 [.retAddr 0, .ref 0, .ref 151, .int (nI (3 * j)), v4, v5, v6, v7] [] w2 sz sl res) : az_Ev X 0 80 [.retAddr 0, .ref 0, .ref 151, .int (nI (3 * j)), v4, v5, v6, v7] [] w sz sl res := by
  refine E_al1 k0_80 ?_
  refine E_cv0 k0_81 (Or.inl rfl) r1 cl99 rfl rfl m1 ?_
  refine E_al2 k0_82 ?_
  refine E_cv0 k0_83 (Or.inl rfl) r2 cl157 rfl rfl m2 ?_
  refine E_iceq k0_84 (fun c84 => ?_) (fun d84 => ?_)
  · skip
    exact hc
  · skip
    exact absurd rfl d84
set_option maxRecDepth 20000 in
theorem lq_5 {X : az_X} {w : az_W} {sz sl : Nat} {j : Nat} {v4 v5 v6 v7 : Value} {x : Int32} {w1 w2 : az_W} {fs8 fs9 : List Value} {res : az_R} (h1 : vp_in (nI (3 * j) + 1) X.1) (h2 : vp_in (nI (3 * j) + 2) X.1) (r1 : w 0 = .inr (8, fs8)) (r2 : w1 151 = .inr (9, fs9)) (m1 : az_M X 100 [.ref 0] w sz sl (some (.int x), w1, sz, sl)) (m2 : az_M X 158 [.ref 151] w1 sz sl (some (.int x), w2, sz, sl)) (hc : az_Ev X 0 408 [.retAddr 0, .ref 0, .ref 151, .int (nI (3 * j)), v4, v5, v6, v7] [] w2 sz sl res) : az_Ev X 0 87 [.retAddr 0, .ref 0, .ref 151, .int (nI (3 * j)), v4, v5, v6, v7] [] w sz sl res := by
  refine E_al1 k0_87 ?_
  refine E_cv0 k0_88 (Or.inl rfl) r1 cl100 rfl rfl m1 ?_
  refine E_al2 k0_89 ?_
  refine E_cv0 k0_90 (Or.inl rfl) r2 cl158 rfl rfl m2 ?_
  refine E_iceq k0_91 (fun c91 => ?_) (fun d91 => ?_)
  · skip
    exact hc
  · skip
    exact absurd rfl d91
set_option maxRecDepth 20000 in
theorem lq_6 {X : az_X} {w : az_W} {sz sl : Nat} {j : Nat} {v4 v5 v6 v7 : Value} {x : Int32} {w1 w2 : az_W} {fs8 fs9 : List Value} {res : az_R} (h1 : vp_in (nI (3 * j) + 1) X.1) (h2 : vp_in (nI (3 * j) + 2) X.1) (r1 : w 0 = .inr (8, fs8)) (r2 : w1 151 = .inr (9, fs9)) (m1 : az_M X 101 [.ref 0] w sz sl (some (.int x), w1, sz, sl)) (m2 : az_M X 159 [.ref 151] w1 sz sl (some (.int x), w2, sz, sl)) (hc : az_Ev X 0 408 [.retAddr 0, .ref 0, .ref 151, .int (nI (3 * j)), v4, v5, v6, v7] [] w2 sz sl res) : az_Ev X 0 94 [.retAddr 0, .ref 0, .ref 151, .int (nI (3 * j)), v4, v5, v6, v7] [] w sz sl res := by
  refine E_al1 k0_94 ?_
  refine E_cv0 k0_95 (Or.inl rfl) r1 cl101 rfl rfl m1 ?_
  refine E_al2 k0_96 ?_
  refine E_cv0 k0_97 (Or.inl rfl) r2 cl159 rfl rfl m2 ?_
  refine E_iceq k0_98 (fun c98 => ?_) (fun d98 => ?_)
  · skip
    exact hc
  · skip
    exact absurd rfl d98
set_option maxRecDepth 20000 in
theorem lq_7 {X : az_X} {w : az_W} {sz sl : Nat} {j : Nat} {v4 v5 v6 v7 : Value} {x : Int32} {w1 w2 : az_W} {fs8 fs9 : List Value} {res : az_R} (h1 : vp_in (nI (3 * j) + 1) X.1) (h2 : vp_in (nI (3 * j) + 2) X.1) (r1 : w 0 = .inr (8, fs8)) (r2 : w1 151 = .inr (9, fs9)) (m1 : az_M X 102 [.ref 0] w sz sl (some (.int x), w1, sz, sl)) (m2 : az_M X 160 [.ref 151] w1 sz sl (some (.int x), w2, sz, sl)) (hc : az_Ev X 0 408 [.retAddr 0, .ref 0, .ref 151, .int (nI (3 * j)), v4, v5, v6, v7] [] w2 sz sl res) : az_Ev X 0 101 [.retAddr 0, .ref 0, .ref 151, .int (nI (3 * j)), v4, v5, v6, v7] [] w sz sl res := by
  refine E_al1 k0_101 ?_
  refine E_cv0 k0_102 (Or.inl rfl) r1 cl102 rfl rfl m1 ?_
  refine E_al2 k0_103 ?_
  refine E_cv0 k0_104 (Or.inl rfl) r2 cl160 rfl rfl m2 ?_
  refine E_iceq k0_105 (fun c105 => ?_) (fun d105 => ?_)
  · skip
    exact hc
  · skip
    exact absurd rfl d105
set_option maxRecDepth 20000 in
theorem lq_8a {X : az_X} {w : az_W} {sz sl : Nat} {j : Nat} {v4 v5 v6 v7 : Value} {x : Int32} {w1 w2 : az_W} {fs8 fs9 : List Value} {res : az_R} (h1 : vp_in (nI (3 * j) + 1) X.1) (h2 : vp_in (nI (3 * j) + 2) X.1) (r1 : w 0 = .inr (8, fs8)) (r2 : w1 151 = .inr (9, fs9)) (m1 : az_M X 103 [.ref 0, .int (1)] w sz sl (some (.int x), w1, sz, sl)) (m2 : az_M X 162 [.ref 151, .int (1)] w1 sz sl (some (.int x), w2, sz, sl)) (hc : az_Ev X 0 408 [.retAddr 0, .ref 0, .ref 151, .int (nI (3 * j)), v4, v5, v6, v7] [] w2 sz sl res) (hz : ¬ X.2 (nI (3 * j) + 1).toNatClampNeg = 0) : az_Ev X 0 108 [.retAddr 0, .ref 0, .ref 151, .int (nI (3 * j)), v4, v5, v6, v7] [] w sz sl res := by
  refine E_al1 k0_108 ?_
  refine E_alS0 k0_109 ?_
  refine E_il3 k0_110 ?_
  refine E_iconst k0_111 ?_
  refine E_iadd k0_112 ?_
  refine E_sld k0_113 rfl h1 ?_
  refine E_ifeq k0_114 (fun c114 => ?_) (fun d114 => ?_)
  · skip
    exact absurd c114 hz
  · skip
    refine E_iconst k0_115 ?_
    refine E_goto k0_116 ?_
    refine E_cv1 k0_118 (Or.inl rfl) r1 cl103 rfl rfl m1 ?_
    refine E_al2 k0_119 ?_
    refine E_alS0 k0_120 ?_
    refine E_il3 k0_121 ?_
    refine E_iconst k0_122 ?_
    refine E_iadd k0_123 ?_
    refine E_sld k0_124 rfl h1 ?_
    refine E_ifeq k0_125 (fun c125 => ?_) (fun d125 => ?_)
    · skip
      exact absurd c125 hz
    · skip
      refine E_iconst k0_126 ?_
      refine E_goto k0_127 ?_
      refine E_cv1 k0_129 (Or.inl rfl) r2 cl162 rfl rfl m2 ?_
      refine E_iceq k0_130 (fun c130 => ?_) (fun d130 => ?_)
      · skip
        exact hc
      · skip
        exact absurd rfl d130
set_option maxRecDepth 20000 in
theorem lq_8b {X : az_X} {w : az_W} {sz sl : Nat} {j : Nat} {v4 v5 v6 v7 : Value} {x : Int32} {w1 w2 : az_W} {fs8 fs9 : List Value} {res : az_R} (h1 : vp_in (nI (3 * j) + 1) X.1) (h2 : vp_in (nI (3 * j) + 2) X.1) (r1 : w 0 = .inr (8, fs8)) (r2 : w1 151 = .inr (9, fs9)) (m1 : az_M X 103 [.ref 0, .int (0)] w sz sl (some (.int x), w1, sz, sl)) (m2 : az_M X 162 [.ref 151, .int (0)] w1 sz sl (some (.int x), w2, sz, sl)) (hc : az_Ev X 0 408 [.retAddr 0, .ref 0, .ref 151, .int (nI (3 * j)), v4, v5, v6, v7] [] w2 sz sl res) (hz : X.2 (nI (3 * j) + 1).toNatClampNeg = 0) : az_Ev X 0 108 [.retAddr 0, .ref 0, .ref 151, .int (nI (3 * j)), v4, v5, v6, v7] [] w sz sl res := by
  refine E_al1 k0_108 ?_
  refine E_alS0 k0_109 ?_
  refine E_il3 k0_110 ?_
  refine E_iconst k0_111 ?_
  refine E_iadd k0_112 ?_
  refine E_sld k0_113 rfl h1 ?_
  refine E_ifeq k0_114 (fun c114 => ?_) (fun d114 => ?_)
  · skip
    refine E_iconst k0_117 ?_
    refine E_cv1 k0_118 (Or.inl rfl) r1 cl103 rfl rfl m1 ?_
    refine E_al2 k0_119 ?_
    refine E_alS0 k0_120 ?_
    refine E_il3 k0_121 ?_
    refine E_iconst k0_122 ?_
    refine E_iadd k0_123 ?_
    refine E_sld k0_124 rfl h1 ?_
    refine E_ifeq k0_125 (fun c125 => ?_) (fun d125 => ?_)
    · skip
      refine E_iconst k0_128 ?_
      refine E_cv1 k0_129 (Or.inl rfl) r2 cl162 rfl rfl m2 ?_
      refine E_iceq k0_130 (fun c130 => ?_) (fun d130 => ?_)
      · skip
        exact hc
      · skip
        exact absurd rfl d130
    · skip
      exact absurd hz d125
  · skip
    exact absurd hz d114
set_option maxRecDepth 20000 in
theorem lq_9 {X : az_X} {w : az_W} {sz sl : Nat} {j : Nat} {v4 v5 v6 v7 : Value} {x : Int32} {w1 w2 : az_W} {fs8 fs9 : List Value} {res : az_R} (h1 : vp_in (nI (3 * j) + 1) X.1) (h2 : vp_in (nI (3 * j) + 2) X.1) (r1 : w 0 = .inr (8, fs8)) (r2 : w1 151 = .inr (9, fs9)) (m1 : az_M X 104 [.ref 0] w sz sl (some (.int x), w1, sz, sl)) (m2 : az_M X 164 [.ref 151] w1 sz sl (some (.int x), w2, sz, sl)) (hc : az_Ev X 0 408 [.retAddr 0, .ref 0, .ref 151, .int (nI (3 * j)), v4, v5, v6, v7] [] w2 sz sl res) : az_Ev X 0 133 [.retAddr 0, .ref 0, .ref 151, .int (nI (3 * j)), v4, v5, v6, v7] [] w sz sl res := by
  refine E_al1 k0_133 ?_
  refine E_cv0 k0_134 (Or.inl rfl) r1 cl104 rfl rfl m1 ?_
  refine E_al2 k0_135 ?_
  refine E_cv0 k0_136 (Or.inl rfl) r2 cl164 rfl rfl m2 ?_
  refine E_iceq k0_137 (fun c137 => ?_) (fun d137 => ?_)
  · skip
    exact hc
  · skip
    exact absurd rfl d137
set_option maxRecDepth 20000 in
theorem lq_10 {X : az_X} {w : az_W} {sz sl : Nat} {j : Nat} {v4 v5 v6 v7 : Value} {x : Int32} {w1 w2 : az_W} {fs8 fs9 : List Value} {res : az_R} (h1 : vp_in (nI (3 * j) + 1) X.1) (h2 : vp_in (nI (3 * j) + 2) X.1) (r1 : w 0 = .inr (8, fs8)) (r2 : w1 151 = .inr (9, fs9)) (m1 : az_M X 105 [.ref 0, .int (X.2 (nI (3 * j) + 1).toNatClampNeg)] w sz sl (some (.int x), w1, sz, sl)) (m2 : az_M X 165 [.ref 151, .int (X.2 (nI (3 * j) + 1).toNatClampNeg)] w1 sz sl (some (.int x), w2, sz, sl)) (hc : az_Ev X 0 408 [.retAddr 0, .ref 0, .ref 151, .int (nI (3 * j)), v4, v5, v6, v7] [] w2 sz sl res) : az_Ev X 0 140 [.retAddr 0, .ref 0, .ref 151, .int (nI (3 * j)), v4, v5, v6, v7] [] w sz sl res := by
  refine E_al1 k0_140 ?_
  refine E_alS0 k0_141 ?_
  refine E_il3 k0_142 ?_
  refine E_iconst k0_143 ?_
  refine E_iadd k0_144 ?_
  refine E_sld k0_145 rfl h1 ?_
  refine E_cv1 k0_146 (Or.inl rfl) r1 cl105 rfl rfl m1 ?_
  refine E_al2 k0_147 ?_
  refine E_alS0 k0_148 ?_
  refine E_il3 k0_149 ?_
  refine E_iconst k0_150 ?_
  refine E_iadd k0_151 ?_
  refine E_sld k0_152 rfl h1 ?_
  refine E_cv1 k0_153 (Or.inl rfl) r2 cl165 rfl rfl m2 ?_
  refine E_iceq k0_154 (fun c154 => ?_) (fun d154 => ?_)
  · skip
    exact hc
  · skip
    exact absurd rfl d154
set_option maxRecDepth 20000 in
theorem lq_11 {X : az_X} {w : az_W} {sz sl : Nat} {j : Nat} {v4 v5 v6 v7 : Value} {x : Int32} {w1 w2 : az_W} {fs8 fs9 : List Value} {res : az_R} (h1 : vp_in (nI (3 * j) + 1) X.1) (h2 : vp_in (nI (3 * j) + 2) X.1) (r1 : w 0 = .inr (8, fs8)) (r2 : w1 151 = .inr (9, fs9)) (m1 : az_M X 106 [.ref 0, .int (((X.2 (nI (3 * j) + 1).toNatClampNeg).toUInt32 % 65536).toInt32)] w sz sl (some (.int x), w1, sz, sl)) (m2 : az_M X 166 [.ref 151, .int (((X.2 (nI (3 * j) + 1).toNatClampNeg).toUInt32 % 65536).toInt32)] w1 sz sl (some (.int x), w2, sz, sl)) (hc : az_Ev X 0 408 [.retAddr 0, .ref 0, .ref 151, .int (nI (3 * j)), v4, v5, v6, v7] [] w2 sz sl res) : az_Ev X 0 157 [.retAddr 0, .ref 0, .ref 151, .int (nI (3 * j)), v4, v5, v6, v7] [] w sz sl res := by
  refine E_al1 k0_157 ?_
  refine E_alS0 k0_158 ?_
  refine E_il3 k0_159 ?_
  refine E_iconst k0_160 ?_
  refine E_iadd k0_161 ?_
  refine E_sld k0_162 rfl h1 ?_
  refine E_i2c k0_163 ?_
  refine E_cv1 k0_164 (Or.inl rfl) r1 cl106 rfl rfl m1 ?_
  refine E_al2 k0_165 ?_
  refine E_alS0 k0_166 ?_
  refine E_il3 k0_167 ?_
  refine E_iconst k0_168 ?_
  refine E_iadd k0_169 ?_
  refine E_sld k0_170 rfl h1 ?_
  refine E_i2c k0_171 ?_
  refine E_cv1 k0_172 (Or.inl rfl) r2 cl166 rfl rfl m2 ?_
  refine E_iceq k0_173 (fun c173 => ?_) (fun d173 => ?_)
  · skip
    exact hc
  · skip
    exact absurd rfl d173
set_option maxRecDepth 20000 in
theorem lq_12 {X : az_X} {w : az_W} {sz sl : Nat} {j : Nat} {v4 v5 v6 v7 : Value} {x : Int32} {w1 w2 : az_W} {fs8 fs9 : List Value} {res : az_R} (h1 : vp_in (nI (3 * j) + 1) X.1) (h2 : vp_in (nI (3 * j) + 2) X.1) (r1 : w 0 = .inr (8, fs8)) (r2 : w1 151 = .inr (9, fs9)) (m1 : az_M X 107 [.ref 0] w sz sl (some (.int x), w1, sz, sl)) (m2 : az_M X 167 [.ref 151] w1 sz sl (some (.int x), w2, sz, sl)) (hc : az_Ev X 0 408 [.retAddr 0, .ref 0, .ref 151, .int (nI (3 * j)), v4, v5, v6, v7] [] w2 sz sl res) : az_Ev X 0 176 [.retAddr 0, .ref 0, .ref 151, .int (nI (3 * j)), v4, v5, v6, v7] [] w sz sl res := by
  refine E_al1 k0_176 ?_
  refine E_cv0 k0_177 (Or.inl rfl) r1 cl107 rfl rfl m1 ?_
  refine E_al2 k0_178 ?_
  refine E_cv0 k0_179 (Or.inl rfl) r2 cl167 rfl rfl m2 ?_
  refine E_iceq k0_180 (fun c180 => ?_) (fun d180 => ?_)
  · skip
    exact hc
  · skip
    exact absurd rfl d180
set_option maxRecDepth 20000 in
theorem lq_13 {X : az_X} {w : az_W} {sz sl : Nat} {j : Nat} {v4 v5 v6 v7 : Value} {x : Int32} {w1 w2 : az_W} {fs8 fs9 : List Value} {res : az_R} (h1 : vp_in (nI (3 * j) + 1) X.1) (h2 : vp_in (nI (3 * j) + 2) X.1) (r1 : w 0 = .inr (8, fs8)) (r2 : w1 151 = .inr (9, fs9)) (m1 : az_M X 108 [.ref 0] w sz sl (some (.int x), w1, sz, sl)) (m2 : az_M X 172 [.ref 151] w1 sz sl (some (.int x), w2, sz, sl)) (hc : az_Ev X 0 408 [.retAddr 0, .ref 0, .ref 151, .int (nI (3 * j)), v4, v5, v6, v7] [] w2 sz sl res) : az_Ev X 0 183 [.retAddr 0, .ref 0, .ref 151, .int (nI (3 * j)), v4, v5, v6, v7] [] w sz sl res := by
  refine E_al1 k0_183 ?_
  refine E_cv0 k0_184 (Or.inl rfl) r1 cl108 rfl rfl m1 ?_
  refine E_al2 k0_185 ?_
  refine E_cv0 k0_186 (Or.inl rfl) r2 cl172 rfl rfl m2 ?_
  refine E_iceq k0_187 (fun c187 => ?_) (fun d187 => ?_)
  · skip
    exact hc
  · skip
    exact absurd rfl d187
set_option maxRecDepth 20000 in
theorem lq_14 {X : az_X} {w : az_W} {sz sl : Nat} {j : Nat} {v4 v5 v6 v7 : Value} {x : Int32} {w1 w2 : az_W} {fs8 fs9 : List Value} {res : az_R} (h1 : vp_in (nI (3 * j) + 1) X.1) (h2 : vp_in (nI (3 * j) + 2) X.1) (r1 : w 0 = .inr (8, fs8)) (r2 : w1 151 = .inr (9, fs9)) (m1 : az_M X 109 [.ref 0] w sz sl (some (.int x), w1, sz, sl)) (m2 : az_M X 173 [.ref 151] w1 sz sl (some (.int x), w2, sz, sl)) (hc : az_Ev X 0 408 [.retAddr 0, .ref 0, .ref 151, .int (nI (3 * j)), v4, v5, v6, v7] [] w2 sz sl res) : az_Ev X 0 190 [.retAddr 0, .ref 0, .ref 151, .int (nI (3 * j)), v4, v5, v6, v7] [] w sz sl res := by
  refine E_al1 k0_190 ?_
  refine E_cv0 k0_191 (Or.inl rfl) r1 cl109 rfl rfl m1 ?_
  refine E_al2 k0_192 ?_
  refine E_cv0 k0_193 (Or.inl rfl) r2 cl173 rfl rfl m2 ?_
  refine E_iceq k0_194 (fun c194 => ?_) (fun d194 => ?_)
  · skip
    exact hc
  · skip
    exact absurd rfl d194
set_option maxRecDepth 20000 in
theorem lq_15 {X : az_X} {w : az_W} {sz sl : Nat} {j : Nat} {v4 v5 v6 v7 : Value} {x : Int32} {w1 w2 : az_W} {fs8 fs9 : List Value} {res : az_R} (h1 : vp_in (nI (3 * j) + 1) X.1) (h2 : vp_in (nI (3 * j) + 2) X.1) (r1 : w 0 = .inr (8, fs8)) (r2 : w1 151 = .inr (9, fs9)) (m1 : az_M X 110 [.ref 0] w sz sl (some (.int x), w1, sz, sl)) (m2 : az_M X 174 [.ref 151] w1 sz sl (some (.int x), w2, sz, sl)) (hc : az_Ev X 0 408 [.retAddr 0, .ref 0, .ref 151, .int (nI (3 * j)), v4, v5, v6, v7] [] w2 sz sl res) : az_Ev X 0 197 [.retAddr 0, .ref 0, .ref 151, .int (nI (3 * j)), v4, v5, v6, v7] [] w sz sl res := by
  refine E_al1 k0_197 ?_
  refine E_cv0 k0_198 (Or.inl rfl) r1 cl110 rfl rfl m1 ?_
  refine E_al2 k0_199 ?_
  refine E_cv0 k0_200 (Or.inl rfl) r2 cl174 rfl rfl m2 ?_
  refine E_iceq k0_201 (fun c201 => ?_) (fun d201 => ?_)
  · skip
    exact hc
  · skip
    exact absurd rfl d201
set_option maxRecDepth 20000 in
theorem lq_16 {X : az_X} {w : az_W} {sz sl : Nat} {j : Nat} {v4 v5 v6 v7 : Value} {x : Int32} {w1 w2 : az_W} {fs8 fs9 : List Value} {res : az_R} (h1 : vp_in (nI (3 * j) + 1) X.1) (h2 : vp_in (nI (3 * j) + 2) X.1) (r1 : w 0 = .inr (8, fs8)) (r2 : w1 151 = .inr (9, fs9)) (m1 : az_M X 111 [.ref 0, .int (X.2 (nI (3 * j) + 1).toNatClampNeg)] w sz sl (some (.int x), w1, sz, sl)) (m2 : az_M X 176 [.ref 151, .int (X.2 (nI (3 * j) + 1).toNatClampNeg)] w1 sz sl (some (.int x), w2, sz, sl)) (hc : az_Ev X 0 408 [.retAddr 0, .ref 0, .ref 151, .int (nI (3 * j)), v4, v5, v6, v7] [] w2 sz sl res) : az_Ev X 0 204 [.retAddr 0, .ref 0, .ref 151, .int (nI (3 * j)), v4, v5, v6, v7] [] w sz sl res := by
  refine E_al1 k0_204 ?_
  refine E_alS0 k0_205 ?_
  refine E_il3 k0_206 ?_
  refine E_iconst k0_207 ?_
  refine E_iadd k0_208 ?_
  refine E_sld k0_209 rfl h1 ?_
  refine E_cv1 k0_210 (Or.inl rfl) r1 cl111 rfl rfl m1 ?_
  refine E_al2 k0_211 ?_
  refine E_alS0 k0_212 ?_
  refine E_il3 k0_213 ?_
  refine E_iconst k0_214 ?_
  refine E_iadd k0_215 ?_
  refine E_sld k0_216 rfl h1 ?_
  refine E_cv1 k0_217 (Or.inl rfl) r2 cl176 rfl rfl m2 ?_
  refine E_iceq k0_218 (fun c218 => ?_) (fun d218 => ?_)
  · skip
    exact hc
  · skip
    exact absurd rfl d218
set_option maxRecDepth 20000 in
theorem lq_17 {X : az_X} {w : az_W} {sz sl : Nat} {j : Nat} {v4 v5 v6 v7 : Value} {x : Int32} {w1 w2 : az_W} {fs8 fs9 : List Value} {res : az_R} (h1 : vp_in (nI (3 * j) + 1) X.1) (h2 : vp_in (nI (3 * j) + 2) X.1) (r1 : w 0 = .inr (8, fs8)) (r2 : w1 151 = .inr (9, fs9)) (m1 : az_M X 112 [.ref 0, .int (X.2 (nI (3 * j) + 1).toNatClampNeg)] w sz sl (some (.int x), w1, sz, sl)) (m2 : az_M X 177 [.ref 151, .int (X.2 (nI (3 * j) + 1).toNatClampNeg)] w1 sz sl (some (.int x), w2, sz, sl)) (hc : az_Ev X 0 408 [.retAddr 0, .ref 0, .ref 151, .int (nI (3 * j)), v4, v5, v6, v7] [] w2 sz sl res) : az_Ev X 0 221 [.retAddr 0, .ref 0, .ref 151, .int (nI (3 * j)), v4, v5, v6, v7] [] w sz sl res := by
  refine E_al1 k0_221 ?_
  refine E_alS0 k0_222 ?_
  refine E_il3 k0_223 ?_
  refine E_iconst k0_224 ?_
  refine E_iadd k0_225 ?_
  refine E_sld k0_226 rfl h1 ?_
  refine E_cv1 k0_227 (Or.inl rfl) r1 cl112 rfl rfl m1 ?_
  refine E_al2 k0_228 ?_
  refine E_alS0 k0_229 ?_
  refine E_il3 k0_230 ?_
  refine E_iconst k0_231 ?_
  refine E_iadd k0_232 ?_
  refine E_sld k0_233 rfl h1 ?_
  refine E_cv1 k0_234 (Or.inl rfl) r2 cl177 rfl rfl m2 ?_
  refine E_iceq k0_235 (fun c235 => ?_) (fun d235 => ?_)
  · skip
    exact hc
  · skip
    exact absurd rfl d235
set_option maxRecDepth 20000 in
theorem lq_18 {X : az_X} {w : az_W} {sz sl : Nat} {j : Nat} {v4 v5 v6 v7 : Value} {x : Int32} {w1 w2 : az_W} {fs8 fs9 : List Value} {res : az_R} (h1 : vp_in (nI (3 * j) + 1) X.1) (h2 : vp_in (nI (3 * j) + 2) X.1) (r1 : w 0 = .inr (8, fs8)) (r2 : w1 151 = .inr (9, fs9)) (m1 : az_M X 113 [.ref 0, .int (X.2 (nI (3 * j) + 1).toNatClampNeg), .int (X.2 (nI (3 * j) + 2).toNatClampNeg)] w sz sl (some (.int x), w1, sz, sl)) (m2 : az_M X 178 [.ref 151, .int (X.2 (nI (3 * j) + 1).toNatClampNeg), .int (X.2 (nI (3 * j) + 2).toNatClampNeg)] w1 sz sl (some (.int x), w2, sz, sl)) (hc : az_Ev X 0 408 [.retAddr 0, .ref 0, .ref 151, .int (nI (3 * j)), v4, v5, v6, v7] [] w2 sz sl res) : az_Ev X 0 238 [.retAddr 0, .ref 0, .ref 151, .int (nI (3 * j)), v4, v5, v6, v7] [] w sz sl res := by
  refine E_al1 k0_238 ?_
  refine E_alS0 k0_239 ?_
  refine E_il3 k0_240 ?_
  refine E_iconst k0_241 ?_
  refine E_iadd k0_242 ?_
  refine E_sld k0_243 rfl h1 ?_
  refine E_alS0 k0_244 ?_
  refine E_il3 k0_245 ?_
  refine E_iconst k0_246 ?_
  refine E_iadd k0_247 ?_
  refine E_sld k0_248 rfl h2 ?_
  refine E_cv2 k0_249 (Or.inl rfl) r1 cl113 rfl rfl m1 ?_
  refine E_al2 k0_250 ?_
  refine E_alS0 k0_251 ?_
  refine E_il3 k0_252 ?_
  refine E_iconst k0_253 ?_
  refine E_iadd k0_254 ?_
  refine E_sld k0_255 rfl h1 ?_
  refine E_alS0 k0_256 ?_
  refine E_il3 k0_257 ?_
  refine E_iconst k0_258 ?_
  refine E_iadd k0_259 ?_
  refine E_sld k0_260 rfl h2 ?_
  refine E_cv2 k0_261 (Or.inl rfl) r2 cl178 rfl rfl m2 ?_
  refine E_iceq k0_262 (fun c262 => ?_) (fun d262 => ?_)
  · skip
    exact hc
  · skip
    exact absurd rfl d262
set_option maxRecDepth 20000 in
theorem lq_19 {X : az_X} {w : az_W} {sz sl : Nat} {j : Nat} {v4 v5 v6 v7 : Value} {x : Int32} {w1 w2 : az_W} {fs8 fs9 : List Value} {res : az_R} (h1 : vp_in (nI (3 * j) + 1) X.1) (h2 : vp_in (nI (3 * j) + 2) X.1) (r1 : w 0 = .inr (8, fs8)) (r2 : w1 151 = .inr (9, fs9)) (m1 : az_M X 114 [.ref 0, .int (X.2 (nI (3 * j) + 1).toNatClampNeg), .int (X.2 (nI (3 * j) + 2).toNatClampNeg)] w sz sl (some (.int x), w1, sz, sl)) (m2 : az_M X 179 [.ref 151, .int (X.2 (nI (3 * j) + 1).toNatClampNeg), .int (X.2 (nI (3 * j) + 2).toNatClampNeg)] w1 sz sl (some (.int x), w2, sz, sl)) (hc : az_Ev X 0 408 [.retAddr 0, .ref 0, .ref 151, .int (nI (3 * j)), v4, v5, v6, v7] [] w2 sz sl res) : az_Ev X 0 265 [.retAddr 0, .ref 0, .ref 151, .int (nI (3 * j)), v4, v5, v6, v7] [] w sz sl res := by
  refine E_al1 k0_265 ?_
  refine E_alS0 k0_266 ?_
  refine E_il3 k0_267 ?_
  refine E_iconst k0_268 ?_
  refine E_iadd k0_269 ?_
  refine E_sld k0_270 rfl h1 ?_
  refine E_alS0 k0_271 ?_
  refine E_il3 k0_272 ?_
  refine E_iconst k0_273 ?_
  refine E_iadd k0_274 ?_
  refine E_sld k0_275 rfl h2 ?_
  refine E_cv2 k0_276 (Or.inl rfl) r1 cl114 rfl rfl m1 ?_
  refine E_al2 k0_277 ?_
  refine E_alS0 k0_278 ?_
  refine E_il3 k0_279 ?_
  refine E_iconst k0_280 ?_
  refine E_iadd k0_281 ?_
  refine E_sld k0_282 rfl h1 ?_
  refine E_alS0 k0_283 ?_
  refine E_il3 k0_284 ?_
  refine E_iconst k0_285 ?_
  refine E_iadd k0_286 ?_
  refine E_sld k0_287 rfl h2 ?_
  refine E_cv2 k0_288 (Or.inl rfl) r2 cl179 rfl rfl m2 ?_
  refine E_iceq k0_289 (fun c289 => ?_) (fun d289 => ?_)
  · skip
    exact hc
  · skip
    exact absurd rfl d289
set_option maxRecDepth 20000 in
theorem lq_20 {X : az_X} {w : az_W} {sz sl : Nat} {j : Nat} {v4 v5 v6 v7 : Value} {x : Int32} {w1 w2 : az_W} {fs8 fs9 : List Value} {res : az_R} (h1 : vp_in (nI (3 * j) + 1) X.1) (h2 : vp_in (nI (3 * j) + 2) X.1) (r1 : w 0 = .inr (8, fs8)) (r2 : w1 151 = .inr (9, fs9)) (m1 : az_M X 115 [.ref 0, .int (X.2 (nI (3 * j) + 1).toNatClampNeg), .int (X.2 (nI (3 * j) + 2).toNatClampNeg)] w sz sl (some (.int x), w1, sz, sl)) (m2 : az_M X 181 [.ref 151, .int (X.2 (nI (3 * j) + 1).toNatClampNeg), .int (X.2 (nI (3 * j) + 2).toNatClampNeg)] w1 sz sl (some (.int x), w2, sz, sl)) (hc : az_Ev X 0 408 [.retAddr 0, .ref 0, .ref 151, .int (nI (3 * j)), v4, v5, v6, v7] [] w2 sz sl res) : az_Ev X 0 292 [.retAddr 0, .ref 0, .ref 151, .int (nI (3 * j)), v4, v5, v6, v7] [] w sz sl res := by
  refine E_al1 k0_292 ?_
  refine E_alS0 k0_293 ?_
  refine E_il3 k0_294 ?_
  refine E_iconst k0_295 ?_
  refine E_iadd k0_296 ?_
  refine E_sld k0_297 rfl h1 ?_
  refine E_alS0 k0_298 ?_
  refine E_il3 k0_299 ?_
  refine E_iconst k0_300 ?_
  refine E_iadd k0_301 ?_
  refine E_sld k0_302 rfl h2 ?_
  refine E_cv2 k0_303 (Or.inl rfl) r1 cl115 rfl rfl m1 ?_
  refine E_al2 k0_304 ?_
  refine E_alS0 k0_305 ?_
  refine E_il3 k0_306 ?_
  refine E_iconst k0_307 ?_
  refine E_iadd k0_308 ?_
  refine E_sld k0_309 rfl h1 ?_
  refine E_alS0 k0_310 ?_
  refine E_il3 k0_311 ?_
  refine E_iconst k0_312 ?_
  refine E_iadd k0_313 ?_
  refine E_sld k0_314 rfl h2 ?_
  refine E_cv2 k0_315 (Or.inl rfl) r2 cl181 rfl rfl m2 ?_
  refine E_iceq k0_316 (fun c316 => ?_) (fun d316 => ?_)
  · skip
    exact hc
  · skip
    exact absurd rfl d316
set_option maxRecDepth 20000 in
theorem lq_21 {X : az_X} {w : az_W} {sz sl : Nat} {j : Nat} {v4 v5 v6 v7 : Value} {x : Int32} {w1 w2 : az_W} {fs8 fs9 : List Value} {res : az_R} (h1 : vp_in (nI (3 * j) + 1) X.1) (h2 : vp_in (nI (3 * j) + 2) X.1) (r1 : w 0 = .inr (8, fs8)) (r2 : w1 151 = .inr (9, fs9)) (m1 : az_M X 116 [.ref 0, .int (X.2 (nI (3 * j) + 1).toNatClampNeg), .int (X.2 (nI (3 * j) + 2).toNatClampNeg)] w sz sl (some (.int x), w1, sz, sl)) (m2 : az_M X 182 [.ref 151, .int (X.2 (nI (3 * j) + 1).toNatClampNeg), .int (X.2 (nI (3 * j) + 2).toNatClampNeg)] w1 sz sl (some (.int x), w2, sz, sl)) (hc : az_Ev X 0 408 [.retAddr 0, .ref 0, .ref 151, .int (nI (3 * j)), v4, v5, v6, v7] [] w2 sz sl res) : az_Ev X 0 319 [.retAddr 0, .ref 0, .ref 151, .int (nI (3 * j)), v4, v5, v6, v7] [] w sz sl res := by
  refine E_al1 k0_319 ?_
  refine E_alS0 k0_320 ?_
  refine E_il3 k0_321 ?_
  refine E_iconst k0_322 ?_
  refine E_iadd k0_323 ?_
  refine E_sld k0_324 rfl h1 ?_
  refine E_alS0 k0_325 ?_
  refine E_il3 k0_326 ?_
  refine E_iconst k0_327 ?_
  refine E_iadd k0_328 ?_
  refine E_sld k0_329 rfl h2 ?_
  refine E_cv2 k0_330 (Or.inl rfl) r1 cl116 rfl rfl m1 ?_
  refine E_al2 k0_331 ?_
  refine E_alS0 k0_332 ?_
  refine E_il3 k0_333 ?_
  refine E_iconst k0_334 ?_
  refine E_iadd k0_335 ?_
  refine E_sld k0_336 rfl h1 ?_
  refine E_alS0 k0_337 ?_
  refine E_il3 k0_338 ?_
  refine E_iconst k0_339 ?_
  refine E_iadd k0_340 ?_
  refine E_sld k0_341 rfl h2 ?_
  refine E_cv2 k0_342 (Or.inl rfl) r2 cl182 rfl rfl m2 ?_
  refine E_iceq k0_343 (fun c343 => ?_) (fun d343 => ?_)
  · skip
    exact hc
  · skip
    exact absurd rfl d343
set_option maxRecDepth 20000 in
theorem lq_22 {X : az_X} {w : az_W} {sz sl : Nat} {j : Nat} {v4 v5 v6 v7 : Value} {x : Int32} {w1 w2 : az_W} {fs8 fs9 : List Value} {res : az_R} (h1 : vp_in (nI (3 * j) + 1) X.1) (h2 : vp_in (nI (3 * j) + 2) X.1) (r1 : w 0 = .inr (8, fs8)) (r2 : w1 151 = .inr (9, fs9)) (m1 : az_M X 117 [.ref 0, .int (X.2 (nI (3 * j) + 1).toNatClampNeg)] w sz sl (some (.int x), w1, sz, sl)) (m2 : az_M X 183 [.ref 151, .int (X.2 (nI (3 * j) + 1).toNatClampNeg)] w1 sz sl (some (.int x), w2, sz, sl)) (hc : az_Ev X 0 408 [.retAddr 0, .ref 0, .ref 151, .int (nI (3 * j)), v4, v5, v6, v7] [] w2 sz sl res) : az_Ev X 0 346 [.retAddr 0, .ref 0, .ref 151, .int (nI (3 * j)), v4, v5, v6, v7] [] w sz sl res := by
  refine E_al1 k0_346 ?_
  refine E_alS0 k0_347 ?_
  refine E_il3 k0_348 ?_
  refine E_iconst k0_349 ?_
  refine E_iadd k0_350 ?_
  refine E_sld k0_351 rfl h1 ?_
  refine E_cv1 k0_352 (Or.inl rfl) r1 cl117 rfl rfl m1 ?_
  refine E_al2 k0_353 ?_
  refine E_alS0 k0_354 ?_
  refine E_il3 k0_355 ?_
  refine E_iconst k0_356 ?_
  refine E_iadd k0_357 ?_
  refine E_sld k0_358 rfl h1 ?_
  refine E_cv1 k0_359 (Or.inl rfl) r2 cl183 rfl rfl m2 ?_
  refine E_iceq k0_360 (fun c360 => ?_) (fun d360 => ?_)
  · skip
    exact hc
  · skip
    exact absurd rfl d360
set_option maxRecDepth 20000 in
theorem lq_24 {X : az_X} {w : az_W} {sz sl : Nat} {j : Nat} {v4 v5 v6 v7 : Value} {x : Int32} {w1 w2 : az_W} {fs8 fs9 : List Value} {res : az_R} (h1 : vp_in (nI (3 * j) + 1) X.1) (h2 : vp_in (nI (3 * j) + 2) X.1) (r1 : w 0 = .inr (8, fs8)) (r2 : w1 151 = .inr (9, fs9)) (m1 : az_M X 119 [.ref 0] w sz sl (some (.int x), w1, sz, sl)) (m2 : az_M X 187 [.ref 151] w1 sz sl (some (.int x), w2, sz, sl)) (hc : az_Ev X 0 408 [.retAddr 0, .ref 0, .ref 151, .int (nI (3 * j)), v4, v5, v6, v7] [] w2 sz sl res) : az_Ev X 0 384 [.retAddr 0, .ref 0, .ref 151, .int (nI (3 * j)), v4, v5, v6, v7] [] w sz sl res := by
  refine E_al1 k0_384 ?_
  refine E_cv0 k0_385 (Or.inl rfl) r1 cl119 rfl rfl m1 ?_
  refine E_al2 k0_386 ?_
  refine E_cv0 k0_387 (Or.inl rfl) r2 cl187 rfl rfl m2 ?_
  refine E_iceq k0_388 (fun c388 => ?_) (fun d388 => ?_)
  · skip
    exact hc
  · skip
    exact absurd rfl d388
set_option maxRecDepth 20000 in
theorem lq_25 {X : az_X} {w : az_W} {sz sl : Nat} {j : Nat} {v4 v5 v6 v7 : Value} {x : Int32} {w1 w2 : az_W} {fs8 fs9 : List Value} {res : az_R} (h1 : vp_in (nI (3 * j) + 1) X.1) (h2 : vp_in (nI (3 * j) + 2) X.1) (r1 : w 0 = .inr (8, fs8)) (r2 : w1 151 = .inr (9, fs9)) (m1 : az_M X 120 [.ref 0, .int (X.2 (nI (3 * j) + 1).toNatClampNeg)] w sz sl (some (.int x), w1, sz, sl)) (m2 : az_M X 191 [.ref 151, .int (X.2 (nI (3 * j) + 1).toNatClampNeg)] w1 sz sl (some (.int x), w2, sz, sl)) (hc : az_Ev X 0 408 [.retAddr 0, .ref 0, .ref 151, .int (nI (3 * j)), v4, v5, v6, v7] [] w2 sz sl res) : az_Ev X 0 391 [.retAddr 0, .ref 0, .ref 151, .int (nI (3 * j)), v4, v5, v6, v7] [] w sz sl res := by
  refine E_al1 k0_391 ?_
  refine E_alS0 k0_392 ?_
  refine E_il3 k0_393 ?_
  refine E_iconst k0_394 ?_
  refine E_iadd k0_395 ?_
  refine E_sld k0_396 rfl h1 ?_
  refine E_cv1 k0_397 (Or.inl rfl) r1 cl120 rfl rfl m1 ?_
  refine E_al2 k0_398 ?_
  refine E_alS0 k0_399 ?_
  refine E_il3 k0_400 ?_
  refine E_iconst k0_401 ?_
  refine E_iadd k0_402 ?_
  refine E_sld k0_403 rfl h1 ?_
  refine E_cv1 k0_404 (Or.inl rfl) r2 cl191 rfl rfl m2 ?_
  refine E_iceq k0_405 (fun c405 => ?_) (fun d405 => ?_)
  · skip
    exact hc
  · skip
    exact absurd rfl d405
set_option maxRecDepth 20000 in
theorem lq_23 {X : az_X} {w : az_W} {sz sl : Nat} {j : Nat} {v4 v5 v6 v7 : Value} {d : UInt64} {fs8 fs9 : List Value} {res : az_R} (r1 : w 0 = .inr (8, fs8)) (r2 : w 151 = .inr (9, fs9)) (m1 : az_M X 118 [.ref 0] w sz sl (some (.double d), w, sz, sl)) (m2 : az_M X 186 [.ref 151] w sz sl (some (.double d), w, sz, sl)) (hd : FP.dcmp d d = some .eq) (hc : az_Ev X 0 408 [.retAddr 0, .ref 0, .ref 151, .int (nI (3 * j)), .double d, .null, .double d, .null] [] w sz sl res) : az_Ev X 0 363 [.retAddr 0, .ref 0, .ref 151, .int (nI (3 * j)), v4, v5, v6, v7] [] w sz sl res := by
  refine E_al1 k0_363 ?_
  refine E_cv0 k0_364 (Or.inl rfl) r1 cl118 rfl rfl m1 ?_
  refine E_ds4 k0_365 rfl ?_
  refine E_al2 k0_366 ?_
  refine E_cv0 k0_367 (Or.inl rfl) r2 cl186 rfl rfl m2 ?_
  refine E_ds6 k0_368 rfl ?_
  refine E_dl4 k0_369 ?_
  refine E_dl6 k0_370 ?_
  refine E_dcmp k0_371 ?_
  rw [hd]
  refine E_ifeq k0_372 (fun c372 => ?_) (fun d372 => ?_)
  · skip
    refine E_goto k0_383 ?_
    exact hc
  · skip
    exact absurd rfl d372
set_option maxRecDepth 20000 in
theorem lq_head {X : az_X} {w : az_W} {sz sl : Nat} {j : Nat} {v4 v5 v6 v7 : Value} {res : az_R} (hX : X.1 ≤ 1536) (hj : 3 * j + 3 ≤ X.1) (hk : az_Ev X 0 21 [.retAddr 0, .ref 0, .ref 151, .int (nI (3 * j)), v4, v5, v6, v7] [.int (X.2 (nI (3 * j)).toNatClampNeg &&& 31)] w sz sl res) : az_Ev X 0 10 [.retAddr 0, .ref 0, .ref 151, .int (nI (3 * j)), v4, v5, v6, v7] [] w sz sl res := by
  refine E_il3 k0_10 ?_
  refine E_alS0 k0_11 ?_
  refine E_slen k0_12 rfl ?_
  refine E_iconst k0_13 ?_
  refine E_isub k0_14 ?_
  refine E_icgt k0_15 (fun c15 => ?_) (fun d15 => ?_)
  · skip
    rw [ixs (x := nI X.1) (y := 3) (a := X.1) (b := 3) rfl rfl (by omega)] at c15
    exact absurd ((nI_ltI (by omega) (by omega)).mp c15) (by omega)
  · skip
    refine E_alS0 k0_16 ?_
    refine E_il3 k0_17 ?_
    refine E_sld k0_18 rfl (vp_in_nI (by omega) (by omega)) ?_
    refine E_bipush k0_19 ?_
    refine E_iand k0_20 ?_
    exact hk
set_option maxRecDepth 20000 in
theorem lq_end {X : az_X} {w : az_W} {sz sl : Nat} {j : Nat} {v4 v5 v6 v7 : Value} (hX : X.1 ≤ 1536) (hj : j = X.1 / 3) : az_Ev X 0 10 [.retAddr 0, .ref 0, .ref 151, .int (nI (3 * j)), v4, v5, v6, v7] [] w sz sl (some (.int 1), w, sz, sl) := by
  refine E_il3 k0_10 ?_
  refine E_alS0 k0_11 ?_
  refine E_slen k0_12 rfl ?_
  refine E_iconst k0_13 ?_
  refine E_isub k0_14 ?_
  refine E_icgt k0_15 (fun c15 => ?_) (fun d15 => ?_)
  · skip
    refine E_iconst k0_410 ?_
    exact E_zret k0_411 hd0 rfl (by first | exact Or.inl rfl | exact Or.inr rfl | exact zb01 _ | assumption) rfl
  · skip
    refine absurd ?_ d15
    rcases Nat.lt_or_ge X.1 3 with z | z
    · have hj0 : j = 0 := by omega
      have hx : X.1 = 0 ∨ X.1 = 1 ∨ X.1 = 2 := by omega
      rw [hj0]
      rcases hx with y | y | y <;> rw [y] <;> decide
    · rw [ixs (x := nI X.1) (y := 3) (a := X.1) (b := 3) rfl rfl z]
      exact (nI_ltI (by omega) (by omega)).mpr (by omega)
theorem law_sw {X : az_X} {L st : List Value} {w : az_W} {sz sl : Nat} {res : az_R} {x : Int32} {q kk : Nat} (hx : x.toInt = (q : Int)) (hq : q < 26) (hk : ([22, 49, 66, 73, 80, 87, 94, 101, 108, 133, 140, 157, 176, 183, 190, 197, 204, 221, 238, 265, 292, 319, 346, 363, 384, 391] : List Nat)[q]? = some kk) (h : az_Ev X 0 kk L st w sz sl res) : az_Ev X 0 21 L (.int x :: st) w sz sl res :=
  E_sw k0_21 (by decide) (fun jj kk2 hjk hx2 => by
    have e : jj = q := by omega
    rw [e, hk] at hjk
    cases hjk
    exact h) (fun hx2 => by
    rcases hx2 with z | z
    · omega
    · have : ((25 : Int)) < x.toInt := z
      omega)
theorem law_go {X : az_X} {sz sl : Nat} (hX : X.1 ≤ 1536) : ∀ j : Nat, j ≤ X.1 / 3 → ∀ (w : az_W) (v4 v5 v6 v7 : Value), BB (10 * j) w → ∃ w', az_Ev X 0 10 [.retAddr 0, .ref 0, .ref 151, .int (nI (3 * j)), v4, v5, v6, v7] [] w sz sl (some (.int 1), w', sz, sl) := by
  refine az_ind (X.1 / 3) _ (fun j hj ih => ?_)
  intro w v4 v5 v6 v7 hb
  by_cases hlt : j < X.1 / 3
  · have hix : 3 * j + 3 ≤ X.1 := by omega
    have h1 : vp_in (nI (3 * j) + 1) X.1 := by
      rw [nI_1]
      exact vp_in_nI (by omega) (by omega)
    have h2 : vp_in (nI (3 * j) + 2) X.1 := by
      rw [show (2 : Int32) = nI 2 from rfl, nI_add]
      exact vp_in_nI (by omega) (by omega)
    have hc : ∀ (B : Nat) (w2 : az_W) (v4 v5 v6 v7 : Value), B ≤ 10 * j + 10 → BB B w2 → ∃ w', az_Ev X 0 408 [.retAddr 0, .ref 0, .ref 151, .int (nI (3 * j)), v4, v5, v6, v7] [] w2 sz sl (some (.int 1), w', sz, sl) := fun B w2 v4 v5 v6 v7 hB hb2 => by
      obtain ⟨w', h⟩ := ih hlt w2 v4 v5 v6 v7 (HR_m hb2 (by omega))
      refine ⟨w', E_inc3 k0_408 rfl (E_goto k0_409 (ev_cong h ?_ rfl rfl))⟩
      have e : nI (3 * j) + 3 = nI (3 * (j + 1)) := by
        rw [show (3 : Int32) = nI 3 from rfl, nI_add]
        exact congrArg nI (by omega)
      rw [e]
    obtain ⟨fs8, r1⟩ := BB_w0 hb
    have key : ∃ w', az_Ev X 0 21 [.retAddr 0, .ref 0, .ref 151, .int (nI (3 * j)), v4, v5, v6, v7] [.int (X.2 (nI (3 * j)).toNatClampNeg &&& 31)] w sz sl (some (.int 1), w', sz, sl) := by
      generalize X.2 (nI (3 * j)).toNatClampNeg &&& 31 = x0
      by_cases hq : x0.toInt < 0 ∨ 25 < x0.toInt
      · obtain ⟨w', h⟩ := hc _ w v4 v5 v6 v7 (Nat.le_add_right _ 10) hb
        exact ⟨w', E_sw k0_21 (by decide) (fun jj kk hjk hx => by
          have : jj < 26 := (List.getElem?_eq_some_iff.mp hjk).1
          omega) (fun _ => h)⟩
      · obtain ⟨q, hq1, hq2⟩ : ∃ q : Nat, q < 26 ∧ x0.toInt = (q : Int) := ⟨x0.toInt.toNat, by omega, by omega⟩
        match q, hq1, hq2 with
        | 0, hq1, hq2 =>
          obtain ⟨x, w1, w2, ⟨fs9, r2⟩, m1, m2, hb2⟩ := cal_write (X := X) (sz := sz) (sl := sl) (p := X.2 (nI (3 * j) + 1).toNatClampNeg) (c := X.2 (nI (3 * j) + 2).toNatClampNeg) hb
          obtain ⟨w', h⟩ := hc _ w2 v4 v5 v6 v7 (by omega) hb2
          exact ⟨w', law_sw hq2 hq1 rfl (lq_0 h1 h2 r1 r2 m1 m2 h)⟩
        | 1, hq1, hq2 =>
          obtain ⟨x, w1, w2, ⟨fs9, r2⟩, m1, m2, hb2⟩ := cal_drop (X := X) (sz := sz) (sl := sl) (p := X.2 (nI (3 * j) + 1).toNatClampNeg) hb
          obtain ⟨w', h⟩ := hc _ w2 v4 v5 v6 v7 (by omega) hb2
          exact ⟨w', law_sw hq2 hq1 rfl (lq_1 h1 h2 r1 r2 m1 m2 h)⟩
        | 2, hq1, hq2 =>
          obtain ⟨x, w1, w2, ⟨fs9, r2⟩, m1, m2, hb2⟩ := cal_writeAll (X := X) (sz := sz) (sl := sl)  hb
          obtain ⟨w', h⟩ := hc _ w2 v4 v5 v6 v7 (by omega) hb2
          exact ⟨w', law_sw hq2 hq1 rfl (lq_2 h1 h2 r1 r2 m1 m2 h)⟩
        | 3, hq1, hq2 =>
          obtain ⟨x, w1, w2, ⟨fs9, r2⟩, m1, m2, hb2⟩ := cal_clear (X := X) (sz := sz) (sl := sl)  hb
          obtain ⟨w', h⟩ := hc _ w2 v4 v5 v6 v7 (by omega) hb2
          exact ⟨w', law_sw hq2 hq1 rfl (lq_3 h1 h2 r1 r2 m1 m2 h)⟩
        | 4, hq1, hq2 =>
          obtain ⟨x, w1, w2, ⟨fs9, r2⟩, m1, m2, hb2⟩ := cal_begin (X := X) (sz := sz) (sl := sl)  hb
          obtain ⟨w', h⟩ := hc _ w2 v4 v5 v6 v7 (by omega) hb2
          exact ⟨w', law_sw hq2 hq1 rfl (lq_4 h1 h2 r1 r2 m1 m2 h)⟩
        | 5, hq1, hq2 =>
          obtain ⟨x, w1, w2, ⟨fs9, r2⟩, m1, m2, hb2⟩ := cal_step (X := X) (sz := sz) (sl := sl)  hb
          obtain ⟨w', h⟩ := hc _ w2 v4 v5 v6 v7 (by omega) hb2
          exact ⟨w', law_sw hq2 hq1 rfl (lq_5 h1 h2 r1 r2 m1 m2 h)⟩
        | 6, hq1, hq2 =>
          obtain ⟨x, w1, w2, ⟨fs9, r2⟩, m1, m2, hb2⟩ := cal_finish (X := X) (sz := sz) (sl := sl)  hb
          obtain ⟨w', h⟩ := hc _ w2 v4 v5 v6 v7 (by omega) hb2
          exact ⟨w', law_sw hq2 hq1 rfl (lq_6 h1 h2 r1 r2 m1 m2 h)⟩
        | 7, hq1, hq2 =>
          obtain ⟨x, w1, w2, ⟨fs9, r2⟩, m1, m2, hb2⟩ := cal_give (X := X) (sz := sz) (sl := sl)  hb
          obtain ⟨w', h⟩ := hc _ w2 v4 v5 v6 v7 (by omega) hb2
          exact ⟨w', law_sw hq2 hq1 rfl (lq_7 h1 h2 r1 r2 m1 m2 h)⟩
        | 8, hq1, hq2 =>
          by_cases hz : X.2 (nI (3 * j) + 1).toNatClampNeg = 0
          · obtain ⟨x, w1, w2, ⟨fs9, r2⟩, m1, m2, hb2⟩ := cal_crash (X := X) (sz := sz) (sl := sl) (b := false) hb
            obtain ⟨w', h⟩ := hc _ w2 v4 v5 v6 v7 (by omega) hb2
            exact ⟨w', law_sw hq2 hq1 rfl (lq_8b h1 h2 r1 r2 m1 m2 h hz)⟩
          · obtain ⟨x, w1, w2, ⟨fs9, r2⟩, m1, m2, hb2⟩ := cal_crash (X := X) (sz := sz) (sl := sl) (b := true) hb
            obtain ⟨w', h⟩ := hc _ w2 v4 v5 v6 v7 (by omega) hb2
            exact ⟨w', law_sw hq2 hq1 rfl (lq_8a h1 h2 r1 r2 m1 m2 h hz)⟩
        | 9, hq1, hq2 =>
          obtain ⟨x, w1, w2, ⟨fs9, r2⟩, m1, m2, hb2⟩ := cal_open (X := X) (sz := sz) (sl := sl)  hb
          obtain ⟨w', h⟩ := hc _ w2 v4 v5 v6 v7 (by omega) hb2
          exact ⟨w', law_sw hq2 hq1 rfl (lq_9 h1 h2 r1 r2 m1 m2 h)⟩
        | 10, hq1, hq2 =>
          obtain ⟨x, w1, w2, ⟨fs9, r2⟩, m1, m2, hb2⟩ := cal_close (X := X) (sz := sz) (sl := sl) (r := X.2 (nI (3 * j) + 1).toNatClampNeg) hb
          obtain ⟨w', h⟩ := hc _ w2 v4 v5 v6 v7 (by omega) hb2
          exact ⟨w', law_sw hq2 hq1 rfl (lq_10 h1 h2 r1 r2 m1 m2 h)⟩
        | 11, hq1, hq2 =>
          obtain ⟨x, w1, w2, ⟨fs9, r2⟩, m1, m2, hb2⟩ := cal_type (X := X) (sz := sz) (sl := sl) (c := ((X.2 (nI (3 * j) + 1).toNatClampNeg).toUInt32 % 65536).toInt32) hb
          obtain ⟨w', h⟩ := hc _ w2 v4 v5 v6 v7 (by omega) hb2
          exact ⟨w', law_sw hq2 hq1 rfl (lq_11 h1 h2 r1 r2 m1 m2 h)⟩
        | 12, hq1, hq2 =>
          obtain ⟨x, w1, w2, ⟨fs9, r2⟩, m1, m2, hb2⟩ := cal_clearText (X := X) (sz := sz) (sl := sl)  hb
          obtain ⟨w', h⟩ := hc _ w2 v4 v5 v6 v7 (by omega) hb2
          exact ⟨w', law_sw hq2 hq1 rfl (lq_12 h1 h2 r1 r2 m1 m2 h)⟩
        | 13, hq1, hq2 =>
          obtain ⟨x, w1, w2, ⟨fs9, r2⟩, m1, m2, hb2⟩ := cal_undo (X := X) (sz := sz) (sl := sl)  hb
          obtain ⟨w', h⟩ := hc _ w2 v4 v5 v6 v7 (by omega) hb2
          exact ⟨w', law_sw hq2 hq1 rfl (lq_13 h1 h2 r1 r2 m1 m2 h)⟩
        | 14, hq1, hq2 =>
          obtain ⟨x, w1, w2, ⟨fs9, r2⟩, m1, m2, hb2⟩ := cal_keep (X := X) (sz := sz) (sl := sl)  hb
          obtain ⟨w', h⟩ := hc _ w2 v4 v5 v6 v7 (by omega) hb2
          exact ⟨w', law_sw hq2 hq1 rfl (lq_14 h1 h2 r1 r2 m1 m2 h)⟩
        | 15, hq1, hq2 =>
          obtain ⟨x, w1, w2, ⟨fs9, r2⟩, m1, m2, hb2⟩ := cal_restore (X := X) (sz := sz) (sl := sl)  hb
          obtain ⟨w', h⟩ := hc _ w2 v4 v5 v6 v7 (by omega) hb2
          exact ⟨w', law_sw hq2 hq1 rfl (lq_15 h1 h2 r1 r2 m1 m2 h)⟩
        | 16, hq1, hq2 =>
          obtain ⟨x, w1, w2, ⟨fs9, r2⟩, m1, m2, hb2⟩ := cal_read (X := X) (sz := sz) (sl := sl) (p := X.2 (nI (3 * j) + 1).toNatClampNeg) hb
          obtain ⟨w', h⟩ := hc _ w2 v4 v5 v6 v7 (by omega) hb2
          exact ⟨w', law_sw hq2 hq1 rfl (lq_16 h1 h2 r1 r2 m1 m2 h)⟩
        | 17, hq1, hq2 =>
          obtain ⟨x, w1, w2, ⟨fs9, r2⟩, m1, m2, hb2⟩ := cal_readDesk (X := X) (sz := sz) (sl := sl) (p := X.2 (nI (3 * j) + 1).toNatClampNeg) hb
          obtain ⟨w', h⟩ := hc _ w2 v4 v5 v6 v7 (by omega) hb2
          exact ⟨w', law_sw hq2 hq1 rfl (lq_17 h1 h2 r1 r2 m1 m2 h)⟩
        | 18, hq1, hq2 =>
          obtain ⟨x, w1, w2, ⟨fs9, r2⟩, m1, m2, hb2⟩ := cal_readBy (X := X) (sz := sz) (sl := sl) (r := X.2 (nI (3 * j) + 1).toNatClampNeg) (p := X.2 (nI (3 * j) + 2).toNatClampNeg) hb
          obtain ⟨w', h⟩ := hc _ w2 v4 v5 v6 v7 (by omega) hb2
          exact ⟨w', law_sw hq2 hq1 rfl (lq_18 h1 h2 r1 r2 m1 m2 h)⟩
        | 19, hq1, hq2 =>
          obtain ⟨x, w1, w2, ⟨fs9, r2⟩, m1, m2, hb2⟩ := cal_cell (X := X) (sz := sz) (sl := sl) (c := X.2 (nI (3 * j) + 1).toNatClampNeg) (q := X.2 (nI (3 * j) + 2).toNatClampNeg) hb
          obtain ⟨w', h⟩ := hc _ w2 v4 v5 v6 v7 (by omega) hb2
          exact ⟨w', law_sw hq2 hq1 rfl (lq_19 h1 h2 r1 r2 m1 m2 h)⟩
        | 20, hq1, hq2 =>
          obtain ⟨x, w1, w2, ⟨fs9, r2⟩, m1, m2, hb2⟩ := cal_table (X := X) (sz := sz) (sl := sl) (c := X.2 (nI (3 * j) + 1).toNatClampNeg) (q := X.2 (nI (3 * j) + 2).toNatClampNeg) hb
          obtain ⟨w', h⟩ := hc _ w2 v4 v5 v6 v7 (by omega) hb2
          exact ⟨w', law_sw hq2 hq1 rfl (lq_20 h1 h2 r1 r2 m1 m2 h)⟩
        | 21, hq1, hq2 =>
          obtain ⟨x, w1, w2, ⟨fs9, r2⟩, m1, m2, hb2⟩ := cal_owed (X := X) (sz := sz) (sl := sl) (c := X.2 (nI (3 * j) + 1).toNatClampNeg) (q := X.2 (nI (3 * j) + 2).toNatClampNeg) hb
          obtain ⟨w', h⟩ := hc _ w2 v4 v5 v6 v7 (by omega) hb2
          exact ⟨w', law_sw hq2 hq1 rfl (lq_21 h1 h2 r1 r2 m1 m2 h)⟩
        | 22, hq1, hq2 =>
          obtain ⟨x, w1, w2, ⟨fs9, r2⟩, m1, m2, hb2⟩ := cal_reader (X := X) (sz := sz) (sl := sl) (r := X.2 (nI (3 * j) + 1).toNatClampNeg) hb
          obtain ⟨w', h⟩ := hc _ w2 v4 v5 v6 v7 (by omega) hb2
          exact ⟨w', law_sw hq2 hq1 rfl (lq_22 h1 h2 r1 r2 m1 m2 h)⟩
        | 23, hq1, hq2 =>
          obtain ⟨d, ⟨fs9, r2⟩, m1, m2, hd⟩ := cal_even (X := X) (sz := sz) (sl := sl) hb (by omega)
          obtain ⟨w', h⟩ := hc _ w (.double d) .null (.double d) .null (Nat.le_add_right _ 10) hb
          exact ⟨w', law_sw hq2 hq1 rfl (lq_23 r1 r2 m1 m2 hd h)⟩
        | 24, hq1, hq2 =>
          obtain ⟨x, w1, w2, ⟨fs9, r2⟩, m1, m2, hb2⟩ := cal_bits (X := X) (sz := sz) (sl := sl)  hb (by omega)
          obtain ⟨w', h⟩ := hc _ w2 v4 v5 v6 v7 (by omega) hb2
          exact ⟨w', law_sw hq2 hq1 rfl (lq_24 h1 h2 r1 r2 m1 m2 h)⟩
        | 25, hq1, hq2 =>
          obtain ⟨x, w1, w2, ⟨fs9, r2⟩, m1, m2, hb2⟩ := cal_count (X := X) (sz := sz) (sl := sl) (q := X.2 (nI (3 * j) + 1).toNatClampNeg) hb
          obtain ⟨w', h⟩ := hc _ w2 v4 v5 v6 v7 (by omega) hb2
          exact ⟨w', law_sw hq2 hq1 rfl (lq_25 h1 h2 r1 r2 m1 m2 h)⟩
        | n + 26, hq1, _ => omega
    obtain ⟨w', hk⟩ := key
    exact ⟨w', lq_head hX hix hk⟩
  · exact ⟨w, lq_end hX (by omega)⟩
theorem mw_x {w : az_W} {T : az_S} {e : va_E} : mw (va_up w 151 e) T = mw w T := bk_ext (fun k hk => by
  rw [bk_out hk, up_x (by omega)]) (fun i hi => bk_at i hi) |>.symm
/-- the law's whole run -/
theorem law_all {X : az_X} {w : az_W} {sl : Nat} (hX : X.1 ≤ 1536) : ∃ w', az_M X 0 [.retAddr 0] w 0 sl (some (.int 1), w', 157, sl + 2227) := by
  obtain ⟨w', h⟩ := law_go (X := X) (sz := 157) (sl := sl + 5 + 1192 + 10 + 1020) hX 0 (Nat.zero_le _) (mw (bk (va_up w 0 (.inr (8, az_dv 8 5))) 0 151 (g8 0)) T1) .null .null .null .null BB_0
  refine ⟨w', az_Mof hd0 ?_⟩
  show az_Ev X 0 0 [.retAddr 0, .null, .null, .null, .null, .null, .null, .null] [] w 0 sl _
  refine E_new k0_0 ?_
  refine E_dupR k0_1 ?_
  refine E_ci0 k0_2 (Or.inl rfl) rfl rfl (s_init8 (a := 0) rfl up_eq) ?_
  refine E_as1 k0_3 rfl ?_
  refine E_new k0_4 ?_
  refine E_dupR k0_5 ?_
  refine E_ci0 k0_6 (Or.inl rfl) rfl rfl (rf_init rfl up_eq) ?_
  refine E_as2 k0_7 rfl ?_
  refine E_iconst k0_8 ?_
  refine E_is3 k0_9 rfl ?_
  rw [mw_x]
  exact h

