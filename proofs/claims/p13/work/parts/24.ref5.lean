theorem dX12_readClause_0 : decode cX12_readClause 0 = .ok (.aload_n 0, 1) := by decide +kernel
theorem dX12_readClause_1 : decode cX12_readClause 1 = .ok (.invokevirtual 353, 3) := by decide +kernel
theorem dX12_readClause_4 : decode cX12_readClause 4 = .ok (.istore_n 1, 1) := by decide +kernel
theorem dX12_readClause_5 : decode cX12_readClause 5 = .ok (.aload_n 0, 1) := by decide +kernel
theorem dX12_readClause_6 : decode cX12_readClause 6 = .ok (.iload_n 1, 1) := by decide +kernel
theorem dX12_readClause_7 : decode cX12_readClause 7 = .ok (.iconst (-1), 1) := by decide +kernel
theorem dX12_readClause_8 : decode cX12_readClause 8 = .ok (.if_icmp .eq 16, 3) := by decide +kernel
theorem dX12_readClause_24 : decode cX12_readClause 24 = .ok (.iconst 0, 1) := by decide +kernel
theorem dX12_readClause_25 : decode cX12_readClause 25 = .ok (.invokevirtual 225, 3) := by decide +kernel
theorem dX12_readClause_28 : decode cX12_readClause 28 = .ok (.aload_n 0, 1) := by decide +kernel
theorem dX12_readClause_29 : decode cX12_readClause 29 = .ok (.getfield 193, 3) := by decide +kernel
theorem dX12_readClause_32 : decode cX12_readClause 32 = .ok (.ifCond .eq 4, 3) := by decide +kernel
theorem dX12_readClause_36 : decode cX12_readClause 36 = .ok (.bipush 8, 2) := by decide +kernel
theorem dX12_readClause_38 : decode cX12_readClause 38 = .ok (.aload_n 0, 1) := by decide +kernel
theorem dX12_readClause_39 : decode cX12_readClause 39 = .ok (.getfield 356, 3) := by decide +kernel
theorem dX12_readClause_42 : decode cX12_readClause 42 = .ok (.imul, 1) := by decide +kernel
theorem dX12_readClause_43 : decode cX12_readClause 43 = .ok (.istore_n 2, 1) := by decide +kernel
theorem dX12_readClause_44 : decode cX12_readClause 44 = .ok (.iconst 0, 1) := by decide +kernel
theorem dX12_readClause_45 : decode cX12_readClause 45 = .ok (.istore_n 3, 1) := by decide +kernel
theorem dX12_readClause_46 : decode cX12_readClause 46 = .ok (.iload_n 3, 1) := by decide +kernel
theorem dX12_readClause_47 : decode cX12_readClause 47 = .ok (.bipush 8, 2) := by decide +kernel
theorem dX12_readClause_49 : decode cX12_readClause 49 = .ok (.if_icmp .ge 18, 3) := by decide +kernel
theorem dX12_readClause_67 : decode cX12_readClause 67 = .ok (.aload_n 0, 1) := by decide +kernel
theorem dX12_readClause_68 : decode cX12_readClause 68 = .ok (.getfield 39, 3) := by decide +kernel
theorem dX12_readClause_71 : decode cX12_readClause 71 = .ok (.iload_n 2, 1) := by decide +kernel
theorem dX12_readClause_72 : decode cX12_readClause 72 = .ok (.iload_n 1, 1) := by decide +kernel
theorem dX12_readClause_73 : decode cX12_readClause 73 = .ok (.iastore, 1) := by decide +kernel
theorem dX12_readClause_74 : decode cX12_readClause 74 = .ok (.aload_n 0, 1) := by decide +kernel
theorem dX12_readClause_75 : decode cX12_readClause 75 = .ok (.dup, 1) := by decide +kernel
theorem dX12_readClause_76 : decode cX12_readClause 76 = .ok (.getfield 356, 3) := by decide +kernel
theorem dX12_readClause_79 : decode cX12_readClause 79 = .ok (.iconst 1, 1) := by decide +kernel
theorem dX12_readClause_80 : decode cX12_readClause 80 = .ok (.iadd, 1) := by decide +kernel
theorem dX12_readClause_81 : decode cX12_readClause 81 = .ok (.putfield 356, 3) := by decide +kernel
theorem dX12_readClause_84 : decode cX12_readClause 84 = .ok (.iload_n 1, 1) := by decide +kernel
theorem dX12_readClause_85 : decode cX12_readClause 85 = .ok (.ifCond .ne 47, 3) := by decide +kernel
theorem dX12_readClause_132 : decode cX12_readClause 132 = .ok (.iload_n 1, 1) := by decide +kernel
theorem dX12_readClause_133 : decode cX12_readClause 133 = .ok (.iconst 1, 1) := by decide +kernel
theorem dX12_readClause_134 : decode cX12_readClause 134 = .ok (.if_icmp .ne 36, 3) := by decide +kernel
theorem dX12_readClause_170 : decode cX12_readClause 170 = .ok (.aload_n 0, 1) := by decide +kernel
theorem dX12_readClause_171 : decode cX12_readClause 171 = .ok (.getfield 39, 3) := by decide +kernel
theorem dX12_readClause_174 : decode cX12_readClause 174 = .ok (.iload_n 2, 1) := by decide +kernel
theorem dX12_readClause_175 : decode cX12_readClause 175 = .ok (.iconst 3, 1) := by decide +kernel
theorem dX12_readClause_176 : decode cX12_readClause 176 = .ok (.iadd, 1) := by decide +kernel
theorem dX12_readClause_177 : decode cX12_readClause 177 = .ok (.aload_n 0, 1) := by decide +kernel
theorem dX12_readClause_178 : decode cX12_readClause 178 = .ok (.getfield 229, 3) := by decide +kernel
theorem dX12_readClause_181 : decode cX12_readClause 181 = .ok (.iastore, 1) := by decide +kernel
theorem dX12_readClause_182 : decode cX12_readClause 182 = .ok (.iload_n 1, 1) := by decide +kernel
theorem dX12_readClause_183 : decode cX12_readClause 183 = .ok (.iconst 2, 1) := by decide +kernel
theorem dX12_readClause_184 : decode cX12_readClause 184 = .ok (.if_icmp .eq 8, 3) := by decide +kernel
theorem dX12_readClause_187 : decode cX12_readClause 187 = .ok (.iload_n 1, 1) := by decide +kernel
theorem dX12_readClause_188 : decode cX12_readClause 188 = .ok (.iconst 3, 1) := by decide +kernel
theorem dX12_readClause_189 : decode cX12_readClause 189 = .ok (.if_icmp .ne 8, 3) := by decide +kernel
theorem dX12_readClause_197 : decode cX12_readClause 197 = .ok (.aload_n 0, 1) := by decide +kernel
theorem dX12_readClause_198 : decode cX12_readClause 198 = .ok (.getfield 39, 3) := by decide +kernel
theorem dX12_readClause_201 : decode cX12_readClause 201 = .ok (.iload_n 2, 1) := by decide +kernel
theorem dX12_readClause_202 : decode cX12_readClause 202 = .ok (.iconst 4, 1) := by decide +kernel
theorem dX12_readClause_203 : decode cX12_readClause 203 = .ok (.iadd, 1) := by decide +kernel
theorem dX12_readClause_204 : decode cX12_readClause 204 = .ok (.aload_n 0, 1) := by decide +kernel
theorem dX12_readClause_205 : decode cX12_readClause 205 = .ok (.getfield 229, 3) := by decide +kernel
theorem dX12_readClause_208 : decode cX12_readClause 208 = .ok (.iastore, 1) := by decide +kernel
theorem dX12_readClause_209 : decode cX12_readClause 209 = .ok (.aload_n 0, 1) := by decide +kernel
theorem dX12_readClause_210 : decode cX12_readClause 210 = .ok (.getfield 39, 3) := by decide +kernel
theorem dX12_readClause_213 : decode cX12_readClause 213 = .ok (.iload_n 2, 1) := by decide +kernel
theorem dX12_readClause_214 : decode cX12_readClause 214 = .ok (.iconst 5, 1) := by decide +kernel
theorem dX12_readClause_215 : decode cX12_readClause 215 = .ok (.iadd, 1) := by decide +kernel
theorem dX12_readClause_216 : decode cX12_readClause 216 = .ok (.aload_n 0, 1) := by decide +kernel
theorem dX12_readClause_217 : decode cX12_readClause 217 = .ok (.getfield 229, 3) := by decide +kernel
theorem dX12_readClause_220 : decode cX12_readClause 220 = .ok (.iastore, 1) := by decide +kernel
theorem dX12_readClause_221 : decode cX12_readClause 221 = .ok (.aload_n 0, 1) := by decide +kernel
theorem dX12_readClause_222 : decode cX12_readClause 222 = .ok (.getfield 193, 3) := by decide +kernel
theorem dX12_readClause_225 : decode cX12_readClause 225 = .ok (.ifCond .ne 22, 3) := by decide +kernel
theorem dX12_readClause_228 : decode cX12_readClause 228 = .ok (.aload_n 0, 1) := by decide +kernel
theorem dX12_readClause_229 : decode cX12_readClause 229 = .ok (.ldc2_w 374, 3) := by decide +kernel
theorem dX12_readClause_232 : decode cX12_readClause 232 = .ok (.invokevirtual 252, 3) := by decide +kernel
theorem dX12_readClause_235 : decode cX12_readClause 235 = .ok (.ifCond .eq 12, 3) := by decide +kernel
theorem dX12_readClause_247 : decode cX12_readClause 247 = .ok (.aload_n 0, 1) := by decide +kernel
theorem dX12_readClause_248 : decode cX12_readClause 248 = .ok (.getfield 39, 3) := by decide +kernel
theorem dX12_readClause_251 : decode cX12_readClause 251 = .ok (.iload_n 2, 1) := by decide +kernel
theorem dX12_readClause_252 : decode cX12_readClause 252 = .ok (.bipush 6, 2) := by decide +kernel
theorem dX12_readClause_254 : decode cX12_readClause 254 = .ok (.iadd, 1) := by decide +kernel
theorem dX12_readClause_255 : decode cX12_readClause 255 = .ok (.aload_n 0, 1) := by decide +kernel
theorem dX12_readClause_256 : decode cX12_readClause 256 = .ok (.getfield 229, 3) := by decide +kernel
theorem dX12_readClause_259 : decode cX12_readClause 259 = .ok (.iastore, 1) := by decide +kernel
theorem dX12_readClause_260 : decode cX12_readClause 260 = .ok (.return_, 1) := by decide +kernel
theorem dX12_readClause_238 : decode cX12_readClause 238 = .ok (.aload_n 0, 1) := by decide +kernel
theorem dX12_readClause_239 : decode cX12_readClause 239 = .ok (.invokevirtual 196, 3) := by decide +kernel
theorem dX12_readClause_242 : decode cX12_readClause 242 = .ok (.aload_n 0, 1) := by decide +kernel
theorem dX12_readClause_243 : decode cX12_readClause 243 = .ok (.iconst 1, 1) := by decide +kernel
theorem dX12_readClause_244 : decode cX12_readClause 244 = .ok (.invokevirtual 371, 3) := by decide +kernel
theorem dX12_readClause_52 : decode cX12_readClause 52 = .ok (.aload_n 0, 1) := by decide +kernel
theorem dX12_readClause_53 : decode cX12_readClause 53 = .ok (.getfield 39, 3) := by decide +kernel
theorem dX12_readClause_56 : decode cX12_readClause 56 = .ok (.iload_n 2, 1) := by decide +kernel
theorem dX12_readClause_57 : decode cX12_readClause 57 = .ok (.iload_n 3, 1) := by decide +kernel
theorem dX12_readClause_58 : decode cX12_readClause 58 = .ok (.iadd, 1) := by decide +kernel
theorem dX12_readClause_59 : decode cX12_readClause 59 = .ok (.iconst 0, 1) := by decide +kernel
theorem dX12_readClause_60 : decode cX12_readClause 60 = .ok (.iastore, 1) := by decide +kernel
theorem dX12_readClause_61 : decode cX12_readClause 61 = .ok (.iinc 3 1, 3) := by decide +kernel
theorem dX12_readClause_64 : decode cX12_readClause 64 = .ok (.goto (-18), 3) := by decide +kernel
theorem dX12_readClause_35 : decode cX12_readClause 35 = .ok (.return_, 1) := by decide +kernel
theorem dX12_readClause_11 : decode cX12_readClause 11 = .ok (.aload_n 0, 1) := by decide +kernel
theorem dX12_readClause_12 : decode cX12_readClause 12 = .ok (.getfield 356, 3) := by decide +kernel
theorem dX12_readClause_15 : decode cX12_readClause 15 = .ok (.bipush 12, 2) := by decide +kernel
theorem dX12_readClause_17 : decode cX12_readClause 17 = .ok (.if_icmp .ge 7, 3) := by decide +kernel
theorem dX12_readClause_192 : decode cX12_readClause 192 = .ok (.aload_n 0, 1) := by decide +kernel
theorem dX12_readClause_193 : decode cX12_readClause 193 = .ok (.iconst 0, 1) := by decide +kernel
theorem dX12_readClause_194 : decode cX12_readClause 194 = .ok (.invokevirtual 371, 3) := by decide +kernel
theorem dX12_readClause_137 : decode cX12_readClause 137 = .ok (.aload_n 0, 1) := by decide +kernel
theorem dX12_readClause_138 : decode cX12_readClause 138 = .ok (.getfield 39, 3) := by decide +kernel
theorem dX12_readClause_141 : decode cX12_readClause 141 = .ok (.iload_n 2, 1) := by decide +kernel
theorem dX12_readClause_142 : decode cX12_readClause 142 = .ok (.iconst 1, 1) := by decide +kernel
theorem dX12_readClause_143 : decode cX12_readClause 143 = .ok (.iadd, 1) := by decide +kernel
theorem dX12_readClause_144 : decode cX12_readClause 144 = .ok (.aload_n 0, 1) := by decide +kernel
theorem dX12_readClause_145 : decode cX12_readClause 145 = .ok (.lconst 0, 1) := by decide +kernel
theorem dX12_readClause_146 : decode cX12_readClause 146 = .ok (.ldc2_w 367, 3) := by decide +kernel
theorem dX12_readClause_149 : decode cX12_readClause 149 = .ok (.invokevirtual 359, 3) := by decide +kernel
theorem dX12_readClause_152 : decode cX12_readClause 152 = .ok (.iastore, 1) := by decide +kernel
theorem dX12_readClause_153 : decode cX12_readClause 153 = .ok (.aload_n 0, 1) := by decide +kernel
theorem dX12_readClause_154 : decode cX12_readClause 154 = .ok (.getfield 39, 3) := by decide +kernel
theorem dX12_readClause_157 : decode cX12_readClause 157 = .ok (.iload_n 2, 1) := by decide +kernel
theorem dX12_readClause_158 : decode cX12_readClause 158 = .ok (.iconst 2, 1) := by decide +kernel
theorem dX12_readClause_159 : decode cX12_readClause 159 = .ok (.iadd, 1) := by decide +kernel
theorem dX12_readClause_160 : decode cX12_readClause 160 = .ok (.aload_n 0, 1) := by decide +kernel
theorem dX12_readClause_161 : decode cX12_readClause 161 = .ok (.lconst 1, 1) := by decide +kernel
theorem dX12_readClause_162 : decode cX12_readClause 162 = .ok (.ldc2_w 369, 3) := by decide +kernel
theorem dX12_readClause_165 : decode cX12_readClause 165 = .ok (.invokevirtual 359, 3) := by decide +kernel
theorem dX12_readClause_168 : decode cX12_readClause 168 = .ok (.iastore, 1) := by decide +kernel
theorem dX12_readClause_169 : decode cX12_readClause 169 = .ok (.return_, 1) := by decide +kernel
theorem dX12_readClause_88 : decode cX12_readClause 88 = .ok (.aload_n 0, 1) := by decide +kernel
theorem dX12_readClause_89 : decode cX12_readClause 89 = .ok (.getfield 39, 3) := by decide +kernel
theorem dX12_readClause_92 : decode cX12_readClause 92 = .ok (.iload_n 2, 1) := by decide +kernel
theorem dX12_readClause_93 : decode cX12_readClause 93 = .ok (.iconst 1, 1) := by decide +kernel
theorem dX12_readClause_94 : decode cX12_readClause 94 = .ok (.iadd, 1) := by decide +kernel
theorem dX12_readClause_95 : decode cX12_readClause 95 = .ok (.aload_n 0, 1) := by decide +kernel
theorem dX12_readClause_96 : decode cX12_readClause 96 = .ok (.lconst 0, 1) := by decide +kernel
theorem dX12_readClause_97 : decode cX12_readClause 97 = .ok (.ldc2_w 98, 3) := by decide +kernel
theorem dX12_readClause_100 : decode cX12_readClause 100 = .ok (.invokevirtual 359, 3) := by decide +kernel
theorem dX12_readClause_103 : decode cX12_readClause 103 = .ok (.iastore, 1) := by decide +kernel
theorem dX12_readClause_104 : decode cX12_readClause 104 = .ok (.aload_n 0, 1) := by decide +kernel
theorem dX12_readClause_105 : decode cX12_readClause 105 = .ok (.aload_n 0, 1) := by decide +kernel
theorem dX12_readClause_106 : decode cX12_readClause 106 = .ok (.ldc2_w 363, 3) := by decide +kernel
theorem dX12_readClause_109 : decode cX12_readClause 109 = .ok (.invokevirtual 252, 3) := by decide +kernel
theorem dX12_readClause_112 : decode cX12_readClause 112 = .ok (.invokevirtual 225, 3) := by decide +kernel
theorem dX12_readClause_115 : decode cX12_readClause 115 = .ok (.aload_n 0, 1) := by decide +kernel
theorem dX12_readClause_116 : decode cX12_readClause 116 = .ok (.getfield 39, 3) := by decide +kernel
theorem dX12_readClause_119 : decode cX12_readClause 119 = .ok (.iload_n 2, 1) := by decide +kernel
theorem dX12_readClause_120 : decode cX12_readClause 120 = .ok (.iconst 2, 1) := by decide +kernel
theorem dX12_readClause_121 : decode cX12_readClause 121 = .ok (.iadd, 1) := by decide +kernel
theorem dX12_readClause_122 : decode cX12_readClause 122 = .ok (.aload_n 0, 1) := by decide +kernel
theorem dX12_readClause_123 : decode cX12_readClause 123 = .ok (.lconst 0, 1) := by decide +kernel
theorem dX12_readClause_124 : decode cX12_readClause 124 = .ok (.ldc2_w 365, 3) := by decide +kernel
theorem dX12_readClause_127 : decode cX12_readClause 127 = .ok (.invokevirtual 359, 3) := by decide +kernel
theorem dX12_readClause_130 : decode cX12_readClause 130 = .ok (.iastore, 1) := by decide +kernel
theorem dX12_readClause_131 : decode cX12_readClause 131 = .ok (.return_, 1) := by decide +kernel
theorem dX12_readClause_20 : decode cX12_readClause 20 = .ok (.iconst 1, 1) := by decide +kernel
theorem dX12_readClause_21 : decode cX12_readClause 21 = .ok (.goto 4, 3) := by decide +kernel
def ms_X12_readClause : List (Nat × Nat) := [(12, 13), (12, 14), (12, 15), (12, 16), (12, 17), (12, 18), (12, 19), (12, 21), (12, 24), (12, 27), (12, 28), (840, 0), (842, 0), (843, 0), (845, 0), (846, 0)]
def po_X12_readClause (kp : Nat → Nat) (L : List Nat) (f0 : Nat → va_E) (h0 : Nat) : Option Value → (Nat → va_E) → Prop := fun v f => v = none ∧ FM kp L ms_X12_readClause f0 f ∧ ((oI (f h0) 21).toInt ≤ (oI (f h0) 13).toInt ∧ (oI (f h0) 13).toInt ≤ (oI (f h0) 14).toInt ∧ (oI (f h0) 14).toInt ≤ (oI (f0 h0) 12).toInt ∧ ((oI (f h0) 15).toInt = 0 ∨ (oI (f h0) 13).toInt < (oI (f h0) 14).toInt) ∧ (¬ (oI (f h0) 15).toInt = 1 ∨ (oJ (f h0) 16).toInt ≤ 26 ∨ (oI (f h0) 13).toInt + 2 ≤ (oI (f h0) 14).toInt) ∧ (oI (f0 h0) 21).toInt ≤ (oI (f h0) 21).toInt ∧ (oI (f0 h0) 13).toInt ≤ (oI (f h0) 13).toInt ∧ (¬ (oI (f0 h0) 18).toInt = 1 ∨ (oI (f h0) 18).toInt = 1) ∧ ((oI (f h0) 18).toInt = 1 ∨ (oI (f0 h0) 13).toInt < (oI (f h0) 13).toInt)) ∧ ((oI (f h0) 18).toInt = 1 ∨ CLs (vO f h0) (vA f h0) (vN f h0) (oI (f h0) 21).toInt (oI (f h0) 19).toInt)
set_option maxHeartbeats 40000000 in
set_option maxRecDepth 100000 in
theorem c_X12_readClause (l : Launch) (G : va_G) (cI cJ cZ cD cR cT : ClassId) (kp : Nat → Nat) (L : List Nat) (f0 : Nat → va_E) (hTH : TH cI cJ cZ cD cR cT kp L f0) (sz : Nat) (h0 : Nat) (rh0 : RK kp L h0 12) (hC : CLs (vO f0 h0) (vA f0 h0) (vN f0 h0) (oI (f0 h0) 21).toInt (oI (f0 h0) 19).toInt) (hq : (oI (f0 h0) 21).toInt ≤ (oI (f0 h0) 13).toInt ∧ (oI (f0 h0) 13).toInt ≤ (oI (f0 h0) 14).toInt ∧ (oI (f0 h0) 14).toInt ≤ (oI (f0 h0) 12).toInt ∧ ((oI (f0 h0) 15).toInt = 0 ∨ (oI (f0 h0) 13).toInt < (oI (f0 h0) 14).toInt) ∧ (¬ (oI (f0 h0) 15).toInt = 1 ∨ (oJ (f0 h0) 16).toInt ≤ 26 ∨ (oI (f0 h0) 13).toInt + 2 ≤ (oI (f0 h0) 14).toInt) ∧ (oI (f0 h0) 18).toInt = 0) : Met l yX12_readClause (Cond.code yX12_readClause cX12_readClause 4 none :: wTab) ({ frames := 8, cells := 0, slots := 0, locals := 189 }) (va_Pc [.ref h0] (PreW G (tys6 cI cJ cZ cD cR cT) (va_pl L f0) sz)) (QT (po_X12_readClause kp L f0 h0) G cI cJ cZ cD cR cT (va_A (va_pl L f0) sz) kp L) 0 0 (va_A (va_pl L f0) sz) := by
  refine metT (by decide) (Nat.le_of_ble_eq_true rfl) hTH ?_
  intro p e s m below meth c A ls E hW hl
  obtain ⟨hx, hb, -, hml, hown, hts, -, -, -⟩ := id E
  have hF : FM kp L ms_X12_readClause f0 f0 := FM.rf
  have hl : lv_has ls 4 [(0, .ref h0)] := hl
  obtain ⟨pF12, mF12⟩ : ∃ x : Int32, oI (f0 h0) 12 = x := ⟨_, rfl⟩
  have bF12 : (0 : Int) ≤ pF12.toInt ∧ pF12.toInt ≤ 400 := by rw [← mF12]; exact th_iv hW rh0 (by decide) (by decide) rfl
  obtain ⟨pF13, mF13⟩ : ∃ x : Int32, oI (f0 h0) 13 = x := ⟨_, rfl⟩
  have bF13 : (0 : Int) ≤ pF13.toInt ∧ pF13.toInt ≤ 400 := by rw [← mF13]; exact th_iv hW rh0 (by decide) (by decide) rfl
  obtain ⟨pF14, mF14⟩ : ∃ x : Int32, oI (f0 h0) 14 = x := ⟨_, rfl⟩
  have bF14 : (0 : Int) ≤ pF14.toInt ∧ pF14.toInt ≤ 400 := by rw [← mF14]; exact th_iv hW rh0 (by decide) (by decide) rfl
  obtain ⟨pF15, mF15⟩ : ∃ x : Int32, oI (f0 h0) 15 = x := ⟨_, rfl⟩
  have bF15 : (0 : Int) ≤ pF15.toInt ∧ pF15.toInt ≤ 3 := by rw [← mF15]; exact th_iv hW rh0 (by decide) (by decide) rfl
  obtain ⟨pF18, mF18⟩ : ∃ x : Int32, oI (f0 h0) 18 = x := ⟨_, rfl⟩
  have bF18 : (0 : Int) ≤ pF18.toInt ∧ pF18.toInt ≤ 1 := by rw [← mF18]; exact th_iv hW rh0 (by decide) (by decide) rfl
  obtain ⟨pF21, mF21⟩ : ∃ x : Int32, oI (f0 h0) 21 = x := ⟨_, rfl⟩
  have bF21 : (0 : Int) ≤ pF21.toInt ∧ pF21.toInt ≤ 400 := by rw [← mF21]; exact th_iv hW rh0 (by decide) (by decide) rfl
  obtain ⟨pF24, mF24⟩ : ∃ x : Int32, oI (f0 h0) 24 = x := ⟨_, rfl⟩
  have bF24 : (0 : Int) ≤ pF24.toInt ∧ pF24.toInt ≤ 50 := by rw [← mF24]; exact th_iv hW rh0 (by decide) (by decide) rfl
  obtain ⟨pF27, mF27⟩ : ∃ x : Int32, oI (f0 h0) 27 = x := ⟨_, rfl⟩
  have bF27 : (0 : Int) ≤ pF27.toInt ∧ pF27.toInt ≤ 400 := by rw [← mF27]; exact th_iv hW rh0 (by decide) (by decide) rfl
  obtain ⟨pF19, mF19⟩ : ∃ x : Int32, oI (f0 h0) 19 = x := ⟨_, rfl⟩
  have bF19 : (0 : Int) ≤ pF19.toInt ∧ pF19.toInt ≤ 12 := by rw [← mF19]; exact th_iv hW rh0 (by decide) (by decide) rfl
  obtain ⟨pW, mW⟩ : ∃ x : Int64, oJ (f0 h0) 16 = x := ⟨_, rfl⟩
  simp only [mF12, mF13, mF14, mF15, mF18, mF21, mF24, mF27, mF19, mW] at hq
  obtain ⟨pR, mR⟩ : ∃ x : Nat, oR (f0 h0) 2 = x := ⟨_, rfl⟩
  have rR : RK kp L pR 822 := by rw [← mR]; exact th_ref hTH rh0 (by decide) (by decide) rfl
  obtain ⟨pN, mN⟩ : ∃ x : Nat, oR (f0 h0) 20 = x := ⟨_, rfl⟩
  have rN : RK kp L pN 840 := by rw [← mN]; exact th_ref hTH rh0 (by decide) (by decide) rfl
  rw [mF21, mF19] at hC
  have hdj : DJ f0 f0 h0 pF21.toInt 0 0 0 0 := dj_0
  refine lv_aload_n hx hb dX12_readClause_0 rfl (lv_at hl 0 rfl) ?_
  have hw4 := hW.2.2.2
  refine t_callV (As := []) (rest := []) E hW (c_X12_headAt l G cI cJ cZ cD cR cT kp L f0 hW.2.2.2 _ h0 rh0) rh0 (by decide) rfl wk_X12_headAt tw_1792 rfl ⟨Nat.le_of_ble_eq_true rfl, Nat.le_of_ble_eq_true rfl⟩ ⟨rfl, rfl⟩ hl.1 rfl (Nat.le_of_ble_eq_true rfl) dX12_readClause_1 ⟨Nat.le_of_ble_eq_true rfl, Nat.le_of_ble_eq_true rfl⟩ (fun v1 f2 H locs q3 hW => ?_)
  obtain ⟨⟨x6, rfl, p7⟩, g5⟩ := q3
  simp only [mF15, mW] at p7
  have z8 : DJ f0 f2 h0 pF21.toInt 0 0 0 0 := dj_keep hdj hw4 g5 rh0 rfl (fun q => by rw [fm_I g5 rh0 rfl]; exact q)
  have hF := FM.tr hF g5 rfl
  refine lv_istore_n (lv' := [(1, .int x6), (0, .ref h0)]) hx hb dX12_readClause_4 rfl hl (by decide) rfl (fun ls hl => ?_)
  refine lv_aload_n hx hb dX12_readClause_5 rfl (lv_at hl 1 rfl) ?_
  refine lv_iload_n hx hb dX12_readClause_6 rfl (lv_at hl 0 rfl) ?_
  refine lv_iconst (v := (-1)) hx hb dX12_readClause_7 (by decide) ?_
  refine q_icmp_eq (Y := -1) (tgt := 24) hx hb dX12_readClause_8 (by decide) rfl rfl (fun c9 => ?_) (fun c9 => ?_)
  · refine lv_iconst (v := 0) hx hb dX12_readClause_24 (by decide) ?_
    have hw14 := hW.2.2.2
    refine t_callV (As := [.int 0]) (rest := []) E hW (c_X12_must l G cI cJ cZ cD cR cT kp L f2 hW.2.2.2 _ h0 0 rh0 (by decide) (by have hkq10 : (0 : Int32).toInt = 0 := rfl; simp only [((fm_I g5 rh0 rfl).trans mF12), ((fm_I g5 rh0 rfl).trans mF13), ((fm_I g5 rh0 rfl).trans mF14), ((fm_I g5 rh0 rfl).trans mF15), ((fm_J g5 rh0 rfl).trans mW), and_true, true_and, true_or, or_true, false_or, or_false] <;> omega)) rh0 (by decide) rfl wk_X12_must tw_1807 rfl ⟨Nat.le_of_ble_eq_true rfl, Nat.le_of_ble_eq_true rfl⟩ ⟨rfl, rfl⟩ hl.1 rfl (Nat.le_of_ble_eq_true rfl) dX12_readClause_25 ⟨Nat.le_of_ble_eq_true rfl, Nat.le_of_ble_eq_true rfl⟩ (fun v11 f12 H locs q13 hW => ?_)
    obtain ⟨rfl, g15, h16⟩ := q13
    have hF := FM.tr hF g15 rfl
    have hk18 : (0 : Int32).toInt = 0 := rfl
    obtain ⟨y19, m20⟩ : ∃ x : Int32, oI (f12 h0) 13 = x := ⟨_, rfl⟩
    have b21 : (0 : Int) ≤ y19.toInt ∧ y19.toInt ≤ 400 := by rw [← m20]; exact th_iv hW rh0 (by decide) (by decide) rfl
    obtain ⟨y22, m23⟩ : ∃ x : Int32, oI (f12 h0) 14 = x := ⟨_, rfl⟩
    have b24 : (0 : Int) ≤ y22.toInt ∧ y22.toInt ≤ 400 := by rw [← m23]; exact th_iv hW rh0 (by decide) (by decide) rfl
    obtain ⟨y25, m26⟩ : ∃ x : Int32, oI (f12 h0) 15 = x := ⟨_, rfl⟩
    have b27 : (0 : Int) ≤ y25.toInt ∧ y25.toInt ≤ 3 := by rw [← m26]; exact th_iv hW rh0 (by decide) (by decide) rfl
    obtain ⟨y28, m29⟩ : ∃ x : Int32, oI (f12 h0) 18 = x := ⟨_, rfl⟩
    have b30 : (0 : Int) ≤ y28.toInt ∧ y28.toInt ≤ 1 := by rw [← m29]; exact th_iv hW rh0 (by decide) (by decide) rfl
    obtain ⟨y31, m32⟩ : ∃ x : Int64, oJ (f12 h0) 16 = x := ⟨_, rfl⟩
    simp only [((fm_I g15 rh0 rfl).trans ((fm_I g5 rh0 rfl).trans mF12)), ((fm_I g5 rh0 rfl).trans mF12), m20, ((fm_I g5 rh0 rfl).trans mF13), m23, ((fm_I g5 rh0 rfl).trans mF14), m26, ((fm_I g5 rh0 rfl).trans mF15), m29, ((fm_I g5 rh0 rfl).trans mF18), m32, ((fm_J g5 rh0 rfl).trans mW)] at h16
    have z33 : DJ f0 f12 h0 pF21.toInt 0 0 0 0 := dj_keep z8 hw14 g15 rh0 rfl (fun q => by rw [((fm_I g5 rh0 rfl).trans mF18)] at q; rw [m29]; omega)
    refine lv_aload_n hx hb dX12_readClause_28 rfl (lv_at hl 1 rfl) ?_
    refine fg_RX12_193 E hW rh0 dX12_readClause_29 (fun y34 m35 b36 => ?_)
    obtain rfl : y28 = y34 := (m29).symm.trans m35
    refine q_if_eq (tgt := 36) hx hb dX12_readClause_32 (by decide) rfl (fun c37 => ?_) (fun c37 => ?_)
    · refine lv_bipush (v := 8) hx hb dX12_readClause_36 (by decide) ?_
      refine lv_aload_n hx hb dX12_readClause_38 rfl (lv_at hl 1 rfl) ?_
      refine fg_RX12_356 E hW rh0 dX12_readClause_39 (fun y38 m39 b40 => ?_)
      obtain rfl : pF19 = y38 := (((fm_I g15 rh0 rfl).trans ((fm_I g5 rh0 rfl).trans mF19))).symm.trans m39
      refine q_imul (X := 8) hx hb dX12_readClause_42 rfl rfl (by omega) (fun x41 h42 => ?_)
      refine lv_istore_n (lv' := [(2, .int x41), (1, .int x6), (0, .ref h0)]) hx hb dX12_readClause_43 rfl hl (by decide) rfl (fun ls hl => ?_)
      refine lv_iconst (v := 0) hx hb dX12_readClause_44 (by decide) ?_
      refine lv_istore_n (lv' := [(3, .int 0), (2, .int x41), (1, .int x6), (0, .ref h0)]) hx hb dX12_readClause_45 rfl hl (by decide) rfl (fun ls hl => ?_)
      have L340 : ∀ (n : Nat), ∀ (f322 : Nat → va_E) (y335 : Int32) (m323 : oR (f322 h0) 2 = pR) (m324 : oI (f322 h0) 12 = pF12) (m325 : oI (f322 h0) 13 = y19) (m326 : oI (f322 h0) 14 = y22) (m327 : oI (f322 h0) 15 = y25) (m328 : oJ (f322 h0) 16 = y31) (m329 : oI (f322 h0) 18 = y28) (m330 : oI (f322 h0) 19 = pF19) (m331 : oR (f322 h0) 20 = pN) (m332 : oI (f322 h0) 21 = pF21) (m333 : oI (f322 h0) 24 = pF24) (m334 : oI (f322 h0) 27 = pF27) (b336 : (0 : Int) ≤ y335.toInt ∧ y335.toInt ≤ 8) (v337 : ZR (aI (f322 pN)) (8 * pF19.toInt) y335.toInt) (v338 : ∀ j : Nat, (j : Int) < 8 * pF19.toInt → aI (f322 pN) j = aI (f0 pN) j) (v339 : DJ f0 f322 h0 pF21.toInt 0 0 0 0) (hm : (9 : Int) - y335.toInt ≤ n) (H : Heap) (locs : List Loc) (ls : Array Slot), WS G cI cJ cZ cD cR cT A kp L f322 s H locs → FM kp L ms_X12_readClause f0 f322 → lv_has ls 4 [(3, .int y335), (2, .int x41), (1, .int x6), (0, .ref h0)] → W p l e ({ frames := 8, cells := 0, slots := 0, locals := 189 }) s m ([.ref h0] : List Value).toArray below meth c H locs 0 0 (MQ below (QT (po_X12_readClause kp L f0 h0) G cI cJ cZ cD cR cT A kp L) ([.ref h0] : List Value).toArray s 0 0 A) (F0 m 46 ls []) := by
        intro n
        induction n with
        | zero =>
          intro f322 y335 m323 m324 m325 m326 m327 m328 m329 m330 m331 m332 m333 m334 b336 v337 v338 v339 hm H locs ls hW hF hl
          have hz := i32_b y335
          exfalso; omega
        | succ n ih =>
          intro f322 y335 m323 m324 m325 m326 m327 m328 m329 m330 m331 m332 m333 m334 b336 v337 v338 v339 hm H locs ls hW hF hl
          have ih46 := ih
          refine lv_iload_n hx hb dX12_readClause_46 rfl (lv_at hl 0 rfl) ?_
          refine lv_bipush (v := 8) hx hb dX12_readClause_47 (by decide) ?_
          refine q_icmp_ge (Y := 8) (tgt := 67) hx hb dX12_readClause_49 (by decide) rfl rfl (fun c341 => ?_) (fun c341 => ?_)
          · refine lv_aload_n hx hb dX12_readClause_67 rfl (lv_at hl 3 rfl) ?_
            refine fg_RX12_39 E hW rh0 dX12_readClause_68 (fun a342 m343 r344 => ?_)
            obtain rfl : pN = a342 := (m331).symm.trans m343
            refine lv_iload_n hx hb dX12_readClause_71 rfl (lv_at hl 1 rfl) ?_
            refine lv_iload_n hx hb dX12_readClause_72 rfl (lv_at hl 2 rfl) ?_
            have hw349 := hW.2.2.2
            refine gs_840 E hW rN ⟨by omega, by omega⟩ dX12_readClause_73 (fun f345 H locs e346 n347 g348 hW => ?_)
            have z350 : DJ f0 f345 h0 pF21.toInt 0 0 0 0 := dj_keep v339 hw349 g348 rh0 rfl (fun q => by rw [fm_I g348 rh0 rfl]; exact q)
            have hF := FM.tr hF g348 rfl
            have q351 : x41.toInt = 8 * pF19.toInt + 0 := by omega
            have q352 : 0 ≤ 8 * pF19.toInt := by omega
            have z353 : ∀ j : Nat, (j : Int) < 8 * pF19.toInt → aI (f345 pN) j = aI (f0 pN) j := pre_st2 v338 e346 q351 q352 (by decide)
            have z354 : ZR _ (8 * pF19.toInt) 8 := (by have q : y335.toInt = 8 := (by omega); rw [← q]; exact v337)
            have z355 : aI (f345 pN) (8 * pF19.toInt + 0).toNat = x6 := ent_st2 e346 q351 q352 (by decide)
            have z356 : aI (f345 pN) (8 * pF19.toInt + 1).toNat = 0 := ent_no2 (ent_z2 z354 (by decide)) e346 q351 q352 (by decide)
            have z357 : aI (f345 pN) (8 * pF19.toInt + 2).toNat = 0 := ent_no2 (ent_z2 z354 (by decide)) e346 q351 q352 (by decide)
            have z358 : aI (f345 pN) (8 * pF19.toInt + 3).toNat = 0 := ent_no2 (ent_z2 z354 (by decide)) e346 q351 q352 (by decide)
            have z359 : aI (f345 pN) (8 * pF19.toInt + 4).toNat = 0 := ent_no2 (ent_z2 z354 (by decide)) e346 q351 q352 (by decide)
            have z360 : aI (f345 pN) (8 * pF19.toInt + 5).toNat = 0 := ent_no2 (ent_z2 z354 (by decide)) e346 q351 q352 (by decide)
            have z361 : aI (f345 pN) (8 * pF19.toInt + 6).toNat = 0 := ent_no2 (ent_z2 z354 (by decide)) e346 q351 q352 (by decide)
            clear q351 q352
            refine lv_aload_n hx hb dX12_readClause_74 rfl (lv_at hl 3 rfl) ?_
            refine lv_dup hx hb dX12_readClause_75 rfl ?_
            refine fg_RX12_356 E hW rh0 dX12_readClause_76 (fun y362 m363 b364 => ?_)
            obtain rfl : pF19 = y362 := (((fm_I g348 rh0 rfl).trans m330)).symm.trans m363
            refine lv_iconst (v := 1) hx hb dX12_readClause_79 (by decide) ?_
            refine q_iadd (Y := 1) hx hb dX12_readClause_80 rfl rfl (by omega) (fun x365 h366 => ?_)
            have hw371 := hW.2.2.2
            refine fp_RX12_356 E hW rh0 (by omega) dX12_readClause_81 (fun f367 H locs e368 n369 g370 hW => ?_)
            have z372 : DJ f0 f367 h0 pF21.toInt 0 0 0 0 := dj_keep z350 hw371 g370 rh0 rfl (fun q => by rw [fm_I g370 rh0 rfl]; exact q)
            have z373 : ∀ j : Nat, (j : Int) < 8 * pF19.toInt → aI (f367 pN) j = aI (f0 pN) j := by rw [fm_A g370 rN (by decide) rfl]; exact z353
            clear z353
            have z374 : aI (f367 pN) (8 * pF19.toInt + 0).toNat = x6 := by rw [fm_A g370 rN (by decide) rfl]; exact z355
            have z375 : aI (f367 pN) (8 * pF19.toInt + 1).toNat = 0 := by rw [fm_A g370 rN (by decide) rfl]; exact z356
            have z376 : aI (f367 pN) (8 * pF19.toInt + 2).toNat = 0 := by rw [fm_A g370 rN (by decide) rfl]; exact z357
            have z377 : aI (f367 pN) (8 * pF19.toInt + 3).toNat = 0 := by rw [fm_A g370 rN (by decide) rfl]; exact z358
            have z378 : aI (f367 pN) (8 * pF19.toInt + 4).toNat = 0 := by rw [fm_A g370 rN (by decide) rfl]; exact z359
            have z379 : aI (f367 pN) (8 * pF19.toInt + 5).toNat = 0 := by rw [fm_A g370 rN (by decide) rfl]; exact z360
            have z380 : aI (f367 pN) (8 * pF19.toInt + 6).toNat = 0 := by rw [fm_A g370 rN (by decide) rfl]; exact z361
            clear z355 z356 z357 z358 z359 z360 z361
            have hF := FM.tr hF g370 rfl
            refine lv_iload_n hx hb dX12_readClause_84 rfl (lv_at hl 2 rfl) ?_
            refine q_if_ne (tgt := 132) hx hb dX12_readClause_85 (by decide) rfl (fun c381 => ?_) (fun c381 => ?_)
            · refine lv_iload_n hx hb dX12_readClause_132 rfl (lv_at hl 2 rfl) ?_
              refine lv_iconst (v := 1) hx hb dX12_readClause_133 (by decide) ?_
              refine q_icmp_ne (Y := 1) (tgt := 170) hx hb dX12_readClause_134 (by decide) rfl rfl (fun c382 => ?_) (fun c382 => ?_)
              · refine lv_aload_n hx hb dX12_readClause_170 rfl (lv_at hl 3 rfl) ?_
                refine fg_RX12_39 E hW rh0 dX12_readClause_171 (fun a383 m384 r385 => ?_)
                obtain rfl : pN = a383 := (((fm_R g370 rh0 rfl).trans ((fm_R g348 rh0 rfl).trans m343))).symm.trans m384
                refine lv_iload_n hx hb dX12_readClause_174 rfl (lv_at hl 1 rfl) ?_
                refine lv_iconst (v := 3) hx hb dX12_readClause_175 (by decide) ?_
                refine q_iadd (Y := 3) hx hb dX12_readClause_176 rfl rfl (by omega) (fun x386 h387 => ?_)
                refine lv_aload_n hx hb dX12_readClause_177 rfl (lv_at hl 3 rfl) ?_
                refine fg_RX12_229 E hW rh0 dX12_readClause_178 (fun y388 m389 b390 => ?_)
                obtain rfl : pF21 = y388 := (((fm_I g370 rh0 rfl).trans ((fm_I g348 rh0 rfl).trans m332))).symm.trans m389
                have hw395 := hW.2.2.2
                refine gs_840 E hW rN ⟨by omega, by omega⟩ dX12_readClause_181 (fun f391 H locs e392 n393 g394 hW => ?_)
                have z396 : DJ f0 f391 h0 pF21.toInt 0 0 0 0 := dj_keep z372 hw395 g394 rh0 rfl (fun q => by rw [fm_I g394 rh0 rfl]; exact q)
                have hF := FM.tr hF g394 rfl
                have q397 : x386.toInt = 8 * pF19.toInt + 3 := by omega
                have q398 : 0 ≤ 8 * pF19.toInt := by omega
                have z399 : ∀ j : Nat, (j : Int) < 8 * pF19.toInt → aI (f391 pN) j = aI (f0 pN) j := pre_st2 z373 e392 q397 q398 (by decide)
                clear z373
                have z400 : aI (f391 pN) (8 * pF19.toInt + 0).toNat = x6 := ent_no2 z374 e392 q397 q398 (by decide)
                have z401 : aI (f391 pN) (8 * pF19.toInt + 1).toNat = 0 := ent_no2 z375 e392 q397 q398 (by decide)
                have z402 : aI (f391 pN) (8 * pF19.toInt + 2).toNat = 0 := ent_no2 z376 e392 q397 q398 (by decide)
                have z403 : aI (f391 pN) (8 * pF19.toInt + 3).toNat = pF21 := ent_st2 e392 q397 q398 (by decide)
                have z404 : aI (f391 pN) (8 * pF19.toInt + 4).toNat = 0 := ent_no2 z378 e392 q397 q398 (by decide)
                have z405 : aI (f391 pN) (8 * pF19.toInt + 5).toNat = 0 := ent_no2 z379 e392 q397 q398 (by decide)
                have z406 : aI (f391 pN) (8 * pF19.toInt + 6).toNat = 0 := ent_no2 z380 e392 q397 q398 (by decide)
                clear q397 q398
                clear z374 z375 z376 z377 z378 z379 z380
                refine lv_iload_n hx hb dX12_readClause_182 rfl (lv_at hl 2 rfl) ?_
                refine lv_iconst (v := 2) hx hb dX12_readClause_183 (by decide) ?_
                refine q_icmp_eq (Y := 2) (tgt := 192) hx hb dX12_readClause_184 (by decide) rfl rfl (fun c407 => ?_) (fun c407 => ?_)
                · exfalso; omega
                · refine lv_iload_n hx hb dX12_readClause_187 rfl (lv_at hl 2 rfl) ?_
                  refine lv_iconst (v := 3) hx hb dX12_readClause_188 (by decide) ?_
                  refine q_icmp_ne (Y := 3) (tgt := 197) hx hb dX12_readClause_189 (by decide) rfl rfl (fun c408 => ?_) (fun c408 => ?_)
                  · refine lv_aload_n hx hb dX12_readClause_197 rfl (lv_at hl 3 rfl) ?_
                    refine fg_RX12_39 E hW rh0 dX12_readClause_198 (fun a409 m410 r411 => ?_)
                    obtain rfl : pN = a409 := (((fm_R g394 rh0 rfl).trans m384)).symm.trans m410
                    refine lv_iload_n hx hb dX12_readClause_201 rfl (lv_at hl 1 rfl) ?_
                    refine lv_iconst (v := 4) hx hb dX12_readClause_202 (by decide) ?_
                    refine q_iadd (Y := 4) hx hb dX12_readClause_203 rfl rfl (by omega) (fun x412 h413 => ?_)
                    refine lv_aload_n hx hb dX12_readClause_204 rfl (lv_at hl 3 rfl) ?_
                    refine fg_RX12_229 E hW rh0 dX12_readClause_205 (fun y414 m415 b416 => ?_)
                    obtain rfl : pF21 = y414 := (((fm_I g394 rh0 rfl).trans m389)).symm.trans m415
                    have hw421 := hW.2.2.2
                    refine gs_840 E hW rN ⟨by omega, by omega⟩ dX12_readClause_208 (fun f417 H locs e418 n419 g420 hW => ?_)
                    have z422 : DJ f0 f417 h0 pF21.toInt 0 0 0 0 := dj_keep z396 hw421 g420 rh0 rfl (fun q => by rw [fm_I g420 rh0 rfl]; exact q)
                    have hF := FM.tr hF g420 rfl
                    have q423 : x412.toInt = 8 * pF19.toInt + 4 := by omega
                    have q424 : 0 ≤ 8 * pF19.toInt := by omega
                    have z425 : ∀ j : Nat, (j : Int) < 8 * pF19.toInt → aI (f417 pN) j = aI (f0 pN) j := pre_st2 z399 e418 q423 q424 (by decide)
                    clear z399
                    have z426 : aI (f417 pN) (8 * pF19.toInt + 0).toNat = x6 := ent_no2 z400 e418 q423 q424 (by decide)
                    have z427 : aI (f417 pN) (8 * pF19.toInt + 1).toNat = 0 := ent_no2 z401 e418 q423 q424 (by decide)
                    have z428 : aI (f417 pN) (8 * pF19.toInt + 2).toNat = 0 := ent_no2 z402 e418 q423 q424 (by decide)
                    have z429 : aI (f417 pN) (8 * pF19.toInt + 3).toNat = pF21 := ent_no2 z403 e418 q423 q424 (by decide)
                    have z430 : aI (f417 pN) (8 * pF19.toInt + 4).toNat = pF21 := ent_st2 e418 q423 q424 (by decide)
                    have z431 : aI (f417 pN) (8 * pF19.toInt + 5).toNat = 0 := ent_no2 z405 e418 q423 q424 (by decide)
                    have z432 : aI (f417 pN) (8 * pF19.toInt + 6).toNat = 0 := ent_no2 z406 e418 q423 q424 (by decide)
                    clear q423 q424
                    clear z400 z401 z402 z403 z404 z405 z406
                    refine lv_aload_n hx hb dX12_readClause_209 rfl (lv_at hl 3 rfl) ?_
                    refine fg_RX12_39 E hW rh0 dX12_readClause_210 (fun a433 m434 r435 => ?_)
                    obtain rfl : pN = a433 := (((fm_R g420 rh0 rfl).trans m410)).symm.trans m434
                    refine lv_iload_n hx hb dX12_readClause_213 rfl (lv_at hl 1 rfl) ?_
                    refine lv_iconst (v := 5) hx hb dX12_readClause_214 (by decide) ?_
                    refine q_iadd (Y := 5) hx hb dX12_readClause_215 rfl rfl (by omega) (fun x436 h437 => ?_)
                    refine lv_aload_n hx hb dX12_readClause_216 rfl (lv_at hl 3 rfl) ?_
                    refine fg_RX12_229 E hW rh0 dX12_readClause_217 (fun y438 m439 b440 => ?_)
                    obtain rfl : pF21 = y438 := (((fm_I g420 rh0 rfl).trans m415)).symm.trans m439
                    have hw445 := hW.2.2.2
                    refine gs_840 E hW rN ⟨by omega, by omega⟩ dX12_readClause_220 (fun f441 H locs e442 n443 g444 hW => ?_)
                    have z446 : DJ f0 f441 h0 pF21.toInt 0 0 0 0 := dj_keep z422 hw445 g444 rh0 rfl (fun q => by rw [fm_I g444 rh0 rfl]; exact q)
                    have hF := FM.tr hF g444 rfl
                    have q447 : x436.toInt = 8 * pF19.toInt + 5 := by omega
                    have q448 : 0 ≤ 8 * pF19.toInt := by omega
                    have z449 : ∀ j : Nat, (j : Int) < 8 * pF19.toInt → aI (f441 pN) j = aI (f0 pN) j := pre_st2 z425 e442 q447 q448 (by decide)
                    clear z425
                    have z450 : aI (f441 pN) (8 * pF19.toInt + 0).toNat = x6 := ent_no2 z426 e442 q447 q448 (by decide)
                    have z451 : aI (f441 pN) (8 * pF19.toInt + 1).toNat = 0 := ent_no2 z427 e442 q447 q448 (by decide)
                    have z452 : aI (f441 pN) (8 * pF19.toInt + 2).toNat = 0 := ent_no2 z428 e442 q447 q448 (by decide)
                    have z453 : aI (f441 pN) (8 * pF19.toInt + 3).toNat = pF21 := ent_no2 z429 e442 q447 q448 (by decide)
                    have z454 : aI (f441 pN) (8 * pF19.toInt + 4).toNat = pF21 := ent_no2 z430 e442 q447 q448 (by decide)
                    have z455 : aI (f441 pN) (8 * pF19.toInt + 5).toNat = pF21 := ent_st2 e442 q447 q448 (by decide)
                    have z456 : aI (f441 pN) (8 * pF19.toInt + 6).toNat = 0 := ent_no2 z432 e442 q447 q448 (by decide)
                    clear q447 q448
                    clear z426 z427 z428 z429 z430 z431 z432
                    refine lv_aload_n hx hb dX12_readClause_221 rfl (lv_at hl 3 rfl) ?_
                    refine fg_RX12_193 E hW rh0 dX12_readClause_222 (fun y457 m458 b459 => ?_)
                    obtain rfl : y28 = y457 := (((fm_I g444 rh0 rfl).trans ((fm_I g420 rh0 rfl).trans ((fm_I g394 rh0 rfl).trans ((fm_I g370 rh0 rfl).trans ((fm_I g348 rh0 rfl).trans m329)))))).symm.trans m458
                    refine q_if_ne (tgt := 247) hx hb dX12_readClause_225 (by decide) rfl (fun c460 => ?_) (fun c460 => ?_)
                    · exfalso; omega
                    · refine lv_aload_n hx hb dX12_readClause_228 rfl (lv_at hl 3 rfl) ?_
                      refine lv_ldc2 (v := 294) hx hb hown (hts _ tw_1904) dX12_readClause_229 ?_
                      have hw464 := hW.2.2.2
                      refine t_callV (As := [.long 294]) (rest := []) E hW (c_X12_isWord l G cI cJ cZ cD cR cT kp L f441 hW.2.2.2 _ h0 294 rh0 (by decide)) rh0 (by decide) rfl wk_X12_isWord tw_1797 rfl ⟨Nat.le_of_ble_eq_true rfl, Nat.le_of_ble_eq_true rfl⟩ ⟨rfl, rfl⟩ hl.1 rfl (Nat.le_of_ble_eq_true rfl) dX12_readClause_232 ⟨Nat.le_of_ble_eq_true rfl, Nat.le_of_ble_eq_true rfl⟩ (fun v461 f462 H locs q463 hW => ?_)
                      obtain ⟨⟨x466, rfl, p467⟩, g465⟩ := q463
                      simp only [((fm_I g444 rh0 rfl).trans ((fm_I g420 rh0 rfl).trans ((fm_I g394 rh0 rfl).trans ((fm_I g370 rh0 rfl).trans ((fm_I g348 rh0 rfl).trans m327))))), ((fm_J g444 rh0 rfl).trans ((fm_J g420 rh0 rfl).trans ((fm_J g394 rh0 rfl).trans ((fm_J g370 rh0 rfl).trans ((fm_J g348 rh0 rfl).trans m328)))))] at p467
                      have p467 : (x466.toInt = 1 ∧ y25.toInt = 1 ∧ y31.toInt = 294) ∨ x466.toInt = 0 := p467
                      have m468 : aI (f462 pN) (x41 : Int32).toNatClampNeg = x6 := ((congrArg (fun z => aI z (x41 : Int32).toNatClampNeg) (fm_A g465 rN (by decide) rfl)).trans (show aI (f441 pN) (x41 : Int32).toNatClampNeg = x6 from by rw [e442, up_n (tn_ne (by omega) (by omega) (by omega))]; exact (show aI (f417 pN) (x41 : Int32).toNatClampNeg = x6 from by rw [e418, up_n (tn_ne (by omega) (by omega) (by omega))]; exact (show aI (f391 pN) (x41 : Int32).toNatClampNeg = x6 from by rw [e392, up_n (tn_ne (by omega) (by omega) (by omega))]; exact ((congrArg (fun z => aI z (x41 : Int32).toNatClampNeg) (fm_A g370 rN (by decide) rfl)).trans (show aI (f345 pN) (x41 : Int32).toNatClampNeg = x6 from by rw [e346]; exact up_s))))))
                      have m469 : aI (f462 pN) (x386 : Int32).toNatClampNeg = pF21 := ((congrArg (fun z => aI z (x386 : Int32).toNatClampNeg) (fm_A g465 rN (by decide) rfl)).trans (show aI (f441 pN) (x386 : Int32).toNatClampNeg = pF21 from by rw [e442, up_n (tn_ne (by omega) (by omega) (by omega))]; exact (show aI (f417 pN) (x386 : Int32).toNatClampNeg = pF21 from by rw [e418, up_n (tn_ne (by omega) (by omega) (by omega))]; exact (show aI (f391 pN) (x386 : Int32).toNatClampNeg = pF21 from by rw [e392]; exact up_s))))
                      have m470 : aI (f462 pN) (x412 : Int32).toNatClampNeg = pF21 := ((congrArg (fun z => aI z (x412 : Int32).toNatClampNeg) (fm_A g465 rN (by decide) rfl)).trans (show aI (f441 pN) (x412 : Int32).toNatClampNeg = pF21 from by rw [e442, up_n (tn_ne (by omega) (by omega) (by omega))]; exact (show aI (f417 pN) (x412 : Int32).toNatClampNeg = pF21 from by rw [e418]; exact up_s)))
                      have m471 : aI (f462 pN) (x436 : Int32).toNatClampNeg = pF21 := ((congrArg (fun z => aI z (x436 : Int32).toNatClampNeg) (fm_A g465 rN (by decide) rfl)).trans (show aI (f441 pN) (x436 : Int32).toNatClampNeg = pF21 from by rw [e442]; exact up_s))
                      have z472 : DJ f0 f462 h0 pF21.toInt 0 0 0 0 := dj_keep z446 hw464 g465 rh0 rfl (fun q => by rw [fm_I g465 rh0 rfl]; exact q)
                      have z473 : ∀ j : Nat, (j : Int) < 8 * pF19.toInt → aI (f462 pN) j = aI (f0 pN) j := by rw [fm_A g465 rN (by decide) rfl]; exact z449
                      clear z449
                      have z474 : aI (f462 pN) (8 * pF19.toInt + 0).toNat = x6 := by rw [fm_A g465 rN (by decide) rfl]; exact z450
                      have z475 : aI (f462 pN) (8 * pF19.toInt + 1).toNat = 0 := by rw [fm_A g465 rN (by decide) rfl]; exact z451
                      have z476 : aI (f462 pN) (8 * pF19.toInt + 2).toNat = 0 := by rw [fm_A g465 rN (by decide) rfl]; exact z452
                      have z477 : aI (f462 pN) (8 * pF19.toInt + 3).toNat = pF21 := by rw [fm_A g465 rN (by decide) rfl]; exact z453
                      have z478 : aI (f462 pN) (8 * pF19.toInt + 4).toNat = pF21 := by rw [fm_A g465 rN (by decide) rfl]; exact z454
                      have z479 : aI (f462 pN) (8 * pF19.toInt + 5).toNat = pF21 := by rw [fm_A g465 rN (by decide) rfl]; exact z455
                      have z480 : aI (f462 pN) (8 * pF19.toInt + 6).toNat = 0 := by rw [fm_A g465 rN (by decide) rfl]; exact z456
                      clear z450 z451 z452 z453 z454 z455 z456
                      have hF := FM.tr hF g465 rfl
                      refine q_if_eq (tgt := 247) hx hb dX12_readClause_235 (by decide) rfl (fun c481 => ?_) (fun c481 => ?_)
                      · clear p467
                        refine lv_aload_n hx hb dX12_readClause_247 rfl (lv_at hl 3 rfl) ?_
                        refine fg_RX12_39 E hW rh0 dX12_readClause_248 (fun a482 m483 r484 => ?_)
                        obtain rfl : pN = a482 := (((fm_R g465 rh0 rfl).trans ((fm_R g444 rh0 rfl).trans m434))).symm.trans m483
                        refine lv_iload_n hx hb dX12_readClause_251 rfl (lv_at hl 1 rfl) ?_
                        refine lv_bipush (v := 6) hx hb dX12_readClause_252 (by decide) ?_
                        refine q_iadd (Y := 6) hx hb dX12_readClause_254 rfl rfl (by omega) (fun x485 h486 => ?_)
                        refine lv_aload_n hx hb dX12_readClause_255 rfl (lv_at hl 3 rfl) ?_
                        refine fg_RX12_229 E hW rh0 dX12_readClause_256 (fun y487 m488 b489 => ?_)
                        obtain rfl : pF21 = y487 := (((fm_I g465 rh0 rfl).trans ((fm_I g444 rh0 rfl).trans m439))).symm.trans m488
                        have hw494 := hW.2.2.2
                        refine gs_840 E hW rN ⟨by omega, by omega⟩ dX12_readClause_259 (fun f490 H locs e491 n492 g493 hW => ?_)
                        have m495 : oR (f490 h0) 2 = pR := ((fm_R g493 rh0 rfl).trans ((fm_R g465 rh0 rfl).trans ((fm_R g444 rh0 rfl).trans ((fm_R g420 rh0 rfl).trans ((fm_R g394 rh0 rfl).trans ((fm_R g370 rh0 rfl).trans ((fm_R g348 rh0 rfl).trans m323)))))))
                        have m496 : oI (f490 h0) 12 = pF12 := ((fm_I g493 rh0 rfl).trans ((fm_I g465 rh0 rfl).trans ((fm_I g444 rh0 rfl).trans ((fm_I g420 rh0 rfl).trans ((fm_I g394 rh0 rfl).trans ((fm_I g370 rh0 rfl).trans ((fm_I g348 rh0 rfl).trans m324)))))))
                        have m497 : oI (f490 h0) 13 = y19 := ((fm_I g493 rh0 rfl).trans ((fm_I g465 rh0 rfl).trans ((fm_I g444 rh0 rfl).trans ((fm_I g420 rh0 rfl).trans ((fm_I g394 rh0 rfl).trans ((fm_I g370 rh0 rfl).trans ((fm_I g348 rh0 rfl).trans m325)))))))
                        have m498 : oI (f490 h0) 14 = y22 := ((fm_I g493 rh0 rfl).trans ((fm_I g465 rh0 rfl).trans ((fm_I g444 rh0 rfl).trans ((fm_I g420 rh0 rfl).trans ((fm_I g394 rh0 rfl).trans ((fm_I g370 rh0 rfl).trans ((fm_I g348 rh0 rfl).trans m326)))))))
                        have m499 : oI (f490 h0) 15 = y25 := ((fm_I g493 rh0 rfl).trans ((fm_I g465 rh0 rfl).trans ((fm_I g444 rh0 rfl).trans ((fm_I g420 rh0 rfl).trans ((fm_I g394 rh0 rfl).trans ((fm_I g370 rh0 rfl).trans ((fm_I g348 rh0 rfl).trans m327)))))))
                        have m500 : oJ (f490 h0) 16 = y31 := ((fm_J g493 rh0 rfl).trans ((fm_J g465 rh0 rfl).trans ((fm_J g444 rh0 rfl).trans ((fm_J g420 rh0 rfl).trans ((fm_J g394 rh0 rfl).trans ((fm_J g370 rh0 rfl).trans ((fm_J g348 rh0 rfl).trans m328)))))))
                        have m501 : oI (f490 h0) 24 = pF24 := ((fm_I g493 rh0 rfl).trans ((fm_I g465 rh0 rfl).trans ((fm_I g444 rh0 rfl).trans ((fm_I g420 rh0 rfl).trans ((fm_I g394 rh0 rfl).trans ((fm_I g370 rh0 rfl).trans ((fm_I g348 rh0 rfl).trans m333)))))))
                        have m502 : oI (f490 h0) 27 = pF27 := ((fm_I g493 rh0 rfl).trans ((fm_I g465 rh0 rfl).trans ((fm_I g444 rh0 rfl).trans ((fm_I g420 rh0 rfl).trans ((fm_I g394 rh0 rfl).trans ((fm_I g370 rh0 rfl).trans ((fm_I g348 rh0 rfl).trans m334)))))))
                        have z503 : DJ f0 f490 h0 pF21.toInt 0 0 0 0 := dj_keep z472 hw494 g493 rh0 rfl (fun q => by rw [fm_I g493 rh0 rfl]; exact q)
                        have hF := FM.tr hF g493 rfl
                        have q504 : x485.toInt = 8 * pF19.toInt + 6 := by omega
                        have q505 : 0 ≤ 8 * pF19.toInt := by omega
                        have z506 : ∀ j : Nat, (j : Int) < 8 * pF19.toInt → aI (f490 pN) j = aI (f0 pN) j := pre_st2 z473 e491 q504 q505 (by decide)
                        clear z473
                        have z507 : aI (f490 pN) (8 * pF19.toInt + 0).toNat = x6 := ent_no2 z474 e491 q504 q505 (by decide)
                        have z508 : aI (f490 pN) (8 * pF19.toInt + 1).toNat = 0 := ent_no2 z475 e491 q504 q505 (by decide)
                        have z509 : aI (f490 pN) (8 * pF19.toInt + 2).toNat = 0 := ent_no2 z476 e491 q504 q505 (by decide)
                        have z510 : aI (f490 pN) (8 * pF19.toInt + 3).toNat = pF21 := ent_no2 z477 e491 q504 q505 (by decide)
                        have z511 : aI (f490 pN) (8 * pF19.toInt + 4).toNat = pF21 := ent_no2 z478 e491 q504 q505 (by decide)
                        have z512 : aI (f490 pN) (8 * pF19.toInt + 5).toNat = pF21 := ent_no2 z479 e491 q504 q505 (by decide)
                        have z513 : aI (f490 pN) (8 * pF19.toInt + 6).toNat = pF21 := ent_st2 e491 q504 q505 (by decide)
                        clear q504 q505
                        clear z474 z475 z476 z477 z478 z479 z480
                        exact e_V E hW rfl ⟨rfl, hF, (by simp only [m496, mF12, m497, mF13, m498, mF14, m499, mF15, ((fm_I g493 rh0 rfl).trans ((fm_I g465 rh0 rfl).trans m458)), mF18, ((fm_I g493 rh0 rfl).trans m488), mF21, m500, mW, and_true, true_and, true_or, or_true, false_or, or_false] <;> omega), (by have hk0 : (0 : Int32).toInt = 0 := rfl; rw [((fm_I g493 rh0 rfl).trans m488), ((fm_I g493 rh0 rfl).trans ((fm_I g465 rh0 rfl).trans ((fm_I g444 rh0 rfl).trans ((fm_I g420 rh0 rfl).trans ((fm_I g394 rh0 rfl).trans e368)))))]; exact cl_end (nc := pF21.toInt) (hd := x6) (r1 := 0) (r2 := 0) (show CLs _ _ _ pF21.toInt pF19.toInt from hC) (by omega) (show DJ f0 f490 h0 pF21.toInt (pF21 : Int32).toInt (pF21 : Int32).toInt (pF21 : Int32).toInt (pF21 : Int32).toInt from (dj_triv2 (dj_triv1 z503))) (fun j hj => by unfold vN; rw [((fm_R g493 rh0 rfl).trans m483), mN]; exact z506 j hj) (by unfold vN; rw [((fm_R g493 rh0 rfl).trans m483)]; exact z507) (by unfold vN; rw [((fm_R g493 rh0 rfl).trans m483)]; exact z508) (by unfold vN; rw [((fm_R g493 rh0 rfl).trans m483)]; exact z509) (by unfold vN; rw [((fm_R g493 rh0 rfl).trans m483)]; exact z510) (by unfold vN; rw [((fm_R g493 rh0 rfl).trans m483)]; exact z511) (by unfold vN; rw [((fm_R g493 rh0 rfl).trans m483)]; exact z512) (by unfold vN; rw [((fm_R g493 rh0 rfl).trans m483)]; exact z513) (by rw [((fm_I g493 rh0 rfl).trans ((fm_I g465 rh0 rfl).trans m458))]; omega) (by omega) (by omega))⟩ dX12_readClause_260
                      · have q514 : y25.toInt = 1 ∧ y31.toInt = 294 := by omega
                        clear p467
                        refine lv_aload_n hx hb dX12_readClause_238 rfl (lv_at hl 3 rfl) ?_
                        have hw518 := hW.2.2.2
                        refine t_callV (As := []) (rest := []) E hW (c_X12_next l G cI cJ cZ cD cR cT kp L f462 hW.2.2.2 _ h0 rh0 (by simp only [((fm_I g465 rh0 rfl).trans ((fm_I g444 rh0 rfl).trans ((fm_I g420 rh0 rfl).trans ((fm_I g394 rh0 rfl).trans ((fm_I g370 rh0 rfl).trans ((fm_I g348 rh0 rfl).trans m324)))))), ((fm_I g465 rh0 rfl).trans ((fm_I g444 rh0 rfl).trans ((fm_I g420 rh0 rfl).trans ((fm_I g394 rh0 rfl).trans ((fm_I g370 rh0 rfl).trans ((fm_I g348 rh0 rfl).trans m326)))))), and_true, true_and, true_or, or_true, false_or, or_false] <;> omega)) rh0 (by decide) rfl wk_X12_next tw_1773 rfl ⟨Nat.le_of_ble_eq_true rfl, Nat.le_of_ble_eq_true rfl⟩ ⟨rfl, rfl⟩ hl.1 rfl (Nat.le_of_ble_eq_true rfl) dX12_readClause_239 ⟨Nat.le_of_ble_eq_true rfl, Nat.le_of_ble_eq_true rfl⟩ (fun v515 f516 H locs q517 hW => ?_)
                        obtain ⟨rfl, g519, h520⟩ := q517
                        have m521 : oR (f516 h0) 2 = pR := ((fm_R g519 rh0 rfl).trans ((fm_R g465 rh0 rfl).trans ((fm_R g444 rh0 rfl).trans ((fm_R g420 rh0 rfl).trans ((fm_R g394 rh0 rfl).trans ((fm_R g370 rh0 rfl).trans ((fm_R g348 rh0 rfl).trans m323)))))))
                        have m522 : oI (f516 h0) 12 = pF12 := ((fm_I g519 rh0 rfl).trans ((fm_I g465 rh0 rfl).trans ((fm_I g444 rh0 rfl).trans ((fm_I g420 rh0 rfl).trans ((fm_I g394 rh0 rfl).trans ((fm_I g370 rh0 rfl).trans ((fm_I g348 rh0 rfl).trans m324)))))))
                        have m523 : oI (f516 h0) 24 = pF24 := ((fm_I g519 rh0 rfl).trans ((fm_I g465 rh0 rfl).trans ((fm_I g444 rh0 rfl).trans ((fm_I g420 rh0 rfl).trans ((fm_I g394 rh0 rfl).trans ((fm_I g370 rh0 rfl).trans ((fm_I g348 rh0 rfl).trans m333)))))))
                        have m524 : oI (f516 h0) 27 = pF27 := ((fm_I g519 rh0 rfl).trans ((fm_I g465 rh0 rfl).trans ((fm_I g444 rh0 rfl).trans ((fm_I g420 rh0 rfl).trans ((fm_I g394 rh0 rfl).trans ((fm_I g370 rh0 rfl).trans ((fm_I g348 rh0 rfl).trans m334)))))))
                        have z525 : DJ f0 f516 h0 pF21.toInt 0 0 0 0 := dj_keep z472 hw518 g519 rh0 rfl (fun q => by rw [fm_I g519 rh0 rfl]; exact q)
                        have z526 : ∀ j : Nat, (j : Int) < 8 * pF19.toInt → aI (f516 pN) j = aI (f0 pN) j := by rw [fm_A g519 rN (by decide) rfl]; exact z473
                        clear z473
                        have z527 : aI (f516 pN) (8 * pF19.toInt + 0).toNat = x6 := by rw [fm_A g519 rN (by decide) rfl]; exact z474
                        have z528 : aI (f516 pN) (8 * pF19.toInt + 1).toNat = 0 := by rw [fm_A g519 rN (by decide) rfl]; exact z475
                        have z529 : aI (f516 pN) (8 * pF19.toInt + 2).toNat = 0 := by rw [fm_A g519 rN (by decide) rfl]; exact z476
                        have z530 : aI (f516 pN) (8 * pF19.toInt + 3).toNat = pF21 := by rw [fm_A g519 rN (by decide) rfl]; exact z477
                        have z531 : aI (f516 pN) (8 * pF19.toInt + 4).toNat = pF21 := by rw [fm_A g519 rN (by decide) rfl]; exact z478
                        have z532 : aI (f516 pN) (8 * pF19.toInt + 5).toNat = pF21 := by rw [fm_A g519 rN (by decide) rfl]; exact z479
                        have z533 : aI (f516 pN) (8 * pF19.toInt + 6).toNat = 0 := by rw [fm_A g519 rN (by decide) rfl]; exact z480
                        clear z474 z475 z476 z477 z478 z479 z480
                        have hF := FM.tr hF g519 rfl
                        obtain ⟨y534, m535⟩ : ∃ x : Int32, oI (f516 h0) 13 = x := ⟨_, rfl⟩
                        have b536 : (0 : Int) ≤ y534.toInt ∧ y534.toInt ≤ 400 := by rw [← m535]; exact th_iv hW rh0 (by decide) (by decide) rfl
                        obtain ⟨y537, m538⟩ : ∃ x : Int32, oI (f516 h0) 14 = x := ⟨_, rfl⟩
                        have b539 : (0 : Int) ≤ y537.toInt ∧ y537.toInt ≤ 400 := by rw [← m538]; exact th_iv hW rh0 (by decide) (by decide) rfl
                        obtain ⟨y540, m541⟩ : ∃ x : Int32, oI (f516 h0) 15 = x := ⟨_, rfl⟩
                        have b542 : (0 : Int) ≤ y540.toInt ∧ y540.toInt ≤ 3 := by rw [← m541]; exact th_iv hW rh0 (by decide) (by decide) rfl
                        obtain ⟨y543, m544⟩ : ∃ x : Int64, oJ (f516 h0) 16 = x := ⟨_, rfl⟩
                        simp only [m522, ((fm_I g465 rh0 rfl).trans ((fm_I g444 rh0 rfl).trans ((fm_I g420 rh0 rfl).trans ((fm_I g394 rh0 rfl).trans ((fm_I g370 rh0 rfl).trans ((fm_I g348 rh0 rfl).trans m324)))))), m535, ((fm_I g465 rh0 rfl).trans ((fm_I g444 rh0 rfl).trans ((fm_I g420 rh0 rfl).trans ((fm_I g394 rh0 rfl).trans ((fm_I g370 rh0 rfl).trans ((fm_I g348 rh0 rfl).trans m325)))))), m538, ((fm_I g465 rh0 rfl).trans ((fm_I g444 rh0 rfl).trans ((fm_I g420 rh0 rfl).trans ((fm_I g394 rh0 rfl).trans ((fm_I g370 rh0 rfl).trans ((fm_I g348 rh0 rfl).trans m326)))))), m541, ((fm_I g465 rh0 rfl).trans ((fm_I g444 rh0 rfl).trans ((fm_I g420 rh0 rfl).trans ((fm_I g394 rh0 rfl).trans ((fm_I g370 rh0 rfl).trans ((fm_I g348 rh0 rfl).trans m327)))))), m544, ((fm_J g465 rh0 rfl).trans ((fm_J g444 rh0 rfl).trans ((fm_J g420 rh0 rfl).trans ((fm_J g394 rh0 rfl).trans ((fm_J g370 rh0 rfl).trans ((fm_J g348 rh0 rfl).trans m328))))))] at h520
                        refine lv_aload_n hx hb dX12_readClause_242 rfl (lv_at hl 3 rfl) ?_
                        refine lv_iconst (v := 1) hx hb dX12_readClause_243 (by decide) ?_
                        have hw549 := hW.2.2.2
                        refine t_callV (As := [.int 1]) (rest := []) E hW (c_X12_readExpression l G cI cJ cZ cD cR cT kp L f516 hW.2.2.2 _ h0 1 rh0 (by decide) (by have hkq545 : (1 : Int32).toInt = 1 := rfl; simp only [m522, m535, m538, m541, ((fm_I g519 rh0 rfl).trans ((fm_I g465 rh0 rfl).trans m458)), ((fm_I g519 rh0 rfl).trans ((fm_I g465 rh0 rfl).trans ((fm_I g444 rh0 rfl).trans m439))), m544, and_true, true_and, true_or, or_true, false_or, or_false] <;> omega)) rh0 (by decide) rfl wk_X12_readExpression tw_1819 rfl ⟨Nat.le_of_ble_eq_true rfl, Nat.le_of_ble_eq_true rfl⟩ ⟨rfl, rfl⟩ hl.1 rfl (Nat.le_of_ble_eq_true rfl) dX12_readClause_244 ⟨Nat.le_of_ble_eq_true rfl, Nat.le_of_ble_eq_true rfl⟩ (fun v546 f547 H locs q548 hW => ?_)
                        obtain ⟨rfl, g550, h551, h552⟩ := q548
                        have m553 : aI (f547 pN) (x41 : Int32).toNatClampNeg = x6 := ((congrArg (fun z => aI z (x41 : Int32).toNatClampNeg) (fm_A g550 rN (by decide) rfl)).trans ((congrArg (fun z => aI z (x41 : Int32).toNatClampNeg) (fm_A g519 rN (by decide) rfl)).trans m468))
                        have m554 : aI (f547 pN) (x386 : Int32).toNatClampNeg = pF21 := ((congrArg (fun z => aI z (x386 : Int32).toNatClampNeg) (fm_A g550 rN (by decide) rfl)).trans ((congrArg (fun z => aI z (x386 : Int32).toNatClampNeg) (fm_A g519 rN (by decide) rfl)).trans m469))
                        have m555 : aI (f547 pN) (x412 : Int32).toNatClampNeg = pF21 := ((congrArg (fun z => aI z (x412 : Int32).toNatClampNeg) (fm_A g550 rN (by decide) rfl)).trans ((congrArg (fun z => aI z (x412 : Int32).toNatClampNeg) (fm_A g519 rN (by decide) rfl)).trans m470))
                        have m556 : aI (f547 pN) (x436 : Int32).toNatClampNeg = pF21 := ((congrArg (fun z => aI z (x436 : Int32).toNatClampNeg) (fm_A g550 rN (by decide) rfl)).trans ((congrArg (fun z => aI z (x436 : Int32).toNatClampNeg) (fm_A g519 rN (by decide) rfl)).trans m471))
                        have z557 : ∀ j : Nat, (j : Int) < 8 * pF19.toInt → aI (f547 pN) j = aI (f0 pN) j := by rw [fm_A g550 rN (by decide) rfl]; exact z526
                        clear z526
                        have z558 : aI (f547 pN) (8 * pF19.toInt + 0).toNat = x6 := by rw [fm_A g550 rN (by decide) rfl]; exact z527
                        have z559 : aI (f547 pN) (8 * pF19.toInt + 1).toNat = 0 := by rw [fm_A g550 rN (by decide) rfl]; exact z528
                        have z560 : aI (f547 pN) (8 * pF19.toInt + 2).toNat = 0 := by rw [fm_A g550 rN (by decide) rfl]; exact z529
                        have z561 : aI (f547 pN) (8 * pF19.toInt + 3).toNat = pF21 := by rw [fm_A g550 rN (by decide) rfl]; exact z530
                        have z562 : aI (f547 pN) (8 * pF19.toInt + 4).toNat = pF21 := by rw [fm_A g550 rN (by decide) rfl]; exact z531
                        have z563 : aI (f547 pN) (8 * pF19.toInt + 5).toNat = pF21 := by rw [fm_A g550 rN (by decide) rfl]; exact z532
                        have z564 : aI (f547 pN) (8 * pF19.toInt + 6).toNat = 0 := by rw [fm_A g550 rN (by decide) rfl]; exact z533
                        clear z527 z528 z529 z530 z531 z532 z533
                        have hF := FM.tr hF g550 rfl
                        have hk565 : (1 : Int32).toInt = 1 := rfl
                        obtain ⟨y566, m567⟩ : ∃ x : Int32, oI (f547 h0) 13 = x := ⟨_, rfl⟩
                        have b568 : (0 : Int) ≤ y566.toInt ∧ y566.toInt ≤ 400 := by rw [← m567]; exact th_iv hW rh0 (by decide) (by decide) rfl
                        obtain ⟨y569, m570⟩ : ∃ x : Int32, oI (f547 h0) 14 = x := ⟨_, rfl⟩
                        have b571 : (0 : Int) ≤ y569.toInt ∧ y569.toInt ≤ 400 := by rw [← m570]; exact th_iv hW rh0 (by decide) (by decide) rfl
                        obtain ⟨y572, m573⟩ : ∃ x : Int32, oI (f547 h0) 15 = x := ⟨_, rfl⟩
                        have b574 : (0 : Int) ≤ y572.toInt ∧ y572.toInt ≤ 3 := by rw [← m573]; exact th_iv hW rh0 (by decide) (by decide) rfl
                        obtain ⟨y575, m576⟩ : ∃ x : Int32, oI (f547 h0) 18 = x := ⟨_, rfl⟩
                        have b577 : (0 : Int) ≤ y575.toInt ∧ y575.toInt ≤ 1 := by rw [← m576]; exact th_iv hW rh0 (by decide) (by decide) rfl
                        obtain ⟨y578, m579⟩ : ∃ x : Int32, oI (f547 h0) 21 = x := ⟨_, rfl⟩
                        have b580 : (0 : Int) ≤ y578.toInt ∧ y578.toInt ≤ 400 := by rw [← m579]; exact th_iv hW rh0 (by decide) (by decide) rfl
                        obtain ⟨y581, m582⟩ : ∃ x : Int32, oI (f547 h0) 27 = x := ⟨_, rfl⟩
                        have b583 : (0 : Int) ≤ y581.toInt ∧ y581.toInt ≤ 400 := by rw [← m582]; exact th_iv hW rh0 (by decide) (by decide) rfl
                        obtain ⟨y584, m585⟩ : ∃ x : Int64, oJ (f547 h0) 16 = x := ⟨_, rfl⟩
                        simp only [((fm_I g550 rh0 rfl).trans m522), m522, m567, m535, m570, m538, m573, m541, m576, ((fm_I g519 rh0 rfl).trans ((fm_I g465 rh0 rfl).trans m458)), m579, ((fm_I g519 rh0 rfl).trans ((fm_I g465 rh0 rfl).trans ((fm_I g444 rh0 rfl).trans m439))), m582, m524, m585, m544] at h551
                        have z587 := h552
                        rw [((fm_I g519 rh0 rfl).trans ((fm_I g465 rh0 rfl).trans ((fm_I g444 rh0 rfl).trans m439))), m579] at z587
                        have z586 : DJ f0 f547 h0 pF21.toInt 0 0 pF21.toInt y578.toInt := dj_ex2 z525 (by rw [((fm_I g519 rh0 rfl).trans ((fm_I g465 rh0 rfl).trans m458))]; omega) (by omega) (by omega) (by omega) z587
                        refine lv_aload_n hx hb dX12_readClause_247 rfl (lv_at hl 3 rfl) ?_
                        refine fg_RX12_39 E hW rh0 dX12_readClause_248 (fun a588 m589 r590 => ?_)
                        obtain rfl : pN = a588 := (((fm_R g550 rh0 rfl).trans ((fm_R g519 rh0 rfl).trans ((fm_R g465 rh0 rfl).trans ((fm_R g444 rh0 rfl).trans m434))))).symm.trans m589
                        refine lv_iload_n hx hb dX12_readClause_251 rfl (lv_at hl 1 rfl) ?_
                        refine lv_bipush (v := 6) hx hb dX12_readClause_252 (by decide) ?_
                        refine q_iadd (Y := 6) hx hb dX12_readClause_254 rfl rfl (by omega) (fun x591 h592 => ?_)
                        refine lv_aload_n hx hb dX12_readClause_255 rfl (lv_at hl 3 rfl) ?_
                        refine fg_RX12_229 E hW rh0 dX12_readClause_256 (fun y593 m594 b595 => ?_)
                        obtain rfl : y578 = y593 := (m579).symm.trans m594
                        have hw600 := hW.2.2.2
                        refine gs_840 E hW rN ⟨by omega, by omega⟩ dX12_readClause_259 (fun f596 H locs e597 n598 g599 hW => ?_)
                        have m601 : oI (f596 h0) 19 = x365 := ((fm_I g599 rh0 rfl).trans ((fm_I g550 rh0 rfl).trans ((fm_I g519 rh0 rfl).trans ((fm_I g465 rh0 rfl).trans ((fm_I g444 rh0 rfl).trans ((fm_I g420 rh0 rfl).trans ((fm_I g394 rh0 rfl).trans e368)))))))
                        have z602 : DJ f0 f596 h0 pF21.toInt 0 0 pF21.toInt y578.toInt := dj_keep z586 hw600 g599 rh0 rfl (fun q => by rw [fm_I g599 rh0 rfl]; exact q)
                        have hF := FM.tr hF g599 rfl
                        have q603 : x591.toInt = 8 * pF19.toInt + 6 := by omega
                        have q604 : 0 ≤ 8 * pF19.toInt := by omega
                        have z605 : ∀ j : Nat, (j : Int) < 8 * pF19.toInt → aI (f596 pN) j = aI (f0 pN) j := pre_st2 z557 e597 q603 q604 (by decide)
                        clear z557
                        have z606 : aI (f596 pN) (8 * pF19.toInt + 0).toNat = x6 := ent_no2 z558 e597 q603 q604 (by decide)
                        have z607 : aI (f596 pN) (8 * pF19.toInt + 1).toNat = 0 := ent_no2 z559 e597 q603 q604 (by decide)
                        have z608 : aI (f596 pN) (8 * pF19.toInt + 2).toNat = 0 := ent_no2 z560 e597 q603 q604 (by decide)
                        have z609 : aI (f596 pN) (8 * pF19.toInt + 3).toNat = pF21 := ent_no2 z561 e597 q603 q604 (by decide)
                        have z610 : aI (f596 pN) (8 * pF19.toInt + 4).toNat = pF21 := ent_no2 z562 e597 q603 q604 (by decide)
                        have z611 : aI (f596 pN) (8 * pF19.toInt + 5).toNat = pF21 := ent_no2 z563 e597 q603 q604 (by decide)
                        have z612 : aI (f596 pN) (8 * pF19.toInt + 6).toNat = y578 := ent_st2 e597 q603 q604 (by decide)
                        clear q603 q604
                        clear z558 z559 z560 z561 z562 z563 z564
                        exact e_V E hW rfl ⟨rfl, hF, (by simp only [((fm_I g599 rh0 rfl).trans ((fm_I g550 rh0 rfl).trans m522)), mF12, ((fm_I g599 rh0 rfl).trans m567), mF13, ((fm_I g599 rh0 rfl).trans m570), mF14, ((fm_I g599 rh0 rfl).trans m573), mF15, ((fm_I g599 rh0 rfl).trans m576), mF18, ((fm_I g599 rh0 rfl).trans m594), mF21, ((fm_J g599 rh0 rfl).trans m585), mW, and_true, true_and, true_or, or_true, false_or, or_false] <;> omega), (by have hk0 : (0 : Int32).toInt = 0 := rfl; rw [((fm_I g599 rh0 rfl).trans m594), m601]; exact cl_end (nc := y578.toInt) (hd := x6) (r1 := 0) (r2 := 0) (show CLs _ _ _ pF21.toInt pF19.toInt from hC) (by omega) (show DJ f0 f596 h0 pF21.toInt (pF21 : Int32).toInt (pF21 : Int32).toInt (pF21 : Int32).toInt (y578 : Int32).toInt from (dj_triv1 z602)) (fun j hj => by unfold vN; rw [((fm_R g599 rh0 rfl).trans m589), mN]; exact z605 j hj) (by unfold vN; rw [((fm_R g599 rh0 rfl).trans m589)]; exact z606) (by unfold vN; rw [((fm_R g599 rh0 rfl).trans m589)]; exact z607) (by unfold vN; rw [((fm_R g599 rh0 rfl).trans m589)]; exact z608) (by unfold vN; rw [((fm_R g599 rh0 rfl).trans m589)]; exact z609) (by unfold vN; rw [((fm_R g599 rh0 rfl).trans m589)]; exact z610) (by unfold vN; rw [((fm_R g599 rh0 rfl).trans m589)]; exact z611) (by unfold vN; rw [((fm_R g599 rh0 rfl).trans m589)]; exact z612) (by rw [((fm_I g599 rh0 rfl).trans m576)]; omega) (by omega) (by omega))⟩ dX12_readClause_260
                  · exfalso; omega
              · exfalso; omega
            · exfalso; omega
          · refine lv_aload_n hx hb dX12_readClause_52 rfl (lv_at hl 3 rfl) ?_
            refine fg_RX12_39 E hW rh0 dX12_readClause_53 (fun a613 m614 r615 => ?_)
            obtain rfl : pN = a613 := (m331).symm.trans m614
            refine lv_iload_n hx hb dX12_readClause_56 rfl (lv_at hl 1 rfl) ?_
            refine lv_iload_n hx hb dX12_readClause_57 rfl (lv_at hl 0 rfl) ?_
            refine q_iadd hx hb dX12_readClause_58 rfl rfl (by omega) (fun x616 h617 => ?_)
            refine lv_iconst (v := 0) hx hb dX12_readClause_59 (by decide) ?_
            have hw622 := hW.2.2.2
            refine gs_840 E hW rN ⟨by omega, by omega⟩ dX12_readClause_60 (fun f618 H locs e619 n620 g621 hW => ?_)
            have z623 : DJ f0 f618 h0 pF21.toInt 0 0 0 0 := dj_keep v339 hw622 g621 rh0 rfl (fun q => by rw [fm_I g621 rh0 rfl]; exact q)
            have hF := FM.tr hF g621 rfl
            refine q_iinc hx hb dX12_readClause_61 hl (k := 0) rfl rfl rfl (by omega) (by decide) (fun i624 ls h625 hl => ?_)
            have hl : lv_has ls 4 [(3, .int i624), (2, .int x41), (1, .int x6), (0, .ref h0)] := hl
            refine lv_goto (tgt := 46) hx hb dX12_readClause_64 (by decide) ?_
            exact ih46 f618 i624 ((fm_R g621 rh0 rfl).trans m323) ((fm_I g621 rh0 rfl).trans m324) ((fm_I g621 rh0 rfl).trans m325) ((fm_I g621 rh0 rfl).trans m326) ((fm_I g621 rh0 rfl).trans m327) ((fm_J g621 rh0 rfl).trans m328) ((fm_I g621 rh0 rfl).trans m329) ((fm_I g621 rh0 rfl).trans m330) ((fm_R g621 rh0 rfl).trans m614) ((fm_I g621 rh0 rfl).trans m332) ((fm_I g621 rh0 rfl).trans m333) ((fm_I g621 rh0 rfl).trans m334) (by omega) (zr_st v337 e619 (by decide) (by omega) (by omega) (by omega)) (pre_st v338 e619 (by omega)) z623 (by omega) _ _ _ hW hF (lv_sub hl [0, 1, 2, 3] rfl)
      have hk626 : (0 : Int32).toInt = 0 := rfl
      exact L340 9 f12 0 ((fm_R g15 rh0 rfl).trans ((fm_R g5 rh0 rfl).trans mR)) ((fm_I g15 rh0 rfl).trans ((fm_I g5 rh0 rfl).trans mF12)) m20 m23 m26 m32 m35 m39 ((fm_R g15 rh0 rfl).trans ((fm_R g5 rh0 rfl).trans mN)) ((fm_I g15 rh0 rfl).trans ((fm_I g5 rh0 rfl).trans mF21)) ((fm_I g15 rh0 rfl).trans ((fm_I g5 rh0 rfl).trans mF24)) ((fm_I g15 rh0 rfl).trans ((fm_I g5 rh0 rfl).trans mF27)) (by decide) (by have hk : (0 : Int32).toInt = 0 := rfl; rw [hk]; exact zr_0) (fun j _ => by rw [((congrArg aI (fm_A g15 rN (by decide) rfl)).trans ((congrArg aI (fm_A g5 rN (by decide) rfl)).trans rfl))]) z33 (by omega) _ _ _ hW hF (lv_sub hl [0, 1, 2, 3] rfl)
    · exact e_V E hW rfl ⟨rfl, hF, (by simp only [((fm_I g15 rh0 rfl).trans ((fm_I g5 rh0 rfl).trans mF12)), mF12, m20, mF13, m23, mF14, m26, mF15, m35, mF18, ((fm_I g15 rh0 rfl).trans ((fm_I g5 rh0 rfl).trans mF21)), mF21, m32, mW, and_true, true_and, true_or, or_true, false_or, or_false] <;> omega), (Or.inl (by rw [m35]; omega))⟩ dX12_readClause_35
  · refine lv_aload_n hx hb dX12_readClause_11 rfl (lv_at hl 1 rfl) ?_
    refine fg_RX12_356 E hW rh0 dX12_readClause_12 (fun y627 m628 b629 => ?_)
    obtain rfl : pF19 = y627 := (((fm_I g5 rh0 rfl).trans mF19)).symm.trans m628
    refine lv_bipush (v := 12) hx hb dX12_readClause_15 (by decide) ?_
    refine q_icmp_ge (Y := 12) (tgt := 24) hx hb dX12_readClause_17 (by decide) rfl rfl (fun c630 => ?_) (fun c630 => ?_)
    · refine lv_iconst (v := 0) hx hb dX12_readClause_24 (by decide) ?_
      have hw635 := hW.2.2.2
      refine t_callV (As := [.int 0]) (rest := []) E hW (c_X12_must l G cI cJ cZ cD cR cT kp L f2 hW.2.2.2 _ h0 0 rh0 (by decide) (by have hkq631 : (0 : Int32).toInt = 0 := rfl; simp only [((fm_I g5 rh0 rfl).trans mF12), ((fm_I g5 rh0 rfl).trans mF13), ((fm_I g5 rh0 rfl).trans mF14), ((fm_I g5 rh0 rfl).trans mF15), ((fm_J g5 rh0 rfl).trans mW), and_true, true_and, true_or, or_true, false_or, or_false] <;> omega)) rh0 (by decide) rfl wk_X12_must tw_1807 rfl ⟨Nat.le_of_ble_eq_true rfl, Nat.le_of_ble_eq_true rfl⟩ ⟨rfl, rfl⟩ hl.1 rfl (Nat.le_of_ble_eq_true rfl) dX12_readClause_25 ⟨Nat.le_of_ble_eq_true rfl, Nat.le_of_ble_eq_true rfl⟩ (fun v632 f633 H locs q634 hW => ?_)
      obtain ⟨rfl, g636, h637⟩ := q634
      have hF := FM.tr hF g636 rfl
      have hk639 : (0 : Int32).toInt = 0 := rfl
      obtain ⟨y640, m641⟩ : ∃ x : Int32, oI (f633 h0) 13 = x := ⟨_, rfl⟩
      have b642 : (0 : Int) ≤ y640.toInt ∧ y640.toInt ≤ 400 := by rw [← m641]; exact th_iv hW rh0 (by decide) (by decide) rfl
      obtain ⟨y643, m644⟩ : ∃ x : Int32, oI (f633 h0) 14 = x := ⟨_, rfl⟩
      have b645 : (0 : Int) ≤ y643.toInt ∧ y643.toInt ≤ 400 := by rw [← m644]; exact th_iv hW rh0 (by decide) (by decide) rfl
      obtain ⟨y646, m647⟩ : ∃ x : Int32, oI (f633 h0) 15 = x := ⟨_, rfl⟩
      have b648 : (0 : Int) ≤ y646.toInt ∧ y646.toInt ≤ 3 := by rw [← m647]; exact th_iv hW rh0 (by decide) (by decide) rfl
      obtain ⟨y649, m650⟩ : ∃ x : Int32, oI (f633 h0) 18 = x := ⟨_, rfl⟩
      have b651 : (0 : Int) ≤ y649.toInt ∧ y649.toInt ≤ 1 := by rw [← m650]; exact th_iv hW rh0 (by decide) (by decide) rfl
      obtain ⟨y652, m653⟩ : ∃ x : Int64, oJ (f633 h0) 16 = x := ⟨_, rfl⟩
      simp only [((fm_I g636 rh0 rfl).trans ((fm_I g5 rh0 rfl).trans mF12)), ((fm_I g5 rh0 rfl).trans mF12), m641, ((fm_I g5 rh0 rfl).trans mF13), m644, ((fm_I g5 rh0 rfl).trans mF14), m647, ((fm_I g5 rh0 rfl).trans mF15), m650, ((fm_I g5 rh0 rfl).trans mF18), m653, ((fm_J g5 rh0 rfl).trans mW)] at h637
      have z654 : DJ f0 f633 h0 pF21.toInt 0 0 0 0 := dj_keep z8 hw635 g636 rh0 rfl (fun q => by rw [((fm_I g5 rh0 rfl).trans mF18)] at q; rw [m650]; omega)
      refine lv_aload_n hx hb dX12_readClause_28 rfl (lv_at hl 1 rfl) ?_
      refine fg_RX12_193 E hW rh0 dX12_readClause_29 (fun y655 m656 b657 => ?_)
      obtain rfl : y649 = y655 := (m650).symm.trans m656
      refine q_if_eq (tgt := 36) hx hb dX12_readClause_32 (by decide) rfl (fun c658 => ?_) (fun c658 => ?_)
      · refine lv_bipush (v := 8) hx hb dX12_readClause_36 (by decide) ?_
        refine lv_aload_n hx hb dX12_readClause_38 rfl (lv_at hl 1 rfl) ?_
        refine fg_RX12_356 E hW rh0 dX12_readClause_39 (fun y659 m660 b661 => ?_)
        obtain rfl : pF19 = y659 := (((fm_I g636 rh0 rfl).trans m628)).symm.trans m660
        refine q_imul (X := 8) hx hb dX12_readClause_42 rfl rfl (by omega) (fun x662 h663 => ?_)
        refine lv_istore_n (lv' := [(2, .int x662), (1, .int x6), (0, .ref h0)]) hx hb dX12_readClause_43 rfl hl (by decide) rfl (fun ls hl => ?_)
        refine lv_iconst (v := 0) hx hb dX12_readClause_44 (by decide) ?_
        refine lv_istore_n (lv' := [(3, .int 0), (2, .int x662), (1, .int x6), (0, .ref h0)]) hx hb dX12_readClause_45 rfl hl (by decide) rfl (fun ls hl => ?_)
        have L961 : ∀ (n : Nat), ∀ (f943 : Nat → va_E) (y956 : Int32) (m944 : oR (f943 h0) 2 = pR) (m945 : oI (f943 h0) 12 = pF12) (m946 : oI (f943 h0) 13 = y640) (m947 : oI (f943 h0) 14 = y643) (m948 : oI (f943 h0) 15 = y646) (m949 : oJ (f943 h0) 16 = y652) (m950 : oI (f943 h0) 18 = y649) (m951 : oI (f943 h0) 19 = pF19) (m952 : oR (f943 h0) 20 = pN) (m953 : oI (f943 h0) 21 = pF21) (m954 : oI (f943 h0) 24 = pF24) (m955 : oI (f943 h0) 27 = pF27) (b957 : (0 : Int) ≤ y956.toInt ∧ y956.toInt ≤ 8) (v958 : ZR (aI (f943 pN)) (8 * pF19.toInt) y956.toInt) (v959 : ∀ j : Nat, (j : Int) < 8 * pF19.toInt → aI (f943 pN) j = aI (f0 pN) j) (v960 : DJ f0 f943 h0 pF21.toInt 0 0 0 0) (hm : (9 : Int) - y956.toInt ≤ n) (H : Heap) (locs : List Loc) (ls : Array Slot), WS G cI cJ cZ cD cR cT A kp L f943 s H locs → FM kp L ms_X12_readClause f0 f943 → lv_has ls 4 [(3, .int y956), (2, .int x662), (1, .int x6), (0, .ref h0)] → W p l e ({ frames := 8, cells := 0, slots := 0, locals := 189 }) s m ([.ref h0] : List Value).toArray below meth c H locs 0 0 (MQ below (QT (po_X12_readClause kp L f0 h0) G cI cJ cZ cD cR cT A kp L) ([.ref h0] : List Value).toArray s 0 0 A) (F0 m 46 ls []) := by
          intro n
          induction n with
          | zero =>
            intro f943 y956 m944 m945 m946 m947 m948 m949 m950 m951 m952 m953 m954 m955 b957 v958 v959 v960 hm H locs ls hW hF hl
            have hz := i32_b y956
            exfalso; omega
          | succ n ih =>
            intro f943 y956 m944 m945 m946 m947 m948 m949 m950 m951 m952 m953 m954 m955 b957 v958 v959 v960 hm H locs ls hW hF hl
            have ih46 := ih
            refine lv_iload_n hx hb dX12_readClause_46 rfl (lv_at hl 0 rfl) ?_
            refine lv_bipush (v := 8) hx hb dX12_readClause_47 (by decide) ?_
            refine q_icmp_ge (Y := 8) (tgt := 67) hx hb dX12_readClause_49 (by decide) rfl rfl (fun c962 => ?_) (fun c962 => ?_)
            · refine lv_aload_n hx hb dX12_readClause_67 rfl (lv_at hl 3 rfl) ?_
              refine fg_RX12_39 E hW rh0 dX12_readClause_68 (fun a963 m964 r965 => ?_)
              obtain rfl : pN = a963 := (m952).symm.trans m964
              refine lv_iload_n hx hb dX12_readClause_71 rfl (lv_at hl 1 rfl) ?_
              refine lv_iload_n hx hb dX12_readClause_72 rfl (lv_at hl 2 rfl) ?_
              have hw970 := hW.2.2.2
              refine gs_840 E hW rN ⟨by omega, by omega⟩ dX12_readClause_73 (fun f966 H locs e967 n968 g969 hW => ?_)
              have z971 : DJ f0 f966 h0 pF21.toInt 0 0 0 0 := dj_keep v960 hw970 g969 rh0 rfl (fun q => by rw [fm_I g969 rh0 rfl]; exact q)
              have hF := FM.tr hF g969 rfl
              have q972 : x662.toInt = 8 * pF19.toInt + 0 := by omega
              have q973 : 0 ≤ 8 * pF19.toInt := by omega
              have z974 : ∀ j : Nat, (j : Int) < 8 * pF19.toInt → aI (f966 pN) j = aI (f0 pN) j := pre_st2 v959 e967 q972 q973 (by decide)
              have z975 : ZR _ (8 * pF19.toInt) 8 := (by have q : y956.toInt = 8 := (by omega); rw [← q]; exact v958)
              have z976 : aI (f966 pN) (8 * pF19.toInt + 0).toNat = x6 := ent_st2 e967 q972 q973 (by decide)
              have z977 : aI (f966 pN) (8 * pF19.toInt + 1).toNat = 0 := ent_no2 (ent_z2 z975 (by decide)) e967 q972 q973 (by decide)
              have z978 : aI (f966 pN) (8 * pF19.toInt + 2).toNat = 0 := ent_no2 (ent_z2 z975 (by decide)) e967 q972 q973 (by decide)
              have z979 : aI (f966 pN) (8 * pF19.toInt + 3).toNat = 0 := ent_no2 (ent_z2 z975 (by decide)) e967 q972 q973 (by decide)
              have z980 : aI (f966 pN) (8 * pF19.toInt + 4).toNat = 0 := ent_no2 (ent_z2 z975 (by decide)) e967 q972 q973 (by decide)
              have z981 : aI (f966 pN) (8 * pF19.toInt + 5).toNat = 0 := ent_no2 (ent_z2 z975 (by decide)) e967 q972 q973 (by decide)
              have z982 : aI (f966 pN) (8 * pF19.toInt + 6).toNat = 0 := ent_no2 (ent_z2 z975 (by decide)) e967 q972 q973 (by decide)
              clear q972 q973
              refine lv_aload_n hx hb dX12_readClause_74 rfl (lv_at hl 3 rfl) ?_
              refine lv_dup hx hb dX12_readClause_75 rfl ?_
              refine fg_RX12_356 E hW rh0 dX12_readClause_76 (fun y983 m984 b985 => ?_)
              obtain rfl : pF19 = y983 := (((fm_I g969 rh0 rfl).trans m951)).symm.trans m984
              refine lv_iconst (v := 1) hx hb dX12_readClause_79 (by decide) ?_
              refine q_iadd (Y := 1) hx hb dX12_readClause_80 rfl rfl (by omega) (fun x986 h987 => ?_)
              have hw992 := hW.2.2.2
              refine fp_RX12_356 E hW rh0 (by omega) dX12_readClause_81 (fun f988 H locs e989 n990 g991 hW => ?_)
              have z993 : DJ f0 f988 h0 pF21.toInt 0 0 0 0 := dj_keep z971 hw992 g991 rh0 rfl (fun q => by rw [fm_I g991 rh0 rfl]; exact q)
              have z994 : ∀ j : Nat, (j : Int) < 8 * pF19.toInt → aI (f988 pN) j = aI (f0 pN) j := by rw [fm_A g991 rN (by decide) rfl]; exact z974
              clear z974
              have z995 : aI (f988 pN) (8 * pF19.toInt + 0).toNat = x6 := by rw [fm_A g991 rN (by decide) rfl]; exact z976
              have z996 : aI (f988 pN) (8 * pF19.toInt + 1).toNat = 0 := by rw [fm_A g991 rN (by decide) rfl]; exact z977
              have z997 : aI (f988 pN) (8 * pF19.toInt + 2).toNat = 0 := by rw [fm_A g991 rN (by decide) rfl]; exact z978
              have z998 : aI (f988 pN) (8 * pF19.toInt + 3).toNat = 0 := by rw [fm_A g991 rN (by decide) rfl]; exact z979
              have z999 : aI (f988 pN) (8 * pF19.toInt + 4).toNat = 0 := by rw [fm_A g991 rN (by decide) rfl]; exact z980
              have z1000 : aI (f988 pN) (8 * pF19.toInt + 5).toNat = 0 := by rw [fm_A g991 rN (by decide) rfl]; exact z981
              have z1001 : aI (f988 pN) (8 * pF19.toInt + 6).toNat = 0 := by rw [fm_A g991 rN (by decide) rfl]; exact z982
              clear z976 z977 z978 z979 z980 z981 z982
              have hF := FM.tr hF g991 rfl
              refine lv_iload_n hx hb dX12_readClause_84 rfl (lv_at hl 2 rfl) ?_
              refine q_if_ne (tgt := 132) hx hb dX12_readClause_85 (by decide) rfl (fun c1002 => ?_) (fun c1002 => ?_)
              · refine lv_iload_n hx hb dX12_readClause_132 rfl (lv_at hl 2 rfl) ?_
                refine lv_iconst (v := 1) hx hb dX12_readClause_133 (by decide) ?_
                refine q_icmp_ne (Y := 1) (tgt := 170) hx hb dX12_readClause_134 (by decide) rfl rfl (fun c1003 => ?_) (fun c1003 => ?_)
                · refine lv_aload_n hx hb dX12_readClause_170 rfl (lv_at hl 3 rfl) ?_
                  refine fg_RX12_39 E hW rh0 dX12_readClause_171 (fun a1004 m1005 r1006 => ?_)
                  obtain rfl : pN = a1004 := (((fm_R g991 rh0 rfl).trans ((fm_R g969 rh0 rfl).trans m964))).symm.trans m1005
                  refine lv_iload_n hx hb dX12_readClause_174 rfl (lv_at hl 1 rfl) ?_
                  refine lv_iconst (v := 3) hx hb dX12_readClause_175 (by decide) ?_
                  refine q_iadd (Y := 3) hx hb dX12_readClause_176 rfl rfl (by omega) (fun x1007 h1008 => ?_)
                  refine lv_aload_n hx hb dX12_readClause_177 rfl (lv_at hl 3 rfl) ?_
                  refine fg_RX12_229 E hW rh0 dX12_readClause_178 (fun y1009 m1010 b1011 => ?_)
                  obtain rfl : pF21 = y1009 := (((fm_I g991 rh0 rfl).trans ((fm_I g969 rh0 rfl).trans m953))).symm.trans m1010
                  have hw1016 := hW.2.2.2
                  refine gs_840 E hW rN ⟨by omega, by omega⟩ dX12_readClause_181 (fun f1012 H locs e1013 n1014 g1015 hW => ?_)
                  have z1017 : DJ f0 f1012 h0 pF21.toInt 0 0 0 0 := dj_keep z993 hw1016 g1015 rh0 rfl (fun q => by rw [fm_I g1015 rh0 rfl]; exact q)
                  have hF := FM.tr hF g1015 rfl
                  have q1018 : x1007.toInt = 8 * pF19.toInt + 3 := by omega
                  have q1019 : 0 ≤ 8 * pF19.toInt := by omega
                  have z1020 : ∀ j : Nat, (j : Int) < 8 * pF19.toInt → aI (f1012 pN) j = aI (f0 pN) j := pre_st2 z994 e1013 q1018 q1019 (by decide)
                  clear z994
                  have z1021 : aI (f1012 pN) (8 * pF19.toInt + 0).toNat = x6 := ent_no2 z995 e1013 q1018 q1019 (by decide)
                  have z1022 : aI (f1012 pN) (8 * pF19.toInt + 1).toNat = 0 := ent_no2 z996 e1013 q1018 q1019 (by decide)
                  have z1023 : aI (f1012 pN) (8 * pF19.toInt + 2).toNat = 0 := ent_no2 z997 e1013 q1018 q1019 (by decide)
                  have z1024 : aI (f1012 pN) (8 * pF19.toInt + 3).toNat = pF21 := ent_st2 e1013 q1018 q1019 (by decide)
                  have z1025 : aI (f1012 pN) (8 * pF19.toInt + 4).toNat = 0 := ent_no2 z999 e1013 q1018 q1019 (by decide)
                  have z1026 : aI (f1012 pN) (8 * pF19.toInt + 5).toNat = 0 := ent_no2 z1000 e1013 q1018 q1019 (by decide)
                  have z1027 : aI (f1012 pN) (8 * pF19.toInt + 6).toNat = 0 := ent_no2 z1001 e1013 q1018 q1019 (by decide)
                  clear q1018 q1019
                  clear z995 z996 z997 z998 z999 z1000 z1001
                  refine lv_iload_n hx hb dX12_readClause_182 rfl (lv_at hl 2 rfl) ?_
                  refine lv_iconst (v := 2) hx hb dX12_readClause_183 (by decide) ?_
                  refine q_icmp_eq (Y := 2) (tgt := 192) hx hb dX12_readClause_184 (by decide) rfl rfl (fun c1028 => ?_) (fun c1028 => ?_)
                  · refine lv_aload_n hx hb dX12_readClause_192 rfl (lv_at hl 3 rfl) ?_
                    refine lv_iconst (v := 0) hx hb dX12_readClause_193 (by decide) ?_
                    have hw1033 := hW.2.2.2
                    refine t_callV (As := [.int 0]) (rest := []) E hW (c_X12_readExpression l G cI cJ cZ cD cR cT kp L f1012 hW.2.2.2 _ h0 0 rh0 (by decide) (by have hkq1029 : (0 : Int32).toInt = 0 := rfl; simp only [((fm_I g1015 rh0 rfl).trans ((fm_I g991 rh0 rfl).trans ((fm_I g969 rh0 rfl).trans m945))), ((fm_I g1015 rh0 rfl).trans ((fm_I g991 rh0 rfl).trans ((fm_I g969 rh0 rfl).trans m946))), ((fm_I g1015 rh0 rfl).trans ((fm_I g991 rh0 rfl).trans ((fm_I g969 rh0 rfl).trans m947))), ((fm_I g1015 rh0 rfl).trans ((fm_I g991 rh0 rfl).trans ((fm_I g969 rh0 rfl).trans m948))), ((fm_I g1015 rh0 rfl).trans ((fm_I g991 rh0 rfl).trans ((fm_I g969 rh0 rfl).trans m950))), ((fm_I g1015 rh0 rfl).trans m1010), ((fm_J g1015 rh0 rfl).trans ((fm_J g991 rh0 rfl).trans ((fm_J g969 rh0 rfl).trans m949))), and_true, true_and, true_or, or_true, false_or, or_false] <;> omega)) rh0 (by decide) rfl wk_X12_readExpression tw_1819 rfl ⟨Nat.le_of_ble_eq_true rfl, Nat.le_of_ble_eq_true rfl⟩ ⟨rfl, rfl⟩ hl.1 rfl (Nat.le_of_ble_eq_true rfl) dX12_readClause_194 ⟨Nat.le_of_ble_eq_true rfl, Nat.le_of_ble_eq_true rfl⟩ (fun v1030 f1031 H locs q1032 hW => ?_)
                    obtain ⟨rfl, g1034, h1035, h1036⟩ := q1032
                    have m1037 : aI (f1031 pN) (x662 : Int32).toNatClampNeg = x6 := ((congrArg (fun z => aI z (x662 : Int32).toNatClampNeg) (fm_A g1034 rN (by decide) rfl)).trans (show aI (f1012 pN) (x662 : Int32).toNatClampNeg = x6 from by rw [e1013, up_n (tn_ne (by omega) (by omega) (by omega))]; exact ((congrArg (fun z => aI z (x662 : Int32).toNatClampNeg) (fm_A g991 rN (by decide) rfl)).trans (show aI (f966 pN) (x662 : Int32).toNatClampNeg = x6 from by rw [e967]; exact up_s))))
                    have m1038 : aI (f1031 pN) (x1007 : Int32).toNatClampNeg = pF21 := ((congrArg (fun z => aI z (x1007 : Int32).toNatClampNeg) (fm_A g1034 rN (by decide) rfl)).trans (show aI (f1012 pN) (x1007 : Int32).toNatClampNeg = pF21 from by rw [e1013]; exact up_s))
                    have z1039 : ∀ j : Nat, (j : Int) < 8 * pF19.toInt → aI (f1031 pN) j = aI (f0 pN) j := by rw [fm_A g1034 rN (by decide) rfl]; exact z1020
                    clear z1020
                    have z1040 : aI (f1031 pN) (8 * pF19.toInt + 0).toNat = x6 := by rw [fm_A g1034 rN (by decide) rfl]; exact z1021
                    have z1041 : aI (f1031 pN) (8 * pF19.toInt + 1).toNat = 0 := by rw [fm_A g1034 rN (by decide) rfl]; exact z1022
                    have z1042 : aI (f1031 pN) (8 * pF19.toInt + 2).toNat = 0 := by rw [fm_A g1034 rN (by decide) rfl]; exact z1023
                    have z1043 : aI (f1031 pN) (8 * pF19.toInt + 3).toNat = pF21 := by rw [fm_A g1034 rN (by decide) rfl]; exact z1024
                    have z1044 : aI (f1031 pN) (8 * pF19.toInt + 4).toNat = 0 := by rw [fm_A g1034 rN (by decide) rfl]; exact z1025
                    have z1045 : aI (f1031 pN) (8 * pF19.toInt + 5).toNat = 0 := by rw [fm_A g1034 rN (by decide) rfl]; exact z1026
                    have z1046 : aI (f1031 pN) (8 * pF19.toInt + 6).toNat = 0 := by rw [fm_A g1034 rN (by decide) rfl]; exact z1027
                    clear z1021 z1022 z1023 z1024 z1025 z1026 z1027
                    have hF := FM.tr hF g1034 rfl
                    have hk1047 : (0 : Int32).toInt = 0 := rfl
                    obtain ⟨y1048, m1049⟩ : ∃ x : Int32, oI (f1031 h0) 13 = x := ⟨_, rfl⟩
                    have b1050 : (0 : Int) ≤ y1048.toInt ∧ y1048.toInt ≤ 400 := by rw [← m1049]; exact th_iv hW rh0 (by decide) (by decide) rfl
                    obtain ⟨y1051, m1052⟩ : ∃ x : Int32, oI (f1031 h0) 14 = x := ⟨_, rfl⟩
                    have b1053 : (0 : Int) ≤ y1051.toInt ∧ y1051.toInt ≤ 400 := by rw [← m1052]; exact th_iv hW rh0 (by decide) (by decide) rfl
                    obtain ⟨y1054, m1055⟩ : ∃ x : Int32, oI (f1031 h0) 15 = x := ⟨_, rfl⟩
                    have b1056 : (0 : Int) ≤ y1054.toInt ∧ y1054.toInt ≤ 3 := by rw [← m1055]; exact th_iv hW rh0 (by decide) (by decide) rfl
                    obtain ⟨y1057, m1058⟩ : ∃ x : Int32, oI (f1031 h0) 18 = x := ⟨_, rfl⟩
                    have b1059 : (0 : Int) ≤ y1057.toInt ∧ y1057.toInt ≤ 1 := by rw [← m1058]; exact th_iv hW rh0 (by decide) (by decide) rfl
                    obtain ⟨y1060, m1061⟩ : ∃ x : Int32, oI (f1031 h0) 21 = x := ⟨_, rfl⟩
                    have b1062 : (0 : Int) ≤ y1060.toInt ∧ y1060.toInt ≤ 400 := by rw [← m1061]; exact th_iv hW rh0 (by decide) (by decide) rfl
                    obtain ⟨y1063, m1064⟩ : ∃ x : Int32, oI (f1031 h0) 27 = x := ⟨_, rfl⟩
                    have b1065 : (0 : Int) ≤ y1063.toInt ∧ y1063.toInt ≤ 400 := by rw [← m1064]; exact th_iv hW rh0 (by decide) (by decide) rfl
                    obtain ⟨y1066, m1067⟩ : ∃ x : Int64, oJ (f1031 h0) 16 = x := ⟨_, rfl⟩
                    simp only [((fm_I g1034 rh0 rfl).trans ((fm_I g1015 rh0 rfl).trans ((fm_I g991 rh0 rfl).trans ((fm_I g969 rh0 rfl).trans m945)))), ((fm_I g1015 rh0 rfl).trans ((fm_I g991 rh0 rfl).trans ((fm_I g969 rh0 rfl).trans m945))), m1049, ((fm_I g1015 rh0 rfl).trans ((fm_I g991 rh0 rfl).trans ((fm_I g969 rh0 rfl).trans m946))), m1052, ((fm_I g1015 rh0 rfl).trans ((fm_I g991 rh0 rfl).trans ((fm_I g969 rh0 rfl).trans m947))), m1055, ((fm_I g1015 rh0 rfl).trans ((fm_I g991 rh0 rfl).trans ((fm_I g969 rh0 rfl).trans m948))), m1058, ((fm_I g1015 rh0 rfl).trans ((fm_I g991 rh0 rfl).trans ((fm_I g969 rh0 rfl).trans m950))), m1061, ((fm_I g1015 rh0 rfl).trans m1010), m1064, ((fm_I g1015 rh0 rfl).trans ((fm_I g991 rh0 rfl).trans ((fm_I g969 rh0 rfl).trans m955))), m1067, ((fm_J g1015 rh0 rfl).trans ((fm_J g991 rh0 rfl).trans ((fm_J g969 rh0 rfl).trans m949)))] at h1035
                    have z1069 := h1036
                    rw [((fm_I g1015 rh0 rfl).trans m1010), m1061] at z1069
                    have z1068 : DJ f0 f1031 h0 pF21.toInt pF21.toInt y1060.toInt y1060.toInt y1060.toInt := dj_ex1 z1017 (by rw [((fm_I g1015 rh0 rfl).trans ((fm_I g991 rh0 rfl).trans ((fm_I g969 rh0 rfl).trans m950)))]; omega) (by omega) z1069
                    refine lv_aload_n hx hb dX12_readClause_197 rfl (lv_at hl 3 rfl) ?_
                    refine fg_RX12_39 E hW rh0 dX12_readClause_198 (fun a1070 m1071 r1072 => ?_)
                    obtain rfl : pN = a1070 := (((fm_R g1034 rh0 rfl).trans ((fm_R g1015 rh0 rfl).trans m1005))).symm.trans m1071
                    refine lv_iload_n hx hb dX12_readClause_201 rfl (lv_at hl 1 rfl) ?_
                    refine lv_iconst (v := 4) hx hb dX12_readClause_202 (by decide) ?_
                    refine q_iadd (Y := 4) hx hb dX12_readClause_203 rfl rfl (by omega) (fun x1073 h1074 => ?_)
                    refine lv_aload_n hx hb dX12_readClause_204 rfl (lv_at hl 3 rfl) ?_
                    refine fg_RX12_229 E hW rh0 dX12_readClause_205 (fun y1075 m1076 b1077 => ?_)
                    obtain rfl : y1060 = y1075 := (m1061).symm.trans m1076
                    have hw1082 := hW.2.2.2
                    refine gs_840 E hW rN ⟨by omega, by omega⟩ dX12_readClause_208 (fun f1078 H locs e1079 n1080 g1081 hW => ?_)
                    have z1083 : DJ f0 f1078 h0 pF21.toInt pF21.toInt y1060.toInt y1060.toInt y1060.toInt := dj_keep z1068 hw1082 g1081 rh0 rfl (fun q => by rw [fm_I g1081 rh0 rfl]; exact q)
                    have hF := FM.tr hF g1081 rfl
                    have q1084 : x1073.toInt = 8 * pF19.toInt + 4 := by omega
                    have q1085 : 0 ≤ 8 * pF19.toInt := by omega
                    have z1086 : ∀ j : Nat, (j : Int) < 8 * pF19.toInt → aI (f1078 pN) j = aI (f0 pN) j := pre_st2 z1039 e1079 q1084 q1085 (by decide)
                    clear z1039
                    have z1087 : aI (f1078 pN) (8 * pF19.toInt + 0).toNat = x6 := ent_no2 z1040 e1079 q1084 q1085 (by decide)
                    have z1088 : aI (f1078 pN) (8 * pF19.toInt + 1).toNat = 0 := ent_no2 z1041 e1079 q1084 q1085 (by decide)
                    have z1089 : aI (f1078 pN) (8 * pF19.toInt + 2).toNat = 0 := ent_no2 z1042 e1079 q1084 q1085 (by decide)
                    have z1090 : aI (f1078 pN) (8 * pF19.toInt + 3).toNat = pF21 := ent_no2 z1043 e1079 q1084 q1085 (by decide)
                    have z1091 : aI (f1078 pN) (8 * pF19.toInt + 4).toNat = y1060 := ent_st2 e1079 q1084 q1085 (by decide)
                    have z1092 : aI (f1078 pN) (8 * pF19.toInt + 5).toNat = 0 := ent_no2 z1045 e1079 q1084 q1085 (by decide)
                    have z1093 : aI (f1078 pN) (8 * pF19.toInt + 6).toNat = 0 := ent_no2 z1046 e1079 q1084 q1085 (by decide)
                    clear q1084 q1085
                    clear z1040 z1041 z1042 z1043 z1044 z1045 z1046
                    refine lv_aload_n hx hb dX12_readClause_209 rfl (lv_at hl 3 rfl) ?_
                    refine fg_RX12_39 E hW rh0 dX12_readClause_210 (fun a1094 m1095 r1096 => ?_)
                    obtain rfl : pN = a1094 := (((fm_R g1081 rh0 rfl).trans m1071)).symm.trans m1095
                    refine lv_iload_n hx hb dX12_readClause_213 rfl (lv_at hl 1 rfl) ?_
                    refine lv_iconst (v := 5) hx hb dX12_readClause_214 (by decide) ?_
                    refine q_iadd (Y := 5) hx hb dX12_readClause_215 rfl rfl (by omega) (fun x1097 h1098 => ?_)
                    refine lv_aload_n hx hb dX12_readClause_216 rfl (lv_at hl 3 rfl) ?_
                    refine fg_RX12_229 E hW rh0 dX12_readClause_217 (fun y1099 m1100 b1101 => ?_)
                    obtain rfl : y1060 = y1099 := (((fm_I g1081 rh0 rfl).trans m1076)).symm.trans m1100
                    have hw1106 := hW.2.2.2
                    refine gs_840 E hW rN ⟨by omega, by omega⟩ dX12_readClause_220 (fun f1102 H locs e1103 n1104 g1105 hW => ?_)
                    have z1107 : DJ f0 f1102 h0 pF21.toInt pF21.toInt y1060.toInt y1060.toInt y1060.toInt := dj_keep z1083 hw1106 g1105 rh0 rfl (fun q => by rw [fm_I g1105 rh0 rfl]; exact q)
                    have hF := FM.tr hF g1105 rfl
                    have q1108 : x1097.toInt = 8 * pF19.toInt + 5 := by omega
                    have q1109 : 0 ≤ 8 * pF19.toInt := by omega
                    have z1110 : ∀ j : Nat, (j : Int) < 8 * pF19.toInt → aI (f1102 pN) j = aI (f0 pN) j := pre_st2 z1086 e1103 q1108 q1109 (by decide)
                    clear z1086
                    have z1111 : aI (f1102 pN) (8 * pF19.toInt + 0).toNat = x6 := ent_no2 z1087 e1103 q1108 q1109 (by decide)
                    have z1112 : aI (f1102 pN) (8 * pF19.toInt + 1).toNat = 0 := ent_no2 z1088 e1103 q1108 q1109 (by decide)
                    have z1113 : aI (f1102 pN) (8 * pF19.toInt + 2).toNat = 0 := ent_no2 z1089 e1103 q1108 q1109 (by decide)
                    have z1114 : aI (f1102 pN) (8 * pF19.toInt + 3).toNat = pF21 := ent_no2 z1090 e1103 q1108 q1109 (by decide)
                    have z1115 : aI (f1102 pN) (8 * pF19.toInt + 4).toNat = y1060 := ent_no2 z1091 e1103 q1108 q1109 (by decide)
                    have z1116 : aI (f1102 pN) (8 * pF19.toInt + 5).toNat = y1060 := ent_st2 e1103 q1108 q1109 (by decide)
                    have z1117 : aI (f1102 pN) (8 * pF19.toInt + 6).toNat = 0 := ent_no2 z1093 e1103 q1108 q1109 (by decide)
                    clear q1108 q1109
                    clear z1087 z1088 z1089 z1090 z1091 z1092 z1093
                    refine lv_aload_n hx hb dX12_readClause_221 rfl (lv_at hl 3 rfl) ?_
                    refine fg_RX12_193 E hW rh0 dX12_readClause_222 (fun y1118 m1119 b1120 => ?_)
                    obtain rfl : y1057 = y1118 := (((fm_I g1105 rh0 rfl).trans ((fm_I g1081 rh0 rfl).trans m1058))).symm.trans m1119
                    refine q_if_ne (tgt := 247) hx hb dX12_readClause_225 (by decide) rfl (fun c1121 => ?_) (fun c1121 => ?_)
                    · refine lv_aload_n hx hb dX12_readClause_247 rfl (lv_at hl 3 rfl) ?_
                      refine fg_RX12_39 E hW rh0 dX12_readClause_248 (fun a1122 m1123 r1124 => ?_)
                      obtain rfl : pN = a1122 := (((fm_R g1105 rh0 rfl).trans m1095)).symm.trans m1123
                      refine lv_iload_n hx hb dX12_readClause_251 rfl (lv_at hl 1 rfl) ?_
                      refine lv_bipush (v := 6) hx hb dX12_readClause_252 (by decide) ?_
                      refine q_iadd (Y := 6) hx hb dX12_readClause_254 rfl rfl (by omega) (fun x1125 h1126 => ?_)
                      refine lv_aload_n hx hb dX12_readClause_255 rfl (lv_at hl 3 rfl) ?_
                      refine fg_RX12_229 E hW rh0 dX12_readClause_256 (fun y1127 m1128 b1129 => ?_)
                      obtain rfl : y1060 = y1127 := (((fm_I g1105 rh0 rfl).trans m1100)).symm.trans m1128
                      have hw1134 := hW.2.2.2
                      refine gs_840 E hW rN ⟨by omega, by omega⟩ dX12_readClause_259 (fun f1130 H locs e1131 n1132 g1133 hW => ?_)
                      have m1135 : oR (f1130 h0) 2 = pR := ((fm_R g1133 rh0 rfl).trans ((fm_R g1105 rh0 rfl).trans ((fm_R g1081 rh0 rfl).trans ((fm_R g1034 rh0 rfl).trans ((fm_R g1015 rh0 rfl).trans ((fm_R g991 rh0 rfl).trans ((fm_R g969 rh0 rfl).trans m944)))))))
                      have m1136 : oI (f1130 h0) 12 = pF12 := ((fm_I g1133 rh0 rfl).trans ((fm_I g1105 rh0 rfl).trans ((fm_I g1081 rh0 rfl).trans ((fm_I g1034 rh0 rfl).trans ((fm_I g1015 rh0 rfl).trans ((fm_I g991 rh0 rfl).trans ((fm_I g969 rh0 rfl).trans m945)))))))
                      have z1137 : DJ f0 f1130 h0 pF21.toInt pF21.toInt y1060.toInt y1060.toInt y1060.toInt := dj_keep z1107 hw1134 g1133 rh0 rfl (fun q => by rw [fm_I g1133 rh0 rfl]; exact q)
                      have hF := FM.tr hF g1133 rfl
                      have q1138 : x1125.toInt = 8 * pF19.toInt + 6 := by omega
                      have q1139 : 0 ≤ 8 * pF19.toInt := by omega
                      have z1140 : ∀ j : Nat, (j : Int) < 8 * pF19.toInt → aI (f1130 pN) j = aI (f0 pN) j := pre_st2 z1110 e1131 q1138 q1139 (by decide)
                      clear z1110
                      have z1141 : aI (f1130 pN) (8 * pF19.toInt + 0).toNat = x6 := ent_no2 z1111 e1131 q1138 q1139 (by decide)
                      have z1142 : aI (f1130 pN) (8 * pF19.toInt + 1).toNat = 0 := ent_no2 z1112 e1131 q1138 q1139 (by decide)
                      have z1143 : aI (f1130 pN) (8 * pF19.toInt + 2).toNat = 0 := ent_no2 z1113 e1131 q1138 q1139 (by decide)
                      have z1144 : aI (f1130 pN) (8 * pF19.toInt + 3).toNat = pF21 := ent_no2 z1114 e1131 q1138 q1139 (by decide)
                      have z1145 : aI (f1130 pN) (8 * pF19.toInt + 4).toNat = y1060 := ent_no2 z1115 e1131 q1138 q1139 (by decide)
                      have z1146 : aI (f1130 pN) (8 * pF19.toInt + 5).toNat = y1060 := ent_no2 z1116 e1131 q1138 q1139 (by decide)
                      have z1147 : aI (f1130 pN) (8 * pF19.toInt + 6).toNat = y1060 := ent_st2 e1131 q1138 q1139 (by decide)
                      clear q1138 q1139
                      clear z1111 z1112 z1113 z1114 z1115 z1116 z1117
                      exact e_V E hW rfl ⟨rfl, hF, (by simp only [m1136, mF12, ((fm_I g1133 rh0 rfl).trans ((fm_I g1105 rh0 rfl).trans ((fm_I g1081 rh0 rfl).trans m1049))), mF13, ((fm_I g1133 rh0 rfl).trans ((fm_I g1105 rh0 rfl).trans ((fm_I g1081 rh0 rfl).trans m1052))), mF14, ((fm_I g1133 rh0 rfl).trans ((fm_I g1105 rh0 rfl).trans ((fm_I g1081 rh0 rfl).trans m1055))), mF15, ((fm_I g1133 rh0 rfl).trans m1119), mF18, ((fm_I g1133 rh0 rfl).trans m1128), mF21, ((fm_J g1133 rh0 rfl).trans ((fm_J g1105 rh0 rfl).trans ((fm_J g1081 rh0 rfl).trans m1067))), mW, and_true, true_and, true_or, or_true, false_or, or_false] <;> omega), (Or.inl (by rw [((fm_I g1133 rh0 rfl).trans m1119)]; omega))⟩ dX12_readClause_260
                    · refine lv_aload_n hx hb dX12_readClause_228 rfl (lv_at hl 3 rfl) ?_
                      refine lv_ldc2 (v := 294) hx hb hown (hts _ tw_1904) dX12_readClause_229 ?_
                      have hw1151 := hW.2.2.2
                      refine t_callV (As := [.long 294]) (rest := []) E hW (c_X12_isWord l G cI cJ cZ cD cR cT kp L f1102 hW.2.2.2 _ h0 294 rh0 (by decide)) rh0 (by decide) rfl wk_X12_isWord tw_1797 rfl ⟨Nat.le_of_ble_eq_true rfl, Nat.le_of_ble_eq_true rfl⟩ ⟨rfl, rfl⟩ hl.1 rfl (Nat.le_of_ble_eq_true rfl) dX12_readClause_232 ⟨Nat.le_of_ble_eq_true rfl, Nat.le_of_ble_eq_true rfl⟩ (fun v1148 f1149 H locs q1150 hW => ?_)
                      obtain ⟨⟨x1153, rfl, p1154⟩, g1152⟩ := q1150
                      simp only [((fm_I g1105 rh0 rfl).trans ((fm_I g1081 rh0 rfl).trans m1055)), ((fm_J g1105 rh0 rfl).trans ((fm_J g1081 rh0 rfl).trans m1067))] at p1154
                      have p1154 : (x1153.toInt = 1 ∧ y1054.toInt = 1 ∧ y1066.toInt = 294) ∨ x1153.toInt = 0 := p1154
                      have m1155 : oR (f1149 h0) 2 = pR := ((fm_R g1152 rh0 rfl).trans ((fm_R g1105 rh0 rfl).trans ((fm_R g1081 rh0 rfl).trans ((fm_R g1034 rh0 rfl).trans ((fm_R g1015 rh0 rfl).trans ((fm_R g991 rh0 rfl).trans ((fm_R g969 rh0 rfl).trans m944)))))))
                      have m1156 : oI (f1149 h0) 12 = pF12 := ((fm_I g1152 rh0 rfl).trans ((fm_I g1105 rh0 rfl).trans ((fm_I g1081 rh0 rfl).trans ((fm_I g1034 rh0 rfl).trans ((fm_I g1015 rh0 rfl).trans ((fm_I g991 rh0 rfl).trans ((fm_I g969 rh0 rfl).trans m945)))))))
                      have m1157 : aI (f1149 pN) (x662 : Int32).toNatClampNeg = x6 := ((congrArg (fun z => aI z (x662 : Int32).toNatClampNeg) (fm_A g1152 rN (by decide) rfl)).trans (show aI (f1102 pN) (x662 : Int32).toNatClampNeg = x6 from by rw [e1103, up_n (tn_ne (by omega) (by omega) (by omega))]; exact (show aI (f1078 pN) (x662 : Int32).toNatClampNeg = x6 from by rw [e1079, up_n (tn_ne (by omega) (by omega) (by omega))]; exact m1037)))
                      have m1158 : aI (f1149 pN) (x1007 : Int32).toNatClampNeg = pF21 := ((congrArg (fun z => aI z (x1007 : Int32).toNatClampNeg) (fm_A g1152 rN (by decide) rfl)).trans (show aI (f1102 pN) (x1007 : Int32).toNatClampNeg = pF21 from by rw [e1103, up_n (tn_ne (by omega) (by omega) (by omega))]; exact (show aI (f1078 pN) (x1007 : Int32).toNatClampNeg = pF21 from by rw [e1079, up_n (tn_ne (by omega) (by omega) (by omega))]; exact m1038)))
                      have m1159 : aI (f1149 pN) (x1073 : Int32).toNatClampNeg = y1060 := ((congrArg (fun z => aI z (x1073 : Int32).toNatClampNeg) (fm_A g1152 rN (by decide) rfl)).trans (show aI (f1102 pN) (x1073 : Int32).toNatClampNeg = y1060 from by rw [e1103, up_n (tn_ne (by omega) (by omega) (by omega))]; exact (show aI (f1078 pN) (x1073 : Int32).toNatClampNeg = y1060 from by rw [e1079]; exact up_s)))
                      have m1160 : aI (f1149 pN) (x1097 : Int32).toNatClampNeg = y1060 := ((congrArg (fun z => aI z (x1097 : Int32).toNatClampNeg) (fm_A g1152 rN (by decide) rfl)).trans (show aI (f1102 pN) (x1097 : Int32).toNatClampNeg = y1060 from by rw [e1103]; exact up_s))
                      have z1161 : DJ f0 f1149 h0 pF21.toInt pF21.toInt y1060.toInt y1060.toInt y1060.toInt := dj_keep z1107 hw1151 g1152 rh0 rfl (fun q => by rw [fm_I g1152 rh0 rfl]; exact q)
                      have z1162 : ∀ j : Nat, (j : Int) < 8 * pF19.toInt → aI (f1149 pN) j = aI (f0 pN) j := by rw [fm_A g1152 rN (by decide) rfl]; exact z1110
                      clear z1110
                      have z1163 : aI (f1149 pN) (8 * pF19.toInt + 0).toNat = x6 := by rw [fm_A g1152 rN (by decide) rfl]; exact z1111
                      have z1164 : aI (f1149 pN) (8 * pF19.toInt + 1).toNat = 0 := by rw [fm_A g1152 rN (by decide) rfl]; exact z1112
                      have z1165 : aI (f1149 pN) (8 * pF19.toInt + 2).toNat = 0 := by rw [fm_A g1152 rN (by decide) rfl]; exact z1113
                      have z1166 : aI (f1149 pN) (8 * pF19.toInt + 3).toNat = pF21 := by rw [fm_A g1152 rN (by decide) rfl]; exact z1114
                      have z1167 : aI (f1149 pN) (8 * pF19.toInt + 4).toNat = y1060 := by rw [fm_A g1152 rN (by decide) rfl]; exact z1115
                      have z1168 : aI (f1149 pN) (8 * pF19.toInt + 5).toNat = y1060 := by rw [fm_A g1152 rN (by decide) rfl]; exact z1116
                      have z1169 : aI (f1149 pN) (8 * pF19.toInt + 6).toNat = 0 := by rw [fm_A g1152 rN (by decide) rfl]; exact z1117
                      clear z1111 z1112 z1113 z1114 z1115 z1116 z1117
                      have hF := FM.tr hF g1152 rfl
                      refine q_if_eq (tgt := 247) hx hb dX12_readClause_235 (by decide) rfl (fun c1170 => ?_) (fun c1170 => ?_)
                      · clear p1154
                        refine lv_aload_n hx hb dX12_readClause_247 rfl (lv_at hl 3 rfl) ?_
                        refine fg_RX12_39 E hW rh0 dX12_readClause_248 (fun a1171 m1172 r1173 => ?_)
                        obtain rfl : pN = a1171 := (((fm_R g1152 rh0 rfl).trans ((fm_R g1105 rh0 rfl).trans m1095))).symm.trans m1172
                        refine lv_iload_n hx hb dX12_readClause_251 rfl (lv_at hl 1 rfl) ?_
                        refine lv_bipush (v := 6) hx hb dX12_readClause_252 (by decide) ?_
                        refine q_iadd (Y := 6) hx hb dX12_readClause_254 rfl rfl (by omega) (fun x1174 h1175 => ?_)
                        refine lv_aload_n hx hb dX12_readClause_255 rfl (lv_at hl 3 rfl) ?_
                        refine fg_RX12_229 E hW rh0 dX12_readClause_256 (fun y1176 m1177 b1178 => ?_)
                        obtain rfl : y1060 = y1176 := (((fm_I g1152 rh0 rfl).trans ((fm_I g1105 rh0 rfl).trans m1100))).symm.trans m1177
                        have hw1183 := hW.2.2.2
                        refine gs_840 E hW rN ⟨by omega, by omega⟩ dX12_readClause_259 (fun f1179 H locs e1180 n1181 g1182 hW => ?_)
                        have z1184 : DJ f0 f1179 h0 pF21.toInt pF21.toInt y1060.toInt y1060.toInt y1060.toInt := dj_keep z1161 hw1183 g1182 rh0 rfl (fun q => by rw [fm_I g1182 rh0 rfl]; exact q)
                        have hF := FM.tr hF g1182 rfl
                        have q1185 : x1174.toInt = 8 * pF19.toInt + 6 := by omega
                        have q1186 : 0 ≤ 8 * pF19.toInt := by omega
                        have z1187 : ∀ j : Nat, (j : Int) < 8 * pF19.toInt → aI (f1179 pN) j = aI (f0 pN) j := pre_st2 z1162 e1180 q1185 q1186 (by decide)
                        clear z1162
                        have z1188 : aI (f1179 pN) (8 * pF19.toInt + 0).toNat = x6 := ent_no2 z1163 e1180 q1185 q1186 (by decide)
                        have z1189 : aI (f1179 pN) (8 * pF19.toInt + 1).toNat = 0 := ent_no2 z1164 e1180 q1185 q1186 (by decide)
                        have z1190 : aI (f1179 pN) (8 * pF19.toInt + 2).toNat = 0 := ent_no2 z1165 e1180 q1185 q1186 (by decide)
                        have z1191 : aI (f1179 pN) (8 * pF19.toInt + 3).toNat = pF21 := ent_no2 z1166 e1180 q1185 q1186 (by decide)
                        have z1192 : aI (f1179 pN) (8 * pF19.toInt + 4).toNat = y1060 := ent_no2 z1167 e1180 q1185 q1186 (by decide)
                        have z1193 : aI (f1179 pN) (8 * pF19.toInt + 5).toNat = y1060 := ent_no2 z1168 e1180 q1185 q1186 (by decide)
                        have z1194 : aI (f1179 pN) (8 * pF19.toInt + 6).toNat = y1060 := ent_st2 e1180 q1185 q1186 (by decide)
                        clear q1185 q1186
                        clear z1163 z1164 z1165 z1166 z1167 z1168 z1169
                        exact e_V E hW rfl ⟨rfl, hF, (by simp only [((fm_I g1182 rh0 rfl).trans m1156), mF12, ((fm_I g1182 rh0 rfl).trans ((fm_I g1152 rh0 rfl).trans ((fm_I g1105 rh0 rfl).trans ((fm_I g1081 rh0 rfl).trans m1049)))), mF13, ((fm_I g1182 rh0 rfl).trans ((fm_I g1152 rh0 rfl).trans ((fm_I g1105 rh0 rfl).trans ((fm_I g1081 rh0 rfl).trans m1052)))), mF14, ((fm_I g1182 rh0 rfl).trans ((fm_I g1152 rh0 rfl).trans ((fm_I g1105 rh0 rfl).trans ((fm_I g1081 rh0 rfl).trans m1055)))), mF15, ((fm_I g1182 rh0 rfl).trans ((fm_I g1152 rh0 rfl).trans m1119)), mF18, ((fm_I g1182 rh0 rfl).trans m1177), mF21, ((fm_J g1182 rh0 rfl).trans ((fm_J g1152 rh0 rfl).trans ((fm_J g1105 rh0 rfl).trans ((fm_J g1081 rh0 rfl).trans m1067)))), mW, and_true, true_and, true_or, or_true, false_or, or_false] <;> omega), (by have hk0 : (0 : Int32).toInt = 0 := rfl; rw [((fm_I g1182 rh0 rfl).trans m1177), ((fm_I g1182 rh0 rfl).trans ((fm_I g1152 rh0 rfl).trans ((fm_I g1105 rh0 rfl).trans ((fm_I g1081 rh0 rfl).trans ((fm_I g1034 rh0 rfl).trans ((fm_I g1015 rh0 rfl).trans e989))))))]; exact cl_end (nc := y1060.toInt) (hd := x6) (r1 := 0) (r2 := 0) (show CLs _ _ _ pF21.toInt pF19.toInt from hC) (by omega) (show DJ f0 f1179 h0 pF21.toInt (pF21 : Int32).toInt (y1060 : Int32).toInt (y1060 : Int32).toInt (y1060 : Int32).toInt from z1184) (fun j hj => by unfold vN; rw [((fm_R g1182 rh0 rfl).trans m1172), mN]; exact z1187 j hj) (by unfold vN; rw [((fm_R g1182 rh0 rfl).trans m1172)]; exact z1188) (by unfold vN; rw [((fm_R g1182 rh0 rfl).trans m1172)]; exact z1189) (by unfold vN; rw [((fm_R g1182 rh0 rfl).trans m1172)]; exact z1190) (by unfold vN; rw [((fm_R g1182 rh0 rfl).trans m1172)]; exact z1191) (by unfold vN; rw [((fm_R g1182 rh0 rfl).trans m1172)]; exact z1192) (by unfold vN; rw [((fm_R g1182 rh0 rfl).trans m1172)]; exact z1193) (by unfold vN; rw [((fm_R g1182 rh0 rfl).trans m1172)]; exact z1194) (by rw [((fm_I g1182 rh0 rfl).trans ((fm_I g1152 rh0 rfl).trans m1119))]; omega) (by omega) (by omega))⟩ dX12_readClause_260
                      · have q1195 : y1054.toInt = 1 ∧ y1066.toInt = 294 := by omega
                        clear p1154
                        refine lv_aload_n hx hb dX12_readClause_238 rfl (lv_at hl 3 rfl) ?_
                        have hw1199 := hW.2.2.2
                        refine t_callV (As := []) (rest := []) E hW (c_X12_next l G cI cJ cZ cD cR cT kp L f1149 hW.2.2.2 _ h0 rh0 (by simp only [m1156, ((fm_I g1152 rh0 rfl).trans ((fm_I g1105 rh0 rfl).trans ((fm_I g1081 rh0 rfl).trans m1052))), and_true, true_and, true_or, or_true, false_or, or_false] <;> omega)) rh0 (by decide) rfl wk_X12_next tw_1773 rfl ⟨Nat.le_of_ble_eq_true rfl, Nat.le_of_ble_eq_true rfl⟩ ⟨rfl, rfl⟩ hl.1 rfl (Nat.le_of_ble_eq_true rfl) dX12_readClause_239 ⟨Nat.le_of_ble_eq_true rfl, Nat.le_of_ble_eq_true rfl⟩ (fun v1196 f1197 H locs q1198 hW => ?_)
                        obtain ⟨rfl, g1200, h1201⟩ := q1198
                        have z1202 : DJ f0 f1197 h0 pF21.toInt pF21.toInt y1060.toInt y1060.toInt y1060.toInt := dj_keep z1161 hw1199 g1200 rh0 rfl (fun q => by rw [fm_I g1200 rh0 rfl]; exact q)
                        have z1203 : ∀ j : Nat, (j : Int) < 8 * pF19.toInt → aI (f1197 pN) j = aI (f0 pN) j := by rw [fm_A g1200 rN (by decide) rfl]; exact z1162
                        clear z1162
                        have z1204 : aI (f1197 pN) (8 * pF19.toInt + 0).toNat = x6 := by rw [fm_A g1200 rN (by decide) rfl]; exact z1163
                        have z1205 : aI (f1197 pN) (8 * pF19.toInt + 1).toNat = 0 := by rw [fm_A g1200 rN (by decide) rfl]; exact z1164
                        have z1206 : aI (f1197 pN) (8 * pF19.toInt + 2).toNat = 0 := by rw [fm_A g1200 rN (by decide) rfl]; exact z1165
                        have z1207 : aI (f1197 pN) (8 * pF19.toInt + 3).toNat = pF21 := by rw [fm_A g1200 rN (by decide) rfl]; exact z1166
                        have z1208 : aI (f1197 pN) (8 * pF19.toInt + 4).toNat = y1060 := by rw [fm_A g1200 rN (by decide) rfl]; exact z1167
                        have z1209 : aI (f1197 pN) (8 * pF19.toInt + 5).toNat = y1060 := by rw [fm_A g1200 rN (by decide) rfl]; exact z1168
                        have z1210 : aI (f1197 pN) (8 * pF19.toInt + 6).toNat = 0 := by rw [fm_A g1200 rN (by decide) rfl]; exact z1169
                        clear z1163 z1164 z1165 z1166 z1167 z1168 z1169
                        have hF := FM.tr hF g1200 rfl
                        obtain ⟨y1211, m1212⟩ : ∃ x : Int32, oI (f1197 h0) 13 = x := ⟨_, rfl⟩
                        have b1213 : (0 : Int) ≤ y1211.toInt ∧ y1211.toInt ≤ 400 := by rw [← m1212]; exact th_iv hW rh0 (by decide) (by decide) rfl
                        obtain ⟨y1214, m1215⟩ : ∃ x : Int32, oI (f1197 h0) 14 = x := ⟨_, rfl⟩
                        have b1216 : (0 : Int) ≤ y1214.toInt ∧ y1214.toInt ≤ 400 := by rw [← m1215]; exact th_iv hW rh0 (by decide) (by decide) rfl
                        obtain ⟨y1217, m1218⟩ : ∃ x : Int32, oI (f1197 h0) 15 = x := ⟨_, rfl⟩
                        have b1219 : (0 : Int) ≤ y1217.toInt ∧ y1217.toInt ≤ 3 := by rw [← m1218]; exact th_iv hW rh0 (by decide) (by decide) rfl
                        obtain ⟨y1220, m1221⟩ : ∃ x : Int64, oJ (f1197 h0) 16 = x := ⟨_, rfl⟩
                        simp only [((fm_I g1200 rh0 rfl).trans m1156), m1156, m1212, ((fm_I g1152 rh0 rfl).trans ((fm_I g1105 rh0 rfl).trans ((fm_I g1081 rh0 rfl).trans m1049))), m1215, ((fm_I g1152 rh0 rfl).trans ((fm_I g1105 rh0 rfl).trans ((fm_I g1081 rh0 rfl).trans m1052))), m1218, ((fm_I g1152 rh0 rfl).trans ((fm_I g1105 rh0 rfl).trans ((fm_I g1081 rh0 rfl).trans m1055))), m1221, ((fm_J g1152 rh0 rfl).trans ((fm_J g1105 rh0 rfl).trans ((fm_J g1081 rh0 rfl).trans m1067)))] at h1201
                        refine lv_aload_n hx hb dX12_readClause_242 rfl (lv_at hl 3 rfl) ?_
                        refine lv_iconst (v := 1) hx hb dX12_readClause_243 (by decide) ?_
                        have hw1226 := hW.2.2.2
                        refine t_callV (As := [.int 1]) (rest := []) E hW (c_X12_readExpression l G cI cJ cZ cD cR cT kp L f1197 hW.2.2.2 _ h0 1 rh0 (by decide) (by have hkq1222 : (1 : Int32).toInt = 1 := rfl; simp only [((fm_I g1200 rh0 rfl).trans m1156), m1212, m1215, m1218, ((fm_I g1200 rh0 rfl).trans ((fm_I g1152 rh0 rfl).trans m1119)), ((fm_I g1200 rh0 rfl).trans ((fm_I g1152 rh0 rfl).trans ((fm_I g1105 rh0 rfl).trans m1100))), m1221, and_true, true_and, true_or, or_true, false_or, or_false] <;> omega)) rh0 (by decide) rfl wk_X12_readExpression tw_1819 rfl ⟨Nat.le_of_ble_eq_true rfl, Nat.le_of_ble_eq_true rfl⟩ ⟨rfl, rfl⟩ hl.1 rfl (Nat.le_of_ble_eq_true rfl) dX12_readClause_244 ⟨Nat.le_of_ble_eq_true rfl, Nat.le_of_ble_eq_true rfl⟩ (fun v1223 f1224 H locs q1225 hW => ?_)
                        obtain ⟨rfl, g1227, h1228, h1229⟩ := q1225
                        have m1230 : oI (f1224 h0) 19 = x986 := ((fm_I g1227 rh0 rfl).trans ((fm_I g1200 rh0 rfl).trans ((fm_I g1152 rh0 rfl).trans ((fm_I g1105 rh0 rfl).trans ((fm_I g1081 rh0 rfl).trans ((fm_I g1034 rh0 rfl).trans ((fm_I g1015 rh0 rfl).trans e989)))))))
                        have m1231 : aI (f1224 pN) (x662 : Int32).toNatClampNeg = x6 := ((congrArg (fun z => aI z (x662 : Int32).toNatClampNeg) (fm_A g1227 rN (by decide) rfl)).trans ((congrArg (fun z => aI z (x662 : Int32).toNatClampNeg) (fm_A g1200 rN (by decide) rfl)).trans m1157))
                        have m1232 : aI (f1224 pN) (x1007 : Int32).toNatClampNeg = pF21 := ((congrArg (fun z => aI z (x1007 : Int32).toNatClampNeg) (fm_A g1227 rN (by decide) rfl)).trans ((congrArg (fun z => aI z (x1007 : Int32).toNatClampNeg) (fm_A g1200 rN (by decide) rfl)).trans m1158))
                        have m1233 : aI (f1224 pN) (x1073 : Int32).toNatClampNeg = y1060 := ((congrArg (fun z => aI z (x1073 : Int32).toNatClampNeg) (fm_A g1227 rN (by decide) rfl)).trans ((congrArg (fun z => aI z (x1073 : Int32).toNatClampNeg) (fm_A g1200 rN (by decide) rfl)).trans m1159))
                        have m1234 : aI (f1224 pN) (x1097 : Int32).toNatClampNeg = y1060 := ((congrArg (fun z => aI z (x1097 : Int32).toNatClampNeg) (fm_A g1227 rN (by decide) rfl)).trans ((congrArg (fun z => aI z (x1097 : Int32).toNatClampNeg) (fm_A g1200 rN (by decide) rfl)).trans m1160))
                        have z1235 : ∀ j : Nat, (j : Int) < 8 * pF19.toInt → aI (f1224 pN) j = aI (f0 pN) j := by rw [fm_A g1227 rN (by decide) rfl]; exact z1203
                        clear z1203
                        have z1236 : aI (f1224 pN) (8 * pF19.toInt + 0).toNat = x6 := by rw [fm_A g1227 rN (by decide) rfl]; exact z1204
                        have z1237 : aI (f1224 pN) (8 * pF19.toInt + 1).toNat = 0 := by rw [fm_A g1227 rN (by decide) rfl]; exact z1205
                        have z1238 : aI (f1224 pN) (8 * pF19.toInt + 2).toNat = 0 := by rw [fm_A g1227 rN (by decide) rfl]; exact z1206
                        have z1239 : aI (f1224 pN) (8 * pF19.toInt + 3).toNat = pF21 := by rw [fm_A g1227 rN (by decide) rfl]; exact z1207
                        have z1240 : aI (f1224 pN) (8 * pF19.toInt + 4).toNat = y1060 := by rw [fm_A g1227 rN (by decide) rfl]; exact z1208
                        have z1241 : aI (f1224 pN) (8 * pF19.toInt + 5).toNat = y1060 := by rw [fm_A g1227 rN (by decide) rfl]; exact z1209
                        have z1242 : aI (f1224 pN) (8 * pF19.toInt + 6).toNat = 0 := by rw [fm_A g1227 rN (by decide) rfl]; exact z1210
                        clear z1204 z1205 z1206 z1207 z1208 z1209 z1210
                        have hF := FM.tr hF g1227 rfl
                        have hk1243 : (1 : Int32).toInt = 1 := rfl
                        obtain ⟨y1244, m1245⟩ : ∃ x : Int32, oI (f1224 h0) 13 = x := ⟨_, rfl⟩
                        have b1246 : (0 : Int) ≤ y1244.toInt ∧ y1244.toInt ≤ 400 := by rw [← m1245]; exact th_iv hW rh0 (by decide) (by decide) rfl
                        obtain ⟨y1247, m1248⟩ : ∃ x : Int32, oI (f1224 h0) 14 = x := ⟨_, rfl⟩
                        have b1249 : (0 : Int) ≤ y1247.toInt ∧ y1247.toInt ≤ 400 := by rw [← m1248]; exact th_iv hW rh0 (by decide) (by decide) rfl
                        obtain ⟨y1250, m1251⟩ : ∃ x : Int32, oI (f1224 h0) 15 = x := ⟨_, rfl⟩
                        have b1252 : (0 : Int) ≤ y1250.toInt ∧ y1250.toInt ≤ 3 := by rw [← m1251]; exact th_iv hW rh0 (by decide) (by decide) rfl
                        obtain ⟨y1253, m1254⟩ : ∃ x : Int32, oI (f1224 h0) 18 = x := ⟨_, rfl⟩
                        have b1255 : (0 : Int) ≤ y1253.toInt ∧ y1253.toInt ≤ 1 := by rw [← m1254]; exact th_iv hW rh0 (by decide) (by decide) rfl
                        obtain ⟨y1256, m1257⟩ : ∃ x : Int32, oI (f1224 h0) 21 = x := ⟨_, rfl⟩
                        have b1258 : (0 : Int) ≤ y1256.toInt ∧ y1256.toInt ≤ 400 := by rw [← m1257]; exact th_iv hW rh0 (by decide) (by decide) rfl
                        obtain ⟨y1259, m1260⟩ : ∃ x : Int32, oI (f1224 h0) 27 = x := ⟨_, rfl⟩
                        have b1261 : (0 : Int) ≤ y1259.toInt ∧ y1259.toInt ≤ 400 := by rw [← m1260]; exact th_iv hW rh0 (by decide) (by decide) rfl
                        obtain ⟨y1262, m1263⟩ : ∃ x : Int64, oJ (f1224 h0) 16 = x := ⟨_, rfl⟩
                        simp only [((fm_I g1227 rh0 rfl).trans ((fm_I g1200 rh0 rfl).trans m1156)), ((fm_I g1200 rh0 rfl).trans m1156), m1245, m1212, m1248, m1215, m1251, m1218, m1254, ((fm_I g1200 rh0 rfl).trans ((fm_I g1152 rh0 rfl).trans m1119)), m1257, ((fm_I g1200 rh0 rfl).trans ((fm_I g1152 rh0 rfl).trans ((fm_I g1105 rh0 rfl).trans m1100))), m1260, ((fm_I g1200 rh0 rfl).trans ((fm_I g1152 rh0 rfl).trans ((fm_I g1105 rh0 rfl).trans ((fm_I g1081 rh0 rfl).trans m1064)))), m1263, m1221] at h1228
                        have z1265 := h1229
                        rw [((fm_I g1200 rh0 rfl).trans ((fm_I g1152 rh0 rfl).trans ((fm_I g1105 rh0 rfl).trans m1100))), m1257] at z1265
                        have z1264 : DJ f0 f1224 h0 pF21.toInt pF21.toInt y1060.toInt y1060.toInt y1256.toInt := dj_ex2 z1202 (by rw [((fm_I g1200 rh0 rfl).trans ((fm_I g1152 rh0 rfl).trans m1119))]; omega) (by omega) (by omega) (by omega) z1265
                        refine lv_aload_n hx hb dX12_readClause_247 rfl (lv_at hl 3 rfl) ?_
                        refine fg_RX12_39 E hW rh0 dX12_readClause_248 (fun a1266 m1267 r1268 => ?_)
                        obtain rfl : pN = a1266 := (((fm_R g1227 rh0 rfl).trans ((fm_R g1200 rh0 rfl).trans ((fm_R g1152 rh0 rfl).trans ((fm_R g1105 rh0 rfl).trans m1095))))).symm.trans m1267
                        refine lv_iload_n hx hb dX12_readClause_251 rfl (lv_at hl 1 rfl) ?_
                        refine lv_bipush (v := 6) hx hb dX12_readClause_252 (by decide) ?_
                        refine q_iadd (Y := 6) hx hb dX12_readClause_254 rfl rfl (by omega) (fun x1269 h1270 => ?_)
                        refine lv_aload_n hx hb dX12_readClause_255 rfl (lv_at hl 3 rfl) ?_
                        refine fg_RX12_229 E hW rh0 dX12_readClause_256 (fun y1271 m1272 b1273 => ?_)
                        obtain rfl : y1256 = y1271 := (m1257).symm.trans m1272
                        have hw1278 := hW.2.2.2
                        refine gs_840 E hW rN ⟨by omega, by omega⟩ dX12_readClause_259 (fun f1274 H locs e1275 n1276 g1277 hW => ?_)
                        have z1279 : DJ f0 f1274 h0 pF21.toInt pF21.toInt y1060.toInt y1060.toInt y1256.toInt := dj_keep z1264 hw1278 g1277 rh0 rfl (fun q => by rw [fm_I g1277 rh0 rfl]; exact q)
                        have hF := FM.tr hF g1277 rfl
                        have q1280 : x1269.toInt = 8 * pF19.toInt + 6 := by omega
                        have q1281 : 0 ≤ 8 * pF19.toInt := by omega
                        have z1282 : ∀ j : Nat, (j : Int) < 8 * pF19.toInt → aI (f1274 pN) j = aI (f0 pN) j := pre_st2 z1235 e1275 q1280 q1281 (by decide)
                        clear z1235
                        have z1283 : aI (f1274 pN) (8 * pF19.toInt + 0).toNat = x6 := ent_no2 z1236 e1275 q1280 q1281 (by decide)
                        have z1284 : aI (f1274 pN) (8 * pF19.toInt + 1).toNat = 0 := ent_no2 z1237 e1275 q1280 q1281 (by decide)
                        have z1285 : aI (f1274 pN) (8 * pF19.toInt + 2).toNat = 0 := ent_no2 z1238 e1275 q1280 q1281 (by decide)
                        have z1286 : aI (f1274 pN) (8 * pF19.toInt + 3).toNat = pF21 := ent_no2 z1239 e1275 q1280 q1281 (by decide)
                        have z1287 : aI (f1274 pN) (8 * pF19.toInt + 4).toNat = y1060 := ent_no2 z1240 e1275 q1280 q1281 (by decide)
                        have z1288 : aI (f1274 pN) (8 * pF19.toInt + 5).toNat = y1060 := ent_no2 z1241 e1275 q1280 q1281 (by decide)
                        have z1289 : aI (f1274 pN) (8 * pF19.toInt + 6).toNat = y1256 := ent_st2 e1275 q1280 q1281 (by decide)
                        clear q1280 q1281
                        clear z1236 z1237 z1238 z1239 z1240 z1241 z1242
                        exact e_V E hW rfl ⟨rfl, hF, (by simp only [((fm_I g1277 rh0 rfl).trans ((fm_I g1227 rh0 rfl).trans ((fm_I g1200 rh0 rfl).trans m1156))), mF12, ((fm_I g1277 rh0 rfl).trans m1245), mF13, ((fm_I g1277 rh0 rfl).trans m1248), mF14, ((fm_I g1277 rh0 rfl).trans m1251), mF15, ((fm_I g1277 rh0 rfl).trans m1254), mF18, ((fm_I g1277 rh0 rfl).trans m1272), mF21, ((fm_J g1277 rh0 rfl).trans m1263), mW, and_true, true_and, true_or, or_true, false_or, or_false] <;> omega), (by have hk0 : (0 : Int32).toInt = 0 := rfl; rw [((fm_I g1277 rh0 rfl).trans m1272), ((fm_I g1277 rh0 rfl).trans m1230)]; exact cl_end (nc := y1256.toInt) (hd := x6) (r1 := 0) (r2 := 0) (show CLs _ _ _ pF21.toInt pF19.toInt from hC) (by omega) (show DJ f0 f1274 h0 pF21.toInt (pF21 : Int32).toInt (y1060 : Int32).toInt (y1060 : Int32).toInt (y1256 : Int32).toInt from z1279) (fun j hj => by unfold vN; rw [((fm_R g1277 rh0 rfl).trans m1267), mN]; exact z1282 j hj) (by unfold vN; rw [((fm_R g1277 rh0 rfl).trans m1267)]; exact z1283) (by unfold vN; rw [((fm_R g1277 rh0 rfl).trans m1267)]; exact z1284) (by unfold vN; rw [((fm_R g1277 rh0 rfl).trans m1267)]; exact z1285) (by unfold vN; rw [((fm_R g1277 rh0 rfl).trans m1267)]; exact z1286) (by unfold vN; rw [((fm_R g1277 rh0 rfl).trans m1267)]; exact z1287) (by unfold vN; rw [((fm_R g1277 rh0 rfl).trans m1267)]; exact z1288) (by unfold vN; rw [((fm_R g1277 rh0 rfl).trans m1267)]; exact z1289) (by rw [((fm_I g1277 rh0 rfl).trans m1254)]; omega) (by omega) (by omega))⟩ dX12_readClause_260
                  · refine lv_iload_n hx hb dX12_readClause_187 rfl (lv_at hl 2 rfl) ?_
                    refine lv_iconst (v := 3) hx hb dX12_readClause_188 (by decide) ?_
                    refine q_icmp_ne (Y := 3) (tgt := 197) hx hb dX12_readClause_189 (by decide) rfl rfl (fun c1290 => ?_) (fun c1290 => ?_)
                    · refine lv_aload_n hx hb dX12_readClause_197 rfl (lv_at hl 3 rfl) ?_
                      refine fg_RX12_39 E hW rh0 dX12_readClause_198 (fun a1291 m1292 r1293 => ?_)
                      obtain rfl : pN = a1291 := (((fm_R g1015 rh0 rfl).trans m1005)).symm.trans m1292
                      refine lv_iload_n hx hb dX12_readClause_201 rfl (lv_at hl 1 rfl) ?_
                      refine lv_iconst (v := 4) hx hb dX12_readClause_202 (by decide) ?_
                      refine q_iadd (Y := 4) hx hb dX12_readClause_203 rfl rfl (by omega) (fun x1294 h1295 => ?_)
                      refine lv_aload_n hx hb dX12_readClause_204 rfl (lv_at hl 3 rfl) ?_
                      refine fg_RX12_229 E hW rh0 dX12_readClause_205 (fun y1296 m1297 b1298 => ?_)
                      obtain rfl : pF21 = y1296 := (((fm_I g1015 rh0 rfl).trans m1010)).symm.trans m1297
                      have hw1303 := hW.2.2.2
                      refine gs_840 E hW rN ⟨by omega, by omega⟩ dX12_readClause_208 (fun f1299 H locs e1300 n1301 g1302 hW => ?_)
                      have z1304 : DJ f0 f1299 h0 pF21.toInt 0 0 0 0 := dj_keep z1017 hw1303 g1302 rh0 rfl (fun q => by rw [fm_I g1302 rh0 rfl]; exact q)
                      have hF := FM.tr hF g1302 rfl
                      have q1305 : x1294.toInt = 8 * pF19.toInt + 4 := by omega
                      have q1306 : 0 ≤ 8 * pF19.toInt := by omega
                      have z1307 : ∀ j : Nat, (j : Int) < 8 * pF19.toInt → aI (f1299 pN) j = aI (f0 pN) j := pre_st2 z1020 e1300 q1305 q1306 (by decide)
                      clear z1020
                      have z1308 : aI (f1299 pN) (8 * pF19.toInt + 0).toNat = x6 := ent_no2 z1021 e1300 q1305 q1306 (by decide)
                      have z1309 : aI (f1299 pN) (8 * pF19.toInt + 1).toNat = 0 := ent_no2 z1022 e1300 q1305 q1306 (by decide)
                      have z1310 : aI (f1299 pN) (8 * pF19.toInt + 2).toNat = 0 := ent_no2 z1023 e1300 q1305 q1306 (by decide)
                      have z1311 : aI (f1299 pN) (8 * pF19.toInt + 3).toNat = pF21 := ent_no2 z1024 e1300 q1305 q1306 (by decide)
                      have z1312 : aI (f1299 pN) (8 * pF19.toInt + 4).toNat = pF21 := ent_st2 e1300 q1305 q1306 (by decide)
                      have z1313 : aI (f1299 pN) (8 * pF19.toInt + 5).toNat = 0 := ent_no2 z1026 e1300 q1305 q1306 (by decide)
                      have z1314 : aI (f1299 pN) (8 * pF19.toInt + 6).toNat = 0 := ent_no2 z1027 e1300 q1305 q1306 (by decide)
                      clear q1305 q1306
                      clear z1021 z1022 z1023 z1024 z1025 z1026 z1027
                      refine lv_aload_n hx hb dX12_readClause_209 rfl (lv_at hl 3 rfl) ?_
                      refine fg_RX12_39 E hW rh0 dX12_readClause_210 (fun a1315 m1316 r1317 => ?_)
                      obtain rfl : pN = a1315 := (((fm_R g1302 rh0 rfl).trans m1292)).symm.trans m1316
                      refine lv_iload_n hx hb dX12_readClause_213 rfl (lv_at hl 1 rfl) ?_
                      refine lv_iconst (v := 5) hx hb dX12_readClause_214 (by decide) ?_
                      refine q_iadd (Y := 5) hx hb dX12_readClause_215 rfl rfl (by omega) (fun x1318 h1319 => ?_)
                      refine lv_aload_n hx hb dX12_readClause_216 rfl (lv_at hl 3 rfl) ?_
                      refine fg_RX12_229 E hW rh0 dX12_readClause_217 (fun y1320 m1321 b1322 => ?_)
                      obtain rfl : pF21 = y1320 := (((fm_I g1302 rh0 rfl).trans m1297)).symm.trans m1321
                      have hw1327 := hW.2.2.2
                      refine gs_840 E hW rN ⟨by omega, by omega⟩ dX12_readClause_220 (fun f1323 H locs e1324 n1325 g1326 hW => ?_)
                      have z1328 : DJ f0 f1323 h0 pF21.toInt 0 0 0 0 := dj_keep z1304 hw1327 g1326 rh0 rfl (fun q => by rw [fm_I g1326 rh0 rfl]; exact q)
                      have hF := FM.tr hF g1326 rfl
                      have q1329 : x1318.toInt = 8 * pF19.toInt + 5 := by omega
                      have q1330 : 0 ≤ 8 * pF19.toInt := by omega
                      have z1331 : ∀ j : Nat, (j : Int) < 8 * pF19.toInt → aI (f1323 pN) j = aI (f0 pN) j := pre_st2 z1307 e1324 q1329 q1330 (by decide)
                      clear z1307
                      have z1332 : aI (f1323 pN) (8 * pF19.toInt + 0).toNat = x6 := ent_no2 z1308 e1324 q1329 q1330 (by decide)
                      have z1333 : aI (f1323 pN) (8 * pF19.toInt + 1).toNat = 0 := ent_no2 z1309 e1324 q1329 q1330 (by decide)
                      have z1334 : aI (f1323 pN) (8 * pF19.toInt + 2).toNat = 0 := ent_no2 z1310 e1324 q1329 q1330 (by decide)
                      have z1335 : aI (f1323 pN) (8 * pF19.toInt + 3).toNat = pF21 := ent_no2 z1311 e1324 q1329 q1330 (by decide)
                      have z1336 : aI (f1323 pN) (8 * pF19.toInt + 4).toNat = pF21 := ent_no2 z1312 e1324 q1329 q1330 (by decide)
                      have z1337 : aI (f1323 pN) (8 * pF19.toInt + 5).toNat = pF21 := ent_st2 e1324 q1329 q1330 (by decide)
                      have z1338 : aI (f1323 pN) (8 * pF19.toInt + 6).toNat = 0 := ent_no2 z1314 e1324 q1329 q1330 (by decide)
                      clear q1329 q1330
                      clear z1308 z1309 z1310 z1311 z1312 z1313 z1314
                      refine lv_aload_n hx hb dX12_readClause_221 rfl (lv_at hl 3 rfl) ?_
                      refine fg_RX12_193 E hW rh0 dX12_readClause_222 (fun y1339 m1340 b1341 => ?_)
                      obtain rfl : y649 = y1339 := (((fm_I g1326 rh0 rfl).trans ((fm_I g1302 rh0 rfl).trans ((fm_I g1015 rh0 rfl).trans ((fm_I g991 rh0 rfl).trans ((fm_I g969 rh0 rfl).trans m950)))))).symm.trans m1340
                      refine q_if_ne (tgt := 247) hx hb dX12_readClause_225 (by decide) rfl (fun c1342 => ?_) (fun c1342 => ?_)
                      · exfalso; omega
                      · refine lv_aload_n hx hb dX12_readClause_228 rfl (lv_at hl 3 rfl) ?_
                        refine lv_ldc2 (v := 294) hx hb hown (hts _ tw_1904) dX12_readClause_229 ?_
                        have hw1346 := hW.2.2.2
                        refine t_callV (As := [.long 294]) (rest := []) E hW (c_X12_isWord l G cI cJ cZ cD cR cT kp L f1323 hW.2.2.2 _ h0 294 rh0 (by decide)) rh0 (by decide) rfl wk_X12_isWord tw_1797 rfl ⟨Nat.le_of_ble_eq_true rfl, Nat.le_of_ble_eq_true rfl⟩ ⟨rfl, rfl⟩ hl.1 rfl (Nat.le_of_ble_eq_true rfl) dX12_readClause_232 ⟨Nat.le_of_ble_eq_true rfl, Nat.le_of_ble_eq_true rfl⟩ (fun v1343 f1344 H locs q1345 hW => ?_)
                        obtain ⟨⟨x1348, rfl, p1349⟩, g1347⟩ := q1345
                        simp only [((fm_I g1326 rh0 rfl).trans ((fm_I g1302 rh0 rfl).trans ((fm_I g1015 rh0 rfl).trans ((fm_I g991 rh0 rfl).trans ((fm_I g969 rh0 rfl).trans m948))))), ((fm_J g1326 rh0 rfl).trans ((fm_J g1302 rh0 rfl).trans ((fm_J g1015 rh0 rfl).trans ((fm_J g991 rh0 rfl).trans ((fm_J g969 rh0 rfl).trans m949)))))] at p1349
                        have p1349 : (x1348.toInt = 1 ∧ y646.toInt = 1 ∧ y652.toInt = 294) ∨ x1348.toInt = 0 := p1349
                        have m1350 : aI (f1344 pN) (x662 : Int32).toNatClampNeg = x6 := ((congrArg (fun z => aI z (x662 : Int32).toNatClampNeg) (fm_A g1347 rN (by decide) rfl)).trans (show aI (f1323 pN) (x662 : Int32).toNatClampNeg = x6 from by rw [e1324, up_n (tn_ne (by omega) (by omega) (by omega))]; exact (show aI (f1299 pN) (x662 : Int32).toNatClampNeg = x6 from by rw [e1300, up_n (tn_ne (by omega) (by omega) (by omega))]; exact (show aI (f1012 pN) (x662 : Int32).toNatClampNeg = x6 from by rw [e1013, up_n (tn_ne (by omega) (by omega) (by omega))]; exact ((congrArg (fun z => aI z (x662 : Int32).toNatClampNeg) (fm_A g991 rN (by decide) rfl)).trans (show aI (f966 pN) (x662 : Int32).toNatClampNeg = x6 from by rw [e967]; exact up_s))))))
                        have m1351 : aI (f1344 pN) (x1007 : Int32).toNatClampNeg = pF21 := ((congrArg (fun z => aI z (x1007 : Int32).toNatClampNeg) (fm_A g1347 rN (by decide) rfl)).trans (show aI (f1323 pN) (x1007 : Int32).toNatClampNeg = pF21 from by rw [e1324, up_n (tn_ne (by omega) (by omega) (by omega))]; exact (show aI (f1299 pN) (x1007 : Int32).toNatClampNeg = pF21 from by rw [e1300, up_n (tn_ne (by omega) (by omega) (by omega))]; exact (show aI (f1012 pN) (x1007 : Int32).toNatClampNeg = pF21 from by rw [e1013]; exact up_s))))
                        have m1352 : aI (f1344 pN) (x1294 : Int32).toNatClampNeg = pF21 := ((congrArg (fun z => aI z (x1294 : Int32).toNatClampNeg) (fm_A g1347 rN (by decide) rfl)).trans (show aI (f1323 pN) (x1294 : Int32).toNatClampNeg = pF21 from by rw [e1324, up_n (tn_ne (by omega) (by omega) (by omega))]; exact (show aI (f1299 pN) (x1294 : Int32).toNatClampNeg = pF21 from by rw [e1300]; exact up_s)))
                        have m1353 : aI (f1344 pN) (x1318 : Int32).toNatClampNeg = pF21 := ((congrArg (fun z => aI z (x1318 : Int32).toNatClampNeg) (fm_A g1347 rN (by decide) rfl)).trans (show aI (f1323 pN) (x1318 : Int32).toNatClampNeg = pF21 from by rw [e1324]; exact up_s))
                        have z1354 : DJ f0 f1344 h0 pF21.toInt 0 0 0 0 := dj_keep z1328 hw1346 g1347 rh0 rfl (fun q => by rw [fm_I g1347 rh0 rfl]; exact q)
                        have z1355 : ∀ j : Nat, (j : Int) < 8 * pF19.toInt → aI (f1344 pN) j = aI (f0 pN) j := by rw [fm_A g1347 rN (by decide) rfl]; exact z1331
                        clear z1331
                        have z1356 : aI (f1344 pN) (8 * pF19.toInt + 0).toNat = x6 := by rw [fm_A g1347 rN (by decide) rfl]; exact z1332
                        have z1357 : aI (f1344 pN) (8 * pF19.toInt + 1).toNat = 0 := by rw [fm_A g1347 rN (by decide) rfl]; exact z1333
                        have z1358 : aI (f1344 pN) (8 * pF19.toInt + 2).toNat = 0 := by rw [fm_A g1347 rN (by decide) rfl]; exact z1334
                        have z1359 : aI (f1344 pN) (8 * pF19.toInt + 3).toNat = pF21 := by rw [fm_A g1347 rN (by decide) rfl]; exact z1335
                        have z1360 : aI (f1344 pN) (8 * pF19.toInt + 4).toNat = pF21 := by rw [fm_A g1347 rN (by decide) rfl]; exact z1336
                        have z1361 : aI (f1344 pN) (8 * pF19.toInt + 5).toNat = pF21 := by rw [fm_A g1347 rN (by decide) rfl]; exact z1337
                        have z1362 : aI (f1344 pN) (8 * pF19.toInt + 6).toNat = 0 := by rw [fm_A g1347 rN (by decide) rfl]; exact z1338
                        clear z1332 z1333 z1334 z1335 z1336 z1337 z1338
                        have hF := FM.tr hF g1347 rfl
                        refine q_if_eq (tgt := 247) hx hb dX12_readClause_235 (by decide) rfl (fun c1363 => ?_) (fun c1363 => ?_)
                        · clear p1349
                          refine lv_aload_n hx hb dX12_readClause_247 rfl (lv_at hl 3 rfl) ?_
                          refine fg_RX12_39 E hW rh0 dX12_readClause_248 (fun a1364 m1365 r1366 => ?_)
                          obtain rfl : pN = a1364 := (((fm_R g1347 rh0 rfl).trans ((fm_R g1326 rh0 rfl).trans m1316))).symm.trans m1365
                          refine lv_iload_n hx hb dX12_readClause_251 rfl (lv_at hl 1 rfl) ?_
                          refine lv_bipush (v := 6) hx hb dX12_readClause_252 (by decide) ?_
                          refine q_iadd (Y := 6) hx hb dX12_readClause_254 rfl rfl (by omega) (fun x1367 h1368 => ?_)
                          refine lv_aload_n hx hb dX12_readClause_255 rfl (lv_at hl 3 rfl) ?_
                          refine fg_RX12_229 E hW rh0 dX12_readClause_256 (fun y1369 m1370 b1371 => ?_)
                          obtain rfl : pF21 = y1369 := (((fm_I g1347 rh0 rfl).trans ((fm_I g1326 rh0 rfl).trans m1321))).symm.trans m1370
                          have hw1376 := hW.2.2.2
                          refine gs_840 E hW rN ⟨by omega, by omega⟩ dX12_readClause_259 (fun f1372 H locs e1373 n1374 g1375 hW => ?_)
                          have m1377 : oR (f1372 h0) 2 = pR := ((fm_R g1375 rh0 rfl).trans ((fm_R g1347 rh0 rfl).trans ((fm_R g1326 rh0 rfl).trans ((fm_R g1302 rh0 rfl).trans ((fm_R g1015 rh0 rfl).trans ((fm_R g991 rh0 rfl).trans ((fm_R g969 rh0 rfl).trans m944)))))))
                          have m1378 : oI (f1372 h0) 12 = pF12 := ((fm_I g1375 rh0 rfl).trans ((fm_I g1347 rh0 rfl).trans ((fm_I g1326 rh0 rfl).trans ((fm_I g1302 rh0 rfl).trans ((fm_I g1015 rh0 rfl).trans ((fm_I g991 rh0 rfl).trans ((fm_I g969 rh0 rfl).trans m945)))))))
                          have m1379 : oI (f1372 h0) 13 = y640 := ((fm_I g1375 rh0 rfl).trans ((fm_I g1347 rh0 rfl).trans ((fm_I g1326 rh0 rfl).trans ((fm_I g1302 rh0 rfl).trans ((fm_I g1015 rh0 rfl).trans ((fm_I g991 rh0 rfl).trans ((fm_I g969 rh0 rfl).trans m946)))))))
                          have m1380 : oI (f1372 h0) 14 = y643 := ((fm_I g1375 rh0 rfl).trans ((fm_I g1347 rh0 rfl).trans ((fm_I g1326 rh0 rfl).trans ((fm_I g1302 rh0 rfl).trans ((fm_I g1015 rh0 rfl).trans ((fm_I g991 rh0 rfl).trans ((fm_I g969 rh0 rfl).trans m947)))))))
                          have m1381 : oI (f1372 h0) 15 = y646 := ((fm_I g1375 rh0 rfl).trans ((fm_I g1347 rh0 rfl).trans ((fm_I g1326 rh0 rfl).trans ((fm_I g1302 rh0 rfl).trans ((fm_I g1015 rh0 rfl).trans ((fm_I g991 rh0 rfl).trans ((fm_I g969 rh0 rfl).trans m948)))))))
                          have m1382 : oJ (f1372 h0) 16 = y652 := ((fm_J g1375 rh0 rfl).trans ((fm_J g1347 rh0 rfl).trans ((fm_J g1326 rh0 rfl).trans ((fm_J g1302 rh0 rfl).trans ((fm_J g1015 rh0 rfl).trans ((fm_J g991 rh0 rfl).trans ((fm_J g969 rh0 rfl).trans m949)))))))
                          have m1383 : oI (f1372 h0) 24 = pF24 := ((fm_I g1375 rh0 rfl).trans ((fm_I g1347 rh0 rfl).trans ((fm_I g1326 rh0 rfl).trans ((fm_I g1302 rh0 rfl).trans ((fm_I g1015 rh0 rfl).trans ((fm_I g991 rh0 rfl).trans ((fm_I g969 rh0 rfl).trans m954)))))))
                          have m1384 : oI (f1372 h0) 27 = pF27 := ((fm_I g1375 rh0 rfl).trans ((fm_I g1347 rh0 rfl).trans ((fm_I g1326 rh0 rfl).trans ((fm_I g1302 rh0 rfl).trans ((fm_I g1015 rh0 rfl).trans ((fm_I g991 rh0 rfl).trans ((fm_I g969 rh0 rfl).trans m955)))))))
                          have z1385 : DJ f0 f1372 h0 pF21.toInt 0 0 0 0 := dj_keep z1354 hw1376 g1375 rh0 rfl (fun q => by rw [fm_I g1375 rh0 rfl]; exact q)
                          have hF := FM.tr hF g1375 rfl
                          have q1386 : x1367.toInt = 8 * pF19.toInt + 6 := by omega
                          have q1387 : 0 ≤ 8 * pF19.toInt := by omega
                          have z1388 : ∀ j : Nat, (j : Int) < 8 * pF19.toInt → aI (f1372 pN) j = aI (f0 pN) j := pre_st2 z1355 e1373 q1386 q1387 (by decide)
                          clear z1355
                          have z1389 : aI (f1372 pN) (8 * pF19.toInt + 0).toNat = x6 := ent_no2 z1356 e1373 q1386 q1387 (by decide)
                          have z1390 : aI (f1372 pN) (8 * pF19.toInt + 1).toNat = 0 := ent_no2 z1357 e1373 q1386 q1387 (by decide)
                          have z1391 : aI (f1372 pN) (8 * pF19.toInt + 2).toNat = 0 := ent_no2 z1358 e1373 q1386 q1387 (by decide)
                          have z1392 : aI (f1372 pN) (8 * pF19.toInt + 3).toNat = pF21 := ent_no2 z1359 e1373 q1386 q1387 (by decide)
                          have z1393 : aI (f1372 pN) (8 * pF19.toInt + 4).toNat = pF21 := ent_no2 z1360 e1373 q1386 q1387 (by decide)
                          have z1394 : aI (f1372 pN) (8 * pF19.toInt + 5).toNat = pF21 := ent_no2 z1361 e1373 q1386 q1387 (by decide)
                          have z1395 : aI (f1372 pN) (8 * pF19.toInt + 6).toNat = pF21 := ent_st2 e1373 q1386 q1387 (by decide)
                          clear q1386 q1387
                          clear z1356 z1357 z1358 z1359 z1360 z1361 z1362
                          exact e_V E hW rfl ⟨rfl, hF, (by simp only [m1378, mF12, m1379, mF13, m1380, mF14, m1381, mF15, ((fm_I g1375 rh0 rfl).trans ((fm_I g1347 rh0 rfl).trans m1340)), mF18, ((fm_I g1375 rh0 rfl).trans m1370), mF21, m1382, mW, and_true, true_and, true_or, or_true, false_or, or_false] <;> omega), (by have hk0 : (0 : Int32).toInt = 0 := rfl; rw [((fm_I g1375 rh0 rfl).trans m1370), ((fm_I g1375 rh0 rfl).trans ((fm_I g1347 rh0 rfl).trans ((fm_I g1326 rh0 rfl).trans ((fm_I g1302 rh0 rfl).trans ((fm_I g1015 rh0 rfl).trans e989)))))]; exact cl_end (nc := pF21.toInt) (hd := x6) (r1 := 0) (r2 := 0) (show CLs _ _ _ pF21.toInt pF19.toInt from hC) (by omega) (show DJ f0 f1372 h0 pF21.toInt (pF21 : Int32).toInt (pF21 : Int32).toInt (pF21 : Int32).toInt (pF21 : Int32).toInt from (dj_triv2 (dj_triv1 z1385))) (fun j hj => by unfold vN; rw [((fm_R g1375 rh0 rfl).trans m1365), mN]; exact z1388 j hj) (by unfold vN; rw [((fm_R g1375 rh0 rfl).trans m1365)]; exact z1389) (by unfold vN; rw [((fm_R g1375 rh0 rfl).trans m1365)]; exact z1390) (by unfold vN; rw [((fm_R g1375 rh0 rfl).trans m1365)]; exact z1391) (by unfold vN; rw [((fm_R g1375 rh0 rfl).trans m1365)]; exact z1392) (by unfold vN; rw [((fm_R g1375 rh0 rfl).trans m1365)]; exact z1393) (by unfold vN; rw [((fm_R g1375 rh0 rfl).trans m1365)]; exact z1394) (by unfold vN; rw [((fm_R g1375 rh0 rfl).trans m1365)]; exact z1395) (by rw [((fm_I g1375 rh0 rfl).trans ((fm_I g1347 rh0 rfl).trans m1340))]; omega) (by omega) (by omega))⟩ dX12_readClause_260
                        · have q1396 : y646.toInt = 1 ∧ y652.toInt = 294 := by omega
                          clear p1349
                          refine lv_aload_n hx hb dX12_readClause_238 rfl (lv_at hl 3 rfl) ?_
                          have hw1400 := hW.2.2.2
                          refine t_callV (As := []) (rest := []) E hW (c_X12_next l G cI cJ cZ cD cR cT kp L f1344 hW.2.2.2 _ h0 rh0 (by simp only [((fm_I g1347 rh0 rfl).trans ((fm_I g1326 rh0 rfl).trans ((fm_I g1302 rh0 rfl).trans ((fm_I g1015 rh0 rfl).trans ((fm_I g991 rh0 rfl).trans ((fm_I g969 rh0 rfl).trans m945)))))), ((fm_I g1347 rh0 rfl).trans ((fm_I g1326 rh0 rfl).trans ((fm_I g1302 rh0 rfl).trans ((fm_I g1015 rh0 rfl).trans ((fm_I g991 rh0 rfl).trans ((fm_I g969 rh0 rfl).trans m947)))))), and_true, true_and, true_or, or_true, false_or, or_false] <;> omega)) rh0 (by decide) rfl wk_X12_next tw_1773 rfl ⟨Nat.le_of_ble_eq_true rfl, Nat.le_of_ble_eq_true rfl⟩ ⟨rfl, rfl⟩ hl.1 rfl (Nat.le_of_ble_eq_true rfl) dX12_readClause_239 ⟨Nat.le_of_ble_eq_true rfl, Nat.le_of_ble_eq_true rfl⟩ (fun v1397 f1398 H locs q1399 hW => ?_)
                          obtain ⟨rfl, g1401, h1402⟩ := q1399
                          have m1403 : oR (f1398 h0) 2 = pR := ((fm_R g1401 rh0 rfl).trans ((fm_R g1347 rh0 rfl).trans ((fm_R g1326 rh0 rfl).trans ((fm_R g1302 rh0 rfl).trans ((fm_R g1015 rh0 rfl).trans ((fm_R g991 rh0 rfl).trans ((fm_R g969 rh0 rfl).trans m944)))))))
                          have m1404 : oI (f1398 h0) 12 = pF12 := ((fm_I g1401 rh0 rfl).trans ((fm_I g1347 rh0 rfl).trans ((fm_I g1326 rh0 rfl).trans ((fm_I g1302 rh0 rfl).trans ((fm_I g1015 rh0 rfl).trans ((fm_I g991 rh0 rfl).trans ((fm_I g969 rh0 rfl).trans m945)))))))
                          have m1405 : oI (f1398 h0) 24 = pF24 := ((fm_I g1401 rh0 rfl).trans ((fm_I g1347 rh0 rfl).trans ((fm_I g1326 rh0 rfl).trans ((fm_I g1302 rh0 rfl).trans ((fm_I g1015 rh0 rfl).trans ((fm_I g991 rh0 rfl).trans ((fm_I g969 rh0 rfl).trans m954)))))))
                          have m1406 : oI (f1398 h0) 27 = pF27 := ((fm_I g1401 rh0 rfl).trans ((fm_I g1347 rh0 rfl).trans ((fm_I g1326 rh0 rfl).trans ((fm_I g1302 rh0 rfl).trans ((fm_I g1015 rh0 rfl).trans ((fm_I g991 rh0 rfl).trans ((fm_I g969 rh0 rfl).trans m955)))))))
                          have z1407 : DJ f0 f1398 h0 pF21.toInt 0 0 0 0 := dj_keep z1354 hw1400 g1401 rh0 rfl (fun q => by rw [fm_I g1401 rh0 rfl]; exact q)
                          have z1408 : ∀ j : Nat, (j : Int) < 8 * pF19.toInt → aI (f1398 pN) j = aI (f0 pN) j := by rw [fm_A g1401 rN (by decide) rfl]; exact z1355
                          clear z1355
                          have z1409 : aI (f1398 pN) (8 * pF19.toInt + 0).toNat = x6 := by rw [fm_A g1401 rN (by decide) rfl]; exact z1356
                          have z1410 : aI (f1398 pN) (8 * pF19.toInt + 1).toNat = 0 := by rw [fm_A g1401 rN (by decide) rfl]; exact z1357
                          have z1411 : aI (f1398 pN) (8 * pF19.toInt + 2).toNat = 0 := by rw [fm_A g1401 rN (by decide) rfl]; exact z1358
                          have z1412 : aI (f1398 pN) (8 * pF19.toInt + 3).toNat = pF21 := by rw [fm_A g1401 rN (by decide) rfl]; exact z1359
                          have z1413 : aI (f1398 pN) (8 * pF19.toInt + 4).toNat = pF21 := by rw [fm_A g1401 rN (by decide) rfl]; exact z1360
                          have z1414 : aI (f1398 pN) (8 * pF19.toInt + 5).toNat = pF21 := by rw [fm_A g1401 rN (by decide) rfl]; exact z1361
                          have z1415 : aI (f1398 pN) (8 * pF19.toInt + 6).toNat = 0 := by rw [fm_A g1401 rN (by decide) rfl]; exact z1362
                          clear z1356 z1357 z1358 z1359 z1360 z1361 z1362
                          have hF := FM.tr hF g1401 rfl
                          obtain ⟨y1416, m1417⟩ : ∃ x : Int32, oI (f1398 h0) 13 = x := ⟨_, rfl⟩
                          have b1418 : (0 : Int) ≤ y1416.toInt ∧ y1416.toInt ≤ 400 := by rw [← m1417]; exact th_iv hW rh0 (by decide) (by decide) rfl
                          obtain ⟨y1419, m1420⟩ : ∃ x : Int32, oI (f1398 h0) 14 = x := ⟨_, rfl⟩
                          have b1421 : (0 : Int) ≤ y1419.toInt ∧ y1419.toInt ≤ 400 := by rw [← m1420]; exact th_iv hW rh0 (by decide) (by decide) rfl
                          obtain ⟨y1422, m1423⟩ : ∃ x : Int32, oI (f1398 h0) 15 = x := ⟨_, rfl⟩
                          have b1424 : (0 : Int) ≤ y1422.toInt ∧ y1422.toInt ≤ 3 := by rw [← m1423]; exact th_iv hW rh0 (by decide) (by decide) rfl
                          obtain ⟨y1425, m1426⟩ : ∃ x : Int64, oJ (f1398 h0) 16 = x := ⟨_, rfl⟩
                          simp only [m1404, ((fm_I g1347 rh0 rfl).trans ((fm_I g1326 rh0 rfl).trans ((fm_I g1302 rh0 rfl).trans ((fm_I g1015 rh0 rfl).trans ((fm_I g991 rh0 rfl).trans ((fm_I g969 rh0 rfl).trans m945)))))), m1417, ((fm_I g1347 rh0 rfl).trans ((fm_I g1326 rh0 rfl).trans ((fm_I g1302 rh0 rfl).trans ((fm_I g1015 rh0 rfl).trans ((fm_I g991 rh0 rfl).trans ((fm_I g969 rh0 rfl).trans m946)))))), m1420, ((fm_I g1347 rh0 rfl).trans ((fm_I g1326 rh0 rfl).trans ((fm_I g1302 rh0 rfl).trans ((fm_I g1015 rh0 rfl).trans ((fm_I g991 rh0 rfl).trans ((fm_I g969 rh0 rfl).trans m947)))))), m1423, ((fm_I g1347 rh0 rfl).trans ((fm_I g1326 rh0 rfl).trans ((fm_I g1302 rh0 rfl).trans ((fm_I g1015 rh0 rfl).trans ((fm_I g991 rh0 rfl).trans ((fm_I g969 rh0 rfl).trans m948)))))), m1426, ((fm_J g1347 rh0 rfl).trans ((fm_J g1326 rh0 rfl).trans ((fm_J g1302 rh0 rfl).trans ((fm_J g1015 rh0 rfl).trans ((fm_J g991 rh0 rfl).trans ((fm_J g969 rh0 rfl).trans m949))))))] at h1402
                          refine lv_aload_n hx hb dX12_readClause_242 rfl (lv_at hl 3 rfl) ?_
                          refine lv_iconst (v := 1) hx hb dX12_readClause_243 (by decide) ?_
                          have hw1431 := hW.2.2.2
                          refine t_callV (As := [.int 1]) (rest := []) E hW (c_X12_readExpression l G cI cJ cZ cD cR cT kp L f1398 hW.2.2.2 _ h0 1 rh0 (by decide) (by have hkq1427 : (1 : Int32).toInt = 1 := rfl; simp only [m1404, m1417, m1420, m1423, ((fm_I g1401 rh0 rfl).trans ((fm_I g1347 rh0 rfl).trans m1340)), ((fm_I g1401 rh0 rfl).trans ((fm_I g1347 rh0 rfl).trans ((fm_I g1326 rh0 rfl).trans m1321))), m1426, and_true, true_and, true_or, or_true, false_or, or_false] <;> omega)) rh0 (by decide) rfl wk_X12_readExpression tw_1819 rfl ⟨Nat.le_of_ble_eq_true rfl, Nat.le_of_ble_eq_true rfl⟩ ⟨rfl, rfl⟩ hl.1 rfl (Nat.le_of_ble_eq_true rfl) dX12_readClause_244 ⟨Nat.le_of_ble_eq_true rfl, Nat.le_of_ble_eq_true rfl⟩ (fun v1428 f1429 H locs q1430 hW => ?_)
                          obtain ⟨rfl, g1432, h1433, h1434⟩ := q1430
                          have m1435 : aI (f1429 pN) (x662 : Int32).toNatClampNeg = x6 := ((congrArg (fun z => aI z (x662 : Int32).toNatClampNeg) (fm_A g1432 rN (by decide) rfl)).trans ((congrArg (fun z => aI z (x662 : Int32).toNatClampNeg) (fm_A g1401 rN (by decide) rfl)).trans m1350))
                          have m1436 : aI (f1429 pN) (x1007 : Int32).toNatClampNeg = pF21 := ((congrArg (fun z => aI z (x1007 : Int32).toNatClampNeg) (fm_A g1432 rN (by decide) rfl)).trans ((congrArg (fun z => aI z (x1007 : Int32).toNatClampNeg) (fm_A g1401 rN (by decide) rfl)).trans m1351))
                          have m1437 : aI (f1429 pN) (x1294 : Int32).toNatClampNeg = pF21 := ((congrArg (fun z => aI z (x1294 : Int32).toNatClampNeg) (fm_A g1432 rN (by decide) rfl)).trans ((congrArg (fun z => aI z (x1294 : Int32).toNatClampNeg) (fm_A g1401 rN (by decide) rfl)).trans m1352))
                          have m1438 : aI (f1429 pN) (x1318 : Int32).toNatClampNeg = pF21 := ((congrArg (fun z => aI z (x1318 : Int32).toNatClampNeg) (fm_A g1432 rN (by decide) rfl)).trans ((congrArg (fun z => aI z (x1318 : Int32).toNatClampNeg) (fm_A g1401 rN (by decide) rfl)).trans m1353))
                          have z1439 : ∀ j : Nat, (j : Int) < 8 * pF19.toInt → aI (f1429 pN) j = aI (f0 pN) j := by rw [fm_A g1432 rN (by decide) rfl]; exact z1408
                          clear z1408
                          have z1440 : aI (f1429 pN) (8 * pF19.toInt + 0).toNat = x6 := by rw [fm_A g1432 rN (by decide) rfl]; exact z1409
                          have z1441 : aI (f1429 pN) (8 * pF19.toInt + 1).toNat = 0 := by rw [fm_A g1432 rN (by decide) rfl]; exact z1410
                          have z1442 : aI (f1429 pN) (8 * pF19.toInt + 2).toNat = 0 := by rw [fm_A g1432 rN (by decide) rfl]; exact z1411
                          have z1443 : aI (f1429 pN) (8 * pF19.toInt + 3).toNat = pF21 := by rw [fm_A g1432 rN (by decide) rfl]; exact z1412
                          have z1444 : aI (f1429 pN) (8 * pF19.toInt + 4).toNat = pF21 := by rw [fm_A g1432 rN (by decide) rfl]; exact z1413
                          have z1445 : aI (f1429 pN) (8 * pF19.toInt + 5).toNat = pF21 := by rw [fm_A g1432 rN (by decide) rfl]; exact z1414
                          have z1446 : aI (f1429 pN) (8 * pF19.toInt + 6).toNat = 0 := by rw [fm_A g1432 rN (by decide) rfl]; exact z1415
                          clear z1409 z1410 z1411 z1412 z1413 z1414 z1415
                          have hF := FM.tr hF g1432 rfl
                          have hk1447 : (1 : Int32).toInt = 1 := rfl
                          obtain ⟨y1448, m1449⟩ : ∃ x : Int32, oI (f1429 h0) 13 = x := ⟨_, rfl⟩
                          have b1450 : (0 : Int) ≤ y1448.toInt ∧ y1448.toInt ≤ 400 := by rw [← m1449]; exact th_iv hW rh0 (by decide) (by decide) rfl
                          obtain ⟨y1451, m1452⟩ : ∃ x : Int32, oI (f1429 h0) 14 = x := ⟨_, rfl⟩
                          have b1453 : (0 : Int) ≤ y1451.toInt ∧ y1451.toInt ≤ 400 := by rw [← m1452]; exact th_iv hW rh0 (by decide) (by decide) rfl
                          obtain ⟨y1454, m1455⟩ : ∃ x : Int32, oI (f1429 h0) 15 = x := ⟨_, rfl⟩
                          have b1456 : (0 : Int) ≤ y1454.toInt ∧ y1454.toInt ≤ 3 := by rw [← m1455]; exact th_iv hW rh0 (by decide) (by decide) rfl
                          obtain ⟨y1457, m1458⟩ : ∃ x : Int32, oI (f1429 h0) 18 = x := ⟨_, rfl⟩
                          have b1459 : (0 : Int) ≤ y1457.toInt ∧ y1457.toInt ≤ 1 := by rw [← m1458]; exact th_iv hW rh0 (by decide) (by decide) rfl
                          obtain ⟨y1460, m1461⟩ : ∃ x : Int32, oI (f1429 h0) 21 = x := ⟨_, rfl⟩
                          have b1462 : (0 : Int) ≤ y1460.toInt ∧ y1460.toInt ≤ 400 := by rw [← m1461]; exact th_iv hW rh0 (by decide) (by decide) rfl
                          obtain ⟨y1463, m1464⟩ : ∃ x : Int32, oI (f1429 h0) 27 = x := ⟨_, rfl⟩
                          have b1465 : (0 : Int) ≤ y1463.toInt ∧ y1463.toInt ≤ 400 := by rw [← m1464]; exact th_iv hW rh0 (by decide) (by decide) rfl
                          obtain ⟨y1466, m1467⟩ : ∃ x : Int64, oJ (f1429 h0) 16 = x := ⟨_, rfl⟩
                          simp only [((fm_I g1432 rh0 rfl).trans m1404), m1404, m1449, m1417, m1452, m1420, m1455, m1423, m1458, ((fm_I g1401 rh0 rfl).trans ((fm_I g1347 rh0 rfl).trans m1340)), m1461, ((fm_I g1401 rh0 rfl).trans ((fm_I g1347 rh0 rfl).trans ((fm_I g1326 rh0 rfl).trans m1321))), m1464, m1406, m1467, m1426] at h1433
                          have z1469 := h1434
                          rw [((fm_I g1401 rh0 rfl).trans ((fm_I g1347 rh0 rfl).trans ((fm_I g1326 rh0 rfl).trans m1321))), m1461] at z1469
                          have z1468 : DJ f0 f1429 h0 pF21.toInt 0 0 pF21.toInt y1460.toInt := dj_ex2 z1407 (by rw [((fm_I g1401 rh0 rfl).trans ((fm_I g1347 rh0 rfl).trans m1340))]; omega) (by omega) (by omega) (by omega) z1469
                          refine lv_aload_n hx hb dX12_readClause_247 rfl (lv_at hl 3 rfl) ?_
                          refine fg_RX12_39 E hW rh0 dX12_readClause_248 (fun a1470 m1471 r1472 => ?_)
                          obtain rfl : pN = a1470 := (((fm_R g1432 rh0 rfl).trans ((fm_R g1401 rh0 rfl).trans ((fm_R g1347 rh0 rfl).trans ((fm_R g1326 rh0 rfl).trans m1316))))).symm.trans m1471
                          refine lv_iload_n hx hb dX12_readClause_251 rfl (lv_at hl 1 rfl) ?_
                          refine lv_bipush (v := 6) hx hb dX12_readClause_252 (by decide) ?_
                          refine q_iadd (Y := 6) hx hb dX12_readClause_254 rfl rfl (by omega) (fun x1473 h1474 => ?_)
                          refine lv_aload_n hx hb dX12_readClause_255 rfl (lv_at hl 3 rfl) ?_
                          refine fg_RX12_229 E hW rh0 dX12_readClause_256 (fun y1475 m1476 b1477 => ?_)
                          obtain rfl : y1460 = y1475 := (m1461).symm.trans m1476
                          have hw1482 := hW.2.2.2
                          refine gs_840 E hW rN ⟨by omega, by omega⟩ dX12_readClause_259 (fun f1478 H locs e1479 n1480 g1481 hW => ?_)
                          have m1483 : oI (f1478 h0) 19 = x986 := ((fm_I g1481 rh0 rfl).trans ((fm_I g1432 rh0 rfl).trans ((fm_I g1401 rh0 rfl).trans ((fm_I g1347 rh0 rfl).trans ((fm_I g1326 rh0 rfl).trans ((fm_I g1302 rh0 rfl).trans ((fm_I g1015 rh0 rfl).trans e989)))))))
                          have z1484 : DJ f0 f1478 h0 pF21.toInt 0 0 pF21.toInt y1460.toInt := dj_keep z1468 hw1482 g1481 rh0 rfl (fun q => by rw [fm_I g1481 rh0 rfl]; exact q)
                          have hF := FM.tr hF g1481 rfl
                          have q1485 : x1473.toInt = 8 * pF19.toInt + 6 := by omega
                          have q1486 : 0 ≤ 8 * pF19.toInt := by omega
                          have z1487 : ∀ j : Nat, (j : Int) < 8 * pF19.toInt → aI (f1478 pN) j = aI (f0 pN) j := pre_st2 z1439 e1479 q1485 q1486 (by decide)
                          clear z1439
                          have z1488 : aI (f1478 pN) (8 * pF19.toInt + 0).toNat = x6 := ent_no2 z1440 e1479 q1485 q1486 (by decide)
                          have z1489 : aI (f1478 pN) (8 * pF19.toInt + 1).toNat = 0 := ent_no2 z1441 e1479 q1485 q1486 (by decide)
                          have z1490 : aI (f1478 pN) (8 * pF19.toInt + 2).toNat = 0 := ent_no2 z1442 e1479 q1485 q1486 (by decide)
                          have z1491 : aI (f1478 pN) (8 * pF19.toInt + 3).toNat = pF21 := ent_no2 z1443 e1479 q1485 q1486 (by decide)
                          have z1492 : aI (f1478 pN) (8 * pF19.toInt + 4).toNat = pF21 := ent_no2 z1444 e1479 q1485 q1486 (by decide)
                          have z1493 : aI (f1478 pN) (8 * pF19.toInt + 5).toNat = pF21 := ent_no2 z1445 e1479 q1485 q1486 (by decide)
                          have z1494 : aI (f1478 pN) (8 * pF19.toInt + 6).toNat = y1460 := ent_st2 e1479 q1485 q1486 (by decide)
                          clear q1485 q1486
                          clear z1440 z1441 z1442 z1443 z1444 z1445 z1446
                          exact e_V E hW rfl ⟨rfl, hF, (by simp only [((fm_I g1481 rh0 rfl).trans ((fm_I g1432 rh0 rfl).trans m1404)), mF12, ((fm_I g1481 rh0 rfl).trans m1449), mF13, ((fm_I g1481 rh0 rfl).trans m1452), mF14, ((fm_I g1481 rh0 rfl).trans m1455), mF15, ((fm_I g1481 rh0 rfl).trans m1458), mF18, ((fm_I g1481 rh0 rfl).trans m1476), mF21, ((fm_J g1481 rh0 rfl).trans m1467), mW, and_true, true_and, true_or, or_true, false_or, or_false] <;> omega), (by have hk0 : (0 : Int32).toInt = 0 := rfl; rw [((fm_I g1481 rh0 rfl).trans m1476), m1483]; exact cl_end (nc := y1460.toInt) (hd := x6) (r1 := 0) (r2 := 0) (show CLs _ _ _ pF21.toInt pF19.toInt from hC) (by omega) (show DJ f0 f1478 h0 pF21.toInt (pF21 : Int32).toInt (pF21 : Int32).toInt (pF21 : Int32).toInt (y1460 : Int32).toInt from (dj_triv1 z1484)) (fun j hj => by unfold vN; rw [((fm_R g1481 rh0 rfl).trans m1471), mN]; exact z1487 j hj) (by unfold vN; rw [((fm_R g1481 rh0 rfl).trans m1471)]; exact z1488) (by unfold vN; rw [((fm_R g1481 rh0 rfl).trans m1471)]; exact z1489) (by unfold vN; rw [((fm_R g1481 rh0 rfl).trans m1471)]; exact z1490) (by unfold vN; rw [((fm_R g1481 rh0 rfl).trans m1471)]; exact z1491) (by unfold vN; rw [((fm_R g1481 rh0 rfl).trans m1471)]; exact z1492) (by unfold vN; rw [((fm_R g1481 rh0 rfl).trans m1471)]; exact z1493) (by unfold vN; rw [((fm_R g1481 rh0 rfl).trans m1471)]; exact z1494) (by rw [((fm_I g1481 rh0 rfl).trans m1458)]; omega) (by omega) (by omega))⟩ dX12_readClause_260
                    · refine lv_aload_n hx hb dX12_readClause_192 rfl (lv_at hl 3 rfl) ?_
                      refine lv_iconst (v := 0) hx hb dX12_readClause_193 (by decide) ?_
                      have hw1499 := hW.2.2.2
                      refine t_callV (As := [.int 0]) (rest := []) E hW (c_X12_readExpression l G cI cJ cZ cD cR cT kp L f1012 hW.2.2.2 _ h0 0 rh0 (by decide) (by have hkq1495 : (0 : Int32).toInt = 0 := rfl; simp only [((fm_I g1015 rh0 rfl).trans ((fm_I g991 rh0 rfl).trans ((fm_I g969 rh0 rfl).trans m945))), ((fm_I g1015 rh0 rfl).trans ((fm_I g991 rh0 rfl).trans ((fm_I g969 rh0 rfl).trans m946))), ((fm_I g1015 rh0 rfl).trans ((fm_I g991 rh0 rfl).trans ((fm_I g969 rh0 rfl).trans m947))), ((fm_I g1015 rh0 rfl).trans ((fm_I g991 rh0 rfl).trans ((fm_I g969 rh0 rfl).trans m948))), ((fm_I g1015 rh0 rfl).trans ((fm_I g991 rh0 rfl).trans ((fm_I g969 rh0 rfl).trans m950))), ((fm_I g1015 rh0 rfl).trans m1010), ((fm_J g1015 rh0 rfl).trans ((fm_J g991 rh0 rfl).trans ((fm_J g969 rh0 rfl).trans m949))), and_true, true_and, true_or, or_true, false_or, or_false] <;> omega)) rh0 (by decide) rfl wk_X12_readExpression tw_1819 rfl ⟨Nat.le_of_ble_eq_true rfl, Nat.le_of_ble_eq_true rfl⟩ ⟨rfl, rfl⟩ hl.1 rfl (Nat.le_of_ble_eq_true rfl) dX12_readClause_194 ⟨Nat.le_of_ble_eq_true rfl, Nat.le_of_ble_eq_true rfl⟩ (fun v1496 f1497 H locs q1498 hW => ?_)
                      obtain ⟨rfl, g1500, h1501, h1502⟩ := q1498
                      have m1503 : aI (f1497 pN) (x662 : Int32).toNatClampNeg = x6 := ((congrArg (fun z => aI z (x662 : Int32).toNatClampNeg) (fm_A g1500 rN (by decide) rfl)).trans (show aI (f1012 pN) (x662 : Int32).toNatClampNeg = x6 from by rw [e1013, up_n (tn_ne (by omega) (by omega) (by omega))]; exact ((congrArg (fun z => aI z (x662 : Int32).toNatClampNeg) (fm_A g991 rN (by decide) rfl)).trans (show aI (f966 pN) (x662 : Int32).toNatClampNeg = x6 from by rw [e967]; exact up_s))))
                      have m1504 : aI (f1497 pN) (x1007 : Int32).toNatClampNeg = pF21 := ((congrArg (fun z => aI z (x1007 : Int32).toNatClampNeg) (fm_A g1500 rN (by decide) rfl)).trans (show aI (f1012 pN) (x1007 : Int32).toNatClampNeg = pF21 from by rw [e1013]; exact up_s))
                      have z1505 : ∀ j : Nat, (j : Int) < 8 * pF19.toInt → aI (f1497 pN) j = aI (f0 pN) j := by rw [fm_A g1500 rN (by decide) rfl]; exact z1020
                      clear z1020
                      have z1506 : aI (f1497 pN) (8 * pF19.toInt + 0).toNat = x6 := by rw [fm_A g1500 rN (by decide) rfl]; exact z1021
                      have z1507 : aI (f1497 pN) (8 * pF19.toInt + 1).toNat = 0 := by rw [fm_A g1500 rN (by decide) rfl]; exact z1022
                      have z1508 : aI (f1497 pN) (8 * pF19.toInt + 2).toNat = 0 := by rw [fm_A g1500 rN (by decide) rfl]; exact z1023
                      have z1509 : aI (f1497 pN) (8 * pF19.toInt + 3).toNat = pF21 := by rw [fm_A g1500 rN (by decide) rfl]; exact z1024
                      have z1510 : aI (f1497 pN) (8 * pF19.toInt + 4).toNat = 0 := by rw [fm_A g1500 rN (by decide) rfl]; exact z1025
                      have z1511 : aI (f1497 pN) (8 * pF19.toInt + 5).toNat = 0 := by rw [fm_A g1500 rN (by decide) rfl]; exact z1026
                      have z1512 : aI (f1497 pN) (8 * pF19.toInt + 6).toNat = 0 := by rw [fm_A g1500 rN (by decide) rfl]; exact z1027
                      clear z1021 z1022 z1023 z1024 z1025 z1026 z1027
                      have hF := FM.tr hF g1500 rfl
                      have hk1513 : (0 : Int32).toInt = 0 := rfl
                      obtain ⟨y1514, m1515⟩ : ∃ x : Int32, oI (f1497 h0) 13 = x := ⟨_, rfl⟩
                      have b1516 : (0 : Int) ≤ y1514.toInt ∧ y1514.toInt ≤ 400 := by rw [← m1515]; exact th_iv hW rh0 (by decide) (by decide) rfl
                      obtain ⟨y1517, m1518⟩ : ∃ x : Int32, oI (f1497 h0) 14 = x := ⟨_, rfl⟩
                      have b1519 : (0 : Int) ≤ y1517.toInt ∧ y1517.toInt ≤ 400 := by rw [← m1518]; exact th_iv hW rh0 (by decide) (by decide) rfl
                      obtain ⟨y1520, m1521⟩ : ∃ x : Int32, oI (f1497 h0) 15 = x := ⟨_, rfl⟩
                      have b1522 : (0 : Int) ≤ y1520.toInt ∧ y1520.toInt ≤ 3 := by rw [← m1521]; exact th_iv hW rh0 (by decide) (by decide) rfl
                      obtain ⟨y1523, m1524⟩ : ∃ x : Int32, oI (f1497 h0) 18 = x := ⟨_, rfl⟩
                      have b1525 : (0 : Int) ≤ y1523.toInt ∧ y1523.toInt ≤ 1 := by rw [← m1524]; exact th_iv hW rh0 (by decide) (by decide) rfl
                      obtain ⟨y1526, m1527⟩ : ∃ x : Int32, oI (f1497 h0) 21 = x := ⟨_, rfl⟩
                      have b1528 : (0 : Int) ≤ y1526.toInt ∧ y1526.toInt ≤ 400 := by rw [← m1527]; exact th_iv hW rh0 (by decide) (by decide) rfl
                      obtain ⟨y1529, m1530⟩ : ∃ x : Int32, oI (f1497 h0) 27 = x := ⟨_, rfl⟩
                      have b1531 : (0 : Int) ≤ y1529.toInt ∧ y1529.toInt ≤ 400 := by rw [← m1530]; exact th_iv hW rh0 (by decide) (by decide) rfl
                      obtain ⟨y1532, m1533⟩ : ∃ x : Int64, oJ (f1497 h0) 16 = x := ⟨_, rfl⟩
                      simp only [((fm_I g1500 rh0 rfl).trans ((fm_I g1015 rh0 rfl).trans ((fm_I g991 rh0 rfl).trans ((fm_I g969 rh0 rfl).trans m945)))), ((fm_I g1015 rh0 rfl).trans ((fm_I g991 rh0 rfl).trans ((fm_I g969 rh0 rfl).trans m945))), m1515, ((fm_I g1015 rh0 rfl).trans ((fm_I g991 rh0 rfl).trans ((fm_I g969 rh0 rfl).trans m946))), m1518, ((fm_I g1015 rh0 rfl).trans ((fm_I g991 rh0 rfl).trans ((fm_I g969 rh0 rfl).trans m947))), m1521, ((fm_I g1015 rh0 rfl).trans ((fm_I g991 rh0 rfl).trans ((fm_I g969 rh0 rfl).trans m948))), m1524, ((fm_I g1015 rh0 rfl).trans ((fm_I g991 rh0 rfl).trans ((fm_I g969 rh0 rfl).trans m950))), m1527, ((fm_I g1015 rh0 rfl).trans m1010), m1530, ((fm_I g1015 rh0 rfl).trans ((fm_I g991 rh0 rfl).trans ((fm_I g969 rh0 rfl).trans m955))), m1533, ((fm_J g1015 rh0 rfl).trans ((fm_J g991 rh0 rfl).trans ((fm_J g969 rh0 rfl).trans m949)))] at h1501
                      have z1535 := h1502
                      rw [((fm_I g1015 rh0 rfl).trans m1010), m1527] at z1535
                      have z1534 : DJ f0 f1497 h0 pF21.toInt pF21.toInt y1526.toInt y1526.toInt y1526.toInt := dj_ex1 z1017 (by rw [((fm_I g1015 rh0 rfl).trans ((fm_I g991 rh0 rfl).trans ((fm_I g969 rh0 rfl).trans m950)))]; omega) (by omega) z1535
                      refine lv_aload_n hx hb dX12_readClause_197 rfl (lv_at hl 3 rfl) ?_
                      refine fg_RX12_39 E hW rh0 dX12_readClause_198 (fun a1536 m1537 r1538 => ?_)
                      obtain rfl : pN = a1536 := (((fm_R g1500 rh0 rfl).trans ((fm_R g1015 rh0 rfl).trans m1005))).symm.trans m1537
                      refine lv_iload_n hx hb dX12_readClause_201 rfl (lv_at hl 1 rfl) ?_
                      refine lv_iconst (v := 4) hx hb dX12_readClause_202 (by decide) ?_
                      refine q_iadd (Y := 4) hx hb dX12_readClause_203 rfl rfl (by omega) (fun x1539 h1540 => ?_)
                      refine lv_aload_n hx hb dX12_readClause_204 rfl (lv_at hl 3 rfl) ?_
                      refine fg_RX12_229 E hW rh0 dX12_readClause_205 (fun y1541 m1542 b1543 => ?_)
                      obtain rfl : y1526 = y1541 := (m1527).symm.trans m1542
                      have hw1548 := hW.2.2.2
                      refine gs_840 E hW rN ⟨by omega, by omega⟩ dX12_readClause_208 (fun f1544 H locs e1545 n1546 g1547 hW => ?_)
                      have z1549 : DJ f0 f1544 h0 pF21.toInt pF21.toInt y1526.toInt y1526.toInt y1526.toInt := dj_keep z1534 hw1548 g1547 rh0 rfl (fun q => by rw [fm_I g1547 rh0 rfl]; exact q)
                      have hF := FM.tr hF g1547 rfl
                      have q1550 : x1539.toInt = 8 * pF19.toInt + 4 := by omega
                      have q1551 : 0 ≤ 8 * pF19.toInt := by omega
                      have z1552 : ∀ j : Nat, (j : Int) < 8 * pF19.toInt → aI (f1544 pN) j = aI (f0 pN) j := pre_st2 z1505 e1545 q1550 q1551 (by decide)
                      clear z1505
                      have z1553 : aI (f1544 pN) (8 * pF19.toInt + 0).toNat = x6 := ent_no2 z1506 e1545 q1550 q1551 (by decide)
                      have z1554 : aI (f1544 pN) (8 * pF19.toInt + 1).toNat = 0 := ent_no2 z1507 e1545 q1550 q1551 (by decide)
                      have z1555 : aI (f1544 pN) (8 * pF19.toInt + 2).toNat = 0 := ent_no2 z1508 e1545 q1550 q1551 (by decide)
                      have z1556 : aI (f1544 pN) (8 * pF19.toInt + 3).toNat = pF21 := ent_no2 z1509 e1545 q1550 q1551 (by decide)
                      have z1557 : aI (f1544 pN) (8 * pF19.toInt + 4).toNat = y1526 := ent_st2 e1545 q1550 q1551 (by decide)
                      have z1558 : aI (f1544 pN) (8 * pF19.toInt + 5).toNat = 0 := ent_no2 z1511 e1545 q1550 q1551 (by decide)
                      have z1559 : aI (f1544 pN) (8 * pF19.toInt + 6).toNat = 0 := ent_no2 z1512 e1545 q1550 q1551 (by decide)
                      clear q1550 q1551
                      clear z1506 z1507 z1508 z1509 z1510 z1511 z1512
                      refine lv_aload_n hx hb dX12_readClause_209 rfl (lv_at hl 3 rfl) ?_
                      refine fg_RX12_39 E hW rh0 dX12_readClause_210 (fun a1560 m1561 r1562 => ?_)
                      obtain rfl : pN = a1560 := (((fm_R g1547 rh0 rfl).trans m1537)).symm.trans m1561
                      refine lv_iload_n hx hb dX12_readClause_213 rfl (lv_at hl 1 rfl) ?_
                      refine lv_iconst (v := 5) hx hb dX12_readClause_214 (by decide) ?_
                      refine q_iadd (Y := 5) hx hb dX12_readClause_215 rfl rfl (by omega) (fun x1563 h1564 => ?_)
                      refine lv_aload_n hx hb dX12_readClause_216 rfl (lv_at hl 3 rfl) ?_
                      refine fg_RX12_229 E hW rh0 dX12_readClause_217 (fun y1565 m1566 b1567 => ?_)
                      obtain rfl : y1526 = y1565 := (((fm_I g1547 rh0 rfl).trans m1542)).symm.trans m1566
                      have hw1572 := hW.2.2.2
                      refine gs_840 E hW rN ⟨by omega, by omega⟩ dX12_readClause_220 (fun f1568 H locs e1569 n1570 g1571 hW => ?_)
                      have z1573 : DJ f0 f1568 h0 pF21.toInt pF21.toInt y1526.toInt y1526.toInt y1526.toInt := dj_keep z1549 hw1572 g1571 rh0 rfl (fun q => by rw [fm_I g1571 rh0 rfl]; exact q)
                      have hF := FM.tr hF g1571 rfl
                      have q1574 : x1563.toInt = 8 * pF19.toInt + 5 := by omega
                      have q1575 : 0 ≤ 8 * pF19.toInt := by omega
                      have z1576 : ∀ j : Nat, (j : Int) < 8 * pF19.toInt → aI (f1568 pN) j = aI (f0 pN) j := pre_st2 z1552 e1569 q1574 q1575 (by decide)
                      clear z1552
                      have z1577 : aI (f1568 pN) (8 * pF19.toInt + 0).toNat = x6 := ent_no2 z1553 e1569 q1574 q1575 (by decide)
                      have z1578 : aI (f1568 pN) (8 * pF19.toInt + 1).toNat = 0 := ent_no2 z1554 e1569 q1574 q1575 (by decide)
                      have z1579 : aI (f1568 pN) (8 * pF19.toInt + 2).toNat = 0 := ent_no2 z1555 e1569 q1574 q1575 (by decide)
                      have z1580 : aI (f1568 pN) (8 * pF19.toInt + 3).toNat = pF21 := ent_no2 z1556 e1569 q1574 q1575 (by decide)
                      have z1581 : aI (f1568 pN) (8 * pF19.toInt + 4).toNat = y1526 := ent_no2 z1557 e1569 q1574 q1575 (by decide)
                      have z1582 : aI (f1568 pN) (8 * pF19.toInt + 5).toNat = y1526 := ent_st2 e1569 q1574 q1575 (by decide)
                      have z1583 : aI (f1568 pN) (8 * pF19.toInt + 6).toNat = 0 := ent_no2 z1559 e1569 q1574 q1575 (by decide)
                      clear q1574 q1575
                      clear z1553 z1554 z1555 z1556 z1557 z1558 z1559
                      refine lv_aload_n hx hb dX12_readClause_221 rfl (lv_at hl 3 rfl) ?_
                      refine fg_RX12_193 E hW rh0 dX12_readClause_222 (fun y1584 m1585 b1586 => ?_)
                      obtain rfl : y1523 = y1584 := (((fm_I g1571 rh0 rfl).trans ((fm_I g1547 rh0 rfl).trans m1524))).symm.trans m1585
                      refine q_if_ne (tgt := 247) hx hb dX12_readClause_225 (by decide) rfl (fun c1587 => ?_) (fun c1587 => ?_)
                      · refine lv_aload_n hx hb dX12_readClause_247 rfl (lv_at hl 3 rfl) ?_
                        refine fg_RX12_39 E hW rh0 dX12_readClause_248 (fun a1588 m1589 r1590 => ?_)
                        obtain rfl : pN = a1588 := (((fm_R g1571 rh0 rfl).trans m1561)).symm.trans m1589
                        refine lv_iload_n hx hb dX12_readClause_251 rfl (lv_at hl 1 rfl) ?_
                        refine lv_bipush (v := 6) hx hb dX12_readClause_252 (by decide) ?_
                        refine q_iadd (Y := 6) hx hb dX12_readClause_254 rfl rfl (by omega) (fun x1591 h1592 => ?_)
                        refine lv_aload_n hx hb dX12_readClause_255 rfl (lv_at hl 3 rfl) ?_
                        refine fg_RX12_229 E hW rh0 dX12_readClause_256 (fun y1593 m1594 b1595 => ?_)
                        obtain rfl : y1526 = y1593 := (((fm_I g1571 rh0 rfl).trans m1566)).symm.trans m1594
                        have hw1600 := hW.2.2.2
                        refine gs_840 E hW rN ⟨by omega, by omega⟩ dX12_readClause_259 (fun f1596 H locs e1597 n1598 g1599 hW => ?_)
                        have m1601 : oR (f1596 h0) 2 = pR := ((fm_R g1599 rh0 rfl).trans ((fm_R g1571 rh0 rfl).trans ((fm_R g1547 rh0 rfl).trans ((fm_R g1500 rh0 rfl).trans ((fm_R g1015 rh0 rfl).trans ((fm_R g991 rh0 rfl).trans ((fm_R g969 rh0 rfl).trans m944)))))))
                        have m1602 : oI (f1596 h0) 12 = pF12 := ((fm_I g1599 rh0 rfl).trans ((fm_I g1571 rh0 rfl).trans ((fm_I g1547 rh0 rfl).trans ((fm_I g1500 rh0 rfl).trans ((fm_I g1015 rh0 rfl).trans ((fm_I g991 rh0 rfl).trans ((fm_I g969 rh0 rfl).trans m945)))))))
                        have z1603 : DJ f0 f1596 h0 pF21.toInt pF21.toInt y1526.toInt y1526.toInt y1526.toInt := dj_keep z1573 hw1600 g1599 rh0 rfl (fun q => by rw [fm_I g1599 rh0 rfl]; exact q)
                        have hF := FM.tr hF g1599 rfl
                        have q1604 : x1591.toInt = 8 * pF19.toInt + 6 := by omega
                        have q1605 : 0 ≤ 8 * pF19.toInt := by omega
                        have z1606 : ∀ j : Nat, (j : Int) < 8 * pF19.toInt → aI (f1596 pN) j = aI (f0 pN) j := pre_st2 z1576 e1597 q1604 q1605 (by decide)
                        clear z1576
                        have z1607 : aI (f1596 pN) (8 * pF19.toInt + 0).toNat = x6 := ent_no2 z1577 e1597 q1604 q1605 (by decide)
                        have z1608 : aI (f1596 pN) (8 * pF19.toInt + 1).toNat = 0 := ent_no2 z1578 e1597 q1604 q1605 (by decide)
                        have z1609 : aI (f1596 pN) (8 * pF19.toInt + 2).toNat = 0 := ent_no2 z1579 e1597 q1604 q1605 (by decide)
                        have z1610 : aI (f1596 pN) (8 * pF19.toInt + 3).toNat = pF21 := ent_no2 z1580 e1597 q1604 q1605 (by decide)
                        have z1611 : aI (f1596 pN) (8 * pF19.toInt + 4).toNat = y1526 := ent_no2 z1581 e1597 q1604 q1605 (by decide)
                        have z1612 : aI (f1596 pN) (8 * pF19.toInt + 5).toNat = y1526 := ent_no2 z1582 e1597 q1604 q1605 (by decide)
                        have z1613 : aI (f1596 pN) (8 * pF19.toInt + 6).toNat = y1526 := ent_st2 e1597 q1604 q1605 (by decide)
                        clear q1604 q1605
                        clear z1577 z1578 z1579 z1580 z1581 z1582 z1583
                        exact e_V E hW rfl ⟨rfl, hF, (by simp only [m1602, mF12, ((fm_I g1599 rh0 rfl).trans ((fm_I g1571 rh0 rfl).trans ((fm_I g1547 rh0 rfl).trans m1515))), mF13, ((fm_I g1599 rh0 rfl).trans ((fm_I g1571 rh0 rfl).trans ((fm_I g1547 rh0 rfl).trans m1518))), mF14, ((fm_I g1599 rh0 rfl).trans ((fm_I g1571 rh0 rfl).trans ((fm_I g1547 rh0 rfl).trans m1521))), mF15, ((fm_I g1599 rh0 rfl).trans m1585), mF18, ((fm_I g1599 rh0 rfl).trans m1594), mF21, ((fm_J g1599 rh0 rfl).trans ((fm_J g1571 rh0 rfl).trans ((fm_J g1547 rh0 rfl).trans m1533))), mW, and_true, true_and, true_or, or_true, false_or, or_false] <;> omega), (Or.inl (by rw [((fm_I g1599 rh0 rfl).trans m1585)]; omega))⟩ dX12_readClause_260
                      · refine lv_aload_n hx hb dX12_readClause_228 rfl (lv_at hl 3 rfl) ?_
                        refine lv_ldc2 (v := 294) hx hb hown (hts _ tw_1904) dX12_readClause_229 ?_
                        have hw1617 := hW.2.2.2
                        refine t_callV (As := [.long 294]) (rest := []) E hW (c_X12_isWord l G cI cJ cZ cD cR cT kp L f1568 hW.2.2.2 _ h0 294 rh0 (by decide)) rh0 (by decide) rfl wk_X12_isWord tw_1797 rfl ⟨Nat.le_of_ble_eq_true rfl, Nat.le_of_ble_eq_true rfl⟩ ⟨rfl, rfl⟩ hl.1 rfl (Nat.le_of_ble_eq_true rfl) dX12_readClause_232 ⟨Nat.le_of_ble_eq_true rfl, Nat.le_of_ble_eq_true rfl⟩ (fun v1614 f1615 H locs q1616 hW => ?_)
                        obtain ⟨⟨x1619, rfl, p1620⟩, g1618⟩ := q1616
                        simp only [((fm_I g1571 rh0 rfl).trans ((fm_I g1547 rh0 rfl).trans m1521)), ((fm_J g1571 rh0 rfl).trans ((fm_J g1547 rh0 rfl).trans m1533))] at p1620
                        have p1620 : (x1619.toInt = 1 ∧ y1520.toInt = 1 ∧ y1532.toInt = 294) ∨ x1619.toInt = 0 := p1620
                        have m1621 : oR (f1615 h0) 2 = pR := ((fm_R g1618 rh0 rfl).trans ((fm_R g1571 rh0 rfl).trans ((fm_R g1547 rh0 rfl).trans ((fm_R g1500 rh0 rfl).trans ((fm_R g1015 rh0 rfl).trans ((fm_R g991 rh0 rfl).trans ((fm_R g969 rh0 rfl).trans m944)))))))
                        have m1622 : oI (f1615 h0) 12 = pF12 := ((fm_I g1618 rh0 rfl).trans ((fm_I g1571 rh0 rfl).trans ((fm_I g1547 rh0 rfl).trans ((fm_I g1500 rh0 rfl).trans ((fm_I g1015 rh0 rfl).trans ((fm_I g991 rh0 rfl).trans ((fm_I g969 rh0 rfl).trans m945)))))))
                        have m1623 : aI (f1615 pN) (x662 : Int32).toNatClampNeg = x6 := ((congrArg (fun z => aI z (x662 : Int32).toNatClampNeg) (fm_A g1618 rN (by decide) rfl)).trans (show aI (f1568 pN) (x662 : Int32).toNatClampNeg = x6 from by rw [e1569, up_n (tn_ne (by omega) (by omega) (by omega))]; exact (show aI (f1544 pN) (x662 : Int32).toNatClampNeg = x6 from by rw [e1545, up_n (tn_ne (by omega) (by omega) (by omega))]; exact m1503)))
                        have m1624 : aI (f1615 pN) (x1007 : Int32).toNatClampNeg = pF21 := ((congrArg (fun z => aI z (x1007 : Int32).toNatClampNeg) (fm_A g1618 rN (by decide) rfl)).trans (show aI (f1568 pN) (x1007 : Int32).toNatClampNeg = pF21 from by rw [e1569, up_n (tn_ne (by omega) (by omega) (by omega))]; exact (show aI (f1544 pN) (x1007 : Int32).toNatClampNeg = pF21 from by rw [e1545, up_n (tn_ne (by omega) (by omega) (by omega))]; exact m1504)))
                        have m1625 : aI (f1615 pN) (x1539 : Int32).toNatClampNeg = y1526 := ((congrArg (fun z => aI z (x1539 : Int32).toNatClampNeg) (fm_A g1618 rN (by decide) rfl)).trans (show aI (f1568 pN) (x1539 : Int32).toNatClampNeg = y1526 from by rw [e1569, up_n (tn_ne (by omega) (by omega) (by omega))]; exact (show aI (f1544 pN) (x1539 : Int32).toNatClampNeg = y1526 from by rw [e1545]; exact up_s)))
                        have m1626 : aI (f1615 pN) (x1563 : Int32).toNatClampNeg = y1526 := ((congrArg (fun z => aI z (x1563 : Int32).toNatClampNeg) (fm_A g1618 rN (by decide) rfl)).trans (show aI (f1568 pN) (x1563 : Int32).toNatClampNeg = y1526 from by rw [e1569]; exact up_s))
                        have z1627 : DJ f0 f1615 h0 pF21.toInt pF21.toInt y1526.toInt y1526.toInt y1526.toInt := dj_keep z1573 hw1617 g1618 rh0 rfl (fun q => by rw [fm_I g1618 rh0 rfl]; exact q)
                        have z1628 : ∀ j : Nat, (j : Int) < 8 * pF19.toInt → aI (f1615 pN) j = aI (f0 pN) j := by rw [fm_A g1618 rN (by decide) rfl]; exact z1576
                        clear z1576
                        have z1629 : aI (f1615 pN) (8 * pF19.toInt + 0).toNat = x6 := by rw [fm_A g1618 rN (by decide) rfl]; exact z1577
                        have z1630 : aI (f1615 pN) (8 * pF19.toInt + 1).toNat = 0 := by rw [fm_A g1618 rN (by decide) rfl]; exact z1578
                        have z1631 : aI (f1615 pN) (8 * pF19.toInt + 2).toNat = 0 := by rw [fm_A g1618 rN (by decide) rfl]; exact z1579
                        have z1632 : aI (f1615 pN) (8 * pF19.toInt + 3).toNat = pF21 := by rw [fm_A g1618 rN (by decide) rfl]; exact z1580
                        have z1633 : aI (f1615 pN) (8 * pF19.toInt + 4).toNat = y1526 := by rw [fm_A g1618 rN (by decide) rfl]; exact z1581
                        have z1634 : aI (f1615 pN) (8 * pF19.toInt + 5).toNat = y1526 := by rw [fm_A g1618 rN (by decide) rfl]; exact z1582
                        have z1635 : aI (f1615 pN) (8 * pF19.toInt + 6).toNat = 0 := by rw [fm_A g1618 rN (by decide) rfl]; exact z1583
                        clear z1577 z1578 z1579 z1580 z1581 z1582 z1583
                        have hF := FM.tr hF g1618 rfl
                        refine q_if_eq (tgt := 247) hx hb dX12_readClause_235 (by decide) rfl (fun c1636 => ?_) (fun c1636 => ?_)
                        · clear p1620
                          refine lv_aload_n hx hb dX12_readClause_247 rfl (lv_at hl 3 rfl) ?_
                          refine fg_RX12_39 E hW rh0 dX12_readClause_248 (fun a1637 m1638 r1639 => ?_)
                          obtain rfl : pN = a1637 := (((fm_R g1618 rh0 rfl).trans ((fm_R g1571 rh0 rfl).trans m1561))).symm.trans m1638
                          refine lv_iload_n hx hb dX12_readClause_251 rfl (lv_at hl 1 rfl) ?_
                          refine lv_bipush (v := 6) hx hb dX12_readClause_252 (by decide) ?_
                          refine q_iadd (Y := 6) hx hb dX12_readClause_254 rfl rfl (by omega) (fun x1640 h1641 => ?_)
                          refine lv_aload_n hx hb dX12_readClause_255 rfl (lv_at hl 3 rfl) ?_
                          refine fg_RX12_229 E hW rh0 dX12_readClause_256 (fun y1642 m1643 b1644 => ?_)
                          obtain rfl : y1526 = y1642 := (((fm_I g1618 rh0 rfl).trans ((fm_I g1571 rh0 rfl).trans m1566))).symm.trans m1643
                          have hw1649 := hW.2.2.2
                          refine gs_840 E hW rN ⟨by omega, by omega⟩ dX12_readClause_259 (fun f1645 H locs e1646 n1647 g1648 hW => ?_)
                          have z1650 : DJ f0 f1645 h0 pF21.toInt pF21.toInt y1526.toInt y1526.toInt y1526.toInt := dj_keep z1627 hw1649 g1648 rh0 rfl (fun q => by rw [fm_I g1648 rh0 rfl]; exact q)
                          have hF := FM.tr hF g1648 rfl
                          have q1651 : x1640.toInt = 8 * pF19.toInt + 6 := by omega
                          have q1652 : 0 ≤ 8 * pF19.toInt := by omega
                          have z1653 : ∀ j : Nat, (j : Int) < 8 * pF19.toInt → aI (f1645 pN) j = aI (f0 pN) j := pre_st2 z1628 e1646 q1651 q1652 (by decide)
                          clear z1628
                          have z1654 : aI (f1645 pN) (8 * pF19.toInt + 0).toNat = x6 := ent_no2 z1629 e1646 q1651 q1652 (by decide)
                          have z1655 : aI (f1645 pN) (8 * pF19.toInt + 1).toNat = 0 := ent_no2 z1630 e1646 q1651 q1652 (by decide)
                          have z1656 : aI (f1645 pN) (8 * pF19.toInt + 2).toNat = 0 := ent_no2 z1631 e1646 q1651 q1652 (by decide)
                          have z1657 : aI (f1645 pN) (8 * pF19.toInt + 3).toNat = pF21 := ent_no2 z1632 e1646 q1651 q1652 (by decide)
                          have z1658 : aI (f1645 pN) (8 * pF19.toInt + 4).toNat = y1526 := ent_no2 z1633 e1646 q1651 q1652 (by decide)
                          have z1659 : aI (f1645 pN) (8 * pF19.toInt + 5).toNat = y1526 := ent_no2 z1634 e1646 q1651 q1652 (by decide)
                          have z1660 : aI (f1645 pN) (8 * pF19.toInt + 6).toNat = y1526 := ent_st2 e1646 q1651 q1652 (by decide)
                          clear q1651 q1652
                          clear z1629 z1630 z1631 z1632 z1633 z1634 z1635
                          exact e_V E hW rfl ⟨rfl, hF, (by simp only [((fm_I g1648 rh0 rfl).trans m1622), mF12, ((fm_I g1648 rh0 rfl).trans ((fm_I g1618 rh0 rfl).trans ((fm_I g1571 rh0 rfl).trans ((fm_I g1547 rh0 rfl).trans m1515)))), mF13, ((fm_I g1648 rh0 rfl).trans ((fm_I g1618 rh0 rfl).trans ((fm_I g1571 rh0 rfl).trans ((fm_I g1547 rh0 rfl).trans m1518)))), mF14, ((fm_I g1648 rh0 rfl).trans ((fm_I g1618 rh0 rfl).trans ((fm_I g1571 rh0 rfl).trans ((fm_I g1547 rh0 rfl).trans m1521)))), mF15, ((fm_I g1648 rh0 rfl).trans ((fm_I g1618 rh0 rfl).trans m1585)), mF18, ((fm_I g1648 rh0 rfl).trans m1643), mF21, ((fm_J g1648 rh0 rfl).trans ((fm_J g1618 rh0 rfl).trans ((fm_J g1571 rh0 rfl).trans ((fm_J g1547 rh0 rfl).trans m1533)))), mW, and_true, true_and, true_or, or_true, false_or, or_false] <;> omega), (by have hk0 : (0 : Int32).toInt = 0 := rfl; rw [((fm_I g1648 rh0 rfl).trans m1643), ((fm_I g1648 rh0 rfl).trans ((fm_I g1618 rh0 rfl).trans ((fm_I g1571 rh0 rfl).trans ((fm_I g1547 rh0 rfl).trans ((fm_I g1500 rh0 rfl).trans ((fm_I g1015 rh0 rfl).trans e989))))))]; exact cl_end (nc := y1526.toInt) (hd := x6) (r1 := 0) (r2 := 0) (show CLs _ _ _ pF21.toInt pF19.toInt from hC) (by omega) (show DJ f0 f1645 h0 pF21.toInt (pF21 : Int32).toInt (y1526 : Int32).toInt (y1526 : Int32).toInt (y1526 : Int32).toInt from z1650) (fun j hj => by unfold vN; rw [((fm_R g1648 rh0 rfl).trans m1638), mN]; exact z1653 j hj) (by unfold vN; rw [((fm_R g1648 rh0 rfl).trans m1638)]; exact z1654) (by unfold vN; rw [((fm_R g1648 rh0 rfl).trans m1638)]; exact z1655) (by unfold vN; rw [((fm_R g1648 rh0 rfl).trans m1638)]; exact z1656) (by unfold vN; rw [((fm_R g1648 rh0 rfl).trans m1638)]; exact z1657) (by unfold vN; rw [((fm_R g1648 rh0 rfl).trans m1638)]; exact z1658) (by unfold vN; rw [((fm_R g1648 rh0 rfl).trans m1638)]; exact z1659) (by unfold vN; rw [((fm_R g1648 rh0 rfl).trans m1638)]; exact z1660) (by rw [((fm_I g1648 rh0 rfl).trans ((fm_I g1618 rh0 rfl).trans m1585))]; omega) (by omega) (by omega))⟩ dX12_readClause_260
                        · have q1661 : y1520.toInt = 1 ∧ y1532.toInt = 294 := by omega
                          clear p1620
                          refine lv_aload_n hx hb dX12_readClause_238 rfl (lv_at hl 3 rfl) ?_
                          have hw1665 := hW.2.2.2
                          refine t_callV (As := []) (rest := []) E hW (c_X12_next l G cI cJ cZ cD cR cT kp L f1615 hW.2.2.2 _ h0 rh0 (by simp only [m1622, ((fm_I g1618 rh0 rfl).trans ((fm_I g1571 rh0 rfl).trans ((fm_I g1547 rh0 rfl).trans m1518))), and_true, true_and, true_or, or_true, false_or, or_false] <;> omega)) rh0 (by decide) rfl wk_X12_next tw_1773 rfl ⟨Nat.le_of_ble_eq_true rfl, Nat.le_of_ble_eq_true rfl⟩ ⟨rfl, rfl⟩ hl.1 rfl (Nat.le_of_ble_eq_true rfl) dX12_readClause_239 ⟨Nat.le_of_ble_eq_true rfl, Nat.le_of_ble_eq_true rfl⟩ (fun v1662 f1663 H locs q1664 hW => ?_)
                          obtain ⟨rfl, g1666, h1667⟩ := q1664
                          have z1668 : DJ f0 f1663 h0 pF21.toInt pF21.toInt y1526.toInt y1526.toInt y1526.toInt := dj_keep z1627 hw1665 g1666 rh0 rfl (fun q => by rw [fm_I g1666 rh0 rfl]; exact q)
                          have z1669 : ∀ j : Nat, (j : Int) < 8 * pF19.toInt → aI (f1663 pN) j = aI (f0 pN) j := by rw [fm_A g1666 rN (by decide) rfl]; exact z1628
                          clear z1628
                          have z1670 : aI (f1663 pN) (8 * pF19.toInt + 0).toNat = x6 := by rw [fm_A g1666 rN (by decide) rfl]; exact z1629
                          have z1671 : aI (f1663 pN) (8 * pF19.toInt + 1).toNat = 0 := by rw [fm_A g1666 rN (by decide) rfl]; exact z1630
                          have z1672 : aI (f1663 pN) (8 * pF19.toInt + 2).toNat = 0 := by rw [fm_A g1666 rN (by decide) rfl]; exact z1631
                          have z1673 : aI (f1663 pN) (8 * pF19.toInt + 3).toNat = pF21 := by rw [fm_A g1666 rN (by decide) rfl]; exact z1632
                          have z1674 : aI (f1663 pN) (8 * pF19.toInt + 4).toNat = y1526 := by rw [fm_A g1666 rN (by decide) rfl]; exact z1633
                          have z1675 : aI (f1663 pN) (8 * pF19.toInt + 5).toNat = y1526 := by rw [fm_A g1666 rN (by decide) rfl]; exact z1634
                          have z1676 : aI (f1663 pN) (8 * pF19.toInt + 6).toNat = 0 := by rw [fm_A g1666 rN (by decide) rfl]; exact z1635
                          clear z1629 z1630 z1631 z1632 z1633 z1634 z1635
                          have hF := FM.tr hF g1666 rfl
                          obtain ⟨y1677, m1678⟩ : ∃ x : Int32, oI (f1663 h0) 13 = x := ⟨_, rfl⟩
                          have b1679 : (0 : Int) ≤ y1677.toInt ∧ y1677.toInt ≤ 400 := by rw [← m1678]; exact th_iv hW rh0 (by decide) (by decide) rfl
                          obtain ⟨y1680, m1681⟩ : ∃ x : Int32, oI (f1663 h0) 14 = x := ⟨_, rfl⟩
                          have b1682 : (0 : Int) ≤ y1680.toInt ∧ y1680.toInt ≤ 400 := by rw [← m1681]; exact th_iv hW rh0 (by decide) (by decide) rfl
                          obtain ⟨y1683, m1684⟩ : ∃ x : Int32, oI (f1663 h0) 15 = x := ⟨_, rfl⟩
                          have b1685 : (0 : Int) ≤ y1683.toInt ∧ y1683.toInt ≤ 3 := by rw [← m1684]; exact th_iv hW rh0 (by decide) (by decide) rfl
                          obtain ⟨y1686, m1687⟩ : ∃ x : Int64, oJ (f1663 h0) 16 = x := ⟨_, rfl⟩
                          simp only [((fm_I g1666 rh0 rfl).trans m1622), m1622, m1678, ((fm_I g1618 rh0 rfl).trans ((fm_I g1571 rh0 rfl).trans ((fm_I g1547 rh0 rfl).trans m1515))), m1681, ((fm_I g1618 rh0 rfl).trans ((fm_I g1571 rh0 rfl).trans ((fm_I g1547 rh0 rfl).trans m1518))), m1684, ((fm_I g1618 rh0 rfl).trans ((fm_I g1571 rh0 rfl).trans ((fm_I g1547 rh0 rfl).trans m1521))), m1687, ((fm_J g1618 rh0 rfl).trans ((fm_J g1571 rh0 rfl).trans ((fm_J g1547 rh0 rfl).trans m1533)))] at h1667
                          refine lv_aload_n hx hb dX12_readClause_242 rfl (lv_at hl 3 rfl) ?_
                          refine lv_iconst (v := 1) hx hb dX12_readClause_243 (by decide) ?_
                          have hw1692 := hW.2.2.2
                          refine t_callV (As := [.int 1]) (rest := []) E hW (c_X12_readExpression l G cI cJ cZ cD cR cT kp L f1663 hW.2.2.2 _ h0 1 rh0 (by decide) (by have hkq1688 : (1 : Int32).toInt = 1 := rfl; simp only [((fm_I g1666 rh0 rfl).trans m1622), m1678, m1681, m1684, ((fm_I g1666 rh0 rfl).trans ((fm_I g1618 rh0 rfl).trans m1585)), ((fm_I g1666 rh0 rfl).trans ((fm_I g1618 rh0 rfl).trans ((fm_I g1571 rh0 rfl).trans m1566))), m1687, and_true, true_and, true_or, or_true, false_or, or_false] <;> omega)) rh0 (by decide) rfl wk_X12_readExpression tw_1819 rfl ⟨Nat.le_of_ble_eq_true rfl, Nat.le_of_ble_eq_true rfl⟩ ⟨rfl, rfl⟩ hl.1 rfl (Nat.le_of_ble_eq_true rfl) dX12_readClause_244 ⟨Nat.le_of_ble_eq_true rfl, Nat.le_of_ble_eq_true rfl⟩ (fun v1689 f1690 H locs q1691 hW => ?_)
                          obtain ⟨rfl, g1693, h1694, h1695⟩ := q1691
                          have m1696 : oI (f1690 h0) 19 = x986 := ((fm_I g1693 rh0 rfl).trans ((fm_I g1666 rh0 rfl).trans ((fm_I g1618 rh0 rfl).trans ((fm_I g1571 rh0 rfl).trans ((fm_I g1547 rh0 rfl).trans ((fm_I g1500 rh0 rfl).trans ((fm_I g1015 rh0 rfl).trans e989)))))))
                          have m1697 : aI (f1690 pN) (x662 : Int32).toNatClampNeg = x6 := ((congrArg (fun z => aI z (x662 : Int32).toNatClampNeg) (fm_A g1693 rN (by decide) rfl)).trans ((congrArg (fun z => aI z (x662 : Int32).toNatClampNeg) (fm_A g1666 rN (by decide) rfl)).trans m1623))
                          have m1698 : aI (f1690 pN) (x1007 : Int32).toNatClampNeg = pF21 := ((congrArg (fun z => aI z (x1007 : Int32).toNatClampNeg) (fm_A g1693 rN (by decide) rfl)).trans ((congrArg (fun z => aI z (x1007 : Int32).toNatClampNeg) (fm_A g1666 rN (by decide) rfl)).trans m1624))
                          have m1699 : aI (f1690 pN) (x1539 : Int32).toNatClampNeg = y1526 := ((congrArg (fun z => aI z (x1539 : Int32).toNatClampNeg) (fm_A g1693 rN (by decide) rfl)).trans ((congrArg (fun z => aI z (x1539 : Int32).toNatClampNeg) (fm_A g1666 rN (by decide) rfl)).trans m1625))
                          have m1700 : aI (f1690 pN) (x1563 : Int32).toNatClampNeg = y1526 := ((congrArg (fun z => aI z (x1563 : Int32).toNatClampNeg) (fm_A g1693 rN (by decide) rfl)).trans ((congrArg (fun z => aI z (x1563 : Int32).toNatClampNeg) (fm_A g1666 rN (by decide) rfl)).trans m1626))
                          have z1701 : ∀ j : Nat, (j : Int) < 8 * pF19.toInt → aI (f1690 pN) j = aI (f0 pN) j := by rw [fm_A g1693 rN (by decide) rfl]; exact z1669
                          clear z1669
                          have z1702 : aI (f1690 pN) (8 * pF19.toInt + 0).toNat = x6 := by rw [fm_A g1693 rN (by decide) rfl]; exact z1670
                          have z1703 : aI (f1690 pN) (8 * pF19.toInt + 1).toNat = 0 := by rw [fm_A g1693 rN (by decide) rfl]; exact z1671
                          have z1704 : aI (f1690 pN) (8 * pF19.toInt + 2).toNat = 0 := by rw [fm_A g1693 rN (by decide) rfl]; exact z1672
                          have z1705 : aI (f1690 pN) (8 * pF19.toInt + 3).toNat = pF21 := by rw [fm_A g1693 rN (by decide) rfl]; exact z1673
                          have z1706 : aI (f1690 pN) (8 * pF19.toInt + 4).toNat = y1526 := by rw [fm_A g1693 rN (by decide) rfl]; exact z1674
                          have z1707 : aI (f1690 pN) (8 * pF19.toInt + 5).toNat = y1526 := by rw [fm_A g1693 rN (by decide) rfl]; exact z1675
                          have z1708 : aI (f1690 pN) (8 * pF19.toInt + 6).toNat = 0 := by rw [fm_A g1693 rN (by decide) rfl]; exact z1676
                          clear z1670 z1671 z1672 z1673 z1674 z1675 z1676
                          have hF := FM.tr hF g1693 rfl
                          have hk1709 : (1 : Int32).toInt = 1 := rfl
                          obtain ⟨y1710, m1711⟩ : ∃ x : Int32, oI (f1690 h0) 13 = x := ⟨_, rfl⟩
                          have b1712 : (0 : Int) ≤ y1710.toInt ∧ y1710.toInt ≤ 400 := by rw [← m1711]; exact th_iv hW rh0 (by decide) (by decide) rfl
                          obtain ⟨y1713, m1714⟩ : ∃ x : Int32, oI (f1690 h0) 14 = x := ⟨_, rfl⟩
                          have b1715 : (0 : Int) ≤ y1713.toInt ∧ y1713.toInt ≤ 400 := by rw [← m1714]; exact th_iv hW rh0 (by decide) (by decide) rfl
                          obtain ⟨y1716, m1717⟩ : ∃ x : Int32, oI (f1690 h0) 15 = x := ⟨_, rfl⟩
                          have b1718 : (0 : Int) ≤ y1716.toInt ∧ y1716.toInt ≤ 3 := by rw [← m1717]; exact th_iv hW rh0 (by decide) (by decide) rfl
                          obtain ⟨y1719, m1720⟩ : ∃ x : Int32, oI (f1690 h0) 18 = x := ⟨_, rfl⟩
                          have b1721 : (0 : Int) ≤ y1719.toInt ∧ y1719.toInt ≤ 1 := by rw [← m1720]; exact th_iv hW rh0 (by decide) (by decide) rfl
                          obtain ⟨y1722, m1723⟩ : ∃ x : Int32, oI (f1690 h0) 21 = x := ⟨_, rfl⟩
                          have b1724 : (0 : Int) ≤ y1722.toInt ∧ y1722.toInt ≤ 400 := by rw [← m1723]; exact th_iv hW rh0 (by decide) (by decide) rfl
                          obtain ⟨y1725, m1726⟩ : ∃ x : Int32, oI (f1690 h0) 27 = x := ⟨_, rfl⟩
                          have b1727 : (0 : Int) ≤ y1725.toInt ∧ y1725.toInt ≤ 400 := by rw [← m1726]; exact th_iv hW rh0 (by decide) (by decide) rfl
                          obtain ⟨y1728, m1729⟩ : ∃ x : Int64, oJ (f1690 h0) 16 = x := ⟨_, rfl⟩
                          simp only [((fm_I g1693 rh0 rfl).trans ((fm_I g1666 rh0 rfl).trans m1622)), ((fm_I g1666 rh0 rfl).trans m1622), m1711, m1678, m1714, m1681, m1717, m1684, m1720, ((fm_I g1666 rh0 rfl).trans ((fm_I g1618 rh0 rfl).trans m1585)), m1723, ((fm_I g1666 rh0 rfl).trans ((fm_I g1618 rh0 rfl).trans ((fm_I g1571 rh0 rfl).trans m1566))), m1726, ((fm_I g1666 rh0 rfl).trans ((fm_I g1618 rh0 rfl).trans ((fm_I g1571 rh0 rfl).trans ((fm_I g1547 rh0 rfl).trans m1530)))), m1729, m1687] at h1694
                          have z1731 := h1695
                          rw [((fm_I g1666 rh0 rfl).trans ((fm_I g1618 rh0 rfl).trans ((fm_I g1571 rh0 rfl).trans m1566))), m1723] at z1731
                          have z1730 : DJ f0 f1690 h0 pF21.toInt pF21.toInt y1526.toInt y1526.toInt y1722.toInt := dj_ex2 z1668 (by rw [((fm_I g1666 rh0 rfl).trans ((fm_I g1618 rh0 rfl).trans m1585))]; omega) (by omega) (by omega) (by omega) z1731
                          refine lv_aload_n hx hb dX12_readClause_247 rfl (lv_at hl 3 rfl) ?_
                          refine fg_RX12_39 E hW rh0 dX12_readClause_248 (fun a1732 m1733 r1734 => ?_)
                          obtain rfl : pN = a1732 := (((fm_R g1693 rh0 rfl).trans ((fm_R g1666 rh0 rfl).trans ((fm_R g1618 rh0 rfl).trans ((fm_R g1571 rh0 rfl).trans m1561))))).symm.trans m1733
                          refine lv_iload_n hx hb dX12_readClause_251 rfl (lv_at hl 1 rfl) ?_
                          refine lv_bipush (v := 6) hx hb dX12_readClause_252 (by decide) ?_
                          refine q_iadd (Y := 6) hx hb dX12_readClause_254 rfl rfl (by omega) (fun x1735 h1736 => ?_)
                          refine lv_aload_n hx hb dX12_readClause_255 rfl (lv_at hl 3 rfl) ?_
                          refine fg_RX12_229 E hW rh0 dX12_readClause_256 (fun y1737 m1738 b1739 => ?_)
                          obtain rfl : y1722 = y1737 := (m1723).symm.trans m1738
                          have hw1744 := hW.2.2.2
                          refine gs_840 E hW rN ⟨by omega, by omega⟩ dX12_readClause_259 (fun f1740 H locs e1741 n1742 g1743 hW => ?_)
                          have z1745 : DJ f0 f1740 h0 pF21.toInt pF21.toInt y1526.toInt y1526.toInt y1722.toInt := dj_keep z1730 hw1744 g1743 rh0 rfl (fun q => by rw [fm_I g1743 rh0 rfl]; exact q)
                          have hF := FM.tr hF g1743 rfl
                          have q1746 : x1735.toInt = 8 * pF19.toInt + 6 := by omega
                          have q1747 : 0 ≤ 8 * pF19.toInt := by omega
                          have z1748 : ∀ j : Nat, (j : Int) < 8 * pF19.toInt → aI (f1740 pN) j = aI (f0 pN) j := pre_st2 z1701 e1741 q1746 q1747 (by decide)
                          clear z1701
                          have z1749 : aI (f1740 pN) (8 * pF19.toInt + 0).toNat = x6 := ent_no2 z1702 e1741 q1746 q1747 (by decide)
                          have z1750 : aI (f1740 pN) (8 * pF19.toInt + 1).toNat = 0 := ent_no2 z1703 e1741 q1746 q1747 (by decide)
                          have z1751 : aI (f1740 pN) (8 * pF19.toInt + 2).toNat = 0 := ent_no2 z1704 e1741 q1746 q1747 (by decide)
                          have z1752 : aI (f1740 pN) (8 * pF19.toInt + 3).toNat = pF21 := ent_no2 z1705 e1741 q1746 q1747 (by decide)
                          have z1753 : aI (f1740 pN) (8 * pF19.toInt + 4).toNat = y1526 := ent_no2 z1706 e1741 q1746 q1747 (by decide)
                          have z1754 : aI (f1740 pN) (8 * pF19.toInt + 5).toNat = y1526 := ent_no2 z1707 e1741 q1746 q1747 (by decide)
                          have z1755 : aI (f1740 pN) (8 * pF19.toInt + 6).toNat = y1722 := ent_st2 e1741 q1746 q1747 (by decide)
                          clear q1746 q1747
                          clear z1702 z1703 z1704 z1705 z1706 z1707 z1708
                          exact e_V E hW rfl ⟨rfl, hF, (by simp only [((fm_I g1743 rh0 rfl).trans ((fm_I g1693 rh0 rfl).trans ((fm_I g1666 rh0 rfl).trans m1622))), mF12, ((fm_I g1743 rh0 rfl).trans m1711), mF13, ((fm_I g1743 rh0 rfl).trans m1714), mF14, ((fm_I g1743 rh0 rfl).trans m1717), mF15, ((fm_I g1743 rh0 rfl).trans m1720), mF18, ((fm_I g1743 rh0 rfl).trans m1738), mF21, ((fm_J g1743 rh0 rfl).trans m1729), mW, and_true, true_and, true_or, or_true, false_or, or_false] <;> omega), (by have hk0 : (0 : Int32).toInt = 0 := rfl; rw [((fm_I g1743 rh0 rfl).trans m1738), ((fm_I g1743 rh0 rfl).trans m1696)]; exact cl_end (nc := y1722.toInt) (hd := x6) (r1 := 0) (r2 := 0) (show CLs _ _ _ pF21.toInt pF19.toInt from hC) (by omega) (show DJ f0 f1740 h0 pF21.toInt (pF21 : Int32).toInt (y1526 : Int32).toInt (y1526 : Int32).toInt (y1722 : Int32).toInt from z1745) (fun j hj => by unfold vN; rw [((fm_R g1743 rh0 rfl).trans m1733), mN]; exact z1748 j hj) (by unfold vN; rw [((fm_R g1743 rh0 rfl).trans m1733)]; exact z1749) (by unfold vN; rw [((fm_R g1743 rh0 rfl).trans m1733)]; exact z1750) (by unfold vN; rw [((fm_R g1743 rh0 rfl).trans m1733)]; exact z1751) (by unfold vN; rw [((fm_R g1743 rh0 rfl).trans m1733)]; exact z1752) (by unfold vN; rw [((fm_R g1743 rh0 rfl).trans m1733)]; exact z1753) (by unfold vN; rw [((fm_R g1743 rh0 rfl).trans m1733)]; exact z1754) (by unfold vN; rw [((fm_R g1743 rh0 rfl).trans m1733)]; exact z1755) (by rw [((fm_I g1743 rh0 rfl).trans m1720)]; omega) (by omega) (by omega))⟩ dX12_readClause_260
                · refine lv_aload_n hx hb dX12_readClause_137 rfl (lv_at hl 3 rfl) ?_
                  refine fg_RX12_39 E hW rh0 dX12_readClause_138 (fun a1756 m1757 r1758 => ?_)
                  obtain rfl : pN = a1756 := (((fm_R g991 rh0 rfl).trans ((fm_R g969 rh0 rfl).trans m964))).symm.trans m1757
                  refine lv_iload_n hx hb dX12_readClause_141 rfl (lv_at hl 1 rfl) ?_
                  refine lv_iconst (v := 1) hx hb dX12_readClause_142 (by decide) ?_
                  refine q_iadd (Y := 1) hx hb dX12_readClause_143 rfl rfl (by omega) (fun x1759 h1760 => ?_)
                  refine lv_aload_n hx hb dX12_readClause_144 rfl (lv_at hl 3 rfl) ?_
                  refine lv_lconst (v := 0) hx hb dX12_readClause_145 (by decide) ?_
                  refine lv_ldc2 (v := 3) hx hb hown (hts _ tw_1817) dX12_readClause_146 ?_
                  have hw1766 := hW.2.2.2
                  refine t_callV (As := [.long 0, .long 3]) (rest := [.int x1759, .ref pN]) E hW (c_X12_number l G cI cJ cZ cD cR cT kp L f988 hW.2.2.2 _ h0 0 3 rh0 (by decide) (by decide) (by have hkq1761 : (0 : Int64).toInt = 0 := rfl; have hkq1762 : (3 : Int64).toInt = 3 := rfl; simp only [((fm_I g991 rh0 rfl).trans ((fm_I g969 rh0 rfl).trans m945)), ((fm_I g991 rh0 rfl).trans ((fm_I g969 rh0 rfl).trans m946)), ((fm_I g991 rh0 rfl).trans ((fm_I g969 rh0 rfl).trans m947)), ((fm_I g991 rh0 rfl).trans ((fm_I g969 rh0 rfl).trans m948)), ((fm_J g991 rh0 rfl).trans ((fm_J g969 rh0 rfl).trans m949)), and_true, true_and, true_or, or_true, false_or, or_false] <;> omega)) rh0 (by decide) rfl wk_X12_number tw_1811 rfl ⟨Nat.le_of_ble_eq_true rfl, Nat.le_of_ble_eq_true rfl⟩ ⟨rfl, rfl⟩ hl.1 rfl (Nat.le_of_ble_eq_true rfl) dX12_readClause_149 ⟨Nat.le_of_ble_eq_true rfl, Nat.le_of_ble_eq_true rfl⟩ (fun v1763 f1764 H locs q1765 hW => ?_)
                  obtain ⟨⟨x1769, rfl, p1770⟩, g1767, h1768⟩ := q1765
                  clear p1770
                  have m1771 : aI (f1764 pN) (x662 : Int32).toNatClampNeg = x6 := ((congrArg (fun z => aI z (x662 : Int32).toNatClampNeg) (fm_A g1767 rN (by decide) rfl)).trans ((congrArg (fun z => aI z (x662 : Int32).toNatClampNeg) (fm_A g991 rN (by decide) rfl)).trans (show aI (f966 pN) (x662 : Int32).toNatClampNeg = x6 from by rw [e967]; exact up_s)))
                  have z1773 : ∀ j : Nat, (j : Int) < 8 * pF19.toInt → aI (f1764 pN) j = aI (f0 pN) j := by rw [fm_A g1767 rN (by decide) rfl]; exact z994
                  clear z994
                  have z1774 : aI (f1764 pN) (8 * pF19.toInt + 0).toNat = x6 := by rw [fm_A g1767 rN (by decide) rfl]; exact z995
                  have z1775 : aI (f1764 pN) (8 * pF19.toInt + 1).toNat = 0 := by rw [fm_A g1767 rN (by decide) rfl]; exact z996
                  have z1776 : aI (f1764 pN) (8 * pF19.toInt + 2).toNat = 0 := by rw [fm_A g1767 rN (by decide) rfl]; exact z997
                  have z1777 : aI (f1764 pN) (8 * pF19.toInt + 3).toNat = 0 := by rw [fm_A g1767 rN (by decide) rfl]; exact z998
                  have z1778 : aI (f1764 pN) (8 * pF19.toInt + 4).toNat = 0 := by rw [fm_A g1767 rN (by decide) rfl]; exact z999
                  have z1779 : aI (f1764 pN) (8 * pF19.toInt + 5).toNat = 0 := by rw [fm_A g1767 rN (by decide) rfl]; exact z1000
                  have z1780 : aI (f1764 pN) (8 * pF19.toInt + 6).toNat = 0 := by rw [fm_A g1767 rN (by decide) rfl]; exact z1001
                  clear z995 z996 z997 z998 z999 z1000 z1001
                  have hF := FM.tr hF g1767 rfl
                  have h1768 := h1768 _ rfl
                  have hk1781 : (0 : Int64).toInt = 0 := rfl
                  have hk1782 : (3 : Int64).toInt = 3 := rfl
                  obtain ⟨y1783, m1784⟩ : ∃ x : Int32, oI (f1764 h0) 13 = x := ⟨_, rfl⟩
                  have b1785 : (0 : Int) ≤ y1783.toInt ∧ y1783.toInt ≤ 400 := by rw [← m1784]; exact th_iv hW rh0 (by decide) (by decide) rfl
                  obtain ⟨y1786, m1787⟩ : ∃ x : Int32, oI (f1764 h0) 14 = x := ⟨_, rfl⟩
                  have b1788 : (0 : Int) ≤ y1786.toInt ∧ y1786.toInt ≤ 400 := by rw [← m1787]; exact th_iv hW rh0 (by decide) (by decide) rfl
                  obtain ⟨y1789, m1790⟩ : ∃ x : Int32, oI (f1764 h0) 15 = x := ⟨_, rfl⟩
                  have b1791 : (0 : Int) ≤ y1789.toInt ∧ y1789.toInt ≤ 3 := by rw [← m1790]; exact th_iv hW rh0 (by decide) (by decide) rfl
                  obtain ⟨y1792, m1793⟩ : ∃ x : Int32, oI (f1764 h0) 18 = x := ⟨_, rfl⟩
                  have b1794 : (0 : Int) ≤ y1792.toInt ∧ y1792.toInt ≤ 1 := by rw [← m1793]; exact th_iv hW rh0 (by decide) (by decide) rfl
                  obtain ⟨y1795, m1796⟩ : ∃ x : Int64, oJ (f1764 h0) 16 = x := ⟨_, rfl⟩
                  simp only [((fm_I g1767 rh0 rfl).trans ((fm_I g991 rh0 rfl).trans ((fm_I g969 rh0 rfl).trans m945))), ((fm_I g991 rh0 rfl).trans ((fm_I g969 rh0 rfl).trans m945)), m1784, ((fm_I g991 rh0 rfl).trans ((fm_I g969 rh0 rfl).trans m946)), m1787, ((fm_I g991 rh0 rfl).trans ((fm_I g969 rh0 rfl).trans m947)), m1790, ((fm_I g991 rh0 rfl).trans ((fm_I g969 rh0 rfl).trans m948)), m1793, ((fm_I g991 rh0 rfl).trans ((fm_I g969 rh0 rfl).trans m950)), m1796, ((fm_J g991 rh0 rfl).trans ((fm_J g969 rh0 rfl).trans m949))] at h1768
                  have z1797 : DJ f0 f1764 h0 pF21.toInt 0 0 0 0 := dj_keep z993 hw1766 g1767 rh0 rfl (fun q => by rw [((fm_I g991 rh0 rfl).trans ((fm_I g969 rh0 rfl).trans m950))] at q; rw [m1793]; omega)
                  have hw1802 := hW.2.2.2
                  refine gs_840 E hW rN ⟨by omega, by omega⟩ dX12_readClause_152 (fun f1798 H locs e1799 n1800 g1801 hW => ?_)
                  have z1803 : DJ f0 f1798 h0 pF21.toInt 0 0 0 0 := dj_keep z1797 hw1802 g1801 rh0 rfl (fun q => by rw [fm_I g1801 rh0 rfl]; exact q)
                  have hF := FM.tr hF g1801 rfl
                  have q1804 : x1759.toInt = 8 * pF19.toInt + 1 := by omega
                  have q1805 : 0 ≤ 8 * pF19.toInt := by omega
                  have z1806 : ∀ j : Nat, (j : Int) < 8 * pF19.toInt → aI (f1798 pN) j = aI (f0 pN) j := pre_st2 z1773 e1799 q1804 q1805 (by decide)
                  clear z1773
                  have z1807 : aI (f1798 pN) (8 * pF19.toInt + 0).toNat = x6 := ent_no2 z1774 e1799 q1804 q1805 (by decide)
                  have z1808 : aI (f1798 pN) (8 * pF19.toInt + 1).toNat = x1769 := ent_st2 e1799 q1804 q1805 (by decide)
                  have z1809 : aI (f1798 pN) (8 * pF19.toInt + 2).toNat = 0 := ent_no2 z1776 e1799 q1804 q1805 (by decide)
                  have z1810 : aI (f1798 pN) (8 * pF19.toInt + 3).toNat = 0 := ent_no2 z1777 e1799 q1804 q1805 (by decide)
                  have z1811 : aI (f1798 pN) (8 * pF19.toInt + 4).toNat = 0 := ent_no2 z1778 e1799 q1804 q1805 (by decide)
                  have z1812 : aI (f1798 pN) (8 * pF19.toInt + 5).toNat = 0 := ent_no2 z1779 e1799 q1804 q1805 (by decide)
                  have z1813 : aI (f1798 pN) (8 * pF19.toInt + 6).toNat = 0 := ent_no2 z1780 e1799 q1804 q1805 (by decide)
                  clear q1804 q1805
                  clear z1774 z1775 z1776 z1777 z1778 z1779 z1780
                  refine lv_aload_n hx hb dX12_readClause_153 rfl (lv_at hl 3 rfl) ?_
                  refine fg_RX12_39 E hW rh0 dX12_readClause_154 (fun a1814 m1815 r1816 => ?_)
                  obtain rfl : pN = a1814 := (((fm_R g1801 rh0 rfl).trans ((fm_R g1767 rh0 rfl).trans m1757))).symm.trans m1815
                  refine lv_iload_n hx hb dX12_readClause_157 rfl (lv_at hl 1 rfl) ?_
                  refine lv_iconst (v := 2) hx hb dX12_readClause_158 (by decide) ?_
                  refine q_iadd (Y := 2) hx hb dX12_readClause_159 rfl rfl (by omega) (fun x1817 h1818 => ?_)
                  refine lv_aload_n hx hb dX12_readClause_160 rfl (lv_at hl 3 rfl) ?_
                  refine lv_lconst (v := 1) hx hb dX12_readClause_161 (by decide) ?_
                  refine lv_ldc2 (v := 52) hx hb hown (hts _ tw_1818) dX12_readClause_162 ?_
                  have hw1824 := hW.2.2.2
                  refine t_callV (As := [.long 1, .long 52]) (rest := [.int x1817, .ref pN]) E hW (c_X12_number l G cI cJ cZ cD cR cT kp L f1798 hW.2.2.2 _ h0 1 52 rh0 (by decide) (by decide) (by have hkq1819 : (1 : Int64).toInt = 1 := rfl; have hkq1820 : (52 : Int64).toInt = 52 := rfl; simp only [((fm_I g1801 rh0 rfl).trans ((fm_I g1767 rh0 rfl).trans ((fm_I g991 rh0 rfl).trans ((fm_I g969 rh0 rfl).trans m945)))), ((fm_I g1801 rh0 rfl).trans m1784), ((fm_I g1801 rh0 rfl).trans m1787), ((fm_I g1801 rh0 rfl).trans m1790), ((fm_J g1801 rh0 rfl).trans m1796), and_true, true_and, true_or, or_true, false_or, or_false] <;> omega)) rh0 (by decide) rfl wk_X12_number tw_1811 rfl ⟨Nat.le_of_ble_eq_true rfl, Nat.le_of_ble_eq_true rfl⟩ ⟨rfl, rfl⟩ hl.1 rfl (Nat.le_of_ble_eq_true rfl) dX12_readClause_165 ⟨Nat.le_of_ble_eq_true rfl, Nat.le_of_ble_eq_true rfl⟩ (fun v1821 f1822 H locs q1823 hW => ?_)
                  obtain ⟨⟨x1827, rfl, p1828⟩, g1825, h1826⟩ := q1823
                  clear p1828
                  have m1829 : aI (f1822 pN) (x662 : Int32).toNatClampNeg = x6 := ((congrArg (fun z => aI z (x662 : Int32).toNatClampNeg) (fm_A g1825 rN (by decide) rfl)).trans (show aI (f1798 pN) (x662 : Int32).toNatClampNeg = x6 from by rw [e1799, up_n (tn_ne (by omega) (by omega) (by omega))]; exact m1771))
                  have m1830 : aI (f1822 pN) (x1759 : Int32).toNatClampNeg = x1769 := ((congrArg (fun z => aI z (x1759 : Int32).toNatClampNeg) (fm_A g1825 rN (by decide) rfl)).trans (show aI (f1798 pN) (x1759 : Int32).toNatClampNeg = x1769 from by rw [e1799]; exact up_s))
                  have z1832 : ∀ j : Nat, (j : Int) < 8 * pF19.toInt → aI (f1822 pN) j = aI (f0 pN) j := by rw [fm_A g1825 rN (by decide) rfl]; exact z1806
                  clear z1806
                  have z1833 : aI (f1822 pN) (8 * pF19.toInt + 0).toNat = x6 := by rw [fm_A g1825 rN (by decide) rfl]; exact z1807
                  have z1834 : aI (f1822 pN) (8 * pF19.toInt + 1).toNat = x1769 := by rw [fm_A g1825 rN (by decide) rfl]; exact z1808
                  have z1835 : aI (f1822 pN) (8 * pF19.toInt + 2).toNat = 0 := by rw [fm_A g1825 rN (by decide) rfl]; exact z1809
                  have z1836 : aI (f1822 pN) (8 * pF19.toInt + 3).toNat = 0 := by rw [fm_A g1825 rN (by decide) rfl]; exact z1810
                  have z1837 : aI (f1822 pN) (8 * pF19.toInt + 4).toNat = 0 := by rw [fm_A g1825 rN (by decide) rfl]; exact z1811
                  have z1838 : aI (f1822 pN) (8 * pF19.toInt + 5).toNat = 0 := by rw [fm_A g1825 rN (by decide) rfl]; exact z1812
                  have z1839 : aI (f1822 pN) (8 * pF19.toInt + 6).toNat = 0 := by rw [fm_A g1825 rN (by decide) rfl]; exact z1813
                  clear z1807 z1808 z1809 z1810 z1811 z1812 z1813
                  have hF := FM.tr hF g1825 rfl
                  have h1826 := h1826 _ rfl
                  have hk1840 : (1 : Int64).toInt = 1 := rfl
                  have hk1841 : (52 : Int64).toInt = 52 := rfl
                  obtain ⟨y1842, m1843⟩ : ∃ x : Int32, oI (f1822 h0) 13 = x := ⟨_, rfl⟩
                  have b1844 : (0 : Int) ≤ y1842.toInt ∧ y1842.toInt ≤ 400 := by rw [← m1843]; exact th_iv hW rh0 (by decide) (by decide) rfl
                  obtain ⟨y1845, m1846⟩ : ∃ x : Int32, oI (f1822 h0) 14 = x := ⟨_, rfl⟩
                  have b1847 : (0 : Int) ≤ y1845.toInt ∧ y1845.toInt ≤ 400 := by rw [← m1846]; exact th_iv hW rh0 (by decide) (by decide) rfl
                  obtain ⟨y1848, m1849⟩ : ∃ x : Int32, oI (f1822 h0) 15 = x := ⟨_, rfl⟩
                  have b1850 : (0 : Int) ≤ y1848.toInt ∧ y1848.toInt ≤ 3 := by rw [← m1849]; exact th_iv hW rh0 (by decide) (by decide) rfl
                  obtain ⟨y1851, m1852⟩ : ∃ x : Int32, oI (f1822 h0) 18 = x := ⟨_, rfl⟩
                  have b1853 : (0 : Int) ≤ y1851.toInt ∧ y1851.toInt ≤ 1 := by rw [← m1852]; exact th_iv hW rh0 (by decide) (by decide) rfl
                  obtain ⟨y1854, m1855⟩ : ∃ x : Int64, oJ (f1822 h0) 16 = x := ⟨_, rfl⟩
                  simp only [((fm_I g1825 rh0 rfl).trans ((fm_I g1801 rh0 rfl).trans ((fm_I g1767 rh0 rfl).trans ((fm_I g991 rh0 rfl).trans ((fm_I g969 rh0 rfl).trans m945))))), ((fm_I g1801 rh0 rfl).trans ((fm_I g1767 rh0 rfl).trans ((fm_I g991 rh0 rfl).trans ((fm_I g969 rh0 rfl).trans m945)))), m1843, ((fm_I g1801 rh0 rfl).trans m1784), m1846, ((fm_I g1801 rh0 rfl).trans m1787), m1849, ((fm_I g1801 rh0 rfl).trans m1790), m1852, ((fm_I g1801 rh0 rfl).trans m1793), m1855, ((fm_J g1801 rh0 rfl).trans m1796)] at h1826
                  have z1856 : DJ f0 f1822 h0 pF21.toInt 0 0 0 0 := dj_keep z1803 hw1824 g1825 rh0 rfl (fun q => by rw [((fm_I g1801 rh0 rfl).trans m1793)] at q; rw [m1852]; omega)
                  have hw1861 := hW.2.2.2
                  refine gs_840 E hW rN ⟨by omega, by omega⟩ dX12_readClause_168 (fun f1857 H locs e1858 n1859 g1860 hW => ?_)
                  have z1862 : DJ f0 f1857 h0 pF21.toInt 0 0 0 0 := dj_keep z1856 hw1861 g1860 rh0 rfl (fun q => by rw [fm_I g1860 rh0 rfl]; exact q)
                  have hF := FM.tr hF g1860 rfl
                  have q1863 : x1817.toInt = 8 * pF19.toInt + 2 := by omega
                  have q1864 : 0 ≤ 8 * pF19.toInt := by omega
                  have z1865 : ∀ j : Nat, (j : Int) < 8 * pF19.toInt → aI (f1857 pN) j = aI (f0 pN) j := pre_st2 z1832 e1858 q1863 q1864 (by decide)
                  clear z1832
                  have z1866 : aI (f1857 pN) (8 * pF19.toInt + 0).toNat = x6 := ent_no2 z1833 e1858 q1863 q1864 (by decide)
                  have z1867 : aI (f1857 pN) (8 * pF19.toInt + 1).toNat = x1769 := ent_no2 z1834 e1858 q1863 q1864 (by decide)
                  have z1868 : aI (f1857 pN) (8 * pF19.toInt + 2).toNat = x1827 := ent_st2 e1858 q1863 q1864 (by decide)
                  have z1869 : aI (f1857 pN) (8 * pF19.toInt + 3).toNat = 0 := ent_no2 z1836 e1858 q1863 q1864 (by decide)
                  have z1870 : aI (f1857 pN) (8 * pF19.toInt + 4).toNat = 0 := ent_no2 z1837 e1858 q1863 q1864 (by decide)
                  have z1871 : aI (f1857 pN) (8 * pF19.toInt + 5).toNat = 0 := ent_no2 z1838 e1858 q1863 q1864 (by decide)
                  have z1872 : aI (f1857 pN) (8 * pF19.toInt + 6).toNat = 0 := ent_no2 z1839 e1858 q1863 q1864 (by decide)
                  clear q1863 q1864
                  clear z1833 z1834 z1835 z1836 z1837 z1838 z1839
                  exact e_V E hW rfl ⟨rfl, hF, (by simp only [((fm_I g1860 rh0 rfl).trans ((fm_I g1825 rh0 rfl).trans ((fm_I g1801 rh0 rfl).trans ((fm_I g1767 rh0 rfl).trans ((fm_I g991 rh0 rfl).trans ((fm_I g969 rh0 rfl).trans m945)))))), mF12, ((fm_I g1860 rh0 rfl).trans m1843), mF13, ((fm_I g1860 rh0 rfl).trans m1846), mF14, ((fm_I g1860 rh0 rfl).trans m1849), mF15, ((fm_I g1860 rh0 rfl).trans m1852), mF18, ((fm_I g1860 rh0 rfl).trans ((fm_I g1825 rh0 rfl).trans ((fm_I g1801 rh0 rfl).trans ((fm_I g1767 rh0 rfl).trans ((fm_I g991 rh0 rfl).trans ((fm_I g969 rh0 rfl).trans m953)))))), mF21, ((fm_J g1860 rh0 rfl).trans m1855), mW, and_true, true_and, true_or, or_true, false_or, or_false] <;> omega), (by have hk0 : (0 : Int32).toInt = 0 := rfl; rw [((fm_I g1860 rh0 rfl).trans ((fm_I g1825 rh0 rfl).trans ((fm_I g1801 rh0 rfl).trans ((fm_I g1767 rh0 rfl).trans ((fm_I g991 rh0 rfl).trans ((fm_I g969 rh0 rfl).trans m953)))))), ((fm_I g1860 rh0 rfl).trans ((fm_I g1825 rh0 rfl).trans ((fm_I g1801 rh0 rfl).trans ((fm_I g1767 rh0 rfl).trans e989))))]; exact cl_end (nc := pF21.toInt) (hd := x6) (r1 := x1769) (r2 := x1827) (show CLs _ _ _ pF21.toInt pF19.toInt from hC) (by omega) (show DJ f0 f1857 h0 pF21.toInt (0 : Int32).toInt (0 : Int32).toInt (0 : Int32).toInt (0 : Int32).toInt from z1862) (fun j hj => by unfold vN; rw [((fm_R g1860 rh0 rfl).trans ((fm_R g1825 rh0 rfl).trans m1815)), mN]; exact z1865 j hj) (by unfold vN; rw [((fm_R g1860 rh0 rfl).trans ((fm_R g1825 rh0 rfl).trans m1815))]; exact z1866) (by unfold vN; rw [((fm_R g1860 rh0 rfl).trans ((fm_R g1825 rh0 rfl).trans m1815))]; exact z1867) (by unfold vN; rw [((fm_R g1860 rh0 rfl).trans ((fm_R g1825 rh0 rfl).trans m1815))]; exact z1868) (by unfold vN; rw [((fm_R g1860 rh0 rfl).trans ((fm_R g1825 rh0 rfl).trans m1815))]; exact z1869) (by unfold vN; rw [((fm_R g1860 rh0 rfl).trans ((fm_R g1825 rh0 rfl).trans m1815))]; exact z1870) (by unfold vN; rw [((fm_R g1860 rh0 rfl).trans ((fm_R g1825 rh0 rfl).trans m1815))]; exact z1871) (by unfold vN; rw [((fm_R g1860 rh0 rfl).trans ((fm_R g1825 rh0 rfl).trans m1815))]; exact z1872) (by rw [((fm_I g1860 rh0 rfl).trans m1852)]; omega) (by omega) (by omega))⟩ dX12_readClause_169
              · refine lv_aload_n hx hb dX12_readClause_88 rfl (lv_at hl 3 rfl) ?_
                refine fg_RX12_39 E hW rh0 dX12_readClause_89 (fun a1873 m1874 r1875 => ?_)
                obtain rfl : pN = a1873 := (((fm_R g991 rh0 rfl).trans ((fm_R g969 rh0 rfl).trans m964))).symm.trans m1874
                refine lv_iload_n hx hb dX12_readClause_92 rfl (lv_at hl 1 rfl) ?_
                refine lv_iconst (v := 1) hx hb dX12_readClause_93 (by decide) ?_
                refine q_iadd (Y := 1) hx hb dX12_readClause_94 rfl rfl (by omega) (fun x1876 h1877 => ?_)
                refine lv_aload_n hx hb dX12_readClause_95 rfl (lv_at hl 3 rfl) ?_
                refine lv_lconst (v := 0) hx hb dX12_readClause_96 (by decide) ?_
                refine lv_ldc2 (v := 19) hx hb hown (hts _ tw_1569) dX12_readClause_97 ?_
                have hw1883 := hW.2.2.2
                refine t_callV (As := [.long 0, .long 19]) (rest := [.int x1876, .ref pN]) E hW (c_X12_number l G cI cJ cZ cD cR cT kp L f988 hW.2.2.2 _ h0 0 19 rh0 (by decide) (by decide) (by have hkq1878 : (0 : Int64).toInt = 0 := rfl; have hkq1879 : (19 : Int64).toInt = 19 := rfl; simp only [((fm_I g991 rh0 rfl).trans ((fm_I g969 rh0 rfl).trans m945)), ((fm_I g991 rh0 rfl).trans ((fm_I g969 rh0 rfl).trans m946)), ((fm_I g991 rh0 rfl).trans ((fm_I g969 rh0 rfl).trans m947)), ((fm_I g991 rh0 rfl).trans ((fm_I g969 rh0 rfl).trans m948)), ((fm_J g991 rh0 rfl).trans ((fm_J g969 rh0 rfl).trans m949)), and_true, true_and, true_or, or_true, false_or, or_false] <;> omega)) rh0 (by decide) rfl wk_X12_number tw_1811 rfl ⟨Nat.le_of_ble_eq_true rfl, Nat.le_of_ble_eq_true rfl⟩ ⟨rfl, rfl⟩ hl.1 rfl (Nat.le_of_ble_eq_true rfl) dX12_readClause_100 ⟨Nat.le_of_ble_eq_true rfl, Nat.le_of_ble_eq_true rfl⟩ (fun v1880 f1881 H locs q1882 hW => ?_)
                obtain ⟨⟨x1886, rfl, p1887⟩, g1884, h1885⟩ := q1882
                clear p1887
                have m1888 : aI (f1881 pN) (x662 : Int32).toNatClampNeg = x6 := ((congrArg (fun z => aI z (x662 : Int32).toNatClampNeg) (fm_A g1884 rN (by decide) rfl)).trans ((congrArg (fun z => aI z (x662 : Int32).toNatClampNeg) (fm_A g991 rN (by decide) rfl)).trans (show aI (f966 pN) (x662 : Int32).toNatClampNeg = x6 from by rw [e967]; exact up_s)))
                have z1890 : ∀ j : Nat, (j : Int) < 8 * pF19.toInt → aI (f1881 pN) j = aI (f0 pN) j := by rw [fm_A g1884 rN (by decide) rfl]; exact z994
                clear z994
                have z1891 : aI (f1881 pN) (8 * pF19.toInt + 0).toNat = x6 := by rw [fm_A g1884 rN (by decide) rfl]; exact z995
                have z1892 : aI (f1881 pN) (8 * pF19.toInt + 1).toNat = 0 := by rw [fm_A g1884 rN (by decide) rfl]; exact z996
                have z1893 : aI (f1881 pN) (8 * pF19.toInt + 2).toNat = 0 := by rw [fm_A g1884 rN (by decide) rfl]; exact z997
                have z1894 : aI (f1881 pN) (8 * pF19.toInt + 3).toNat = 0 := by rw [fm_A g1884 rN (by decide) rfl]; exact z998
                have z1895 : aI (f1881 pN) (8 * pF19.toInt + 4).toNat = 0 := by rw [fm_A g1884 rN (by decide) rfl]; exact z999
                have z1896 : aI (f1881 pN) (8 * pF19.toInt + 5).toNat = 0 := by rw [fm_A g1884 rN (by decide) rfl]; exact z1000
                have z1897 : aI (f1881 pN) (8 * pF19.toInt + 6).toNat = 0 := by rw [fm_A g1884 rN (by decide) rfl]; exact z1001
                clear z995 z996 z997 z998 z999 z1000 z1001
                have hF := FM.tr hF g1884 rfl
                have h1885 := h1885 _ rfl
                have hk1898 : (0 : Int64).toInt = 0 := rfl
                have hk1899 : (19 : Int64).toInt = 19 := rfl
                obtain ⟨y1900, m1901⟩ : ∃ x : Int32, oI (f1881 h0) 13 = x := ⟨_, rfl⟩
                have b1902 : (0 : Int) ≤ y1900.toInt ∧ y1900.toInt ≤ 400 := by rw [← m1901]; exact th_iv hW rh0 (by decide) (by decide) rfl
                obtain ⟨y1903, m1904⟩ : ∃ x : Int32, oI (f1881 h0) 14 = x := ⟨_, rfl⟩
                have b1905 : (0 : Int) ≤ y1903.toInt ∧ y1903.toInt ≤ 400 := by rw [← m1904]; exact th_iv hW rh0 (by decide) (by decide) rfl
                obtain ⟨y1906, m1907⟩ : ∃ x : Int32, oI (f1881 h0) 15 = x := ⟨_, rfl⟩
                have b1908 : (0 : Int) ≤ y1906.toInt ∧ y1906.toInt ≤ 3 := by rw [← m1907]; exact th_iv hW rh0 (by decide) (by decide) rfl
                obtain ⟨y1909, m1910⟩ : ∃ x : Int32, oI (f1881 h0) 18 = x := ⟨_, rfl⟩
                have b1911 : (0 : Int) ≤ y1909.toInt ∧ y1909.toInt ≤ 1 := by rw [← m1910]; exact th_iv hW rh0 (by decide) (by decide) rfl
                obtain ⟨y1912, m1913⟩ : ∃ x : Int64, oJ (f1881 h0) 16 = x := ⟨_, rfl⟩
                simp only [((fm_I g1884 rh0 rfl).trans ((fm_I g991 rh0 rfl).trans ((fm_I g969 rh0 rfl).trans m945))), ((fm_I g991 rh0 rfl).trans ((fm_I g969 rh0 rfl).trans m945)), m1901, ((fm_I g991 rh0 rfl).trans ((fm_I g969 rh0 rfl).trans m946)), m1904, ((fm_I g991 rh0 rfl).trans ((fm_I g969 rh0 rfl).trans m947)), m1907, ((fm_I g991 rh0 rfl).trans ((fm_I g969 rh0 rfl).trans m948)), m1910, ((fm_I g991 rh0 rfl).trans ((fm_I g969 rh0 rfl).trans m950)), m1913, ((fm_J g991 rh0 rfl).trans ((fm_J g969 rh0 rfl).trans m949))] at h1885
                have z1914 : DJ f0 f1881 h0 pF21.toInt 0 0 0 0 := dj_keep z993 hw1883 g1884 rh0 rfl (fun q => by rw [((fm_I g991 rh0 rfl).trans ((fm_I g969 rh0 rfl).trans m950))] at q; rw [m1910]; omega)
                have hw1919 := hW.2.2.2
                refine gs_840 E hW rN ⟨by omega, by omega⟩ dX12_readClause_103 (fun f1915 H locs e1916 n1917 g1918 hW => ?_)
                have z1920 : DJ f0 f1915 h0 pF21.toInt 0 0 0 0 := dj_keep z1914 hw1919 g1918 rh0 rfl (fun q => by rw [fm_I g1918 rh0 rfl]; exact q)
                have hF := FM.tr hF g1918 rfl
                have q1921 : x1876.toInt = 8 * pF19.toInt + 1 := by omega
                have q1922 : 0 ≤ 8 * pF19.toInt := by omega
                have z1923 : ∀ j : Nat, (j : Int) < 8 * pF19.toInt → aI (f1915 pN) j = aI (f0 pN) j := pre_st2 z1890 e1916 q1921 q1922 (by decide)
                clear z1890
                have z1924 : aI (f1915 pN) (8 * pF19.toInt + 0).toNat = x6 := ent_no2 z1891 e1916 q1921 q1922 (by decide)
                have z1925 : aI (f1915 pN) (8 * pF19.toInt + 1).toNat = x1886 := ent_st2 e1916 q1921 q1922 (by decide)
                have z1926 : aI (f1915 pN) (8 * pF19.toInt + 2).toNat = 0 := ent_no2 z1893 e1916 q1921 q1922 (by decide)
                have z1927 : aI (f1915 pN) (8 * pF19.toInt + 3).toNat = 0 := ent_no2 z1894 e1916 q1921 q1922 (by decide)
                have z1928 : aI (f1915 pN) (8 * pF19.toInt + 4).toNat = 0 := ent_no2 z1895 e1916 q1921 q1922 (by decide)
                have z1929 : aI (f1915 pN) (8 * pF19.toInt + 5).toNat = 0 := ent_no2 z1896 e1916 q1921 q1922 (by decide)
                have z1930 : aI (f1915 pN) (8 * pF19.toInt + 6).toNat = 0 := ent_no2 z1897 e1916 q1921 q1922 (by decide)
                clear q1921 q1922
                clear z1891 z1892 z1893 z1894 z1895 z1896 z1897
                refine lv_aload_n hx hb dX12_readClause_104 rfl (lv_at hl 3 rfl) ?_
                refine lv_aload_n hx hb dX12_readClause_105 rfl (lv_at hl 3 rfl) ?_
                refine lv_ldc2 (v := 113301093) hx hb hown (hts _ tw_1815) dX12_readClause_106 ?_
                have hw1934 := hW.2.2.2
                refine t_callV (As := [.long 113301093]) (rest := [.ref h0]) E hW (c_X12_isWord l G cI cJ cZ cD cR cT kp L f1915 hW.2.2.2 _ h0 113301093 rh0 (by decide)) rh0 (by decide) rfl wk_X12_isWord tw_1797 rfl ⟨Nat.le_of_ble_eq_true rfl, Nat.le_of_ble_eq_true rfl⟩ ⟨rfl, rfl⟩ hl.1 rfl (Nat.le_of_ble_eq_true rfl) dX12_readClause_109 ⟨Nat.le_of_ble_eq_true rfl, Nat.le_of_ble_eq_true rfl⟩ (fun v1931 f1932 H locs q1933 hW => ?_)
                obtain ⟨⟨x1936, rfl, p1937⟩, g1935⟩ := q1933
                simp only [((fm_I g1918 rh0 rfl).trans m1907), ((fm_J g1918 rh0 rfl).trans m1913)] at p1937
                have p1937 : (x1936.toInt = 1 ∧ y1906.toInt = 1 ∧ y1912.toInt = 113301093) ∨ x1936.toInt = 0 := p1937
                have m1938 : aI (f1932 pN) (x662 : Int32).toNatClampNeg = x6 := ((congrArg (fun z => aI z (x662 : Int32).toNatClampNeg) (fm_A g1935 rN (by decide) rfl)).trans (show aI (f1915 pN) (x662 : Int32).toNatClampNeg = x6 from by rw [e1916, up_n (tn_ne (by omega) (by omega) (by omega))]; exact m1888))
                have m1939 : aI (f1932 pN) (x1876 : Int32).toNatClampNeg = x1886 := ((congrArg (fun z => aI z (x1876 : Int32).toNatClampNeg) (fm_A g1935 rN (by decide) rfl)).trans (show aI (f1915 pN) (x1876 : Int32).toNatClampNeg = x1886 from by rw [e1916]; exact up_s))
                have z1940 : DJ f0 f1932 h0 pF21.toInt 0 0 0 0 := dj_keep z1920 hw1934 g1935 rh0 rfl (fun q => by rw [fm_I g1935 rh0 rfl]; exact q)
                have z1941 : ∀ j : Nat, (j : Int) < 8 * pF19.toInt → aI (f1932 pN) j = aI (f0 pN) j := by rw [fm_A g1935 rN (by decide) rfl]; exact z1923
                clear z1923
                have z1942 : aI (f1932 pN) (8 * pF19.toInt + 0).toNat = x6 := by rw [fm_A g1935 rN (by decide) rfl]; exact z1924
                have z1943 : aI (f1932 pN) (8 * pF19.toInt + 1).toNat = x1886 := by rw [fm_A g1935 rN (by decide) rfl]; exact z1925
                have z1944 : aI (f1932 pN) (8 * pF19.toInt + 2).toNat = 0 := by rw [fm_A g1935 rN (by decide) rfl]; exact z1926
                have z1945 : aI (f1932 pN) (8 * pF19.toInt + 3).toNat = 0 := by rw [fm_A g1935 rN (by decide) rfl]; exact z1927
                have z1946 : aI (f1932 pN) (8 * pF19.toInt + 4).toNat = 0 := by rw [fm_A g1935 rN (by decide) rfl]; exact z1928
                have z1947 : aI (f1932 pN) (8 * pF19.toInt + 5).toNat = 0 := by rw [fm_A g1935 rN (by decide) rfl]; exact z1929
                have z1948 : aI (f1932 pN) (8 * pF19.toInt + 6).toNat = 0 := by rw [fm_A g1935 rN (by decide) rfl]; exact z1930
                clear z1924 z1925 z1926 z1927 z1928 z1929 z1930
                have hF := FM.tr hF g1935 rfl
                have hw1952 := hW.2.2.2
                refine t_callV (As := [.int x1936]) (rest := []) E hW (c_X12_must l G cI cJ cZ cD cR cT kp L f1932 hW.2.2.2 _ h0 x1936 rh0 (by omega) (by simp only [((fm_I g1935 rh0 rfl).trans ((fm_I g1918 rh0 rfl).trans ((fm_I g1884 rh0 rfl).trans ((fm_I g991 rh0 rfl).trans ((fm_I g969 rh0 rfl).trans m945))))), ((fm_I g1935 rh0 rfl).trans ((fm_I g1918 rh0 rfl).trans m1901)), ((fm_I g1935 rh0 rfl).trans ((fm_I g1918 rh0 rfl).trans m1904)), ((fm_I g1935 rh0 rfl).trans ((fm_I g1918 rh0 rfl).trans m1907)), ((fm_J g1935 rh0 rfl).trans ((fm_J g1918 rh0 rfl).trans m1913)), and_true, true_and, true_or, or_true, false_or, or_false] <;> omega)) rh0 (by decide) rfl wk_X12_must tw_1807 rfl ⟨Nat.le_of_ble_eq_true rfl, Nat.le_of_ble_eq_true rfl⟩ ⟨rfl, rfl⟩ hl.1 rfl (Nat.le_of_ble_eq_true rfl) dX12_readClause_112 ⟨Nat.le_of_ble_eq_true rfl, Nat.le_of_ble_eq_true rfl⟩ (fun v1949 f1950 H locs q1951 hW => ?_)
                obtain ⟨rfl, g1953, h1954⟩ := q1951
                have z1956 : ∀ j : Nat, (j : Int) < 8 * pF19.toInt → aI (f1950 pN) j = aI (f0 pN) j := by rw [fm_A g1953 rN (by decide) rfl]; exact z1941
                clear z1941
                have z1957 : aI (f1950 pN) (8 * pF19.toInt + 0).toNat = x6 := by rw [fm_A g1953 rN (by decide) rfl]; exact z1942
                have z1958 : aI (f1950 pN) (8 * pF19.toInt + 1).toNat = x1886 := by rw [fm_A g1953 rN (by decide) rfl]; exact z1943
                have z1959 : aI (f1950 pN) (8 * pF19.toInt + 2).toNat = 0 := by rw [fm_A g1953 rN (by decide) rfl]; exact z1944
                have z1960 : aI (f1950 pN) (8 * pF19.toInt + 3).toNat = 0 := by rw [fm_A g1953 rN (by decide) rfl]; exact z1945
                have z1961 : aI (f1950 pN) (8 * pF19.toInt + 4).toNat = 0 := by rw [fm_A g1953 rN (by decide) rfl]; exact z1946
                have z1962 : aI (f1950 pN) (8 * pF19.toInt + 5).toNat = 0 := by rw [fm_A g1953 rN (by decide) rfl]; exact z1947
                have z1963 : aI (f1950 pN) (8 * pF19.toInt + 6).toNat = 0 := by rw [fm_A g1953 rN (by decide) rfl]; exact z1948
                clear z1942 z1943 z1944 z1945 z1946 z1947 z1948
                have hF := FM.tr hF g1953 rfl
                obtain ⟨y1964, m1965⟩ : ∃ x : Int32, oI (f1950 h0) 13 = x := ⟨_, rfl⟩
                have b1966 : (0 : Int) ≤ y1964.toInt ∧ y1964.toInt ≤ 400 := by rw [← m1965]; exact th_iv hW rh0 (by decide) (by decide) rfl
                obtain ⟨y1967, m1968⟩ : ∃ x : Int32, oI (f1950 h0) 14 = x := ⟨_, rfl⟩
                have b1969 : (0 : Int) ≤ y1967.toInt ∧ y1967.toInt ≤ 400 := by rw [← m1968]; exact th_iv hW rh0 (by decide) (by decide) rfl
                obtain ⟨y1970, m1971⟩ : ∃ x : Int32, oI (f1950 h0) 15 = x := ⟨_, rfl⟩
                have b1972 : (0 : Int) ≤ y1970.toInt ∧ y1970.toInt ≤ 3 := by rw [← m1971]; exact th_iv hW rh0 (by decide) (by decide) rfl
                obtain ⟨y1973, m1974⟩ : ∃ x : Int32, oI (f1950 h0) 18 = x := ⟨_, rfl⟩
                have b1975 : (0 : Int) ≤ y1973.toInt ∧ y1973.toInt ≤ 1 := by rw [← m1974]; exact th_iv hW rh0 (by decide) (by decide) rfl
                obtain ⟨y1976, m1977⟩ : ∃ x : Int64, oJ (f1950 h0) 16 = x := ⟨_, rfl⟩
                simp only [((fm_I g1953 rh0 rfl).trans ((fm_I g1935 rh0 rfl).trans ((fm_I g1918 rh0 rfl).trans ((fm_I g1884 rh0 rfl).trans ((fm_I g991 rh0 rfl).trans ((fm_I g969 rh0 rfl).trans m945)))))), ((fm_I g1935 rh0 rfl).trans ((fm_I g1918 rh0 rfl).trans ((fm_I g1884 rh0 rfl).trans ((fm_I g991 rh0 rfl).trans ((fm_I g969 rh0 rfl).trans m945))))), m1965, ((fm_I g1935 rh0 rfl).trans ((fm_I g1918 rh0 rfl).trans m1901)), m1968, ((fm_I g1935 rh0 rfl).trans ((fm_I g1918 rh0 rfl).trans m1904)), m1971, ((fm_I g1935 rh0 rfl).trans ((fm_I g1918 rh0 rfl).trans m1907)), m1974, ((fm_I g1935 rh0 rfl).trans ((fm_I g1918 rh0 rfl).trans m1910)), m1977, ((fm_J g1935 rh0 rfl).trans ((fm_J g1918 rh0 rfl).trans m1913))] at h1954
                have z1978 : DJ f0 f1950 h0 pF21.toInt 0 0 0 0 := dj_keep z1940 hw1952 g1953 rh0 rfl (fun q => by rw [((fm_I g1935 rh0 rfl).trans ((fm_I g1918 rh0 rfl).trans m1910))] at q; rw [m1974]; omega)
                refine lv_aload_n hx hb dX12_readClause_115 rfl (lv_at hl 3 rfl) ?_
                refine fg_RX12_39 E hW rh0 dX12_readClause_116 (fun a1979 m1980 r1981 => ?_)
                obtain rfl : pN = a1979 := (((fm_R g1953 rh0 rfl).trans ((fm_R g1935 rh0 rfl).trans ((fm_R g1918 rh0 rfl).trans ((fm_R g1884 rh0 rfl).trans m1874))))).symm.trans m1980
                refine lv_iload_n hx hb dX12_readClause_119 rfl (lv_at hl 1 rfl) ?_
                refine lv_iconst (v := 2) hx hb dX12_readClause_120 (by decide) ?_
                refine q_iadd (Y := 2) hx hb dX12_readClause_121 rfl rfl (by omega) (fun x1982 h1983 => ?_)
                refine lv_aload_n hx hb dX12_readClause_122 rfl (lv_at hl 3 rfl) ?_
                refine lv_lconst (v := 0) hx hb dX12_readClause_123 (by decide) ?_
                refine lv_ldc2 (v := 11) hx hb hown (hts _ tw_1816) dX12_readClause_124 ?_
                have hw1989 := hW.2.2.2
                refine t_callV (As := [.long 0, .long 11]) (rest := [.int x1982, .ref pN]) E hW (c_X12_number l G cI cJ cZ cD cR cT kp L f1950 hW.2.2.2 _ h0 0 11 rh0 (by decide) (by decide) (by have hkq1984 : (0 : Int64).toInt = 0 := rfl; have hkq1985 : (11 : Int64).toInt = 11 := rfl; simp only [((fm_I g1953 rh0 rfl).trans ((fm_I g1935 rh0 rfl).trans ((fm_I g1918 rh0 rfl).trans ((fm_I g1884 rh0 rfl).trans ((fm_I g991 rh0 rfl).trans ((fm_I g969 rh0 rfl).trans m945)))))), m1965, m1968, m1971, m1977, and_true, true_and, true_or, or_true, false_or, or_false] <;> omega)) rh0 (by decide) rfl wk_X12_number tw_1811 rfl ⟨Nat.le_of_ble_eq_true rfl, Nat.le_of_ble_eq_true rfl⟩ ⟨rfl, rfl⟩ hl.1 rfl (Nat.le_of_ble_eq_true rfl) dX12_readClause_127 ⟨Nat.le_of_ble_eq_true rfl, Nat.le_of_ble_eq_true rfl⟩ (fun v1986 f1987 H locs q1988 hW => ?_)
                obtain ⟨⟨x1992, rfl, p1993⟩, g1990, h1991⟩ := q1988
                clear p1993
                have m1994 : oR (f1987 h0) 2 = pR := ((fm_R g1990 rh0 rfl).trans ((fm_R g1953 rh0 rfl).trans ((fm_R g1935 rh0 rfl).trans ((fm_R g1918 rh0 rfl).trans ((fm_R g1884 rh0 rfl).trans ((fm_R g991 rh0 rfl).trans ((fm_R g969 rh0 rfl).trans m944)))))))
                have m1995 : oI (f1987 h0) 12 = pF12 := ((fm_I g1990 rh0 rfl).trans ((fm_I g1953 rh0 rfl).trans ((fm_I g1935 rh0 rfl).trans ((fm_I g1918 rh0 rfl).trans ((fm_I g1884 rh0 rfl).trans ((fm_I g991 rh0 rfl).trans ((fm_I g969 rh0 rfl).trans m945)))))))
                have m1996 : oI (f1987 h0) 21 = pF21 := ((fm_I g1990 rh0 rfl).trans ((fm_I g1953 rh0 rfl).trans ((fm_I g1935 rh0 rfl).trans ((fm_I g1918 rh0 rfl).trans ((fm_I g1884 rh0 rfl).trans ((fm_I g991 rh0 rfl).trans ((fm_I g969 rh0 rfl).trans m953)))))))
                have m1997 : oI (f1987 h0) 24 = pF24 := ((fm_I g1990 rh0 rfl).trans ((fm_I g1953 rh0 rfl).trans ((fm_I g1935 rh0 rfl).trans ((fm_I g1918 rh0 rfl).trans ((fm_I g1884 rh0 rfl).trans ((fm_I g991 rh0 rfl).trans ((fm_I g969 rh0 rfl).trans m954)))))))
                have m1998 : oI (f1987 h0) 27 = pF27 := ((fm_I g1990 rh0 rfl).trans ((fm_I g1953 rh0 rfl).trans ((fm_I g1935 rh0 rfl).trans ((fm_I g1918 rh0 rfl).trans ((fm_I g1884 rh0 rfl).trans ((fm_I g991 rh0 rfl).trans ((fm_I g969 rh0 rfl).trans m955)))))))
                have m1999 : aI (f1987 pN) (x662 : Int32).toNatClampNeg = x6 := ((congrArg (fun z => aI z (x662 : Int32).toNatClampNeg) (fm_A g1990 rN (by decide) rfl)).trans ((congrArg (fun z => aI z (x662 : Int32).toNatClampNeg) (fm_A g1953 rN (by decide) rfl)).trans m1938))
                have m2000 : aI (f1987 pN) (x1876 : Int32).toNatClampNeg = x1886 := ((congrArg (fun z => aI z (x1876 : Int32).toNatClampNeg) (fm_A g1990 rN (by decide) rfl)).trans ((congrArg (fun z => aI z (x1876 : Int32).toNatClampNeg) (fm_A g1953 rN (by decide) rfl)).trans m1939))
                have z2002 : ∀ j : Nat, (j : Int) < 8 * pF19.toInt → aI (f1987 pN) j = aI (f0 pN) j := by rw [fm_A g1990 rN (by decide) rfl]; exact z1956
                clear z1956
                have z2003 : aI (f1987 pN) (8 * pF19.toInt + 0).toNat = x6 := by rw [fm_A g1990 rN (by decide) rfl]; exact z1957
                have z2004 : aI (f1987 pN) (8 * pF19.toInt + 1).toNat = x1886 := by rw [fm_A g1990 rN (by decide) rfl]; exact z1958
                have z2005 : aI (f1987 pN) (8 * pF19.toInt + 2).toNat = 0 := by rw [fm_A g1990 rN (by decide) rfl]; exact z1959
                have z2006 : aI (f1987 pN) (8 * pF19.toInt + 3).toNat = 0 := by rw [fm_A g1990 rN (by decide) rfl]; exact z1960
                have z2007 : aI (f1987 pN) (8 * pF19.toInt + 4).toNat = 0 := by rw [fm_A g1990 rN (by decide) rfl]; exact z1961
                have z2008 : aI (f1987 pN) (8 * pF19.toInt + 5).toNat = 0 := by rw [fm_A g1990 rN (by decide) rfl]; exact z1962
                have z2009 : aI (f1987 pN) (8 * pF19.toInt + 6).toNat = 0 := by rw [fm_A g1990 rN (by decide) rfl]; exact z1963
                clear z1957 z1958 z1959 z1960 z1961 z1962 z1963
                have hF := FM.tr hF g1990 rfl
                have h1991 := h1991 _ rfl
                have hk2010 : (0 : Int64).toInt = 0 := rfl
                have hk2011 : (11 : Int64).toInt = 11 := rfl
                obtain ⟨y2012, m2013⟩ : ∃ x : Int32, oI (f1987 h0) 13 = x := ⟨_, rfl⟩
                have b2014 : (0 : Int) ≤ y2012.toInt ∧ y2012.toInt ≤ 400 := by rw [← m2013]; exact th_iv hW rh0 (by decide) (by decide) rfl
                obtain ⟨y2015, m2016⟩ : ∃ x : Int32, oI (f1987 h0) 14 = x := ⟨_, rfl⟩
                have b2017 : (0 : Int) ≤ y2015.toInt ∧ y2015.toInt ≤ 400 := by rw [← m2016]; exact th_iv hW rh0 (by decide) (by decide) rfl
                obtain ⟨y2018, m2019⟩ : ∃ x : Int32, oI (f1987 h0) 15 = x := ⟨_, rfl⟩
                have b2020 : (0 : Int) ≤ y2018.toInt ∧ y2018.toInt ≤ 3 := by rw [← m2019]; exact th_iv hW rh0 (by decide) (by decide) rfl
                obtain ⟨y2021, m2022⟩ : ∃ x : Int32, oI (f1987 h0) 18 = x := ⟨_, rfl⟩
                have b2023 : (0 : Int) ≤ y2021.toInt ∧ y2021.toInt ≤ 1 := by rw [← m2022]; exact th_iv hW rh0 (by decide) (by decide) rfl
                obtain ⟨y2024, m2025⟩ : ∃ x : Int64, oJ (f1987 h0) 16 = x := ⟨_, rfl⟩
                simp only [m1995, ((fm_I g1953 rh0 rfl).trans ((fm_I g1935 rh0 rfl).trans ((fm_I g1918 rh0 rfl).trans ((fm_I g1884 rh0 rfl).trans ((fm_I g991 rh0 rfl).trans ((fm_I g969 rh0 rfl).trans m945)))))), m2013, m1965, m2016, m1968, m2019, m1971, m2022, m1974, m2025, m1977] at h1991
                have z2026 : DJ f0 f1987 h0 pF21.toInt 0 0 0 0 := dj_keep z1978 hw1989 g1990 rh0 rfl (fun q => by rw [m1974] at q; rw [m2022]; omega)
                have hw2031 := hW.2.2.2
                refine gs_840 E hW rN ⟨by omega, by omega⟩ dX12_readClause_130 (fun f2027 H locs e2028 n2029 g2030 hW => ?_)
                have z2032 : DJ f0 f2027 h0 pF21.toInt 0 0 0 0 := dj_keep z2026 hw2031 g2030 rh0 rfl (fun q => by rw [fm_I g2030 rh0 rfl]; exact q)
                have hF := FM.tr hF g2030 rfl
                have q2033 : x1982.toInt = 8 * pF19.toInt + 2 := by omega
                have q2034 : 0 ≤ 8 * pF19.toInt := by omega
                have z2035 : ∀ j : Nat, (j : Int) < 8 * pF19.toInt → aI (f2027 pN) j = aI (f0 pN) j := pre_st2 z2002 e2028 q2033 q2034 (by decide)
                clear z2002
                have z2036 : aI (f2027 pN) (8 * pF19.toInt + 0).toNat = x6 := ent_no2 z2003 e2028 q2033 q2034 (by decide)
                have z2037 : aI (f2027 pN) (8 * pF19.toInt + 1).toNat = x1886 := ent_no2 z2004 e2028 q2033 q2034 (by decide)
                have z2038 : aI (f2027 pN) (8 * pF19.toInt + 2).toNat = x1992 := ent_st2 e2028 q2033 q2034 (by decide)
                have z2039 : aI (f2027 pN) (8 * pF19.toInt + 3).toNat = 0 := ent_no2 z2006 e2028 q2033 q2034 (by decide)
                have z2040 : aI (f2027 pN) (8 * pF19.toInt + 4).toNat = 0 := ent_no2 z2007 e2028 q2033 q2034 (by decide)
                have z2041 : aI (f2027 pN) (8 * pF19.toInt + 5).toNat = 0 := ent_no2 z2008 e2028 q2033 q2034 (by decide)
                have z2042 : aI (f2027 pN) (8 * pF19.toInt + 6).toNat = 0 := ent_no2 z2009 e2028 q2033 q2034 (by decide)
                clear q2033 q2034
                clear z2003 z2004 z2005 z2006 z2007 z2008 z2009
                exact e_V E hW rfl ⟨rfl, hF, (by simp only [((fm_I g2030 rh0 rfl).trans m1995), mF12, ((fm_I g2030 rh0 rfl).trans m2013), mF13, ((fm_I g2030 rh0 rfl).trans m2016), mF14, ((fm_I g2030 rh0 rfl).trans m2019), mF15, ((fm_I g2030 rh0 rfl).trans m2022), mF18, ((fm_I g2030 rh0 rfl).trans m1996), mF21, ((fm_J g2030 rh0 rfl).trans m2025), mW, and_true, true_and, true_or, or_true, false_or, or_false] <;> omega), (by have hk0 : (0 : Int32).toInt = 0 := rfl; rw [((fm_I g2030 rh0 rfl).trans m1996), ((fm_I g2030 rh0 rfl).trans ((fm_I g1990 rh0 rfl).trans ((fm_I g1953 rh0 rfl).trans ((fm_I g1935 rh0 rfl).trans ((fm_I g1918 rh0 rfl).trans ((fm_I g1884 rh0 rfl).trans e989))))))]; exact cl_end (nc := pF21.toInt) (hd := x6) (r1 := x1886) (r2 := x1992) (show CLs _ _ _ pF21.toInt pF19.toInt from hC) (by omega) (show DJ f0 f2027 h0 pF21.toInt (0 : Int32).toInt (0 : Int32).toInt (0 : Int32).toInt (0 : Int32).toInt from z2032) (fun j hj => by unfold vN; rw [((fm_R g2030 rh0 rfl).trans ((fm_R g1990 rh0 rfl).trans m1980)), mN]; exact z2035 j hj) (by unfold vN; rw [((fm_R g2030 rh0 rfl).trans ((fm_R g1990 rh0 rfl).trans m1980))]; exact z2036) (by unfold vN; rw [((fm_R g2030 rh0 rfl).trans ((fm_R g1990 rh0 rfl).trans m1980))]; exact z2037) (by unfold vN; rw [((fm_R g2030 rh0 rfl).trans ((fm_R g1990 rh0 rfl).trans m1980))]; exact z2038) (by unfold vN; rw [((fm_R g2030 rh0 rfl).trans ((fm_R g1990 rh0 rfl).trans m1980))]; exact z2039) (by unfold vN; rw [((fm_R g2030 rh0 rfl).trans ((fm_R g1990 rh0 rfl).trans m1980))]; exact z2040) (by unfold vN; rw [((fm_R g2030 rh0 rfl).trans ((fm_R g1990 rh0 rfl).trans m1980))]; exact z2041) (by unfold vN; rw [((fm_R g2030 rh0 rfl).trans ((fm_R g1990 rh0 rfl).trans m1980))]; exact z2042) (by rw [((fm_I g2030 rh0 rfl).trans m2022)]; omega) (by omega) (by omega))⟩ dX12_readClause_131
            · refine lv_aload_n hx hb dX12_readClause_52 rfl (lv_at hl 3 rfl) ?_
              refine fg_RX12_39 E hW rh0 dX12_readClause_53 (fun a2043 m2044 r2045 => ?_)
              obtain rfl : pN = a2043 := (m952).symm.trans m2044
              refine lv_iload_n hx hb dX12_readClause_56 rfl (lv_at hl 1 rfl) ?_
              refine lv_iload_n hx hb dX12_readClause_57 rfl (lv_at hl 0 rfl) ?_
              refine q_iadd hx hb dX12_readClause_58 rfl rfl (by omega) (fun x2046 h2047 => ?_)
              refine lv_iconst (v := 0) hx hb dX12_readClause_59 (by decide) ?_
              have hw2052 := hW.2.2.2
              refine gs_840 E hW rN ⟨by omega, by omega⟩ dX12_readClause_60 (fun f2048 H locs e2049 n2050 g2051 hW => ?_)
              have z2053 : DJ f0 f2048 h0 pF21.toInt 0 0 0 0 := dj_keep v960 hw2052 g2051 rh0 rfl (fun q => by rw [fm_I g2051 rh0 rfl]; exact q)
              have hF := FM.tr hF g2051 rfl
              refine q_iinc hx hb dX12_readClause_61 hl (k := 0) rfl rfl rfl (by omega) (by decide) (fun i2054 ls h2055 hl => ?_)
              have hl : lv_has ls 4 [(3, .int i2054), (2, .int x662), (1, .int x6), (0, .ref h0)] := hl
              refine lv_goto (tgt := 46) hx hb dX12_readClause_64 (by decide) ?_
              exact ih46 f2048 i2054 ((fm_R g2051 rh0 rfl).trans m944) ((fm_I g2051 rh0 rfl).trans m945) ((fm_I g2051 rh0 rfl).trans m946) ((fm_I g2051 rh0 rfl).trans m947) ((fm_I g2051 rh0 rfl).trans m948) ((fm_J g2051 rh0 rfl).trans m949) ((fm_I g2051 rh0 rfl).trans m950) ((fm_I g2051 rh0 rfl).trans m951) ((fm_R g2051 rh0 rfl).trans m2044) ((fm_I g2051 rh0 rfl).trans m953) ((fm_I g2051 rh0 rfl).trans m954) ((fm_I g2051 rh0 rfl).trans m955) (by omega) (zr_st v958 e2049 (by decide) (by omega) (by omega) (by omega)) (pre_st v959 e2049 (by omega)) z2053 (by omega) _ _ _ hW hF (lv_sub hl [0, 1, 2, 3] rfl)
        have hk2056 : (0 : Int32).toInt = 0 := rfl
        exact L961 9 f633 0 ((fm_R g636 rh0 rfl).trans ((fm_R g5 rh0 rfl).trans mR)) ((fm_I g636 rh0 rfl).trans ((fm_I g5 rh0 rfl).trans mF12)) m641 m644 m647 m653 m656 m660 ((fm_R g636 rh0 rfl).trans ((fm_R g5 rh0 rfl).trans mN)) ((fm_I g636 rh0 rfl).trans ((fm_I g5 rh0 rfl).trans mF21)) ((fm_I g636 rh0 rfl).trans ((fm_I g5 rh0 rfl).trans mF24)) ((fm_I g636 rh0 rfl).trans ((fm_I g5 rh0 rfl).trans mF27)) (by decide) (by have hk : (0 : Int32).toInt = 0 := rfl; rw [hk]; exact zr_0) (fun j _ => by rw [((congrArg aI (fm_A g636 rN (by decide) rfl)).trans ((congrArg aI (fm_A g5 rN (by decide) rfl)).trans rfl))]) z654 (by omega) _ _ _ hW hF (lv_sub hl [0, 1, 2, 3] rfl)
      · exact e_V E hW rfl ⟨rfl, hF, (by simp only [((fm_I g636 rh0 rfl).trans ((fm_I g5 rh0 rfl).trans mF12)), mF12, m641, mF13, m644, mF14, m647, mF15, m656, mF18, ((fm_I g636 rh0 rfl).trans ((fm_I g5 rh0 rfl).trans mF21)), mF21, m653, mW, and_true, true_and, true_or, or_true, false_or, or_false] <;> omega), (Or.inl (by rw [m656]; omega))⟩ dX12_readClause_35
    · refine lv_iconst (v := 1) hx hb dX12_readClause_20 (by decide) ?_
      refine lv_goto (tgt := 25) hx hb dX12_readClause_21 (by decide) ?_
      have hw2061 := hW.2.2.2
      refine t_callV (As := [.int 1]) (rest := []) E hW (c_X12_must l G cI cJ cZ cD cR cT kp L f2 hW.2.2.2 _ h0 1 rh0 (by decide) (by have hkq2057 : (1 : Int32).toInt = 1 := rfl; simp only [((fm_I g5 rh0 rfl).trans mF12), ((fm_I g5 rh0 rfl).trans mF13), ((fm_I g5 rh0 rfl).trans mF14), ((fm_I g5 rh0 rfl).trans mF15), ((fm_J g5 rh0 rfl).trans mW), and_true, true_and, true_or, or_true, false_or, or_false] <;> omega)) rh0 (by decide) rfl wk_X12_must tw_1807 rfl ⟨Nat.le_of_ble_eq_true rfl, Nat.le_of_ble_eq_true rfl⟩ ⟨rfl, rfl⟩ hl.1 rfl (Nat.le_of_ble_eq_true rfl) dX12_readClause_25 ⟨Nat.le_of_ble_eq_true rfl, Nat.le_of_ble_eq_true rfl⟩ (fun v2058 f2059 H locs q2060 hW => ?_)
      obtain ⟨rfl, g2062, h2063⟩ := q2060
      have hF := FM.tr hF g2062 rfl
      have hk2065 : (1 : Int32).toInt = 1 := rfl
      obtain ⟨y2066, m2067⟩ : ∃ x : Int32, oI (f2059 h0) 13 = x := ⟨_, rfl⟩
      have b2068 : (0 : Int) ≤ y2066.toInt ∧ y2066.toInt ≤ 400 := by rw [← m2067]; exact th_iv hW rh0 (by decide) (by decide) rfl
      obtain ⟨y2069, m2070⟩ : ∃ x : Int32, oI (f2059 h0) 14 = x := ⟨_, rfl⟩
      have b2071 : (0 : Int) ≤ y2069.toInt ∧ y2069.toInt ≤ 400 := by rw [← m2070]; exact th_iv hW rh0 (by decide) (by decide) rfl
      obtain ⟨y2072, m2073⟩ : ∃ x : Int32, oI (f2059 h0) 15 = x := ⟨_, rfl⟩
      have b2074 : (0 : Int) ≤ y2072.toInt ∧ y2072.toInt ≤ 3 := by rw [← m2073]; exact th_iv hW rh0 (by decide) (by decide) rfl
      obtain ⟨y2075, m2076⟩ : ∃ x : Int32, oI (f2059 h0) 18 = x := ⟨_, rfl⟩
      have b2077 : (0 : Int) ≤ y2075.toInt ∧ y2075.toInt ≤ 1 := by rw [← m2076]; exact th_iv hW rh0 (by decide) (by decide) rfl
      obtain ⟨y2078, m2079⟩ : ∃ x : Int64, oJ (f2059 h0) 16 = x := ⟨_, rfl⟩
      simp only [((fm_I g2062 rh0 rfl).trans ((fm_I g5 rh0 rfl).trans mF12)), ((fm_I g5 rh0 rfl).trans mF12), m2067, ((fm_I g5 rh0 rfl).trans mF13), m2070, ((fm_I g5 rh0 rfl).trans mF14), m2073, ((fm_I g5 rh0 rfl).trans mF15), m2076, ((fm_I g5 rh0 rfl).trans mF18), m2079, ((fm_J g5 rh0 rfl).trans mW)] at h2063
      have z2080 : DJ f0 f2059 h0 pF21.toInt 0 0 0 0 := dj_keep z8 hw2061 g2062 rh0 rfl (fun q => by rw [((fm_I g5 rh0 rfl).trans mF18)] at q; rw [m2076]; omega)
      refine lv_aload_n hx hb dX12_readClause_28 rfl (lv_at hl 1 rfl) ?_
      refine fg_RX12_193 E hW rh0 dX12_readClause_29 (fun y2081 m2082 b2083 => ?_)
      obtain rfl : y2075 = y2081 := (m2076).symm.trans m2082
      refine q_if_eq (tgt := 36) hx hb dX12_readClause_32 (by decide) rfl (fun c2084 => ?_) (fun c2084 => ?_)
      · refine lv_bipush (v := 8) hx hb dX12_readClause_36 (by decide) ?_
        refine lv_aload_n hx hb dX12_readClause_38 rfl (lv_at hl 1 rfl) ?_
        refine fg_RX12_356 E hW rh0 dX12_readClause_39 (fun y2085 m2086 b2087 => ?_)
        obtain rfl : pF19 = y2085 := (((fm_I g2062 rh0 rfl).trans m628)).symm.trans m2086
        refine q_imul (X := 8) hx hb dX12_readClause_42 rfl rfl (by omega) (fun x2088 h2089 => ?_)
        refine lv_istore_n (lv' := [(2, .int x2088), (1, .int x6), (0, .ref h0)]) hx hb dX12_readClause_43 rfl hl (by decide) rfl (fun ls hl => ?_)
        refine lv_iconst (v := 0) hx hb dX12_readClause_44 (by decide) ?_
        refine lv_istore_n (lv' := [(3, .int 0), (2, .int x2088), (1, .int x6), (0, .ref h0)]) hx hb dX12_readClause_45 rfl hl (by decide) rfl (fun ls hl => ?_)
        have L2387 : ∀ (n : Nat), ∀ (f2369 : Nat → va_E) (y2382 : Int32) (m2370 : oR (f2369 h0) 2 = pR) (m2371 : oI (f2369 h0) 12 = pF12) (m2372 : oI (f2369 h0) 13 = y2066) (m2373 : oI (f2369 h0) 14 = y2069) (m2374 : oI (f2369 h0) 15 = y2072) (m2375 : oJ (f2369 h0) 16 = y2078) (m2376 : oI (f2369 h0) 18 = y2075) (m2377 : oI (f2369 h0) 19 = pF19) (m2378 : oR (f2369 h0) 20 = pN) (m2379 : oI (f2369 h0) 21 = pF21) (m2380 : oI (f2369 h0) 24 = pF24) (m2381 : oI (f2369 h0) 27 = pF27) (b2383 : (0 : Int) ≤ y2382.toInt ∧ y2382.toInt ≤ 8) (v2384 : ZR (aI (f2369 pN)) (8 * pF19.toInt) y2382.toInt) (v2385 : ∀ j : Nat, (j : Int) < 8 * pF19.toInt → aI (f2369 pN) j = aI (f0 pN) j) (v2386 : DJ f0 f2369 h0 pF21.toInt 0 0 0 0) (hm : (9 : Int) - y2382.toInt ≤ n) (H : Heap) (locs : List Loc) (ls : Array Slot), WS G cI cJ cZ cD cR cT A kp L f2369 s H locs → FM kp L ms_X12_readClause f0 f2369 → lv_has ls 4 [(3, .int y2382), (2, .int x2088), (1, .int x6), (0, .ref h0)] → W p l e ({ frames := 8, cells := 0, slots := 0, locals := 189 }) s m ([.ref h0] : List Value).toArray below meth c H locs 0 0 (MQ below (QT (po_X12_readClause kp L f0 h0) G cI cJ cZ cD cR cT A kp L) ([.ref h0] : List Value).toArray s 0 0 A) (F0 m 46 ls []) := by
          intro n
          induction n with
          | zero =>
            intro f2369 y2382 m2370 m2371 m2372 m2373 m2374 m2375 m2376 m2377 m2378 m2379 m2380 m2381 b2383 v2384 v2385 v2386 hm H locs ls hW hF hl
            have hz := i32_b y2382
            exfalso; omega
          | succ n ih =>
            intro f2369 y2382 m2370 m2371 m2372 m2373 m2374 m2375 m2376 m2377 m2378 m2379 m2380 m2381 b2383 v2384 v2385 v2386 hm H locs ls hW hF hl
            have ih46 := ih
            refine lv_iload_n hx hb dX12_readClause_46 rfl (lv_at hl 0 rfl) ?_
            refine lv_bipush (v := 8) hx hb dX12_readClause_47 (by decide) ?_
            refine q_icmp_ge (Y := 8) (tgt := 67) hx hb dX12_readClause_49 (by decide) rfl rfl (fun c2388 => ?_) (fun c2388 => ?_)
            · refine lv_aload_n hx hb dX12_readClause_67 rfl (lv_at hl 3 rfl) ?_
              refine fg_RX12_39 E hW rh0 dX12_readClause_68 (fun a2389 m2390 r2391 => ?_)
              obtain rfl : pN = a2389 := (m2378).symm.trans m2390
              refine lv_iload_n hx hb dX12_readClause_71 rfl (lv_at hl 1 rfl) ?_
              refine lv_iload_n hx hb dX12_readClause_72 rfl (lv_at hl 2 rfl) ?_
              have hw2396 := hW.2.2.2
              refine gs_840 E hW rN ⟨by omega, by omega⟩ dX12_readClause_73 (fun f2392 H locs e2393 n2394 g2395 hW => ?_)
              have z2397 : DJ f0 f2392 h0 pF21.toInt 0 0 0 0 := dj_keep v2386 hw2396 g2395 rh0 rfl (fun q => by rw [fm_I g2395 rh0 rfl]; exact q)
              have hF := FM.tr hF g2395 rfl
              have q2398 : x2088.toInt = 8 * pF19.toInt + 0 := by omega
              have q2399 : 0 ≤ 8 * pF19.toInt := by omega
              have z2400 : ∀ j : Nat, (j : Int) < 8 * pF19.toInt → aI (f2392 pN) j = aI (f0 pN) j := pre_st2 v2385 e2393 q2398 q2399 (by decide)
              have z2401 : ZR _ (8 * pF19.toInt) 8 := (by have q : y2382.toInt = 8 := (by omega); rw [← q]; exact v2384)
              have z2402 : aI (f2392 pN) (8 * pF19.toInt + 0).toNat = x6 := ent_st2 e2393 q2398 q2399 (by decide)
              have z2403 : aI (f2392 pN) (8 * pF19.toInt + 1).toNat = 0 := ent_no2 (ent_z2 z2401 (by decide)) e2393 q2398 q2399 (by decide)
              have z2404 : aI (f2392 pN) (8 * pF19.toInt + 2).toNat = 0 := ent_no2 (ent_z2 z2401 (by decide)) e2393 q2398 q2399 (by decide)
              have z2405 : aI (f2392 pN) (8 * pF19.toInt + 3).toNat = 0 := ent_no2 (ent_z2 z2401 (by decide)) e2393 q2398 q2399 (by decide)
              have z2406 : aI (f2392 pN) (8 * pF19.toInt + 4).toNat = 0 := ent_no2 (ent_z2 z2401 (by decide)) e2393 q2398 q2399 (by decide)
              have z2407 : aI (f2392 pN) (8 * pF19.toInt + 5).toNat = 0 := ent_no2 (ent_z2 z2401 (by decide)) e2393 q2398 q2399 (by decide)
              have z2408 : aI (f2392 pN) (8 * pF19.toInt + 6).toNat = 0 := ent_no2 (ent_z2 z2401 (by decide)) e2393 q2398 q2399 (by decide)
              clear q2398 q2399
              refine lv_aload_n hx hb dX12_readClause_74 rfl (lv_at hl 3 rfl) ?_
              refine lv_dup hx hb dX12_readClause_75 rfl ?_
              refine fg_RX12_356 E hW rh0 dX12_readClause_76 (fun y2409 m2410 b2411 => ?_)
              obtain rfl : pF19 = y2409 := (((fm_I g2395 rh0 rfl).trans m2377)).symm.trans m2410
              refine lv_iconst (v := 1) hx hb dX12_readClause_79 (by decide) ?_
              refine q_iadd (Y := 1) hx hb dX12_readClause_80 rfl rfl (by omega) (fun x2412 h2413 => ?_)
              have hw2418 := hW.2.2.2
              refine fp_RX12_356 E hW rh0 (by omega) dX12_readClause_81 (fun f2414 H locs e2415 n2416 g2417 hW => ?_)
              have m2419 : aI (f2414 pN) (x2088 : Int32).toNatClampNeg = x6 := ((congrArg (fun z => aI z (x2088 : Int32).toNatClampNeg) (fm_A g2417 rN (by decide) rfl)).trans (show aI (f2392 pN) (x2088 : Int32).toNatClampNeg = x6 from by rw [e2393]; exact up_s))
              have z2420 : DJ f0 f2414 h0 pF21.toInt 0 0 0 0 := dj_keep z2397 hw2418 g2417 rh0 rfl (fun q => by rw [fm_I g2417 rh0 rfl]; exact q)
              have z2421 : ∀ j : Nat, (j : Int) < 8 * pF19.toInt → aI (f2414 pN) j = aI (f0 pN) j := by rw [fm_A g2417 rN (by decide) rfl]; exact z2400
              clear z2400
              have z2422 : aI (f2414 pN) (8 * pF19.toInt + 0).toNat = x6 := by rw [fm_A g2417 rN (by decide) rfl]; exact z2402
              have z2423 : aI (f2414 pN) (8 * pF19.toInt + 1).toNat = 0 := by rw [fm_A g2417 rN (by decide) rfl]; exact z2403
              have z2424 : aI (f2414 pN) (8 * pF19.toInt + 2).toNat = 0 := by rw [fm_A g2417 rN (by decide) rfl]; exact z2404
              have z2425 : aI (f2414 pN) (8 * pF19.toInt + 3).toNat = 0 := by rw [fm_A g2417 rN (by decide) rfl]; exact z2405
              have z2426 : aI (f2414 pN) (8 * pF19.toInt + 4).toNat = 0 := by rw [fm_A g2417 rN (by decide) rfl]; exact z2406
              have z2427 : aI (f2414 pN) (8 * pF19.toInt + 5).toNat = 0 := by rw [fm_A g2417 rN (by decide) rfl]; exact z2407
              have z2428 : aI (f2414 pN) (8 * pF19.toInt + 6).toNat = 0 := by rw [fm_A g2417 rN (by decide) rfl]; exact z2408
              clear z2402 z2403 z2404 z2405 z2406 z2407 z2408
              have hF := FM.tr hF g2417 rfl
              refine lv_iload_n hx hb dX12_readClause_84 rfl (lv_at hl 2 rfl) ?_
              refine q_if_ne (tgt := 132) hx hb dX12_readClause_85 (by decide) rfl (fun c2429 => ?_) (fun c2429 => ?_)
              · refine lv_iload_n hx hb dX12_readClause_132 rfl (lv_at hl 2 rfl) ?_
                refine lv_iconst (v := 1) hx hb dX12_readClause_133 (by decide) ?_
                refine q_icmp_ne (Y := 1) (tgt := 170) hx hb dX12_readClause_134 (by decide) rfl rfl (fun c2430 => ?_) (fun c2430 => ?_)
                · refine lv_aload_n hx hb dX12_readClause_170 rfl (lv_at hl 3 rfl) ?_
                  refine fg_RX12_39 E hW rh0 dX12_readClause_171 (fun a2431 m2432 r2433 => ?_)
                  obtain rfl : pN = a2431 := (((fm_R g2417 rh0 rfl).trans ((fm_R g2395 rh0 rfl).trans m2390))).symm.trans m2432
                  refine lv_iload_n hx hb dX12_readClause_174 rfl (lv_at hl 1 rfl) ?_
                  refine lv_iconst (v := 3) hx hb dX12_readClause_175 (by decide) ?_
                  refine q_iadd (Y := 3) hx hb dX12_readClause_176 rfl rfl (by omega) (fun x2434 h2435 => ?_)
                  refine lv_aload_n hx hb dX12_readClause_177 rfl (lv_at hl 3 rfl) ?_
                  refine fg_RX12_229 E hW rh0 dX12_readClause_178 (fun y2436 m2437 b2438 => ?_)
                  obtain rfl : pF21 = y2436 := (((fm_I g2417 rh0 rfl).trans ((fm_I g2395 rh0 rfl).trans m2379))).symm.trans m2437
                  have hw2443 := hW.2.2.2
                  refine gs_840 E hW rN ⟨by omega, by omega⟩ dX12_readClause_181 (fun f2439 H locs e2440 n2441 g2442 hW => ?_)
                  have z2444 : DJ f0 f2439 h0 pF21.toInt 0 0 0 0 := dj_keep z2420 hw2443 g2442 rh0 rfl (fun q => by rw [fm_I g2442 rh0 rfl]; exact q)
                  have hF := FM.tr hF g2442 rfl
                  have q2445 : x2434.toInt = 8 * pF19.toInt + 3 := by omega
                  have q2446 : 0 ≤ 8 * pF19.toInt := by omega
                  have z2447 : ∀ j : Nat, (j : Int) < 8 * pF19.toInt → aI (f2439 pN) j = aI (f0 pN) j := pre_st2 z2421 e2440 q2445 q2446 (by decide)
                  clear z2421
                  have z2448 : aI (f2439 pN) (8 * pF19.toInt + 0).toNat = x6 := ent_no2 z2422 e2440 q2445 q2446 (by decide)
                  have z2449 : aI (f2439 pN) (8 * pF19.toInt + 1).toNat = 0 := ent_no2 z2423 e2440 q2445 q2446 (by decide)
                  have z2450 : aI (f2439 pN) (8 * pF19.toInt + 2).toNat = 0 := ent_no2 z2424 e2440 q2445 q2446 (by decide)
                  have z2451 : aI (f2439 pN) (8 * pF19.toInt + 3).toNat = pF21 := ent_st2 e2440 q2445 q2446 (by decide)
                  have z2452 : aI (f2439 pN) (8 * pF19.toInt + 4).toNat = 0 := ent_no2 z2426 e2440 q2445 q2446 (by decide)
                  have z2453 : aI (f2439 pN) (8 * pF19.toInt + 5).toNat = 0 := ent_no2 z2427 e2440 q2445 q2446 (by decide)
                  have z2454 : aI (f2439 pN) (8 * pF19.toInt + 6).toNat = 0 := ent_no2 z2428 e2440 q2445 q2446 (by decide)
                  clear q2445 q2446
                  clear z2422 z2423 z2424 z2425 z2426 z2427 z2428
                  refine lv_iload_n hx hb dX12_readClause_182 rfl (lv_at hl 2 rfl) ?_
                  refine lv_iconst (v := 2) hx hb dX12_readClause_183 (by decide) ?_
                  refine q_icmp_eq (Y := 2) (tgt := 192) hx hb dX12_readClause_184 (by decide) rfl rfl (fun c2455 => ?_) (fun c2455 => ?_)
                  · refine lv_aload_n hx hb dX12_readClause_192 rfl (lv_at hl 3 rfl) ?_
                    refine lv_iconst (v := 0) hx hb dX12_readClause_193 (by decide) ?_
                    have hw2460 := hW.2.2.2
                    refine t_callV (As := [.int 0]) (rest := []) E hW (c_X12_readExpression l G cI cJ cZ cD cR cT kp L f2439 hW.2.2.2 _ h0 0 rh0 (by decide) (by have hkq2456 : (0 : Int32).toInt = 0 := rfl; simp only [((fm_I g2442 rh0 rfl).trans ((fm_I g2417 rh0 rfl).trans ((fm_I g2395 rh0 rfl).trans m2371))), ((fm_I g2442 rh0 rfl).trans ((fm_I g2417 rh0 rfl).trans ((fm_I g2395 rh0 rfl).trans m2372))), ((fm_I g2442 rh0 rfl).trans ((fm_I g2417 rh0 rfl).trans ((fm_I g2395 rh0 rfl).trans m2373))), ((fm_I g2442 rh0 rfl).trans ((fm_I g2417 rh0 rfl).trans ((fm_I g2395 rh0 rfl).trans m2374))), ((fm_I g2442 rh0 rfl).trans ((fm_I g2417 rh0 rfl).trans ((fm_I g2395 rh0 rfl).trans m2376))), ((fm_I g2442 rh0 rfl).trans m2437), ((fm_J g2442 rh0 rfl).trans ((fm_J g2417 rh0 rfl).trans ((fm_J g2395 rh0 rfl).trans m2375))), and_true, true_and, true_or, or_true, false_or, or_false] <;> omega)) rh0 (by decide) rfl wk_X12_readExpression tw_1819 rfl ⟨Nat.le_of_ble_eq_true rfl, Nat.le_of_ble_eq_true rfl⟩ ⟨rfl, rfl⟩ hl.1 rfl (Nat.le_of_ble_eq_true rfl) dX12_readClause_194 ⟨Nat.le_of_ble_eq_true rfl, Nat.le_of_ble_eq_true rfl⟩ (fun v2457 f2458 H locs q2459 hW => ?_)
                    obtain ⟨rfl, g2461, h2462, h2463⟩ := q2459
                    have m2464 : aI (f2458 pN) (x2088 : Int32).toNatClampNeg = x6 := ((congrArg (fun z => aI z (x2088 : Int32).toNatClampNeg) (fm_A g2461 rN (by decide) rfl)).trans (show aI (f2439 pN) (x2088 : Int32).toNatClampNeg = x6 from by rw [e2440, up_n (tn_ne (by omega) (by omega) (by omega))]; exact m2419))
                    have m2465 : aI (f2458 pN) (x2434 : Int32).toNatClampNeg = pF21 := ((congrArg (fun z => aI z (x2434 : Int32).toNatClampNeg) (fm_A g2461 rN (by decide) rfl)).trans (show aI (f2439 pN) (x2434 : Int32).toNatClampNeg = pF21 from by rw [e2440]; exact up_s))
                    have z2466 : ∀ j : Nat, (j : Int) < 8 * pF19.toInt → aI (f2458 pN) j = aI (f0 pN) j := by rw [fm_A g2461 rN (by decide) rfl]; exact z2447
                    clear z2447
                    have z2467 : aI (f2458 pN) (8 * pF19.toInt + 0).toNat = x6 := by rw [fm_A g2461 rN (by decide) rfl]; exact z2448
                    have z2468 : aI (f2458 pN) (8 * pF19.toInt + 1).toNat = 0 := by rw [fm_A g2461 rN (by decide) rfl]; exact z2449
                    have z2469 : aI (f2458 pN) (8 * pF19.toInt + 2).toNat = 0 := by rw [fm_A g2461 rN (by decide) rfl]; exact z2450
                    have z2470 : aI (f2458 pN) (8 * pF19.toInt + 3).toNat = pF21 := by rw [fm_A g2461 rN (by decide) rfl]; exact z2451
                    have z2471 : aI (f2458 pN) (8 * pF19.toInt + 4).toNat = 0 := by rw [fm_A g2461 rN (by decide) rfl]; exact z2452
                    have z2472 : aI (f2458 pN) (8 * pF19.toInt + 5).toNat = 0 := by rw [fm_A g2461 rN (by decide) rfl]; exact z2453
                    have z2473 : aI (f2458 pN) (8 * pF19.toInt + 6).toNat = 0 := by rw [fm_A g2461 rN (by decide) rfl]; exact z2454
                    clear z2448 z2449 z2450 z2451 z2452 z2453 z2454
                    have hF := FM.tr hF g2461 rfl
                    have hk2474 : (0 : Int32).toInt = 0 := rfl
                    obtain ⟨y2475, m2476⟩ : ∃ x : Int32, oI (f2458 h0) 13 = x := ⟨_, rfl⟩
                    have b2477 : (0 : Int) ≤ y2475.toInt ∧ y2475.toInt ≤ 400 := by rw [← m2476]; exact th_iv hW rh0 (by decide) (by decide) rfl
                    obtain ⟨y2478, m2479⟩ : ∃ x : Int32, oI (f2458 h0) 14 = x := ⟨_, rfl⟩
                    have b2480 : (0 : Int) ≤ y2478.toInt ∧ y2478.toInt ≤ 400 := by rw [← m2479]; exact th_iv hW rh0 (by decide) (by decide) rfl
                    obtain ⟨y2481, m2482⟩ : ∃ x : Int32, oI (f2458 h0) 15 = x := ⟨_, rfl⟩
                    have b2483 : (0 : Int) ≤ y2481.toInt ∧ y2481.toInt ≤ 3 := by rw [← m2482]; exact th_iv hW rh0 (by decide) (by decide) rfl
                    obtain ⟨y2484, m2485⟩ : ∃ x : Int32, oI (f2458 h0) 18 = x := ⟨_, rfl⟩
                    have b2486 : (0 : Int) ≤ y2484.toInt ∧ y2484.toInt ≤ 1 := by rw [← m2485]; exact th_iv hW rh0 (by decide) (by decide) rfl
                    obtain ⟨y2487, m2488⟩ : ∃ x : Int32, oI (f2458 h0) 21 = x := ⟨_, rfl⟩
                    have b2489 : (0 : Int) ≤ y2487.toInt ∧ y2487.toInt ≤ 400 := by rw [← m2488]; exact th_iv hW rh0 (by decide) (by decide) rfl
                    obtain ⟨y2490, m2491⟩ : ∃ x : Int32, oI (f2458 h0) 27 = x := ⟨_, rfl⟩
                    have b2492 : (0 : Int) ≤ y2490.toInt ∧ y2490.toInt ≤ 400 := by rw [← m2491]; exact th_iv hW rh0 (by decide) (by decide) rfl
                    obtain ⟨y2493, m2494⟩ : ∃ x : Int64, oJ (f2458 h0) 16 = x := ⟨_, rfl⟩
                    simp only [((fm_I g2461 rh0 rfl).trans ((fm_I g2442 rh0 rfl).trans ((fm_I g2417 rh0 rfl).trans ((fm_I g2395 rh0 rfl).trans m2371)))), ((fm_I g2442 rh0 rfl).trans ((fm_I g2417 rh0 rfl).trans ((fm_I g2395 rh0 rfl).trans m2371))), m2476, ((fm_I g2442 rh0 rfl).trans ((fm_I g2417 rh0 rfl).trans ((fm_I g2395 rh0 rfl).trans m2372))), m2479, ((fm_I g2442 rh0 rfl).trans ((fm_I g2417 rh0 rfl).trans ((fm_I g2395 rh0 rfl).trans m2373))), m2482, ((fm_I g2442 rh0 rfl).trans ((fm_I g2417 rh0 rfl).trans ((fm_I g2395 rh0 rfl).trans m2374))), m2485, ((fm_I g2442 rh0 rfl).trans ((fm_I g2417 rh0 rfl).trans ((fm_I g2395 rh0 rfl).trans m2376))), m2488, ((fm_I g2442 rh0 rfl).trans m2437), m2491, ((fm_I g2442 rh0 rfl).trans ((fm_I g2417 rh0 rfl).trans ((fm_I g2395 rh0 rfl).trans m2381))), m2494, ((fm_J g2442 rh0 rfl).trans ((fm_J g2417 rh0 rfl).trans ((fm_J g2395 rh0 rfl).trans m2375)))] at h2462
                    have z2496 := h2463
                    rw [((fm_I g2442 rh0 rfl).trans m2437), m2488] at z2496
                    have z2495 : DJ f0 f2458 h0 pF21.toInt pF21.toInt y2487.toInt y2487.toInt y2487.toInt := dj_ex1 z2444 (by rw [((fm_I g2442 rh0 rfl).trans ((fm_I g2417 rh0 rfl).trans ((fm_I g2395 rh0 rfl).trans m2376)))]; omega) (by omega) z2496
                    refine lv_aload_n hx hb dX12_readClause_197 rfl (lv_at hl 3 rfl) ?_
                    refine fg_RX12_39 E hW rh0 dX12_readClause_198 (fun a2497 m2498 r2499 => ?_)
                    obtain rfl : pN = a2497 := (((fm_R g2461 rh0 rfl).trans ((fm_R g2442 rh0 rfl).trans m2432))).symm.trans m2498
                    refine lv_iload_n hx hb dX12_readClause_201 rfl (lv_at hl 1 rfl) ?_
                    refine lv_iconst (v := 4) hx hb dX12_readClause_202 (by decide) ?_
                    refine q_iadd (Y := 4) hx hb dX12_readClause_203 rfl rfl (by omega) (fun x2500 h2501 => ?_)
                    refine lv_aload_n hx hb dX12_readClause_204 rfl (lv_at hl 3 rfl) ?_
                    refine fg_RX12_229 E hW rh0 dX12_readClause_205 (fun y2502 m2503 b2504 => ?_)
                    obtain rfl : y2487 = y2502 := (m2488).symm.trans m2503
                    have hw2509 := hW.2.2.2
                    refine gs_840 E hW rN ⟨by omega, by omega⟩ dX12_readClause_208 (fun f2505 H locs e2506 n2507 g2508 hW => ?_)
                    have z2510 : DJ f0 f2505 h0 pF21.toInt pF21.toInt y2487.toInt y2487.toInt y2487.toInt := dj_keep z2495 hw2509 g2508 rh0 rfl (fun q => by rw [fm_I g2508 rh0 rfl]; exact q)
                    have hF := FM.tr hF g2508 rfl
                    have q2511 : x2500.toInt = 8 * pF19.toInt + 4 := by omega
                    have q2512 : 0 ≤ 8 * pF19.toInt := by omega
                    have z2513 : ∀ j : Nat, (j : Int) < 8 * pF19.toInt → aI (f2505 pN) j = aI (f0 pN) j := pre_st2 z2466 e2506 q2511 q2512 (by decide)
                    clear z2466
                    have z2514 : aI (f2505 pN) (8 * pF19.toInt + 0).toNat = x6 := ent_no2 z2467 e2506 q2511 q2512 (by decide)
                    have z2515 : aI (f2505 pN) (8 * pF19.toInt + 1).toNat = 0 := ent_no2 z2468 e2506 q2511 q2512 (by decide)
                    have z2516 : aI (f2505 pN) (8 * pF19.toInt + 2).toNat = 0 := ent_no2 z2469 e2506 q2511 q2512 (by decide)
                    have z2517 : aI (f2505 pN) (8 * pF19.toInt + 3).toNat = pF21 := ent_no2 z2470 e2506 q2511 q2512 (by decide)
                    have z2518 : aI (f2505 pN) (8 * pF19.toInt + 4).toNat = y2487 := ent_st2 e2506 q2511 q2512 (by decide)
                    have z2519 : aI (f2505 pN) (8 * pF19.toInt + 5).toNat = 0 := ent_no2 z2472 e2506 q2511 q2512 (by decide)
                    have z2520 : aI (f2505 pN) (8 * pF19.toInt + 6).toNat = 0 := ent_no2 z2473 e2506 q2511 q2512 (by decide)
                    clear q2511 q2512
                    clear z2467 z2468 z2469 z2470 z2471 z2472 z2473
                    refine lv_aload_n hx hb dX12_readClause_209 rfl (lv_at hl 3 rfl) ?_
                    refine fg_RX12_39 E hW rh0 dX12_readClause_210 (fun a2521 m2522 r2523 => ?_)
                    obtain rfl : pN = a2521 := (((fm_R g2508 rh0 rfl).trans m2498)).symm.trans m2522
                    refine lv_iload_n hx hb dX12_readClause_213 rfl (lv_at hl 1 rfl) ?_
                    refine lv_iconst (v := 5) hx hb dX12_readClause_214 (by decide) ?_
                    refine q_iadd (Y := 5) hx hb dX12_readClause_215 rfl rfl (by omega) (fun x2524 h2525 => ?_)
                    refine lv_aload_n hx hb dX12_readClause_216 rfl (lv_at hl 3 rfl) ?_
                    refine fg_RX12_229 E hW rh0 dX12_readClause_217 (fun y2526 m2527 b2528 => ?_)
                    obtain rfl : y2487 = y2526 := (((fm_I g2508 rh0 rfl).trans m2503)).symm.trans m2527
                    have hw2533 := hW.2.2.2
                    refine gs_840 E hW rN ⟨by omega, by omega⟩ dX12_readClause_220 (fun f2529 H locs e2530 n2531 g2532 hW => ?_)
                    have z2534 : DJ f0 f2529 h0 pF21.toInt pF21.toInt y2487.toInt y2487.toInt y2487.toInt := dj_keep z2510 hw2533 g2532 rh0 rfl (fun q => by rw [fm_I g2532 rh0 rfl]; exact q)
                    have hF := FM.tr hF g2532 rfl
                    have q2535 : x2524.toInt = 8 * pF19.toInt + 5 := by omega
                    have q2536 : 0 ≤ 8 * pF19.toInt := by omega
                    have z2537 : ∀ j : Nat, (j : Int) < 8 * pF19.toInt → aI (f2529 pN) j = aI (f0 pN) j := pre_st2 z2513 e2530 q2535 q2536 (by decide)
                    clear z2513
                    have z2538 : aI (f2529 pN) (8 * pF19.toInt + 0).toNat = x6 := ent_no2 z2514 e2530 q2535 q2536 (by decide)
                    have z2539 : aI (f2529 pN) (8 * pF19.toInt + 1).toNat = 0 := ent_no2 z2515 e2530 q2535 q2536 (by decide)
                    have z2540 : aI (f2529 pN) (8 * pF19.toInt + 2).toNat = 0 := ent_no2 z2516 e2530 q2535 q2536 (by decide)
                    have z2541 : aI (f2529 pN) (8 * pF19.toInt + 3).toNat = pF21 := ent_no2 z2517 e2530 q2535 q2536 (by decide)
                    have z2542 : aI (f2529 pN) (8 * pF19.toInt + 4).toNat = y2487 := ent_no2 z2518 e2530 q2535 q2536 (by decide)
                    have z2543 : aI (f2529 pN) (8 * pF19.toInt + 5).toNat = y2487 := ent_st2 e2530 q2535 q2536 (by decide)
                    have z2544 : aI (f2529 pN) (8 * pF19.toInt + 6).toNat = 0 := ent_no2 z2520 e2530 q2535 q2536 (by decide)
                    clear q2535 q2536
                    clear z2514 z2515 z2516 z2517 z2518 z2519 z2520
                    refine lv_aload_n hx hb dX12_readClause_221 rfl (lv_at hl 3 rfl) ?_
                    refine fg_RX12_193 E hW rh0 dX12_readClause_222 (fun y2545 m2546 b2547 => ?_)
                    obtain rfl : y2484 = y2545 := (((fm_I g2532 rh0 rfl).trans ((fm_I g2508 rh0 rfl).trans m2485))).symm.trans m2546
                    refine q_if_ne (tgt := 247) hx hb dX12_readClause_225 (by decide) rfl (fun c2548 => ?_) (fun c2548 => ?_)
                    · refine lv_aload_n hx hb dX12_readClause_247 rfl (lv_at hl 3 rfl) ?_
                      refine fg_RX12_39 E hW rh0 dX12_readClause_248 (fun a2549 m2550 r2551 => ?_)
                      obtain rfl : pN = a2549 := (((fm_R g2532 rh0 rfl).trans m2522)).symm.trans m2550
                      refine lv_iload_n hx hb dX12_readClause_251 rfl (lv_at hl 1 rfl) ?_
                      refine lv_bipush (v := 6) hx hb dX12_readClause_252 (by decide) ?_
                      refine q_iadd (Y := 6) hx hb dX12_readClause_254 rfl rfl (by omega) (fun x2552 h2553 => ?_)
                      refine lv_aload_n hx hb dX12_readClause_255 rfl (lv_at hl 3 rfl) ?_
                      refine fg_RX12_229 E hW rh0 dX12_readClause_256 (fun y2554 m2555 b2556 => ?_)
                      obtain rfl : y2487 = y2554 := (((fm_I g2532 rh0 rfl).trans m2527)).symm.trans m2555
                      have hw2561 := hW.2.2.2
                      refine gs_840 E hW rN ⟨by omega, by omega⟩ dX12_readClause_259 (fun f2557 H locs e2558 n2559 g2560 hW => ?_)
                      have m2562 : oR (f2557 h0) 2 = pR := ((fm_R g2560 rh0 rfl).trans ((fm_R g2532 rh0 rfl).trans ((fm_R g2508 rh0 rfl).trans ((fm_R g2461 rh0 rfl).trans ((fm_R g2442 rh0 rfl).trans ((fm_R g2417 rh0 rfl).trans ((fm_R g2395 rh0 rfl).trans m2370)))))))
                      have m2563 : oI (f2557 h0) 12 = pF12 := ((fm_I g2560 rh0 rfl).trans ((fm_I g2532 rh0 rfl).trans ((fm_I g2508 rh0 rfl).trans ((fm_I g2461 rh0 rfl).trans ((fm_I g2442 rh0 rfl).trans ((fm_I g2417 rh0 rfl).trans ((fm_I g2395 rh0 rfl).trans m2371)))))))
                      have z2564 : DJ f0 f2557 h0 pF21.toInt pF21.toInt y2487.toInt y2487.toInt y2487.toInt := dj_keep z2534 hw2561 g2560 rh0 rfl (fun q => by rw [fm_I g2560 rh0 rfl]; exact q)
                      have hF := FM.tr hF g2560 rfl
                      have q2565 : x2552.toInt = 8 * pF19.toInt + 6 := by omega
                      have q2566 : 0 ≤ 8 * pF19.toInt := by omega
                      have z2567 : ∀ j : Nat, (j : Int) < 8 * pF19.toInt → aI (f2557 pN) j = aI (f0 pN) j := pre_st2 z2537 e2558 q2565 q2566 (by decide)
                      clear z2537
                      have z2568 : aI (f2557 pN) (8 * pF19.toInt + 0).toNat = x6 := ent_no2 z2538 e2558 q2565 q2566 (by decide)
                      have z2569 : aI (f2557 pN) (8 * pF19.toInt + 1).toNat = 0 := ent_no2 z2539 e2558 q2565 q2566 (by decide)
                      have z2570 : aI (f2557 pN) (8 * pF19.toInt + 2).toNat = 0 := ent_no2 z2540 e2558 q2565 q2566 (by decide)
                      have z2571 : aI (f2557 pN) (8 * pF19.toInt + 3).toNat = pF21 := ent_no2 z2541 e2558 q2565 q2566 (by decide)
                      have z2572 : aI (f2557 pN) (8 * pF19.toInt + 4).toNat = y2487 := ent_no2 z2542 e2558 q2565 q2566 (by decide)
                      have z2573 : aI (f2557 pN) (8 * pF19.toInt + 5).toNat = y2487 := ent_no2 z2543 e2558 q2565 q2566 (by decide)
                      have z2574 : aI (f2557 pN) (8 * pF19.toInt + 6).toNat = y2487 := ent_st2 e2558 q2565 q2566 (by decide)
                      clear q2565 q2566
                      clear z2538 z2539 z2540 z2541 z2542 z2543 z2544
                      exact e_V E hW rfl ⟨rfl, hF, (by simp only [m2563, mF12, ((fm_I g2560 rh0 rfl).trans ((fm_I g2532 rh0 rfl).trans ((fm_I g2508 rh0 rfl).trans m2476))), mF13, ((fm_I g2560 rh0 rfl).trans ((fm_I g2532 rh0 rfl).trans ((fm_I g2508 rh0 rfl).trans m2479))), mF14, ((fm_I g2560 rh0 rfl).trans ((fm_I g2532 rh0 rfl).trans ((fm_I g2508 rh0 rfl).trans m2482))), mF15, ((fm_I g2560 rh0 rfl).trans m2546), mF18, ((fm_I g2560 rh0 rfl).trans m2555), mF21, ((fm_J g2560 rh0 rfl).trans ((fm_J g2532 rh0 rfl).trans ((fm_J g2508 rh0 rfl).trans m2494))), mW, and_true, true_and, true_or, or_true, false_or, or_false] <;> omega), (Or.inl (by rw [((fm_I g2560 rh0 rfl).trans m2546)]; omega))⟩ dX12_readClause_260
                    · refine lv_aload_n hx hb dX12_readClause_228 rfl (lv_at hl 3 rfl) ?_
                      refine lv_ldc2 (v := 294) hx hb hown (hts _ tw_1904) dX12_readClause_229 ?_
                      have hw2578 := hW.2.2.2
                      refine t_callV (As := [.long 294]) (rest := []) E hW (c_X12_isWord l G cI cJ cZ cD cR cT kp L f2529 hW.2.2.2 _ h0 294 rh0 (by decide)) rh0 (by decide) rfl wk_X12_isWord tw_1797 rfl ⟨Nat.le_of_ble_eq_true rfl, Nat.le_of_ble_eq_true rfl⟩ ⟨rfl, rfl⟩ hl.1 rfl (Nat.le_of_ble_eq_true rfl) dX12_readClause_232 ⟨Nat.le_of_ble_eq_true rfl, Nat.le_of_ble_eq_true rfl⟩ (fun v2575 f2576 H locs q2577 hW => ?_)
                      obtain ⟨⟨x2580, rfl, p2581⟩, g2579⟩ := q2577
                      simp only [((fm_I g2532 rh0 rfl).trans ((fm_I g2508 rh0 rfl).trans m2482)), ((fm_J g2532 rh0 rfl).trans ((fm_J g2508 rh0 rfl).trans m2494))] at p2581
                      have p2581 : (x2580.toInt = 1 ∧ y2481.toInt = 1 ∧ y2493.toInt = 294) ∨ x2580.toInt = 0 := p2581
                      have m2582 : oR (f2576 h0) 2 = pR := ((fm_R g2579 rh0 rfl).trans ((fm_R g2532 rh0 rfl).trans ((fm_R g2508 rh0 rfl).trans ((fm_R g2461 rh0 rfl).trans ((fm_R g2442 rh0 rfl).trans ((fm_R g2417 rh0 rfl).trans ((fm_R g2395 rh0 rfl).trans m2370)))))))
                      have m2583 : oI (f2576 h0) 12 = pF12 := ((fm_I g2579 rh0 rfl).trans ((fm_I g2532 rh0 rfl).trans ((fm_I g2508 rh0 rfl).trans ((fm_I g2461 rh0 rfl).trans ((fm_I g2442 rh0 rfl).trans ((fm_I g2417 rh0 rfl).trans ((fm_I g2395 rh0 rfl).trans m2371)))))))
                      have m2584 : aI (f2576 pN) (x2088 : Int32).toNatClampNeg = x6 := ((congrArg (fun z => aI z (x2088 : Int32).toNatClampNeg) (fm_A g2579 rN (by decide) rfl)).trans (show aI (f2529 pN) (x2088 : Int32).toNatClampNeg = x6 from by rw [e2530, up_n (tn_ne (by omega) (by omega) (by omega))]; exact (show aI (f2505 pN) (x2088 : Int32).toNatClampNeg = x6 from by rw [e2506, up_n (tn_ne (by omega) (by omega) (by omega))]; exact m2464)))
                      have m2585 : aI (f2576 pN) (x2434 : Int32).toNatClampNeg = pF21 := ((congrArg (fun z => aI z (x2434 : Int32).toNatClampNeg) (fm_A g2579 rN (by decide) rfl)).trans (show aI (f2529 pN) (x2434 : Int32).toNatClampNeg = pF21 from by rw [e2530, up_n (tn_ne (by omega) (by omega) (by omega))]; exact (show aI (f2505 pN) (x2434 : Int32).toNatClampNeg = pF21 from by rw [e2506, up_n (tn_ne (by omega) (by omega) (by omega))]; exact m2465)))
                      have m2586 : aI (f2576 pN) (x2500 : Int32).toNatClampNeg = y2487 := ((congrArg (fun z => aI z (x2500 : Int32).toNatClampNeg) (fm_A g2579 rN (by decide) rfl)).trans (show aI (f2529 pN) (x2500 : Int32).toNatClampNeg = y2487 from by rw [e2530, up_n (tn_ne (by omega) (by omega) (by omega))]; exact (show aI (f2505 pN) (x2500 : Int32).toNatClampNeg = y2487 from by rw [e2506]; exact up_s)))
                      have m2587 : aI (f2576 pN) (x2524 : Int32).toNatClampNeg = y2487 := ((congrArg (fun z => aI z (x2524 : Int32).toNatClampNeg) (fm_A g2579 rN (by decide) rfl)).trans (show aI (f2529 pN) (x2524 : Int32).toNatClampNeg = y2487 from by rw [e2530]; exact up_s))
                      have z2588 : DJ f0 f2576 h0 pF21.toInt pF21.toInt y2487.toInt y2487.toInt y2487.toInt := dj_keep z2534 hw2578 g2579 rh0 rfl (fun q => by rw [fm_I g2579 rh0 rfl]; exact q)
                      have z2589 : ∀ j : Nat, (j : Int) < 8 * pF19.toInt → aI (f2576 pN) j = aI (f0 pN) j := by rw [fm_A g2579 rN (by decide) rfl]; exact z2537
                      clear z2537
                      have z2590 : aI (f2576 pN) (8 * pF19.toInt + 0).toNat = x6 := by rw [fm_A g2579 rN (by decide) rfl]; exact z2538
                      have z2591 : aI (f2576 pN) (8 * pF19.toInt + 1).toNat = 0 := by rw [fm_A g2579 rN (by decide) rfl]; exact z2539
                      have z2592 : aI (f2576 pN) (8 * pF19.toInt + 2).toNat = 0 := by rw [fm_A g2579 rN (by decide) rfl]; exact z2540
                      have z2593 : aI (f2576 pN) (8 * pF19.toInt + 3).toNat = pF21 := by rw [fm_A g2579 rN (by decide) rfl]; exact z2541
                      have z2594 : aI (f2576 pN) (8 * pF19.toInt + 4).toNat = y2487 := by rw [fm_A g2579 rN (by decide) rfl]; exact z2542
                      have z2595 : aI (f2576 pN) (8 * pF19.toInt + 5).toNat = y2487 := by rw [fm_A g2579 rN (by decide) rfl]; exact z2543
                      have z2596 : aI (f2576 pN) (8 * pF19.toInt + 6).toNat = 0 := by rw [fm_A g2579 rN (by decide) rfl]; exact z2544
                      clear z2538 z2539 z2540 z2541 z2542 z2543 z2544
                      have hF := FM.tr hF g2579 rfl
                      refine q_if_eq (tgt := 247) hx hb dX12_readClause_235 (by decide) rfl (fun c2597 => ?_) (fun c2597 => ?_)
                      · clear p2581
                        refine lv_aload_n hx hb dX12_readClause_247 rfl (lv_at hl 3 rfl) ?_
                        refine fg_RX12_39 E hW rh0 dX12_readClause_248 (fun a2598 m2599 r2600 => ?_)
                        obtain rfl : pN = a2598 := (((fm_R g2579 rh0 rfl).trans ((fm_R g2532 rh0 rfl).trans m2522))).symm.trans m2599
                        refine lv_iload_n hx hb dX12_readClause_251 rfl (lv_at hl 1 rfl) ?_
                        refine lv_bipush (v := 6) hx hb dX12_readClause_252 (by decide) ?_
                        refine q_iadd (Y := 6) hx hb dX12_readClause_254 rfl rfl (by omega) (fun x2601 h2602 => ?_)
                        refine lv_aload_n hx hb dX12_readClause_255 rfl (lv_at hl 3 rfl) ?_
                        refine fg_RX12_229 E hW rh0 dX12_readClause_256 (fun y2603 m2604 b2605 => ?_)
                        obtain rfl : y2487 = y2603 := (((fm_I g2579 rh0 rfl).trans ((fm_I g2532 rh0 rfl).trans m2527))).symm.trans m2604
                        have hw2610 := hW.2.2.2
                        refine gs_840 E hW rN ⟨by omega, by omega⟩ dX12_readClause_259 (fun f2606 H locs e2607 n2608 g2609 hW => ?_)
                        have z2611 : DJ f0 f2606 h0 pF21.toInt pF21.toInt y2487.toInt y2487.toInt y2487.toInt := dj_keep z2588 hw2610 g2609 rh0 rfl (fun q => by rw [fm_I g2609 rh0 rfl]; exact q)
                        have hF := FM.tr hF g2609 rfl
                        have q2612 : x2601.toInt = 8 * pF19.toInt + 6 := by omega
                        have q2613 : 0 ≤ 8 * pF19.toInt := by omega
                        have z2614 : ∀ j : Nat, (j : Int) < 8 * pF19.toInt → aI (f2606 pN) j = aI (f0 pN) j := pre_st2 z2589 e2607 q2612 q2613 (by decide)
                        clear z2589
                        have z2615 : aI (f2606 pN) (8 * pF19.toInt + 0).toNat = x6 := ent_no2 z2590 e2607 q2612 q2613 (by decide)
                        have z2616 : aI (f2606 pN) (8 * pF19.toInt + 1).toNat = 0 := ent_no2 z2591 e2607 q2612 q2613 (by decide)
                        have z2617 : aI (f2606 pN) (8 * pF19.toInt + 2).toNat = 0 := ent_no2 z2592 e2607 q2612 q2613 (by decide)
                        have z2618 : aI (f2606 pN) (8 * pF19.toInt + 3).toNat = pF21 := ent_no2 z2593 e2607 q2612 q2613 (by decide)
                        have z2619 : aI (f2606 pN) (8 * pF19.toInt + 4).toNat = y2487 := ent_no2 z2594 e2607 q2612 q2613 (by decide)
                        have z2620 : aI (f2606 pN) (8 * pF19.toInt + 5).toNat = y2487 := ent_no2 z2595 e2607 q2612 q2613 (by decide)
                        have z2621 : aI (f2606 pN) (8 * pF19.toInt + 6).toNat = y2487 := ent_st2 e2607 q2612 q2613 (by decide)
                        clear q2612 q2613
                        clear z2590 z2591 z2592 z2593 z2594 z2595 z2596
                        exact e_V E hW rfl ⟨rfl, hF, (by simp only [((fm_I g2609 rh0 rfl).trans m2583), mF12, ((fm_I g2609 rh0 rfl).trans ((fm_I g2579 rh0 rfl).trans ((fm_I g2532 rh0 rfl).trans ((fm_I g2508 rh0 rfl).trans m2476)))), mF13, ((fm_I g2609 rh0 rfl).trans ((fm_I g2579 rh0 rfl).trans ((fm_I g2532 rh0 rfl).trans ((fm_I g2508 rh0 rfl).trans m2479)))), mF14, ((fm_I g2609 rh0 rfl).trans ((fm_I g2579 rh0 rfl).trans ((fm_I g2532 rh0 rfl).trans ((fm_I g2508 rh0 rfl).trans m2482)))), mF15, ((fm_I g2609 rh0 rfl).trans ((fm_I g2579 rh0 rfl).trans m2546)), mF18, ((fm_I g2609 rh0 rfl).trans m2604), mF21, ((fm_J g2609 rh0 rfl).trans ((fm_J g2579 rh0 rfl).trans ((fm_J g2532 rh0 rfl).trans ((fm_J g2508 rh0 rfl).trans m2494)))), mW, and_true, true_and, true_or, or_true, false_or, or_false] <;> omega), (by have hk0 : (0 : Int32).toInt = 0 := rfl; rw [((fm_I g2609 rh0 rfl).trans m2604), ((fm_I g2609 rh0 rfl).trans ((fm_I g2579 rh0 rfl).trans ((fm_I g2532 rh0 rfl).trans ((fm_I g2508 rh0 rfl).trans ((fm_I g2461 rh0 rfl).trans ((fm_I g2442 rh0 rfl).trans e2415))))))]; exact cl_end (nc := y2487.toInt) (hd := x6) (r1 := 0) (r2 := 0) (show CLs _ _ _ pF21.toInt pF19.toInt from hC) (by omega) (show DJ f0 f2606 h0 pF21.toInt (pF21 : Int32).toInt (y2487 : Int32).toInt (y2487 : Int32).toInt (y2487 : Int32).toInt from z2611) (fun j hj => by unfold vN; rw [((fm_R g2609 rh0 rfl).trans m2599), mN]; exact z2614 j hj) (by unfold vN; rw [((fm_R g2609 rh0 rfl).trans m2599)]; exact z2615) (by unfold vN; rw [((fm_R g2609 rh0 rfl).trans m2599)]; exact z2616) (by unfold vN; rw [((fm_R g2609 rh0 rfl).trans m2599)]; exact z2617) (by unfold vN; rw [((fm_R g2609 rh0 rfl).trans m2599)]; exact z2618) (by unfold vN; rw [((fm_R g2609 rh0 rfl).trans m2599)]; exact z2619) (by unfold vN; rw [((fm_R g2609 rh0 rfl).trans m2599)]; exact z2620) (by unfold vN; rw [((fm_R g2609 rh0 rfl).trans m2599)]; exact z2621) (by rw [((fm_I g2609 rh0 rfl).trans ((fm_I g2579 rh0 rfl).trans m2546))]; omega) (by omega) (by omega))⟩ dX12_readClause_260
                      · have q2622 : y2481.toInt = 1 ∧ y2493.toInt = 294 := by omega
                        clear p2581
                        refine lv_aload_n hx hb dX12_readClause_238 rfl (lv_at hl 3 rfl) ?_
                        have hw2626 := hW.2.2.2
                        refine t_callV (As := []) (rest := []) E hW (c_X12_next l G cI cJ cZ cD cR cT kp L f2576 hW.2.2.2 _ h0 rh0 (by simp only [m2583, ((fm_I g2579 rh0 rfl).trans ((fm_I g2532 rh0 rfl).trans ((fm_I g2508 rh0 rfl).trans m2479))), and_true, true_and, true_or, or_true, false_or, or_false] <;> omega)) rh0 (by decide) rfl wk_X12_next tw_1773 rfl ⟨Nat.le_of_ble_eq_true rfl, Nat.le_of_ble_eq_true rfl⟩ ⟨rfl, rfl⟩ hl.1 rfl (Nat.le_of_ble_eq_true rfl) dX12_readClause_239 ⟨Nat.le_of_ble_eq_true rfl, Nat.le_of_ble_eq_true rfl⟩ (fun v2623 f2624 H locs q2625 hW => ?_)
                        obtain ⟨rfl, g2627, h2628⟩ := q2625
                        have z2629 : DJ f0 f2624 h0 pF21.toInt pF21.toInt y2487.toInt y2487.toInt y2487.toInt := dj_keep z2588 hw2626 g2627 rh0 rfl (fun q => by rw [fm_I g2627 rh0 rfl]; exact q)
                        have z2630 : ∀ j : Nat, (j : Int) < 8 * pF19.toInt → aI (f2624 pN) j = aI (f0 pN) j := by rw [fm_A g2627 rN (by decide) rfl]; exact z2589
                        clear z2589
                        have z2631 : aI (f2624 pN) (8 * pF19.toInt + 0).toNat = x6 := by rw [fm_A g2627 rN (by decide) rfl]; exact z2590
                        have z2632 : aI (f2624 pN) (8 * pF19.toInt + 1).toNat = 0 := by rw [fm_A g2627 rN (by decide) rfl]; exact z2591
                        have z2633 : aI (f2624 pN) (8 * pF19.toInt + 2).toNat = 0 := by rw [fm_A g2627 rN (by decide) rfl]; exact z2592
                        have z2634 : aI (f2624 pN) (8 * pF19.toInt + 3).toNat = pF21 := by rw [fm_A g2627 rN (by decide) rfl]; exact z2593
                        have z2635 : aI (f2624 pN) (8 * pF19.toInt + 4).toNat = y2487 := by rw [fm_A g2627 rN (by decide) rfl]; exact z2594
                        have z2636 : aI (f2624 pN) (8 * pF19.toInt + 5).toNat = y2487 := by rw [fm_A g2627 rN (by decide) rfl]; exact z2595
                        have z2637 : aI (f2624 pN) (8 * pF19.toInt + 6).toNat = 0 := by rw [fm_A g2627 rN (by decide) rfl]; exact z2596
                        clear z2590 z2591 z2592 z2593 z2594 z2595 z2596
                        have hF := FM.tr hF g2627 rfl
                        obtain ⟨y2638, m2639⟩ : ∃ x : Int32, oI (f2624 h0) 13 = x := ⟨_, rfl⟩
                        have b2640 : (0 : Int) ≤ y2638.toInt ∧ y2638.toInt ≤ 400 := by rw [← m2639]; exact th_iv hW rh0 (by decide) (by decide) rfl
                        obtain ⟨y2641, m2642⟩ : ∃ x : Int32, oI (f2624 h0) 14 = x := ⟨_, rfl⟩
                        have b2643 : (0 : Int) ≤ y2641.toInt ∧ y2641.toInt ≤ 400 := by rw [← m2642]; exact th_iv hW rh0 (by decide) (by decide) rfl
                        obtain ⟨y2644, m2645⟩ : ∃ x : Int32, oI (f2624 h0) 15 = x := ⟨_, rfl⟩
                        have b2646 : (0 : Int) ≤ y2644.toInt ∧ y2644.toInt ≤ 3 := by rw [← m2645]; exact th_iv hW rh0 (by decide) (by decide) rfl
                        obtain ⟨y2647, m2648⟩ : ∃ x : Int64, oJ (f2624 h0) 16 = x := ⟨_, rfl⟩
                        simp only [((fm_I g2627 rh0 rfl).trans m2583), m2583, m2639, ((fm_I g2579 rh0 rfl).trans ((fm_I g2532 rh0 rfl).trans ((fm_I g2508 rh0 rfl).trans m2476))), m2642, ((fm_I g2579 rh0 rfl).trans ((fm_I g2532 rh0 rfl).trans ((fm_I g2508 rh0 rfl).trans m2479))), m2645, ((fm_I g2579 rh0 rfl).trans ((fm_I g2532 rh0 rfl).trans ((fm_I g2508 rh0 rfl).trans m2482))), m2648, ((fm_J g2579 rh0 rfl).trans ((fm_J g2532 rh0 rfl).trans ((fm_J g2508 rh0 rfl).trans m2494)))] at h2628
                        refine lv_aload_n hx hb dX12_readClause_242 rfl (lv_at hl 3 rfl) ?_
                        refine lv_iconst (v := 1) hx hb dX12_readClause_243 (by decide) ?_
                        have hw2653 := hW.2.2.2
                        refine t_callV (As := [.int 1]) (rest := []) E hW (c_X12_readExpression l G cI cJ cZ cD cR cT kp L f2624 hW.2.2.2 _ h0 1 rh0 (by decide) (by have hkq2649 : (1 : Int32).toInt = 1 := rfl; simp only [((fm_I g2627 rh0 rfl).trans m2583), m2639, m2642, m2645, ((fm_I g2627 rh0 rfl).trans ((fm_I g2579 rh0 rfl).trans m2546)), ((fm_I g2627 rh0 rfl).trans ((fm_I g2579 rh0 rfl).trans ((fm_I g2532 rh0 rfl).trans m2527))), m2648, and_true, true_and, true_or, or_true, false_or, or_false] <;> omega)) rh0 (by decide) rfl wk_X12_readExpression tw_1819 rfl ⟨Nat.le_of_ble_eq_true rfl, Nat.le_of_ble_eq_true rfl⟩ ⟨rfl, rfl⟩ hl.1 rfl (Nat.le_of_ble_eq_true rfl) dX12_readClause_244 ⟨Nat.le_of_ble_eq_true rfl, Nat.le_of_ble_eq_true rfl⟩ (fun v2650 f2651 H locs q2652 hW => ?_)
                        obtain ⟨rfl, g2654, h2655, h2656⟩ := q2652
                        have m2657 : oI (f2651 h0) 19 = x2412 := ((fm_I g2654 rh0 rfl).trans ((fm_I g2627 rh0 rfl).trans ((fm_I g2579 rh0 rfl).trans ((fm_I g2532 rh0 rfl).trans ((fm_I g2508 rh0 rfl).trans ((fm_I g2461 rh0 rfl).trans ((fm_I g2442 rh0 rfl).trans e2415)))))))
                        have m2658 : aI (f2651 pN) (x2088 : Int32).toNatClampNeg = x6 := ((congrArg (fun z => aI z (x2088 : Int32).toNatClampNeg) (fm_A g2654 rN (by decide) rfl)).trans ((congrArg (fun z => aI z (x2088 : Int32).toNatClampNeg) (fm_A g2627 rN (by decide) rfl)).trans m2584))
                        have m2659 : aI (f2651 pN) (x2434 : Int32).toNatClampNeg = pF21 := ((congrArg (fun z => aI z (x2434 : Int32).toNatClampNeg) (fm_A g2654 rN (by decide) rfl)).trans ((congrArg (fun z => aI z (x2434 : Int32).toNatClampNeg) (fm_A g2627 rN (by decide) rfl)).trans m2585))
                        have m2660 : aI (f2651 pN) (x2500 : Int32).toNatClampNeg = y2487 := ((congrArg (fun z => aI z (x2500 : Int32).toNatClampNeg) (fm_A g2654 rN (by decide) rfl)).trans ((congrArg (fun z => aI z (x2500 : Int32).toNatClampNeg) (fm_A g2627 rN (by decide) rfl)).trans m2586))
                        have m2661 : aI (f2651 pN) (x2524 : Int32).toNatClampNeg = y2487 := ((congrArg (fun z => aI z (x2524 : Int32).toNatClampNeg) (fm_A g2654 rN (by decide) rfl)).trans ((congrArg (fun z => aI z (x2524 : Int32).toNatClampNeg) (fm_A g2627 rN (by decide) rfl)).trans m2587))
                        have z2662 : ∀ j : Nat, (j : Int) < 8 * pF19.toInt → aI (f2651 pN) j = aI (f0 pN) j := by rw [fm_A g2654 rN (by decide) rfl]; exact z2630
                        clear z2630
                        have z2663 : aI (f2651 pN) (8 * pF19.toInt + 0).toNat = x6 := by rw [fm_A g2654 rN (by decide) rfl]; exact z2631
                        have z2664 : aI (f2651 pN) (8 * pF19.toInt + 1).toNat = 0 := by rw [fm_A g2654 rN (by decide) rfl]; exact z2632
                        have z2665 : aI (f2651 pN) (8 * pF19.toInt + 2).toNat = 0 := by rw [fm_A g2654 rN (by decide) rfl]; exact z2633
                        have z2666 : aI (f2651 pN) (8 * pF19.toInt + 3).toNat = pF21 := by rw [fm_A g2654 rN (by decide) rfl]; exact z2634
                        have z2667 : aI (f2651 pN) (8 * pF19.toInt + 4).toNat = y2487 := by rw [fm_A g2654 rN (by decide) rfl]; exact z2635
                        have z2668 : aI (f2651 pN) (8 * pF19.toInt + 5).toNat = y2487 := by rw [fm_A g2654 rN (by decide) rfl]; exact z2636
                        have z2669 : aI (f2651 pN) (8 * pF19.toInt + 6).toNat = 0 := by rw [fm_A g2654 rN (by decide) rfl]; exact z2637
                        clear z2631 z2632 z2633 z2634 z2635 z2636 z2637
                        have hF := FM.tr hF g2654 rfl
                        have hk2670 : (1 : Int32).toInt = 1 := rfl
                        obtain ⟨y2671, m2672⟩ : ∃ x : Int32, oI (f2651 h0) 13 = x := ⟨_, rfl⟩
                        have b2673 : (0 : Int) ≤ y2671.toInt ∧ y2671.toInt ≤ 400 := by rw [← m2672]; exact th_iv hW rh0 (by decide) (by decide) rfl
                        obtain ⟨y2674, m2675⟩ : ∃ x : Int32, oI (f2651 h0) 14 = x := ⟨_, rfl⟩
                        have b2676 : (0 : Int) ≤ y2674.toInt ∧ y2674.toInt ≤ 400 := by rw [← m2675]; exact th_iv hW rh0 (by decide) (by decide) rfl
                        obtain ⟨y2677, m2678⟩ : ∃ x : Int32, oI (f2651 h0) 15 = x := ⟨_, rfl⟩
                        have b2679 : (0 : Int) ≤ y2677.toInt ∧ y2677.toInt ≤ 3 := by rw [← m2678]; exact th_iv hW rh0 (by decide) (by decide) rfl
                        obtain ⟨y2680, m2681⟩ : ∃ x : Int32, oI (f2651 h0) 18 = x := ⟨_, rfl⟩
                        have b2682 : (0 : Int) ≤ y2680.toInt ∧ y2680.toInt ≤ 1 := by rw [← m2681]; exact th_iv hW rh0 (by decide) (by decide) rfl
                        obtain ⟨y2683, m2684⟩ : ∃ x : Int32, oI (f2651 h0) 21 = x := ⟨_, rfl⟩
                        have b2685 : (0 : Int) ≤ y2683.toInt ∧ y2683.toInt ≤ 400 := by rw [← m2684]; exact th_iv hW rh0 (by decide) (by decide) rfl
                        obtain ⟨y2686, m2687⟩ : ∃ x : Int32, oI (f2651 h0) 27 = x := ⟨_, rfl⟩
                        have b2688 : (0 : Int) ≤ y2686.toInt ∧ y2686.toInt ≤ 400 := by rw [← m2687]; exact th_iv hW rh0 (by decide) (by decide) rfl
                        obtain ⟨y2689, m2690⟩ : ∃ x : Int64, oJ (f2651 h0) 16 = x := ⟨_, rfl⟩
                        simp only [((fm_I g2654 rh0 rfl).trans ((fm_I g2627 rh0 rfl).trans m2583)), ((fm_I g2627 rh0 rfl).trans m2583), m2672, m2639, m2675, m2642, m2678, m2645, m2681, ((fm_I g2627 rh0 rfl).trans ((fm_I g2579 rh0 rfl).trans m2546)), m2684, ((fm_I g2627 rh0 rfl).trans ((fm_I g2579 rh0 rfl).trans ((fm_I g2532 rh0 rfl).trans m2527))), m2687, ((fm_I g2627 rh0 rfl).trans ((fm_I g2579 rh0 rfl).trans ((fm_I g2532 rh0 rfl).trans ((fm_I g2508 rh0 rfl).trans m2491)))), m2690, m2648] at h2655
                        have z2692 := h2656
                        rw [((fm_I g2627 rh0 rfl).trans ((fm_I g2579 rh0 rfl).trans ((fm_I g2532 rh0 rfl).trans m2527))), m2684] at z2692
                        have z2691 : DJ f0 f2651 h0 pF21.toInt pF21.toInt y2487.toInt y2487.toInt y2683.toInt := dj_ex2 z2629 (by rw [((fm_I g2627 rh0 rfl).trans ((fm_I g2579 rh0 rfl).trans m2546))]; omega) (by omega) (by omega) (by omega) z2692
                        refine lv_aload_n hx hb dX12_readClause_247 rfl (lv_at hl 3 rfl) ?_
                        refine fg_RX12_39 E hW rh0 dX12_readClause_248 (fun a2693 m2694 r2695 => ?_)
                        obtain rfl : pN = a2693 := (((fm_R g2654 rh0 rfl).trans ((fm_R g2627 rh0 rfl).trans ((fm_R g2579 rh0 rfl).trans ((fm_R g2532 rh0 rfl).trans m2522))))).symm.trans m2694
                        refine lv_iload_n hx hb dX12_readClause_251 rfl (lv_at hl 1 rfl) ?_
                        refine lv_bipush (v := 6) hx hb dX12_readClause_252 (by decide) ?_
                        refine q_iadd (Y := 6) hx hb dX12_readClause_254 rfl rfl (by omega) (fun x2696 h2697 => ?_)
                        refine lv_aload_n hx hb dX12_readClause_255 rfl (lv_at hl 3 rfl) ?_
                        refine fg_RX12_229 E hW rh0 dX12_readClause_256 (fun y2698 m2699 b2700 => ?_)
                        obtain rfl : y2683 = y2698 := (m2684).symm.trans m2699
                        have hw2705 := hW.2.2.2
                        refine gs_840 E hW rN ⟨by omega, by omega⟩ dX12_readClause_259 (fun f2701 H locs e2702 n2703 g2704 hW => ?_)
                        have z2706 : DJ f0 f2701 h0 pF21.toInt pF21.toInt y2487.toInt y2487.toInt y2683.toInt := dj_keep z2691 hw2705 g2704 rh0 rfl (fun q => by rw [fm_I g2704 rh0 rfl]; exact q)
                        have hF := FM.tr hF g2704 rfl
                        have q2707 : x2696.toInt = 8 * pF19.toInt + 6 := by omega
                        have q2708 : 0 ≤ 8 * pF19.toInt := by omega
                        have z2709 : ∀ j : Nat, (j : Int) < 8 * pF19.toInt → aI (f2701 pN) j = aI (f0 pN) j := pre_st2 z2662 e2702 q2707 q2708 (by decide)
                        clear z2662
                        have z2710 : aI (f2701 pN) (8 * pF19.toInt + 0).toNat = x6 := ent_no2 z2663 e2702 q2707 q2708 (by decide)
                        have z2711 : aI (f2701 pN) (8 * pF19.toInt + 1).toNat = 0 := ent_no2 z2664 e2702 q2707 q2708 (by decide)
                        have z2712 : aI (f2701 pN) (8 * pF19.toInt + 2).toNat = 0 := ent_no2 z2665 e2702 q2707 q2708 (by decide)
                        have z2713 : aI (f2701 pN) (8 * pF19.toInt + 3).toNat = pF21 := ent_no2 z2666 e2702 q2707 q2708 (by decide)
                        have z2714 : aI (f2701 pN) (8 * pF19.toInt + 4).toNat = y2487 := ent_no2 z2667 e2702 q2707 q2708 (by decide)
                        have z2715 : aI (f2701 pN) (8 * pF19.toInt + 5).toNat = y2487 := ent_no2 z2668 e2702 q2707 q2708 (by decide)
                        have z2716 : aI (f2701 pN) (8 * pF19.toInt + 6).toNat = y2683 := ent_st2 e2702 q2707 q2708 (by decide)
                        clear q2707 q2708
                        clear z2663 z2664 z2665 z2666 z2667 z2668 z2669
                        exact e_V E hW rfl ⟨rfl, hF, (by simp only [((fm_I g2704 rh0 rfl).trans ((fm_I g2654 rh0 rfl).trans ((fm_I g2627 rh0 rfl).trans m2583))), mF12, ((fm_I g2704 rh0 rfl).trans m2672), mF13, ((fm_I g2704 rh0 rfl).trans m2675), mF14, ((fm_I g2704 rh0 rfl).trans m2678), mF15, ((fm_I g2704 rh0 rfl).trans m2681), mF18, ((fm_I g2704 rh0 rfl).trans m2699), mF21, ((fm_J g2704 rh0 rfl).trans m2690), mW, and_true, true_and, true_or, or_true, false_or, or_false] <;> omega), (by have hk0 : (0 : Int32).toInt = 0 := rfl; rw [((fm_I g2704 rh0 rfl).trans m2699), ((fm_I g2704 rh0 rfl).trans m2657)]; exact cl_end (nc := y2683.toInt) (hd := x6) (r1 := 0) (r2 := 0) (show CLs _ _ _ pF21.toInt pF19.toInt from hC) (by omega) (show DJ f0 f2701 h0 pF21.toInt (pF21 : Int32).toInt (y2487 : Int32).toInt (y2487 : Int32).toInt (y2683 : Int32).toInt from z2706) (fun j hj => by unfold vN; rw [((fm_R g2704 rh0 rfl).trans m2694), mN]; exact z2709 j hj) (by unfold vN; rw [((fm_R g2704 rh0 rfl).trans m2694)]; exact z2710) (by unfold vN; rw [((fm_R g2704 rh0 rfl).trans m2694)]; exact z2711) (by unfold vN; rw [((fm_R g2704 rh0 rfl).trans m2694)]; exact z2712) (by unfold vN; rw [((fm_R g2704 rh0 rfl).trans m2694)]; exact z2713) (by unfold vN; rw [((fm_R g2704 rh0 rfl).trans m2694)]; exact z2714) (by unfold vN; rw [((fm_R g2704 rh0 rfl).trans m2694)]; exact z2715) (by unfold vN; rw [((fm_R g2704 rh0 rfl).trans m2694)]; exact z2716) (by rw [((fm_I g2704 rh0 rfl).trans m2681)]; omega) (by omega) (by omega))⟩ dX12_readClause_260
                  · refine lv_iload_n hx hb dX12_readClause_187 rfl (lv_at hl 2 rfl) ?_
                    refine lv_iconst (v := 3) hx hb dX12_readClause_188 (by decide) ?_
                    refine q_icmp_ne (Y := 3) (tgt := 197) hx hb dX12_readClause_189 (by decide) rfl rfl (fun c2717 => ?_) (fun c2717 => ?_)
                    · refine lv_aload_n hx hb dX12_readClause_197 rfl (lv_at hl 3 rfl) ?_
                      refine fg_RX12_39 E hW rh0 dX12_readClause_198 (fun a2718 m2719 r2720 => ?_)
                      obtain rfl : pN = a2718 := (((fm_R g2442 rh0 rfl).trans m2432)).symm.trans m2719
                      refine lv_iload_n hx hb dX12_readClause_201 rfl (lv_at hl 1 rfl) ?_
                      refine lv_iconst (v := 4) hx hb dX12_readClause_202 (by decide) ?_
                      refine q_iadd (Y := 4) hx hb dX12_readClause_203 rfl rfl (by omega) (fun x2721 h2722 => ?_)
                      refine lv_aload_n hx hb dX12_readClause_204 rfl (lv_at hl 3 rfl) ?_
                      refine fg_RX12_229 E hW rh0 dX12_readClause_205 (fun y2723 m2724 b2725 => ?_)
                      obtain rfl : pF21 = y2723 := (((fm_I g2442 rh0 rfl).trans m2437)).symm.trans m2724
                      have hw2730 := hW.2.2.2
                      refine gs_840 E hW rN ⟨by omega, by omega⟩ dX12_readClause_208 (fun f2726 H locs e2727 n2728 g2729 hW => ?_)
                      have z2731 : DJ f0 f2726 h0 pF21.toInt 0 0 0 0 := dj_keep z2444 hw2730 g2729 rh0 rfl (fun q => by rw [fm_I g2729 rh0 rfl]; exact q)
                      have hF := FM.tr hF g2729 rfl
                      have q2732 : x2721.toInt = 8 * pF19.toInt + 4 := by omega
                      have q2733 : 0 ≤ 8 * pF19.toInt := by omega
                      have z2734 : ∀ j : Nat, (j : Int) < 8 * pF19.toInt → aI (f2726 pN) j = aI (f0 pN) j := pre_st2 z2447 e2727 q2732 q2733 (by decide)
                      clear z2447
                      have z2735 : aI (f2726 pN) (8 * pF19.toInt + 0).toNat = x6 := ent_no2 z2448 e2727 q2732 q2733 (by decide)
                      have z2736 : aI (f2726 pN) (8 * pF19.toInt + 1).toNat = 0 := ent_no2 z2449 e2727 q2732 q2733 (by decide)
                      have z2737 : aI (f2726 pN) (8 * pF19.toInt + 2).toNat = 0 := ent_no2 z2450 e2727 q2732 q2733 (by decide)
                      have z2738 : aI (f2726 pN) (8 * pF19.toInt + 3).toNat = pF21 := ent_no2 z2451 e2727 q2732 q2733 (by decide)
                      have z2739 : aI (f2726 pN) (8 * pF19.toInt + 4).toNat = pF21 := ent_st2 e2727 q2732 q2733 (by decide)
                      have z2740 : aI (f2726 pN) (8 * pF19.toInt + 5).toNat = 0 := ent_no2 z2453 e2727 q2732 q2733 (by decide)
                      have z2741 : aI (f2726 pN) (8 * pF19.toInt + 6).toNat = 0 := ent_no2 z2454 e2727 q2732 q2733 (by decide)
                      clear q2732 q2733
                      clear z2448 z2449 z2450 z2451 z2452 z2453 z2454
                      refine lv_aload_n hx hb dX12_readClause_209 rfl (lv_at hl 3 rfl) ?_
                      refine fg_RX12_39 E hW rh0 dX12_readClause_210 (fun a2742 m2743 r2744 => ?_)
                      obtain rfl : pN = a2742 := (((fm_R g2729 rh0 rfl).trans m2719)).symm.trans m2743
                      refine lv_iload_n hx hb dX12_readClause_213 rfl (lv_at hl 1 rfl) ?_
                      refine lv_iconst (v := 5) hx hb dX12_readClause_214 (by decide) ?_
                      refine q_iadd (Y := 5) hx hb dX12_readClause_215 rfl rfl (by omega) (fun x2745 h2746 => ?_)
                      refine lv_aload_n hx hb dX12_readClause_216 rfl (lv_at hl 3 rfl) ?_
                      refine fg_RX12_229 E hW rh0 dX12_readClause_217 (fun y2747 m2748 b2749 => ?_)
                      obtain rfl : pF21 = y2747 := (((fm_I g2729 rh0 rfl).trans m2724)).symm.trans m2748
                      have hw2754 := hW.2.2.2
                      refine gs_840 E hW rN ⟨by omega, by omega⟩ dX12_readClause_220 (fun f2750 H locs e2751 n2752 g2753 hW => ?_)
                      have z2755 : DJ f0 f2750 h0 pF21.toInt 0 0 0 0 := dj_keep z2731 hw2754 g2753 rh0 rfl (fun q => by rw [fm_I g2753 rh0 rfl]; exact q)
                      have hF := FM.tr hF g2753 rfl
                      have q2756 : x2745.toInt = 8 * pF19.toInt + 5 := by omega
                      have q2757 : 0 ≤ 8 * pF19.toInt := by omega
                      have z2758 : ∀ j : Nat, (j : Int) < 8 * pF19.toInt → aI (f2750 pN) j = aI (f0 pN) j := pre_st2 z2734 e2751 q2756 q2757 (by decide)
                      clear z2734
                      have z2759 : aI (f2750 pN) (8 * pF19.toInt + 0).toNat = x6 := ent_no2 z2735 e2751 q2756 q2757 (by decide)
                      have z2760 : aI (f2750 pN) (8 * pF19.toInt + 1).toNat = 0 := ent_no2 z2736 e2751 q2756 q2757 (by decide)
                      have z2761 : aI (f2750 pN) (8 * pF19.toInt + 2).toNat = 0 := ent_no2 z2737 e2751 q2756 q2757 (by decide)
                      have z2762 : aI (f2750 pN) (8 * pF19.toInt + 3).toNat = pF21 := ent_no2 z2738 e2751 q2756 q2757 (by decide)
                      have z2763 : aI (f2750 pN) (8 * pF19.toInt + 4).toNat = pF21 := ent_no2 z2739 e2751 q2756 q2757 (by decide)
                      have z2764 : aI (f2750 pN) (8 * pF19.toInt + 5).toNat = pF21 := ent_st2 e2751 q2756 q2757 (by decide)
                      have z2765 : aI (f2750 pN) (8 * pF19.toInt + 6).toNat = 0 := ent_no2 z2741 e2751 q2756 q2757 (by decide)
                      clear q2756 q2757
                      clear z2735 z2736 z2737 z2738 z2739 z2740 z2741
                      refine lv_aload_n hx hb dX12_readClause_221 rfl (lv_at hl 3 rfl) ?_
                      refine fg_RX12_193 E hW rh0 dX12_readClause_222 (fun y2766 m2767 b2768 => ?_)
                      obtain rfl : y2075 = y2766 := (((fm_I g2753 rh0 rfl).trans ((fm_I g2729 rh0 rfl).trans ((fm_I g2442 rh0 rfl).trans ((fm_I g2417 rh0 rfl).trans ((fm_I g2395 rh0 rfl).trans m2376)))))).symm.trans m2767
                      refine q_if_ne (tgt := 247) hx hb dX12_readClause_225 (by decide) rfl (fun c2769 => ?_) (fun c2769 => ?_)
                      · exfalso; omega
                      · refine lv_aload_n hx hb dX12_readClause_228 rfl (lv_at hl 3 rfl) ?_
                        refine lv_ldc2 (v := 294) hx hb hown (hts _ tw_1904) dX12_readClause_229 ?_
                        have hw2773 := hW.2.2.2
                        refine t_callV (As := [.long 294]) (rest := []) E hW (c_X12_isWord l G cI cJ cZ cD cR cT kp L f2750 hW.2.2.2 _ h0 294 rh0 (by decide)) rh0 (by decide) rfl wk_X12_isWord tw_1797 rfl ⟨Nat.le_of_ble_eq_true rfl, Nat.le_of_ble_eq_true rfl⟩ ⟨rfl, rfl⟩ hl.1 rfl (Nat.le_of_ble_eq_true rfl) dX12_readClause_232 ⟨Nat.le_of_ble_eq_true rfl, Nat.le_of_ble_eq_true rfl⟩ (fun v2770 f2771 H locs q2772 hW => ?_)
                        obtain ⟨⟨x2775, rfl, p2776⟩, g2774⟩ := q2772
                        simp only [((fm_I g2753 rh0 rfl).trans ((fm_I g2729 rh0 rfl).trans ((fm_I g2442 rh0 rfl).trans ((fm_I g2417 rh0 rfl).trans ((fm_I g2395 rh0 rfl).trans m2374))))), ((fm_J g2753 rh0 rfl).trans ((fm_J g2729 rh0 rfl).trans ((fm_J g2442 rh0 rfl).trans ((fm_J g2417 rh0 rfl).trans ((fm_J g2395 rh0 rfl).trans m2375)))))] at p2776
                        have p2776 : (x2775.toInt = 1 ∧ y2072.toInt = 1 ∧ y2078.toInt = 294) ∨ x2775.toInt = 0 := p2776
                        have m2777 : aI (f2771 pN) (x2088 : Int32).toNatClampNeg = x6 := ((congrArg (fun z => aI z (x2088 : Int32).toNatClampNeg) (fm_A g2774 rN (by decide) rfl)).trans (show aI (f2750 pN) (x2088 : Int32).toNatClampNeg = x6 from by rw [e2751, up_n (tn_ne (by omega) (by omega) (by omega))]; exact (show aI (f2726 pN) (x2088 : Int32).toNatClampNeg = x6 from by rw [e2727, up_n (tn_ne (by omega) (by omega) (by omega))]; exact (show aI (f2439 pN) (x2088 : Int32).toNatClampNeg = x6 from by rw [e2440, up_n (tn_ne (by omega) (by omega) (by omega))]; exact m2419))))
                        have m2778 : aI (f2771 pN) (x2434 : Int32).toNatClampNeg = pF21 := ((congrArg (fun z => aI z (x2434 : Int32).toNatClampNeg) (fm_A g2774 rN (by decide) rfl)).trans (show aI (f2750 pN) (x2434 : Int32).toNatClampNeg = pF21 from by rw [e2751, up_n (tn_ne (by omega) (by omega) (by omega))]; exact (show aI (f2726 pN) (x2434 : Int32).toNatClampNeg = pF21 from by rw [e2727, up_n (tn_ne (by omega) (by omega) (by omega))]; exact (show aI (f2439 pN) (x2434 : Int32).toNatClampNeg = pF21 from by rw [e2440]; exact up_s))))
                        have m2779 : aI (f2771 pN) (x2721 : Int32).toNatClampNeg = pF21 := ((congrArg (fun z => aI z (x2721 : Int32).toNatClampNeg) (fm_A g2774 rN (by decide) rfl)).trans (show aI (f2750 pN) (x2721 : Int32).toNatClampNeg = pF21 from by rw [e2751, up_n (tn_ne (by omega) (by omega) (by omega))]; exact (show aI (f2726 pN) (x2721 : Int32).toNatClampNeg = pF21 from by rw [e2727]; exact up_s)))
                        have m2780 : aI (f2771 pN) (x2745 : Int32).toNatClampNeg = pF21 := ((congrArg (fun z => aI z (x2745 : Int32).toNatClampNeg) (fm_A g2774 rN (by decide) rfl)).trans (show aI (f2750 pN) (x2745 : Int32).toNatClampNeg = pF21 from by rw [e2751]; exact up_s))
                        have z2781 : DJ f0 f2771 h0 pF21.toInt 0 0 0 0 := dj_keep z2755 hw2773 g2774 rh0 rfl (fun q => by rw [fm_I g2774 rh0 rfl]; exact q)
                        have z2782 : ∀ j : Nat, (j : Int) < 8 * pF19.toInt → aI (f2771 pN) j = aI (f0 pN) j := by rw [fm_A g2774 rN (by decide) rfl]; exact z2758
                        clear z2758
                        have z2783 : aI (f2771 pN) (8 * pF19.toInt + 0).toNat = x6 := by rw [fm_A g2774 rN (by decide) rfl]; exact z2759
                        have z2784 : aI (f2771 pN) (8 * pF19.toInt + 1).toNat = 0 := by rw [fm_A g2774 rN (by decide) rfl]; exact z2760
                        have z2785 : aI (f2771 pN) (8 * pF19.toInt + 2).toNat = 0 := by rw [fm_A g2774 rN (by decide) rfl]; exact z2761
                        have z2786 : aI (f2771 pN) (8 * pF19.toInt + 3).toNat = pF21 := by rw [fm_A g2774 rN (by decide) rfl]; exact z2762
                        have z2787 : aI (f2771 pN) (8 * pF19.toInt + 4).toNat = pF21 := by rw [fm_A g2774 rN (by decide) rfl]; exact z2763
                        have z2788 : aI (f2771 pN) (8 * pF19.toInt + 5).toNat = pF21 := by rw [fm_A g2774 rN (by decide) rfl]; exact z2764
                        have z2789 : aI (f2771 pN) (8 * pF19.toInt + 6).toNat = 0 := by rw [fm_A g2774 rN (by decide) rfl]; exact z2765
                        clear z2759 z2760 z2761 z2762 z2763 z2764 z2765
                        have hF := FM.tr hF g2774 rfl
                        refine q_if_eq (tgt := 247) hx hb dX12_readClause_235 (by decide) rfl (fun c2790 => ?_) (fun c2790 => ?_)
                        · clear p2776
                          refine lv_aload_n hx hb dX12_readClause_247 rfl (lv_at hl 3 rfl) ?_
                          refine fg_RX12_39 E hW rh0 dX12_readClause_248 (fun a2791 m2792 r2793 => ?_)
                          obtain rfl : pN = a2791 := (((fm_R g2774 rh0 rfl).trans ((fm_R g2753 rh0 rfl).trans m2743))).symm.trans m2792
                          refine lv_iload_n hx hb dX12_readClause_251 rfl (lv_at hl 1 rfl) ?_
                          refine lv_bipush (v := 6) hx hb dX12_readClause_252 (by decide) ?_
                          refine q_iadd (Y := 6) hx hb dX12_readClause_254 rfl rfl (by omega) (fun x2794 h2795 => ?_)
                          refine lv_aload_n hx hb dX12_readClause_255 rfl (lv_at hl 3 rfl) ?_
                          refine fg_RX12_229 E hW rh0 dX12_readClause_256 (fun y2796 m2797 b2798 => ?_)
                          obtain rfl : pF21 = y2796 := (((fm_I g2774 rh0 rfl).trans ((fm_I g2753 rh0 rfl).trans m2748))).symm.trans m2797
                          have hw2803 := hW.2.2.2
                          refine gs_840 E hW rN ⟨by omega, by omega⟩ dX12_readClause_259 (fun f2799 H locs e2800 n2801 g2802 hW => ?_)
                          have m2804 : oR (f2799 h0) 2 = pR := ((fm_R g2802 rh0 rfl).trans ((fm_R g2774 rh0 rfl).trans ((fm_R g2753 rh0 rfl).trans ((fm_R g2729 rh0 rfl).trans ((fm_R g2442 rh0 rfl).trans ((fm_R g2417 rh0 rfl).trans ((fm_R g2395 rh0 rfl).trans m2370)))))))
                          have m2805 : oI (f2799 h0) 12 = pF12 := ((fm_I g2802 rh0 rfl).trans ((fm_I g2774 rh0 rfl).trans ((fm_I g2753 rh0 rfl).trans ((fm_I g2729 rh0 rfl).trans ((fm_I g2442 rh0 rfl).trans ((fm_I g2417 rh0 rfl).trans ((fm_I g2395 rh0 rfl).trans m2371)))))))
                          have m2806 : oI (f2799 h0) 13 = y2066 := ((fm_I g2802 rh0 rfl).trans ((fm_I g2774 rh0 rfl).trans ((fm_I g2753 rh0 rfl).trans ((fm_I g2729 rh0 rfl).trans ((fm_I g2442 rh0 rfl).trans ((fm_I g2417 rh0 rfl).trans ((fm_I g2395 rh0 rfl).trans m2372)))))))
                          have m2807 : oI (f2799 h0) 14 = y2069 := ((fm_I g2802 rh0 rfl).trans ((fm_I g2774 rh0 rfl).trans ((fm_I g2753 rh0 rfl).trans ((fm_I g2729 rh0 rfl).trans ((fm_I g2442 rh0 rfl).trans ((fm_I g2417 rh0 rfl).trans ((fm_I g2395 rh0 rfl).trans m2373)))))))
                          have m2808 : oI (f2799 h0) 15 = y2072 := ((fm_I g2802 rh0 rfl).trans ((fm_I g2774 rh0 rfl).trans ((fm_I g2753 rh0 rfl).trans ((fm_I g2729 rh0 rfl).trans ((fm_I g2442 rh0 rfl).trans ((fm_I g2417 rh0 rfl).trans ((fm_I g2395 rh0 rfl).trans m2374)))))))
                          have m2809 : oJ (f2799 h0) 16 = y2078 := ((fm_J g2802 rh0 rfl).trans ((fm_J g2774 rh0 rfl).trans ((fm_J g2753 rh0 rfl).trans ((fm_J g2729 rh0 rfl).trans ((fm_J g2442 rh0 rfl).trans ((fm_J g2417 rh0 rfl).trans ((fm_J g2395 rh0 rfl).trans m2375)))))))
                          have m2810 : oI (f2799 h0) 24 = pF24 := ((fm_I g2802 rh0 rfl).trans ((fm_I g2774 rh0 rfl).trans ((fm_I g2753 rh0 rfl).trans ((fm_I g2729 rh0 rfl).trans ((fm_I g2442 rh0 rfl).trans ((fm_I g2417 rh0 rfl).trans ((fm_I g2395 rh0 rfl).trans m2380)))))))
                          have m2811 : oI (f2799 h0) 27 = pF27 := ((fm_I g2802 rh0 rfl).trans ((fm_I g2774 rh0 rfl).trans ((fm_I g2753 rh0 rfl).trans ((fm_I g2729 rh0 rfl).trans ((fm_I g2442 rh0 rfl).trans ((fm_I g2417 rh0 rfl).trans ((fm_I g2395 rh0 rfl).trans m2381)))))))
                          have z2812 : DJ f0 f2799 h0 pF21.toInt 0 0 0 0 := dj_keep z2781 hw2803 g2802 rh0 rfl (fun q => by rw [fm_I g2802 rh0 rfl]; exact q)
                          have hF := FM.tr hF g2802 rfl
                          have q2813 : x2794.toInt = 8 * pF19.toInt + 6 := by omega
                          have q2814 : 0 ≤ 8 * pF19.toInt := by omega
                          have z2815 : ∀ j : Nat, (j : Int) < 8 * pF19.toInt → aI (f2799 pN) j = aI (f0 pN) j := pre_st2 z2782 e2800 q2813 q2814 (by decide)
                          clear z2782
                          have z2816 : aI (f2799 pN) (8 * pF19.toInt + 0).toNat = x6 := ent_no2 z2783 e2800 q2813 q2814 (by decide)
                          have z2817 : aI (f2799 pN) (8 * pF19.toInt + 1).toNat = 0 := ent_no2 z2784 e2800 q2813 q2814 (by decide)
                          have z2818 : aI (f2799 pN) (8 * pF19.toInt + 2).toNat = 0 := ent_no2 z2785 e2800 q2813 q2814 (by decide)
                          have z2819 : aI (f2799 pN) (8 * pF19.toInt + 3).toNat = pF21 := ent_no2 z2786 e2800 q2813 q2814 (by decide)
                          have z2820 : aI (f2799 pN) (8 * pF19.toInt + 4).toNat = pF21 := ent_no2 z2787 e2800 q2813 q2814 (by decide)
                          have z2821 : aI (f2799 pN) (8 * pF19.toInt + 5).toNat = pF21 := ent_no2 z2788 e2800 q2813 q2814 (by decide)
                          have z2822 : aI (f2799 pN) (8 * pF19.toInt + 6).toNat = pF21 := ent_st2 e2800 q2813 q2814 (by decide)
                          clear q2813 q2814
                          clear z2783 z2784 z2785 z2786 z2787 z2788 z2789
                          exact e_V E hW rfl ⟨rfl, hF, (by simp only [m2805, mF12, m2806, mF13, m2807, mF14, m2808, mF15, ((fm_I g2802 rh0 rfl).trans ((fm_I g2774 rh0 rfl).trans m2767)), mF18, ((fm_I g2802 rh0 rfl).trans m2797), mF21, m2809, mW, and_true, true_and, true_or, or_true, false_or, or_false] <;> omega), (by have hk0 : (0 : Int32).toInt = 0 := rfl; rw [((fm_I g2802 rh0 rfl).trans m2797), ((fm_I g2802 rh0 rfl).trans ((fm_I g2774 rh0 rfl).trans ((fm_I g2753 rh0 rfl).trans ((fm_I g2729 rh0 rfl).trans ((fm_I g2442 rh0 rfl).trans e2415)))))]; exact cl_end (nc := pF21.toInt) (hd := x6) (r1 := 0) (r2 := 0) (show CLs _ _ _ pF21.toInt pF19.toInt from hC) (by omega) (show DJ f0 f2799 h0 pF21.toInt (pF21 : Int32).toInt (pF21 : Int32).toInt (pF21 : Int32).toInt (pF21 : Int32).toInt from (dj_triv2 (dj_triv1 z2812))) (fun j hj => by unfold vN; rw [((fm_R g2802 rh0 rfl).trans m2792), mN]; exact z2815 j hj) (by unfold vN; rw [((fm_R g2802 rh0 rfl).trans m2792)]; exact z2816) (by unfold vN; rw [((fm_R g2802 rh0 rfl).trans m2792)]; exact z2817) (by unfold vN; rw [((fm_R g2802 rh0 rfl).trans m2792)]; exact z2818) (by unfold vN; rw [((fm_R g2802 rh0 rfl).trans m2792)]; exact z2819) (by unfold vN; rw [((fm_R g2802 rh0 rfl).trans m2792)]; exact z2820) (by unfold vN; rw [((fm_R g2802 rh0 rfl).trans m2792)]; exact z2821) (by unfold vN; rw [((fm_R g2802 rh0 rfl).trans m2792)]; exact z2822) (by rw [((fm_I g2802 rh0 rfl).trans ((fm_I g2774 rh0 rfl).trans m2767))]; omega) (by omega) (by omega))⟩ dX12_readClause_260
                        · have q2823 : y2072.toInt = 1 ∧ y2078.toInt = 294 := by omega
                          clear p2776
                          refine lv_aload_n hx hb dX12_readClause_238 rfl (lv_at hl 3 rfl) ?_
                          have hw2827 := hW.2.2.2
                          refine t_callV (As := []) (rest := []) E hW (c_X12_next l G cI cJ cZ cD cR cT kp L f2771 hW.2.2.2 _ h0 rh0 (by simp only [((fm_I g2774 rh0 rfl).trans ((fm_I g2753 rh0 rfl).trans ((fm_I g2729 rh0 rfl).trans ((fm_I g2442 rh0 rfl).trans ((fm_I g2417 rh0 rfl).trans ((fm_I g2395 rh0 rfl).trans m2371)))))), ((fm_I g2774 rh0 rfl).trans ((fm_I g2753 rh0 rfl).trans ((fm_I g2729 rh0 rfl).trans ((fm_I g2442 rh0 rfl).trans ((fm_I g2417 rh0 rfl).trans ((fm_I g2395 rh0 rfl).trans m2373)))))), and_true, true_and, true_or, or_true, false_or, or_false] <;> omega)) rh0 (by decide) rfl wk_X12_next tw_1773 rfl ⟨Nat.le_of_ble_eq_true rfl, Nat.le_of_ble_eq_true rfl⟩ ⟨rfl, rfl⟩ hl.1 rfl (Nat.le_of_ble_eq_true rfl) dX12_readClause_239 ⟨Nat.le_of_ble_eq_true rfl, Nat.le_of_ble_eq_true rfl⟩ (fun v2824 f2825 H locs q2826 hW => ?_)
                          obtain ⟨rfl, g2828, h2829⟩ := q2826
                          have m2830 : oR (f2825 h0) 2 = pR := ((fm_R g2828 rh0 rfl).trans ((fm_R g2774 rh0 rfl).trans ((fm_R g2753 rh0 rfl).trans ((fm_R g2729 rh0 rfl).trans ((fm_R g2442 rh0 rfl).trans ((fm_R g2417 rh0 rfl).trans ((fm_R g2395 rh0 rfl).trans m2370)))))))
                          have m2831 : oI (f2825 h0) 12 = pF12 := ((fm_I g2828 rh0 rfl).trans ((fm_I g2774 rh0 rfl).trans ((fm_I g2753 rh0 rfl).trans ((fm_I g2729 rh0 rfl).trans ((fm_I g2442 rh0 rfl).trans ((fm_I g2417 rh0 rfl).trans ((fm_I g2395 rh0 rfl).trans m2371)))))))
                          have m2832 : oI (f2825 h0) 24 = pF24 := ((fm_I g2828 rh0 rfl).trans ((fm_I g2774 rh0 rfl).trans ((fm_I g2753 rh0 rfl).trans ((fm_I g2729 rh0 rfl).trans ((fm_I g2442 rh0 rfl).trans ((fm_I g2417 rh0 rfl).trans ((fm_I g2395 rh0 rfl).trans m2380)))))))
                          have m2833 : oI (f2825 h0) 27 = pF27 := ((fm_I g2828 rh0 rfl).trans ((fm_I g2774 rh0 rfl).trans ((fm_I g2753 rh0 rfl).trans ((fm_I g2729 rh0 rfl).trans ((fm_I g2442 rh0 rfl).trans ((fm_I g2417 rh0 rfl).trans ((fm_I g2395 rh0 rfl).trans m2381)))))))
                          have z2834 : DJ f0 f2825 h0 pF21.toInt 0 0 0 0 := dj_keep z2781 hw2827 g2828 rh0 rfl (fun q => by rw [fm_I g2828 rh0 rfl]; exact q)
                          have z2835 : ∀ j : Nat, (j : Int) < 8 * pF19.toInt → aI (f2825 pN) j = aI (f0 pN) j := by rw [fm_A g2828 rN (by decide) rfl]; exact z2782
                          clear z2782
                          have z2836 : aI (f2825 pN) (8 * pF19.toInt + 0).toNat = x6 := by rw [fm_A g2828 rN (by decide) rfl]; exact z2783
                          have z2837 : aI (f2825 pN) (8 * pF19.toInt + 1).toNat = 0 := by rw [fm_A g2828 rN (by decide) rfl]; exact z2784
                          have z2838 : aI (f2825 pN) (8 * pF19.toInt + 2).toNat = 0 := by rw [fm_A g2828 rN (by decide) rfl]; exact z2785
                          have z2839 : aI (f2825 pN) (8 * pF19.toInt + 3).toNat = pF21 := by rw [fm_A g2828 rN (by decide) rfl]; exact z2786
                          have z2840 : aI (f2825 pN) (8 * pF19.toInt + 4).toNat = pF21 := by rw [fm_A g2828 rN (by decide) rfl]; exact z2787
                          have z2841 : aI (f2825 pN) (8 * pF19.toInt + 5).toNat = pF21 := by rw [fm_A g2828 rN (by decide) rfl]; exact z2788
                          have z2842 : aI (f2825 pN) (8 * pF19.toInt + 6).toNat = 0 := by rw [fm_A g2828 rN (by decide) rfl]; exact z2789
                          clear z2783 z2784 z2785 z2786 z2787 z2788 z2789
                          have hF := FM.tr hF g2828 rfl
                          obtain ⟨y2843, m2844⟩ : ∃ x : Int32, oI (f2825 h0) 13 = x := ⟨_, rfl⟩
                          have b2845 : (0 : Int) ≤ y2843.toInt ∧ y2843.toInt ≤ 400 := by rw [← m2844]; exact th_iv hW rh0 (by decide) (by decide) rfl
                          obtain ⟨y2846, m2847⟩ : ∃ x : Int32, oI (f2825 h0) 14 = x := ⟨_, rfl⟩
                          have b2848 : (0 : Int) ≤ y2846.toInt ∧ y2846.toInt ≤ 400 := by rw [← m2847]; exact th_iv hW rh0 (by decide) (by decide) rfl
                          obtain ⟨y2849, m2850⟩ : ∃ x : Int32, oI (f2825 h0) 15 = x := ⟨_, rfl⟩
                          have b2851 : (0 : Int) ≤ y2849.toInt ∧ y2849.toInt ≤ 3 := by rw [← m2850]; exact th_iv hW rh0 (by decide) (by decide) rfl
                          obtain ⟨y2852, m2853⟩ : ∃ x : Int64, oJ (f2825 h0) 16 = x := ⟨_, rfl⟩
                          simp only [m2831, ((fm_I g2774 rh0 rfl).trans ((fm_I g2753 rh0 rfl).trans ((fm_I g2729 rh0 rfl).trans ((fm_I g2442 rh0 rfl).trans ((fm_I g2417 rh0 rfl).trans ((fm_I g2395 rh0 rfl).trans m2371)))))), m2844, ((fm_I g2774 rh0 rfl).trans ((fm_I g2753 rh0 rfl).trans ((fm_I g2729 rh0 rfl).trans ((fm_I g2442 rh0 rfl).trans ((fm_I g2417 rh0 rfl).trans ((fm_I g2395 rh0 rfl).trans m2372)))))), m2847, ((fm_I g2774 rh0 rfl).trans ((fm_I g2753 rh0 rfl).trans ((fm_I g2729 rh0 rfl).trans ((fm_I g2442 rh0 rfl).trans ((fm_I g2417 rh0 rfl).trans ((fm_I g2395 rh0 rfl).trans m2373)))))), m2850, ((fm_I g2774 rh0 rfl).trans ((fm_I g2753 rh0 rfl).trans ((fm_I g2729 rh0 rfl).trans ((fm_I g2442 rh0 rfl).trans ((fm_I g2417 rh0 rfl).trans ((fm_I g2395 rh0 rfl).trans m2374)))))), m2853, ((fm_J g2774 rh0 rfl).trans ((fm_J g2753 rh0 rfl).trans ((fm_J g2729 rh0 rfl).trans ((fm_J g2442 rh0 rfl).trans ((fm_J g2417 rh0 rfl).trans ((fm_J g2395 rh0 rfl).trans m2375))))))] at h2829
                          refine lv_aload_n hx hb dX12_readClause_242 rfl (lv_at hl 3 rfl) ?_
                          refine lv_iconst (v := 1) hx hb dX12_readClause_243 (by decide) ?_
                          have hw2858 := hW.2.2.2
                          refine t_callV (As := [.int 1]) (rest := []) E hW (c_X12_readExpression l G cI cJ cZ cD cR cT kp L f2825 hW.2.2.2 _ h0 1 rh0 (by decide) (by have hkq2854 : (1 : Int32).toInt = 1 := rfl; simp only [m2831, m2844, m2847, m2850, ((fm_I g2828 rh0 rfl).trans ((fm_I g2774 rh0 rfl).trans m2767)), ((fm_I g2828 rh0 rfl).trans ((fm_I g2774 rh0 rfl).trans ((fm_I g2753 rh0 rfl).trans m2748))), m2853, and_true, true_and, true_or, or_true, false_or, or_false] <;> omega)) rh0 (by decide) rfl wk_X12_readExpression tw_1819 rfl ⟨Nat.le_of_ble_eq_true rfl, Nat.le_of_ble_eq_true rfl⟩ ⟨rfl, rfl⟩ hl.1 rfl (Nat.le_of_ble_eq_true rfl) dX12_readClause_244 ⟨Nat.le_of_ble_eq_true rfl, Nat.le_of_ble_eq_true rfl⟩ (fun v2855 f2856 H locs q2857 hW => ?_)
                          obtain ⟨rfl, g2859, h2860, h2861⟩ := q2857
                          have m2862 : aI (f2856 pN) (x2088 : Int32).toNatClampNeg = x6 := ((congrArg (fun z => aI z (x2088 : Int32).toNatClampNeg) (fm_A g2859 rN (by decide) rfl)).trans ((congrArg (fun z => aI z (x2088 : Int32).toNatClampNeg) (fm_A g2828 rN (by decide) rfl)).trans m2777))
                          have m2863 : aI (f2856 pN) (x2434 : Int32).toNatClampNeg = pF21 := ((congrArg (fun z => aI z (x2434 : Int32).toNatClampNeg) (fm_A g2859 rN (by decide) rfl)).trans ((congrArg (fun z => aI z (x2434 : Int32).toNatClampNeg) (fm_A g2828 rN (by decide) rfl)).trans m2778))
                          have m2864 : aI (f2856 pN) (x2721 : Int32).toNatClampNeg = pF21 := ((congrArg (fun z => aI z (x2721 : Int32).toNatClampNeg) (fm_A g2859 rN (by decide) rfl)).trans ((congrArg (fun z => aI z (x2721 : Int32).toNatClampNeg) (fm_A g2828 rN (by decide) rfl)).trans m2779))
                          have m2865 : aI (f2856 pN) (x2745 : Int32).toNatClampNeg = pF21 := ((congrArg (fun z => aI z (x2745 : Int32).toNatClampNeg) (fm_A g2859 rN (by decide) rfl)).trans ((congrArg (fun z => aI z (x2745 : Int32).toNatClampNeg) (fm_A g2828 rN (by decide) rfl)).trans m2780))
                          have z2866 : ∀ j : Nat, (j : Int) < 8 * pF19.toInt → aI (f2856 pN) j = aI (f0 pN) j := by rw [fm_A g2859 rN (by decide) rfl]; exact z2835
                          clear z2835
                          have z2867 : aI (f2856 pN) (8 * pF19.toInt + 0).toNat = x6 := by rw [fm_A g2859 rN (by decide) rfl]; exact z2836
                          have z2868 : aI (f2856 pN) (8 * pF19.toInt + 1).toNat = 0 := by rw [fm_A g2859 rN (by decide) rfl]; exact z2837
                          have z2869 : aI (f2856 pN) (8 * pF19.toInt + 2).toNat = 0 := by rw [fm_A g2859 rN (by decide) rfl]; exact z2838
                          have z2870 : aI (f2856 pN) (8 * pF19.toInt + 3).toNat = pF21 := by rw [fm_A g2859 rN (by decide) rfl]; exact z2839
                          have z2871 : aI (f2856 pN) (8 * pF19.toInt + 4).toNat = pF21 := by rw [fm_A g2859 rN (by decide) rfl]; exact z2840
                          have z2872 : aI (f2856 pN) (8 * pF19.toInt + 5).toNat = pF21 := by rw [fm_A g2859 rN (by decide) rfl]; exact z2841
                          have z2873 : aI (f2856 pN) (8 * pF19.toInt + 6).toNat = 0 := by rw [fm_A g2859 rN (by decide) rfl]; exact z2842
                          clear z2836 z2837 z2838 z2839 z2840 z2841 z2842
                          have hF := FM.tr hF g2859 rfl
                          have hk2874 : (1 : Int32).toInt = 1 := rfl
                          obtain ⟨y2875, m2876⟩ : ∃ x : Int32, oI (f2856 h0) 13 = x := ⟨_, rfl⟩
                          have b2877 : (0 : Int) ≤ y2875.toInt ∧ y2875.toInt ≤ 400 := by rw [← m2876]; exact th_iv hW rh0 (by decide) (by decide) rfl
                          obtain ⟨y2878, m2879⟩ : ∃ x : Int32, oI (f2856 h0) 14 = x := ⟨_, rfl⟩
                          have b2880 : (0 : Int) ≤ y2878.toInt ∧ y2878.toInt ≤ 400 := by rw [← m2879]; exact th_iv hW rh0 (by decide) (by decide) rfl
                          obtain ⟨y2881, m2882⟩ : ∃ x : Int32, oI (f2856 h0) 15 = x := ⟨_, rfl⟩
                          have b2883 : (0 : Int) ≤ y2881.toInt ∧ y2881.toInt ≤ 3 := by rw [← m2882]; exact th_iv hW rh0 (by decide) (by decide) rfl
                          obtain ⟨y2884, m2885⟩ : ∃ x : Int32, oI (f2856 h0) 18 = x := ⟨_, rfl⟩
                          have b2886 : (0 : Int) ≤ y2884.toInt ∧ y2884.toInt ≤ 1 := by rw [← m2885]; exact th_iv hW rh0 (by decide) (by decide) rfl
                          obtain ⟨y2887, m2888⟩ : ∃ x : Int32, oI (f2856 h0) 21 = x := ⟨_, rfl⟩
                          have b2889 : (0 : Int) ≤ y2887.toInt ∧ y2887.toInt ≤ 400 := by rw [← m2888]; exact th_iv hW rh0 (by decide) (by decide) rfl
                          obtain ⟨y2890, m2891⟩ : ∃ x : Int32, oI (f2856 h0) 27 = x := ⟨_, rfl⟩
                          have b2892 : (0 : Int) ≤ y2890.toInt ∧ y2890.toInt ≤ 400 := by rw [← m2891]; exact th_iv hW rh0 (by decide) (by decide) rfl
                          obtain ⟨y2893, m2894⟩ : ∃ x : Int64, oJ (f2856 h0) 16 = x := ⟨_, rfl⟩
                          simp only [((fm_I g2859 rh0 rfl).trans m2831), m2831, m2876, m2844, m2879, m2847, m2882, m2850, m2885, ((fm_I g2828 rh0 rfl).trans ((fm_I g2774 rh0 rfl).trans m2767)), m2888, ((fm_I g2828 rh0 rfl).trans ((fm_I g2774 rh0 rfl).trans ((fm_I g2753 rh0 rfl).trans m2748))), m2891, m2833, m2894, m2853] at h2860
                          have z2896 := h2861
                          rw [((fm_I g2828 rh0 rfl).trans ((fm_I g2774 rh0 rfl).trans ((fm_I g2753 rh0 rfl).trans m2748))), m2888] at z2896
                          have z2895 : DJ f0 f2856 h0 pF21.toInt 0 0 pF21.toInt y2887.toInt := dj_ex2 z2834 (by rw [((fm_I g2828 rh0 rfl).trans ((fm_I g2774 rh0 rfl).trans m2767))]; omega) (by omega) (by omega) (by omega) z2896
                          refine lv_aload_n hx hb dX12_readClause_247 rfl (lv_at hl 3 rfl) ?_
                          refine fg_RX12_39 E hW rh0 dX12_readClause_248 (fun a2897 m2898 r2899 => ?_)
                          obtain rfl : pN = a2897 := (((fm_R g2859 rh0 rfl).trans ((fm_R g2828 rh0 rfl).trans ((fm_R g2774 rh0 rfl).trans ((fm_R g2753 rh0 rfl).trans m2743))))).symm.trans m2898
                          refine lv_iload_n hx hb dX12_readClause_251 rfl (lv_at hl 1 rfl) ?_
                          refine lv_bipush (v := 6) hx hb dX12_readClause_252 (by decide) ?_
                          refine q_iadd (Y := 6) hx hb dX12_readClause_254 rfl rfl (by omega) (fun x2900 h2901 => ?_)
                          refine lv_aload_n hx hb dX12_readClause_255 rfl (lv_at hl 3 rfl) ?_
                          refine fg_RX12_229 E hW rh0 dX12_readClause_256 (fun y2902 m2903 b2904 => ?_)
                          obtain rfl : y2887 = y2902 := (m2888).symm.trans m2903
                          have hw2909 := hW.2.2.2
                          refine gs_840 E hW rN ⟨by omega, by omega⟩ dX12_readClause_259 (fun f2905 H locs e2906 n2907 g2908 hW => ?_)
                          have m2910 : oI (f2905 h0) 19 = x2412 := ((fm_I g2908 rh0 rfl).trans ((fm_I g2859 rh0 rfl).trans ((fm_I g2828 rh0 rfl).trans ((fm_I g2774 rh0 rfl).trans ((fm_I g2753 rh0 rfl).trans ((fm_I g2729 rh0 rfl).trans ((fm_I g2442 rh0 rfl).trans e2415)))))))
                          have z2911 : DJ f0 f2905 h0 pF21.toInt 0 0 pF21.toInt y2887.toInt := dj_keep z2895 hw2909 g2908 rh0 rfl (fun q => by rw [fm_I g2908 rh0 rfl]; exact q)
                          have hF := FM.tr hF g2908 rfl
                          have q2912 : x2900.toInt = 8 * pF19.toInt + 6 := by omega
                          have q2913 : 0 ≤ 8 * pF19.toInt := by omega
                          have z2914 : ∀ j : Nat, (j : Int) < 8 * pF19.toInt → aI (f2905 pN) j = aI (f0 pN) j := pre_st2 z2866 e2906 q2912 q2913 (by decide)
                          clear z2866
                          have z2915 : aI (f2905 pN) (8 * pF19.toInt + 0).toNat = x6 := ent_no2 z2867 e2906 q2912 q2913 (by decide)
                          have z2916 : aI (f2905 pN) (8 * pF19.toInt + 1).toNat = 0 := ent_no2 z2868 e2906 q2912 q2913 (by decide)
                          have z2917 : aI (f2905 pN) (8 * pF19.toInt + 2).toNat = 0 := ent_no2 z2869 e2906 q2912 q2913 (by decide)
                          have z2918 : aI (f2905 pN) (8 * pF19.toInt + 3).toNat = pF21 := ent_no2 z2870 e2906 q2912 q2913 (by decide)
                          have z2919 : aI (f2905 pN) (8 * pF19.toInt + 4).toNat = pF21 := ent_no2 z2871 e2906 q2912 q2913 (by decide)
                          have z2920 : aI (f2905 pN) (8 * pF19.toInt + 5).toNat = pF21 := ent_no2 z2872 e2906 q2912 q2913 (by decide)
                          have z2921 : aI (f2905 pN) (8 * pF19.toInt + 6).toNat = y2887 := ent_st2 e2906 q2912 q2913 (by decide)
                          clear q2912 q2913
                          clear z2867 z2868 z2869 z2870 z2871 z2872 z2873
                          exact e_V E hW rfl ⟨rfl, hF, (by simp only [((fm_I g2908 rh0 rfl).trans ((fm_I g2859 rh0 rfl).trans m2831)), mF12, ((fm_I g2908 rh0 rfl).trans m2876), mF13, ((fm_I g2908 rh0 rfl).trans m2879), mF14, ((fm_I g2908 rh0 rfl).trans m2882), mF15, ((fm_I g2908 rh0 rfl).trans m2885), mF18, ((fm_I g2908 rh0 rfl).trans m2903), mF21, ((fm_J g2908 rh0 rfl).trans m2894), mW, and_true, true_and, true_or, or_true, false_or, or_false] <;> omega), (by have hk0 : (0 : Int32).toInt = 0 := rfl; rw [((fm_I g2908 rh0 rfl).trans m2903), m2910]; exact cl_end (nc := y2887.toInt) (hd := x6) (r1 := 0) (r2 := 0) (show CLs _ _ _ pF21.toInt pF19.toInt from hC) (by omega) (show DJ f0 f2905 h0 pF21.toInt (pF21 : Int32).toInt (pF21 : Int32).toInt (pF21 : Int32).toInt (y2887 : Int32).toInt from (dj_triv1 z2911)) (fun j hj => by unfold vN; rw [((fm_R g2908 rh0 rfl).trans m2898), mN]; exact z2914 j hj) (by unfold vN; rw [((fm_R g2908 rh0 rfl).trans m2898)]; exact z2915) (by unfold vN; rw [((fm_R g2908 rh0 rfl).trans m2898)]; exact z2916) (by unfold vN; rw [((fm_R g2908 rh0 rfl).trans m2898)]; exact z2917) (by unfold vN; rw [((fm_R g2908 rh0 rfl).trans m2898)]; exact z2918) (by unfold vN; rw [((fm_R g2908 rh0 rfl).trans m2898)]; exact z2919) (by unfold vN; rw [((fm_R g2908 rh0 rfl).trans m2898)]; exact z2920) (by unfold vN; rw [((fm_R g2908 rh0 rfl).trans m2898)]; exact z2921) (by rw [((fm_I g2908 rh0 rfl).trans m2885)]; omega) (by omega) (by omega))⟩ dX12_readClause_260
                    · refine lv_aload_n hx hb dX12_readClause_192 rfl (lv_at hl 3 rfl) ?_
                      refine lv_iconst (v := 0) hx hb dX12_readClause_193 (by decide) ?_
                      have hw2926 := hW.2.2.2
                      refine t_callV (As := [.int 0]) (rest := []) E hW (c_X12_readExpression l G cI cJ cZ cD cR cT kp L f2439 hW.2.2.2 _ h0 0 rh0 (by decide) (by have hkq2922 : (0 : Int32).toInt = 0 := rfl; simp only [((fm_I g2442 rh0 rfl).trans ((fm_I g2417 rh0 rfl).trans ((fm_I g2395 rh0 rfl).trans m2371))), ((fm_I g2442 rh0 rfl).trans ((fm_I g2417 rh0 rfl).trans ((fm_I g2395 rh0 rfl).trans m2372))), ((fm_I g2442 rh0 rfl).trans ((fm_I g2417 rh0 rfl).trans ((fm_I g2395 rh0 rfl).trans m2373))), ((fm_I g2442 rh0 rfl).trans ((fm_I g2417 rh0 rfl).trans ((fm_I g2395 rh0 rfl).trans m2374))), ((fm_I g2442 rh0 rfl).trans ((fm_I g2417 rh0 rfl).trans ((fm_I g2395 rh0 rfl).trans m2376))), ((fm_I g2442 rh0 rfl).trans m2437), ((fm_J g2442 rh0 rfl).trans ((fm_J g2417 rh0 rfl).trans ((fm_J g2395 rh0 rfl).trans m2375))), and_true, true_and, true_or, or_true, false_or, or_false] <;> omega)) rh0 (by decide) rfl wk_X12_readExpression tw_1819 rfl ⟨Nat.le_of_ble_eq_true rfl, Nat.le_of_ble_eq_true rfl⟩ ⟨rfl, rfl⟩ hl.1 rfl (Nat.le_of_ble_eq_true rfl) dX12_readClause_194 ⟨Nat.le_of_ble_eq_true rfl, Nat.le_of_ble_eq_true rfl⟩ (fun v2923 f2924 H locs q2925 hW => ?_)
                      obtain ⟨rfl, g2927, h2928, h2929⟩ := q2925
                      have m2930 : aI (f2924 pN) (x2088 : Int32).toNatClampNeg = x6 := ((congrArg (fun z => aI z (x2088 : Int32).toNatClampNeg) (fm_A g2927 rN (by decide) rfl)).trans (show aI (f2439 pN) (x2088 : Int32).toNatClampNeg = x6 from by rw [e2440, up_n (tn_ne (by omega) (by omega) (by omega))]; exact m2419))
                      have m2931 : aI (f2924 pN) (x2434 : Int32).toNatClampNeg = pF21 := ((congrArg (fun z => aI z (x2434 : Int32).toNatClampNeg) (fm_A g2927 rN (by decide) rfl)).trans (show aI (f2439 pN) (x2434 : Int32).toNatClampNeg = pF21 from by rw [e2440]; exact up_s))
                      have z2932 : ∀ j : Nat, (j : Int) < 8 * pF19.toInt → aI (f2924 pN) j = aI (f0 pN) j := by rw [fm_A g2927 rN (by decide) rfl]; exact z2447
                      clear z2447
                      have z2933 : aI (f2924 pN) (8 * pF19.toInt + 0).toNat = x6 := by rw [fm_A g2927 rN (by decide) rfl]; exact z2448
                      have z2934 : aI (f2924 pN) (8 * pF19.toInt + 1).toNat = 0 := by rw [fm_A g2927 rN (by decide) rfl]; exact z2449
                      have z2935 : aI (f2924 pN) (8 * pF19.toInt + 2).toNat = 0 := by rw [fm_A g2927 rN (by decide) rfl]; exact z2450
                      have z2936 : aI (f2924 pN) (8 * pF19.toInt + 3).toNat = pF21 := by rw [fm_A g2927 rN (by decide) rfl]; exact z2451
                      have z2937 : aI (f2924 pN) (8 * pF19.toInt + 4).toNat = 0 := by rw [fm_A g2927 rN (by decide) rfl]; exact z2452
                      have z2938 : aI (f2924 pN) (8 * pF19.toInt + 5).toNat = 0 := by rw [fm_A g2927 rN (by decide) rfl]; exact z2453
                      have z2939 : aI (f2924 pN) (8 * pF19.toInt + 6).toNat = 0 := by rw [fm_A g2927 rN (by decide) rfl]; exact z2454
                      clear z2448 z2449 z2450 z2451 z2452 z2453 z2454
                      have hF := FM.tr hF g2927 rfl
                      have hk2940 : (0 : Int32).toInt = 0 := rfl
                      obtain ⟨y2941, m2942⟩ : ∃ x : Int32, oI (f2924 h0) 13 = x := ⟨_, rfl⟩
                      have b2943 : (0 : Int) ≤ y2941.toInt ∧ y2941.toInt ≤ 400 := by rw [← m2942]; exact th_iv hW rh0 (by decide) (by decide) rfl
                      obtain ⟨y2944, m2945⟩ : ∃ x : Int32, oI (f2924 h0) 14 = x := ⟨_, rfl⟩
                      have b2946 : (0 : Int) ≤ y2944.toInt ∧ y2944.toInt ≤ 400 := by rw [← m2945]; exact th_iv hW rh0 (by decide) (by decide) rfl
                      obtain ⟨y2947, m2948⟩ : ∃ x : Int32, oI (f2924 h0) 15 = x := ⟨_, rfl⟩
                      have b2949 : (0 : Int) ≤ y2947.toInt ∧ y2947.toInt ≤ 3 := by rw [← m2948]; exact th_iv hW rh0 (by decide) (by decide) rfl
                      obtain ⟨y2950, m2951⟩ : ∃ x : Int32, oI (f2924 h0) 18 = x := ⟨_, rfl⟩
                      have b2952 : (0 : Int) ≤ y2950.toInt ∧ y2950.toInt ≤ 1 := by rw [← m2951]; exact th_iv hW rh0 (by decide) (by decide) rfl
                      obtain ⟨y2953, m2954⟩ : ∃ x : Int32, oI (f2924 h0) 21 = x := ⟨_, rfl⟩
                      have b2955 : (0 : Int) ≤ y2953.toInt ∧ y2953.toInt ≤ 400 := by rw [← m2954]; exact th_iv hW rh0 (by decide) (by decide) rfl
                      obtain ⟨y2956, m2957⟩ : ∃ x : Int32, oI (f2924 h0) 27 = x := ⟨_, rfl⟩
                      have b2958 : (0 : Int) ≤ y2956.toInt ∧ y2956.toInt ≤ 400 := by rw [← m2957]; exact th_iv hW rh0 (by decide) (by decide) rfl
                      obtain ⟨y2959, m2960⟩ : ∃ x : Int64, oJ (f2924 h0) 16 = x := ⟨_, rfl⟩
                      simp only [((fm_I g2927 rh0 rfl).trans ((fm_I g2442 rh0 rfl).trans ((fm_I g2417 rh0 rfl).trans ((fm_I g2395 rh0 rfl).trans m2371)))), ((fm_I g2442 rh0 rfl).trans ((fm_I g2417 rh0 rfl).trans ((fm_I g2395 rh0 rfl).trans m2371))), m2942, ((fm_I g2442 rh0 rfl).trans ((fm_I g2417 rh0 rfl).trans ((fm_I g2395 rh0 rfl).trans m2372))), m2945, ((fm_I g2442 rh0 rfl).trans ((fm_I g2417 rh0 rfl).trans ((fm_I g2395 rh0 rfl).trans m2373))), m2948, ((fm_I g2442 rh0 rfl).trans ((fm_I g2417 rh0 rfl).trans ((fm_I g2395 rh0 rfl).trans m2374))), m2951, ((fm_I g2442 rh0 rfl).trans ((fm_I g2417 rh0 rfl).trans ((fm_I g2395 rh0 rfl).trans m2376))), m2954, ((fm_I g2442 rh0 rfl).trans m2437), m2957, ((fm_I g2442 rh0 rfl).trans ((fm_I g2417 rh0 rfl).trans ((fm_I g2395 rh0 rfl).trans m2381))), m2960, ((fm_J g2442 rh0 rfl).trans ((fm_J g2417 rh0 rfl).trans ((fm_J g2395 rh0 rfl).trans m2375)))] at h2928
                      have z2962 := h2929
                      rw [((fm_I g2442 rh0 rfl).trans m2437), m2954] at z2962
                      have z2961 : DJ f0 f2924 h0 pF21.toInt pF21.toInt y2953.toInt y2953.toInt y2953.toInt := dj_ex1 z2444 (by rw [((fm_I g2442 rh0 rfl).trans ((fm_I g2417 rh0 rfl).trans ((fm_I g2395 rh0 rfl).trans m2376)))]; omega) (by omega) z2962
                      refine lv_aload_n hx hb dX12_readClause_197 rfl (lv_at hl 3 rfl) ?_
                      refine fg_RX12_39 E hW rh0 dX12_readClause_198 (fun a2963 m2964 r2965 => ?_)
                      obtain rfl : pN = a2963 := (((fm_R g2927 rh0 rfl).trans ((fm_R g2442 rh0 rfl).trans m2432))).symm.trans m2964
                      refine lv_iload_n hx hb dX12_readClause_201 rfl (lv_at hl 1 rfl) ?_
                      refine lv_iconst (v := 4) hx hb dX12_readClause_202 (by decide) ?_
                      refine q_iadd (Y := 4) hx hb dX12_readClause_203 rfl rfl (by omega) (fun x2966 h2967 => ?_)
                      refine lv_aload_n hx hb dX12_readClause_204 rfl (lv_at hl 3 rfl) ?_
                      refine fg_RX12_229 E hW rh0 dX12_readClause_205 (fun y2968 m2969 b2970 => ?_)
                      obtain rfl : y2953 = y2968 := (m2954).symm.trans m2969
                      have hw2975 := hW.2.2.2
                      refine gs_840 E hW rN ⟨by omega, by omega⟩ dX12_readClause_208 (fun f2971 H locs e2972 n2973 g2974 hW => ?_)
                      have z2976 : DJ f0 f2971 h0 pF21.toInt pF21.toInt y2953.toInt y2953.toInt y2953.toInt := dj_keep z2961 hw2975 g2974 rh0 rfl (fun q => by rw [fm_I g2974 rh0 rfl]; exact q)
                      have hF := FM.tr hF g2974 rfl
                      have q2977 : x2966.toInt = 8 * pF19.toInt + 4 := by omega
                      have q2978 : 0 ≤ 8 * pF19.toInt := by omega
                      have z2979 : ∀ j : Nat, (j : Int) < 8 * pF19.toInt → aI (f2971 pN) j = aI (f0 pN) j := pre_st2 z2932 e2972 q2977 q2978 (by decide)
                      clear z2932
                      have z2980 : aI (f2971 pN) (8 * pF19.toInt + 0).toNat = x6 := ent_no2 z2933 e2972 q2977 q2978 (by decide)
                      have z2981 : aI (f2971 pN) (8 * pF19.toInt + 1).toNat = 0 := ent_no2 z2934 e2972 q2977 q2978 (by decide)
                      have z2982 : aI (f2971 pN) (8 * pF19.toInt + 2).toNat = 0 := ent_no2 z2935 e2972 q2977 q2978 (by decide)
                      have z2983 : aI (f2971 pN) (8 * pF19.toInt + 3).toNat = pF21 := ent_no2 z2936 e2972 q2977 q2978 (by decide)
                      have z2984 : aI (f2971 pN) (8 * pF19.toInt + 4).toNat = y2953 := ent_st2 e2972 q2977 q2978 (by decide)
                      have z2985 : aI (f2971 pN) (8 * pF19.toInt + 5).toNat = 0 := ent_no2 z2938 e2972 q2977 q2978 (by decide)
                      have z2986 : aI (f2971 pN) (8 * pF19.toInt + 6).toNat = 0 := ent_no2 z2939 e2972 q2977 q2978 (by decide)
                      clear q2977 q2978
                      clear z2933 z2934 z2935 z2936 z2937 z2938 z2939
                      refine lv_aload_n hx hb dX12_readClause_209 rfl (lv_at hl 3 rfl) ?_
                      refine fg_RX12_39 E hW rh0 dX12_readClause_210 (fun a2987 m2988 r2989 => ?_)
                      obtain rfl : pN = a2987 := (((fm_R g2974 rh0 rfl).trans m2964)).symm.trans m2988
                      refine lv_iload_n hx hb dX12_readClause_213 rfl (lv_at hl 1 rfl) ?_
                      refine lv_iconst (v := 5) hx hb dX12_readClause_214 (by decide) ?_
                      refine q_iadd (Y := 5) hx hb dX12_readClause_215 rfl rfl (by omega) (fun x2990 h2991 => ?_)
                      refine lv_aload_n hx hb dX12_readClause_216 rfl (lv_at hl 3 rfl) ?_
                      refine fg_RX12_229 E hW rh0 dX12_readClause_217 (fun y2992 m2993 b2994 => ?_)
                      obtain rfl : y2953 = y2992 := (((fm_I g2974 rh0 rfl).trans m2969)).symm.trans m2993
                      have hw2999 := hW.2.2.2
                      refine gs_840 E hW rN ⟨by omega, by omega⟩ dX12_readClause_220 (fun f2995 H locs e2996 n2997 g2998 hW => ?_)
                      have z3000 : DJ f0 f2995 h0 pF21.toInt pF21.toInt y2953.toInt y2953.toInt y2953.toInt := dj_keep z2976 hw2999 g2998 rh0 rfl (fun q => by rw [fm_I g2998 rh0 rfl]; exact q)
                      have hF := FM.tr hF g2998 rfl
                      have q3001 : x2990.toInt = 8 * pF19.toInt + 5 := by omega
                      have q3002 : 0 ≤ 8 * pF19.toInt := by omega
                      have z3003 : ∀ j : Nat, (j : Int) < 8 * pF19.toInt → aI (f2995 pN) j = aI (f0 pN) j := pre_st2 z2979 e2996 q3001 q3002 (by decide)
                      clear z2979
                      have z3004 : aI (f2995 pN) (8 * pF19.toInt + 0).toNat = x6 := ent_no2 z2980 e2996 q3001 q3002 (by decide)
                      have z3005 : aI (f2995 pN) (8 * pF19.toInt + 1).toNat = 0 := ent_no2 z2981 e2996 q3001 q3002 (by decide)
                      have z3006 : aI (f2995 pN) (8 * pF19.toInt + 2).toNat = 0 := ent_no2 z2982 e2996 q3001 q3002 (by decide)
                      have z3007 : aI (f2995 pN) (8 * pF19.toInt + 3).toNat = pF21 := ent_no2 z2983 e2996 q3001 q3002 (by decide)
                      have z3008 : aI (f2995 pN) (8 * pF19.toInt + 4).toNat = y2953 := ent_no2 z2984 e2996 q3001 q3002 (by decide)
                      have z3009 : aI (f2995 pN) (8 * pF19.toInt + 5).toNat = y2953 := ent_st2 e2996 q3001 q3002 (by decide)
                      have z3010 : aI (f2995 pN) (8 * pF19.toInt + 6).toNat = 0 := ent_no2 z2986 e2996 q3001 q3002 (by decide)
                      clear q3001 q3002
                      clear z2980 z2981 z2982 z2983 z2984 z2985 z2986
                      refine lv_aload_n hx hb dX12_readClause_221 rfl (lv_at hl 3 rfl) ?_
                      refine fg_RX12_193 E hW rh0 dX12_readClause_222 (fun y3011 m3012 b3013 => ?_)
                      obtain rfl : y2950 = y3011 := (((fm_I g2998 rh0 rfl).trans ((fm_I g2974 rh0 rfl).trans m2951))).symm.trans m3012
                      refine q_if_ne (tgt := 247) hx hb dX12_readClause_225 (by decide) rfl (fun c3014 => ?_) (fun c3014 => ?_)
                      · refine lv_aload_n hx hb dX12_readClause_247 rfl (lv_at hl 3 rfl) ?_
                        refine fg_RX12_39 E hW rh0 dX12_readClause_248 (fun a3015 m3016 r3017 => ?_)
                        obtain rfl : pN = a3015 := (((fm_R g2998 rh0 rfl).trans m2988)).symm.trans m3016
                        refine lv_iload_n hx hb dX12_readClause_251 rfl (lv_at hl 1 rfl) ?_
                        refine lv_bipush (v := 6) hx hb dX12_readClause_252 (by decide) ?_
                        refine q_iadd (Y := 6) hx hb dX12_readClause_254 rfl rfl (by omega) (fun x3018 h3019 => ?_)
                        refine lv_aload_n hx hb dX12_readClause_255 rfl (lv_at hl 3 rfl) ?_
                        refine fg_RX12_229 E hW rh0 dX12_readClause_256 (fun y3020 m3021 b3022 => ?_)
                        obtain rfl : y2953 = y3020 := (((fm_I g2998 rh0 rfl).trans m2993)).symm.trans m3021
                        have hw3027 := hW.2.2.2
                        refine gs_840 E hW rN ⟨by omega, by omega⟩ dX12_readClause_259 (fun f3023 H locs e3024 n3025 g3026 hW => ?_)
                        have m3028 : oR (f3023 h0) 2 = pR := ((fm_R g3026 rh0 rfl).trans ((fm_R g2998 rh0 rfl).trans ((fm_R g2974 rh0 rfl).trans ((fm_R g2927 rh0 rfl).trans ((fm_R g2442 rh0 rfl).trans ((fm_R g2417 rh0 rfl).trans ((fm_R g2395 rh0 rfl).trans m2370)))))))
                        have m3029 : oI (f3023 h0) 12 = pF12 := ((fm_I g3026 rh0 rfl).trans ((fm_I g2998 rh0 rfl).trans ((fm_I g2974 rh0 rfl).trans ((fm_I g2927 rh0 rfl).trans ((fm_I g2442 rh0 rfl).trans ((fm_I g2417 rh0 rfl).trans ((fm_I g2395 rh0 rfl).trans m2371)))))))
                        have z3030 : DJ f0 f3023 h0 pF21.toInt pF21.toInt y2953.toInt y2953.toInt y2953.toInt := dj_keep z3000 hw3027 g3026 rh0 rfl (fun q => by rw [fm_I g3026 rh0 rfl]; exact q)
                        have hF := FM.tr hF g3026 rfl
                        have q3031 : x3018.toInt = 8 * pF19.toInt + 6 := by omega
                        have q3032 : 0 ≤ 8 * pF19.toInt := by omega
                        have z3033 : ∀ j : Nat, (j : Int) < 8 * pF19.toInt → aI (f3023 pN) j = aI (f0 pN) j := pre_st2 z3003 e3024 q3031 q3032 (by decide)
                        clear z3003
                        have z3034 : aI (f3023 pN) (8 * pF19.toInt + 0).toNat = x6 := ent_no2 z3004 e3024 q3031 q3032 (by decide)
                        have z3035 : aI (f3023 pN) (8 * pF19.toInt + 1).toNat = 0 := ent_no2 z3005 e3024 q3031 q3032 (by decide)
                        have z3036 : aI (f3023 pN) (8 * pF19.toInt + 2).toNat = 0 := ent_no2 z3006 e3024 q3031 q3032 (by decide)
                        have z3037 : aI (f3023 pN) (8 * pF19.toInt + 3).toNat = pF21 := ent_no2 z3007 e3024 q3031 q3032 (by decide)
                        have z3038 : aI (f3023 pN) (8 * pF19.toInt + 4).toNat = y2953 := ent_no2 z3008 e3024 q3031 q3032 (by decide)
                        have z3039 : aI (f3023 pN) (8 * pF19.toInt + 5).toNat = y2953 := ent_no2 z3009 e3024 q3031 q3032 (by decide)
                        have z3040 : aI (f3023 pN) (8 * pF19.toInt + 6).toNat = y2953 := ent_st2 e3024 q3031 q3032 (by decide)
                        clear q3031 q3032
                        clear z3004 z3005 z3006 z3007 z3008 z3009 z3010
                        exact e_V E hW rfl ⟨rfl, hF, (by simp only [m3029, mF12, ((fm_I g3026 rh0 rfl).trans ((fm_I g2998 rh0 rfl).trans ((fm_I g2974 rh0 rfl).trans m2942))), mF13, ((fm_I g3026 rh0 rfl).trans ((fm_I g2998 rh0 rfl).trans ((fm_I g2974 rh0 rfl).trans m2945))), mF14, ((fm_I g3026 rh0 rfl).trans ((fm_I g2998 rh0 rfl).trans ((fm_I g2974 rh0 rfl).trans m2948))), mF15, ((fm_I g3026 rh0 rfl).trans m3012), mF18, ((fm_I g3026 rh0 rfl).trans m3021), mF21, ((fm_J g3026 rh0 rfl).trans ((fm_J g2998 rh0 rfl).trans ((fm_J g2974 rh0 rfl).trans m2960))), mW, and_true, true_and, true_or, or_true, false_or, or_false] <;> omega), (Or.inl (by rw [((fm_I g3026 rh0 rfl).trans m3012)]; omega))⟩ dX12_readClause_260
                      · refine lv_aload_n hx hb dX12_readClause_228 rfl (lv_at hl 3 rfl) ?_
                        refine lv_ldc2 (v := 294) hx hb hown (hts _ tw_1904) dX12_readClause_229 ?_
                        have hw3044 := hW.2.2.2
                        refine t_callV (As := [.long 294]) (rest := []) E hW (c_X12_isWord l G cI cJ cZ cD cR cT kp L f2995 hW.2.2.2 _ h0 294 rh0 (by decide)) rh0 (by decide) rfl wk_X12_isWord tw_1797 rfl ⟨Nat.le_of_ble_eq_true rfl, Nat.le_of_ble_eq_true rfl⟩ ⟨rfl, rfl⟩ hl.1 rfl (Nat.le_of_ble_eq_true rfl) dX12_readClause_232 ⟨Nat.le_of_ble_eq_true rfl, Nat.le_of_ble_eq_true rfl⟩ (fun v3041 f3042 H locs q3043 hW => ?_)
                        obtain ⟨⟨x3046, rfl, p3047⟩, g3045⟩ := q3043
                        simp only [((fm_I g2998 rh0 rfl).trans ((fm_I g2974 rh0 rfl).trans m2948)), ((fm_J g2998 rh0 rfl).trans ((fm_J g2974 rh0 rfl).trans m2960))] at p3047
                        have p3047 : (x3046.toInt = 1 ∧ y2947.toInt = 1 ∧ y2959.toInt = 294) ∨ x3046.toInt = 0 := p3047
                        have m3048 : oR (f3042 h0) 2 = pR := ((fm_R g3045 rh0 rfl).trans ((fm_R g2998 rh0 rfl).trans ((fm_R g2974 rh0 rfl).trans ((fm_R g2927 rh0 rfl).trans ((fm_R g2442 rh0 rfl).trans ((fm_R g2417 rh0 rfl).trans ((fm_R g2395 rh0 rfl).trans m2370)))))))
                        have m3049 : oI (f3042 h0) 12 = pF12 := ((fm_I g3045 rh0 rfl).trans ((fm_I g2998 rh0 rfl).trans ((fm_I g2974 rh0 rfl).trans ((fm_I g2927 rh0 rfl).trans ((fm_I g2442 rh0 rfl).trans ((fm_I g2417 rh0 rfl).trans ((fm_I g2395 rh0 rfl).trans m2371)))))))
                        have m3050 : aI (f3042 pN) (x2088 : Int32).toNatClampNeg = x6 := ((congrArg (fun z => aI z (x2088 : Int32).toNatClampNeg) (fm_A g3045 rN (by decide) rfl)).trans (show aI (f2995 pN) (x2088 : Int32).toNatClampNeg = x6 from by rw [e2996, up_n (tn_ne (by omega) (by omega) (by omega))]; exact (show aI (f2971 pN) (x2088 : Int32).toNatClampNeg = x6 from by rw [e2972, up_n (tn_ne (by omega) (by omega) (by omega))]; exact m2930)))
                        have m3051 : aI (f3042 pN) (x2434 : Int32).toNatClampNeg = pF21 := ((congrArg (fun z => aI z (x2434 : Int32).toNatClampNeg) (fm_A g3045 rN (by decide) rfl)).trans (show aI (f2995 pN) (x2434 : Int32).toNatClampNeg = pF21 from by rw [e2996, up_n (tn_ne (by omega) (by omega) (by omega))]; exact (show aI (f2971 pN) (x2434 : Int32).toNatClampNeg = pF21 from by rw [e2972, up_n (tn_ne (by omega) (by omega) (by omega))]; exact m2931)))
                        have m3052 : aI (f3042 pN) (x2966 : Int32).toNatClampNeg = y2953 := ((congrArg (fun z => aI z (x2966 : Int32).toNatClampNeg) (fm_A g3045 rN (by decide) rfl)).trans (show aI (f2995 pN) (x2966 : Int32).toNatClampNeg = y2953 from by rw [e2996, up_n (tn_ne (by omega) (by omega) (by omega))]; exact (show aI (f2971 pN) (x2966 : Int32).toNatClampNeg = y2953 from by rw [e2972]; exact up_s)))
                        have m3053 : aI (f3042 pN) (x2990 : Int32).toNatClampNeg = y2953 := ((congrArg (fun z => aI z (x2990 : Int32).toNatClampNeg) (fm_A g3045 rN (by decide) rfl)).trans (show aI (f2995 pN) (x2990 : Int32).toNatClampNeg = y2953 from by rw [e2996]; exact up_s))
                        have z3054 : DJ f0 f3042 h0 pF21.toInt pF21.toInt y2953.toInt y2953.toInt y2953.toInt := dj_keep z3000 hw3044 g3045 rh0 rfl (fun q => by rw [fm_I g3045 rh0 rfl]; exact q)
                        have z3055 : ∀ j : Nat, (j : Int) < 8 * pF19.toInt → aI (f3042 pN) j = aI (f0 pN) j := by rw [fm_A g3045 rN (by decide) rfl]; exact z3003
                        clear z3003
                        have z3056 : aI (f3042 pN) (8 * pF19.toInt + 0).toNat = x6 := by rw [fm_A g3045 rN (by decide) rfl]; exact z3004
                        have z3057 : aI (f3042 pN) (8 * pF19.toInt + 1).toNat = 0 := by rw [fm_A g3045 rN (by decide) rfl]; exact z3005
                        have z3058 : aI (f3042 pN) (8 * pF19.toInt + 2).toNat = 0 := by rw [fm_A g3045 rN (by decide) rfl]; exact z3006
                        have z3059 : aI (f3042 pN) (8 * pF19.toInt + 3).toNat = pF21 := by rw [fm_A g3045 rN (by decide) rfl]; exact z3007
                        have z3060 : aI (f3042 pN) (8 * pF19.toInt + 4).toNat = y2953 := by rw [fm_A g3045 rN (by decide) rfl]; exact z3008
                        have z3061 : aI (f3042 pN) (8 * pF19.toInt + 5).toNat = y2953 := by rw [fm_A g3045 rN (by decide) rfl]; exact z3009
                        have z3062 : aI (f3042 pN) (8 * pF19.toInt + 6).toNat = 0 := by rw [fm_A g3045 rN (by decide) rfl]; exact z3010
                        clear z3004 z3005 z3006 z3007 z3008 z3009 z3010
                        have hF := FM.tr hF g3045 rfl
                        refine q_if_eq (tgt := 247) hx hb dX12_readClause_235 (by decide) rfl (fun c3063 => ?_) (fun c3063 => ?_)
                        · clear p3047
                          refine lv_aload_n hx hb dX12_readClause_247 rfl (lv_at hl 3 rfl) ?_
                          refine fg_RX12_39 E hW rh0 dX12_readClause_248 (fun a3064 m3065 r3066 => ?_)
                          obtain rfl : pN = a3064 := (((fm_R g3045 rh0 rfl).trans ((fm_R g2998 rh0 rfl).trans m2988))).symm.trans m3065
                          refine lv_iload_n hx hb dX12_readClause_251 rfl (lv_at hl 1 rfl) ?_
                          refine lv_bipush (v := 6) hx hb dX12_readClause_252 (by decide) ?_
                          refine q_iadd (Y := 6) hx hb dX12_readClause_254 rfl rfl (by omega) (fun x3067 h3068 => ?_)
                          refine lv_aload_n hx hb dX12_readClause_255 rfl (lv_at hl 3 rfl) ?_
                          refine fg_RX12_229 E hW rh0 dX12_readClause_256 (fun y3069 m3070 b3071 => ?_)
                          obtain rfl : y2953 = y3069 := (((fm_I g3045 rh0 rfl).trans ((fm_I g2998 rh0 rfl).trans m2993))).symm.trans m3070
                          have hw3076 := hW.2.2.2
                          refine gs_840 E hW rN ⟨by omega, by omega⟩ dX12_readClause_259 (fun f3072 H locs e3073 n3074 g3075 hW => ?_)
                          have z3077 : DJ f0 f3072 h0 pF21.toInt pF21.toInt y2953.toInt y2953.toInt y2953.toInt := dj_keep z3054 hw3076 g3075 rh0 rfl (fun q => by rw [fm_I g3075 rh0 rfl]; exact q)
                          have hF := FM.tr hF g3075 rfl
                          have q3078 : x3067.toInt = 8 * pF19.toInt + 6 := by omega
                          have q3079 : 0 ≤ 8 * pF19.toInt := by omega
                          have z3080 : ∀ j : Nat, (j : Int) < 8 * pF19.toInt → aI (f3072 pN) j = aI (f0 pN) j := pre_st2 z3055 e3073 q3078 q3079 (by decide)
                          clear z3055
                          have z3081 : aI (f3072 pN) (8 * pF19.toInt + 0).toNat = x6 := ent_no2 z3056 e3073 q3078 q3079 (by decide)
                          have z3082 : aI (f3072 pN) (8 * pF19.toInt + 1).toNat = 0 := ent_no2 z3057 e3073 q3078 q3079 (by decide)
                          have z3083 : aI (f3072 pN) (8 * pF19.toInt + 2).toNat = 0 := ent_no2 z3058 e3073 q3078 q3079 (by decide)
                          have z3084 : aI (f3072 pN) (8 * pF19.toInt + 3).toNat = pF21 := ent_no2 z3059 e3073 q3078 q3079 (by decide)
                          have z3085 : aI (f3072 pN) (8 * pF19.toInt + 4).toNat = y2953 := ent_no2 z3060 e3073 q3078 q3079 (by decide)
                          have z3086 : aI (f3072 pN) (8 * pF19.toInt + 5).toNat = y2953 := ent_no2 z3061 e3073 q3078 q3079 (by decide)
                          have z3087 : aI (f3072 pN) (8 * pF19.toInt + 6).toNat = y2953 := ent_st2 e3073 q3078 q3079 (by decide)
                          clear q3078 q3079
                          clear z3056 z3057 z3058 z3059 z3060 z3061 z3062
                          exact e_V E hW rfl ⟨rfl, hF, (by simp only [((fm_I g3075 rh0 rfl).trans m3049), mF12, ((fm_I g3075 rh0 rfl).trans ((fm_I g3045 rh0 rfl).trans ((fm_I g2998 rh0 rfl).trans ((fm_I g2974 rh0 rfl).trans m2942)))), mF13, ((fm_I g3075 rh0 rfl).trans ((fm_I g3045 rh0 rfl).trans ((fm_I g2998 rh0 rfl).trans ((fm_I g2974 rh0 rfl).trans m2945)))), mF14, ((fm_I g3075 rh0 rfl).trans ((fm_I g3045 rh0 rfl).trans ((fm_I g2998 rh0 rfl).trans ((fm_I g2974 rh0 rfl).trans m2948)))), mF15, ((fm_I g3075 rh0 rfl).trans ((fm_I g3045 rh0 rfl).trans m3012)), mF18, ((fm_I g3075 rh0 rfl).trans m3070), mF21, ((fm_J g3075 rh0 rfl).trans ((fm_J g3045 rh0 rfl).trans ((fm_J g2998 rh0 rfl).trans ((fm_J g2974 rh0 rfl).trans m2960)))), mW, and_true, true_and, true_or, or_true, false_or, or_false] <;> omega), (by have hk0 : (0 : Int32).toInt = 0 := rfl; rw [((fm_I g3075 rh0 rfl).trans m3070), ((fm_I g3075 rh0 rfl).trans ((fm_I g3045 rh0 rfl).trans ((fm_I g2998 rh0 rfl).trans ((fm_I g2974 rh0 rfl).trans ((fm_I g2927 rh0 rfl).trans ((fm_I g2442 rh0 rfl).trans e2415))))))]; exact cl_end (nc := y2953.toInt) (hd := x6) (r1 := 0) (r2 := 0) (show CLs _ _ _ pF21.toInt pF19.toInt from hC) (by omega) (show DJ f0 f3072 h0 pF21.toInt (pF21 : Int32).toInt (y2953 : Int32).toInt (y2953 : Int32).toInt (y2953 : Int32).toInt from z3077) (fun j hj => by unfold vN; rw [((fm_R g3075 rh0 rfl).trans m3065), mN]; exact z3080 j hj) (by unfold vN; rw [((fm_R g3075 rh0 rfl).trans m3065)]; exact z3081) (by unfold vN; rw [((fm_R g3075 rh0 rfl).trans m3065)]; exact z3082) (by unfold vN; rw [((fm_R g3075 rh0 rfl).trans m3065)]; exact z3083) (by unfold vN; rw [((fm_R g3075 rh0 rfl).trans m3065)]; exact z3084) (by unfold vN; rw [((fm_R g3075 rh0 rfl).trans m3065)]; exact z3085) (by unfold vN; rw [((fm_R g3075 rh0 rfl).trans m3065)]; exact z3086) (by unfold vN; rw [((fm_R g3075 rh0 rfl).trans m3065)]; exact z3087) (by rw [((fm_I g3075 rh0 rfl).trans ((fm_I g3045 rh0 rfl).trans m3012))]; omega) (by omega) (by omega))⟩ dX12_readClause_260
                        · have q3088 : y2947.toInt = 1 ∧ y2959.toInt = 294 := by omega
                          clear p3047
                          refine lv_aload_n hx hb dX12_readClause_238 rfl (lv_at hl 3 rfl) ?_
                          have hw3092 := hW.2.2.2
                          refine t_callV (As := []) (rest := []) E hW (c_X12_next l G cI cJ cZ cD cR cT kp L f3042 hW.2.2.2 _ h0 rh0 (by simp only [m3049, ((fm_I g3045 rh0 rfl).trans ((fm_I g2998 rh0 rfl).trans ((fm_I g2974 rh0 rfl).trans m2945))), and_true, true_and, true_or, or_true, false_or, or_false] <;> omega)) rh0 (by decide) rfl wk_X12_next tw_1773 rfl ⟨Nat.le_of_ble_eq_true rfl, Nat.le_of_ble_eq_true rfl⟩ ⟨rfl, rfl⟩ hl.1 rfl (Nat.le_of_ble_eq_true rfl) dX12_readClause_239 ⟨Nat.le_of_ble_eq_true rfl, Nat.le_of_ble_eq_true rfl⟩ (fun v3089 f3090 H locs q3091 hW => ?_)
                          obtain ⟨rfl, g3093, h3094⟩ := q3091
                          have z3095 : DJ f0 f3090 h0 pF21.toInt pF21.toInt y2953.toInt y2953.toInt y2953.toInt := dj_keep z3054 hw3092 g3093 rh0 rfl (fun q => by rw [fm_I g3093 rh0 rfl]; exact q)
                          have z3096 : ∀ j : Nat, (j : Int) < 8 * pF19.toInt → aI (f3090 pN) j = aI (f0 pN) j := by rw [fm_A g3093 rN (by decide) rfl]; exact z3055
                          clear z3055
                          have z3097 : aI (f3090 pN) (8 * pF19.toInt + 0).toNat = x6 := by rw [fm_A g3093 rN (by decide) rfl]; exact z3056
                          have z3098 : aI (f3090 pN) (8 * pF19.toInt + 1).toNat = 0 := by rw [fm_A g3093 rN (by decide) rfl]; exact z3057
                          have z3099 : aI (f3090 pN) (8 * pF19.toInt + 2).toNat = 0 := by rw [fm_A g3093 rN (by decide) rfl]; exact z3058
                          have z3100 : aI (f3090 pN) (8 * pF19.toInt + 3).toNat = pF21 := by rw [fm_A g3093 rN (by decide) rfl]; exact z3059
                          have z3101 : aI (f3090 pN) (8 * pF19.toInt + 4).toNat = y2953 := by rw [fm_A g3093 rN (by decide) rfl]; exact z3060
                          have z3102 : aI (f3090 pN) (8 * pF19.toInt + 5).toNat = y2953 := by rw [fm_A g3093 rN (by decide) rfl]; exact z3061
                          have z3103 : aI (f3090 pN) (8 * pF19.toInt + 6).toNat = 0 := by rw [fm_A g3093 rN (by decide) rfl]; exact z3062
                          clear z3056 z3057 z3058 z3059 z3060 z3061 z3062
                          have hF := FM.tr hF g3093 rfl
                          obtain ⟨y3104, m3105⟩ : ∃ x : Int32, oI (f3090 h0) 13 = x := ⟨_, rfl⟩
                          have b3106 : (0 : Int) ≤ y3104.toInt ∧ y3104.toInt ≤ 400 := by rw [← m3105]; exact th_iv hW rh0 (by decide) (by decide) rfl
                          obtain ⟨y3107, m3108⟩ : ∃ x : Int32, oI (f3090 h0) 14 = x := ⟨_, rfl⟩
                          have b3109 : (0 : Int) ≤ y3107.toInt ∧ y3107.toInt ≤ 400 := by rw [← m3108]; exact th_iv hW rh0 (by decide) (by decide) rfl
                          obtain ⟨y3110, m3111⟩ : ∃ x : Int32, oI (f3090 h0) 15 = x := ⟨_, rfl⟩
                          have b3112 : (0 : Int) ≤ y3110.toInt ∧ y3110.toInt ≤ 3 := by rw [← m3111]; exact th_iv hW rh0 (by decide) (by decide) rfl
                          obtain ⟨y3113, m3114⟩ : ∃ x : Int64, oJ (f3090 h0) 16 = x := ⟨_, rfl⟩
                          simp only [((fm_I g3093 rh0 rfl).trans m3049), m3049, m3105, ((fm_I g3045 rh0 rfl).trans ((fm_I g2998 rh0 rfl).trans ((fm_I g2974 rh0 rfl).trans m2942))), m3108, ((fm_I g3045 rh0 rfl).trans ((fm_I g2998 rh0 rfl).trans ((fm_I g2974 rh0 rfl).trans m2945))), m3111, ((fm_I g3045 rh0 rfl).trans ((fm_I g2998 rh0 rfl).trans ((fm_I g2974 rh0 rfl).trans m2948))), m3114, ((fm_J g3045 rh0 rfl).trans ((fm_J g2998 rh0 rfl).trans ((fm_J g2974 rh0 rfl).trans m2960)))] at h3094
                          refine lv_aload_n hx hb dX12_readClause_242 rfl (lv_at hl 3 rfl) ?_
                          refine lv_iconst (v := 1) hx hb dX12_readClause_243 (by decide) ?_
                          have hw3119 := hW.2.2.2
                          refine t_callV (As := [.int 1]) (rest := []) E hW (c_X12_readExpression l G cI cJ cZ cD cR cT kp L f3090 hW.2.2.2 _ h0 1 rh0 (by decide) (by have hkq3115 : (1 : Int32).toInt = 1 := rfl; simp only [((fm_I g3093 rh0 rfl).trans m3049), m3105, m3108, m3111, ((fm_I g3093 rh0 rfl).trans ((fm_I g3045 rh0 rfl).trans m3012)), ((fm_I g3093 rh0 rfl).trans ((fm_I g3045 rh0 rfl).trans ((fm_I g2998 rh0 rfl).trans m2993))), m3114, and_true, true_and, true_or, or_true, false_or, or_false] <;> omega)) rh0 (by decide) rfl wk_X12_readExpression tw_1819 rfl ⟨Nat.le_of_ble_eq_true rfl, Nat.le_of_ble_eq_true rfl⟩ ⟨rfl, rfl⟩ hl.1 rfl (Nat.le_of_ble_eq_true rfl) dX12_readClause_244 ⟨Nat.le_of_ble_eq_true rfl, Nat.le_of_ble_eq_true rfl⟩ (fun v3116 f3117 H locs q3118 hW => ?_)
                          obtain ⟨rfl, g3120, h3121, h3122⟩ := q3118
                          have m3123 : oI (f3117 h0) 19 = x2412 := ((fm_I g3120 rh0 rfl).trans ((fm_I g3093 rh0 rfl).trans ((fm_I g3045 rh0 rfl).trans ((fm_I g2998 rh0 rfl).trans ((fm_I g2974 rh0 rfl).trans ((fm_I g2927 rh0 rfl).trans ((fm_I g2442 rh0 rfl).trans e2415)))))))
                          have m3124 : aI (f3117 pN) (x2088 : Int32).toNatClampNeg = x6 := ((congrArg (fun z => aI z (x2088 : Int32).toNatClampNeg) (fm_A g3120 rN (by decide) rfl)).trans ((congrArg (fun z => aI z (x2088 : Int32).toNatClampNeg) (fm_A g3093 rN (by decide) rfl)).trans m3050))
                          have m3125 : aI (f3117 pN) (x2434 : Int32).toNatClampNeg = pF21 := ((congrArg (fun z => aI z (x2434 : Int32).toNatClampNeg) (fm_A g3120 rN (by decide) rfl)).trans ((congrArg (fun z => aI z (x2434 : Int32).toNatClampNeg) (fm_A g3093 rN (by decide) rfl)).trans m3051))
                          have m3126 : aI (f3117 pN) (x2966 : Int32).toNatClampNeg = y2953 := ((congrArg (fun z => aI z (x2966 : Int32).toNatClampNeg) (fm_A g3120 rN (by decide) rfl)).trans ((congrArg (fun z => aI z (x2966 : Int32).toNatClampNeg) (fm_A g3093 rN (by decide) rfl)).trans m3052))
                          have m3127 : aI (f3117 pN) (x2990 : Int32).toNatClampNeg = y2953 := ((congrArg (fun z => aI z (x2990 : Int32).toNatClampNeg) (fm_A g3120 rN (by decide) rfl)).trans ((congrArg (fun z => aI z (x2990 : Int32).toNatClampNeg) (fm_A g3093 rN (by decide) rfl)).trans m3053))
                          have z3128 : ∀ j : Nat, (j : Int) < 8 * pF19.toInt → aI (f3117 pN) j = aI (f0 pN) j := by rw [fm_A g3120 rN (by decide) rfl]; exact z3096
                          clear z3096
                          have z3129 : aI (f3117 pN) (8 * pF19.toInt + 0).toNat = x6 := by rw [fm_A g3120 rN (by decide) rfl]; exact z3097
                          have z3130 : aI (f3117 pN) (8 * pF19.toInt + 1).toNat = 0 := by rw [fm_A g3120 rN (by decide) rfl]; exact z3098
                          have z3131 : aI (f3117 pN) (8 * pF19.toInt + 2).toNat = 0 := by rw [fm_A g3120 rN (by decide) rfl]; exact z3099
                          have z3132 : aI (f3117 pN) (8 * pF19.toInt + 3).toNat = pF21 := by rw [fm_A g3120 rN (by decide) rfl]; exact z3100
                          have z3133 : aI (f3117 pN) (8 * pF19.toInt + 4).toNat = y2953 := by rw [fm_A g3120 rN (by decide) rfl]; exact z3101
                          have z3134 : aI (f3117 pN) (8 * pF19.toInt + 5).toNat = y2953 := by rw [fm_A g3120 rN (by decide) rfl]; exact z3102
                          have z3135 : aI (f3117 pN) (8 * pF19.toInt + 6).toNat = 0 := by rw [fm_A g3120 rN (by decide) rfl]; exact z3103
                          clear z3097 z3098 z3099 z3100 z3101 z3102 z3103
                          have hF := FM.tr hF g3120 rfl
                          have hk3136 : (1 : Int32).toInt = 1 := rfl
                          obtain ⟨y3137, m3138⟩ : ∃ x : Int32, oI (f3117 h0) 13 = x := ⟨_, rfl⟩
                          have b3139 : (0 : Int) ≤ y3137.toInt ∧ y3137.toInt ≤ 400 := by rw [← m3138]; exact th_iv hW rh0 (by decide) (by decide) rfl
                          obtain ⟨y3140, m3141⟩ : ∃ x : Int32, oI (f3117 h0) 14 = x := ⟨_, rfl⟩
                          have b3142 : (0 : Int) ≤ y3140.toInt ∧ y3140.toInt ≤ 400 := by rw [← m3141]; exact th_iv hW rh0 (by decide) (by decide) rfl
                          obtain ⟨y3143, m3144⟩ : ∃ x : Int32, oI (f3117 h0) 15 = x := ⟨_, rfl⟩
                          have b3145 : (0 : Int) ≤ y3143.toInt ∧ y3143.toInt ≤ 3 := by rw [← m3144]; exact th_iv hW rh0 (by decide) (by decide) rfl
                          obtain ⟨y3146, m3147⟩ : ∃ x : Int32, oI (f3117 h0) 18 = x := ⟨_, rfl⟩
                          have b3148 : (0 : Int) ≤ y3146.toInt ∧ y3146.toInt ≤ 1 := by rw [← m3147]; exact th_iv hW rh0 (by decide) (by decide) rfl
                          obtain ⟨y3149, m3150⟩ : ∃ x : Int32, oI (f3117 h0) 21 = x := ⟨_, rfl⟩
                          have b3151 : (0 : Int) ≤ y3149.toInt ∧ y3149.toInt ≤ 400 := by rw [← m3150]; exact th_iv hW rh0 (by decide) (by decide) rfl
                          obtain ⟨y3152, m3153⟩ : ∃ x : Int32, oI (f3117 h0) 27 = x := ⟨_, rfl⟩
                          have b3154 : (0 : Int) ≤ y3152.toInt ∧ y3152.toInt ≤ 400 := by rw [← m3153]; exact th_iv hW rh0 (by decide) (by decide) rfl
                          obtain ⟨y3155, m3156⟩ : ∃ x : Int64, oJ (f3117 h0) 16 = x := ⟨_, rfl⟩
                          simp only [((fm_I g3120 rh0 rfl).trans ((fm_I g3093 rh0 rfl).trans m3049)), ((fm_I g3093 rh0 rfl).trans m3049), m3138, m3105, m3141, m3108, m3144, m3111, m3147, ((fm_I g3093 rh0 rfl).trans ((fm_I g3045 rh0 rfl).trans m3012)), m3150, ((fm_I g3093 rh0 rfl).trans ((fm_I g3045 rh0 rfl).trans ((fm_I g2998 rh0 rfl).trans m2993))), m3153, ((fm_I g3093 rh0 rfl).trans ((fm_I g3045 rh0 rfl).trans ((fm_I g2998 rh0 rfl).trans ((fm_I g2974 rh0 rfl).trans m2957)))), m3156, m3114] at h3121
                          have z3158 := h3122
                          rw [((fm_I g3093 rh0 rfl).trans ((fm_I g3045 rh0 rfl).trans ((fm_I g2998 rh0 rfl).trans m2993))), m3150] at z3158
                          have z3157 : DJ f0 f3117 h0 pF21.toInt pF21.toInt y2953.toInt y2953.toInt y3149.toInt := dj_ex2 z3095 (by rw [((fm_I g3093 rh0 rfl).trans ((fm_I g3045 rh0 rfl).trans m3012))]; omega) (by omega) (by omega) (by omega) z3158
                          refine lv_aload_n hx hb dX12_readClause_247 rfl (lv_at hl 3 rfl) ?_
                          refine fg_RX12_39 E hW rh0 dX12_readClause_248 (fun a3159 m3160 r3161 => ?_)
                          obtain rfl : pN = a3159 := (((fm_R g3120 rh0 rfl).trans ((fm_R g3093 rh0 rfl).trans ((fm_R g3045 rh0 rfl).trans ((fm_R g2998 rh0 rfl).trans m2988))))).symm.trans m3160
                          refine lv_iload_n hx hb dX12_readClause_251 rfl (lv_at hl 1 rfl) ?_
                          refine lv_bipush (v := 6) hx hb dX12_readClause_252 (by decide) ?_
                          refine q_iadd (Y := 6) hx hb dX12_readClause_254 rfl rfl (by omega) (fun x3162 h3163 => ?_)
                          refine lv_aload_n hx hb dX12_readClause_255 rfl (lv_at hl 3 rfl) ?_
                          refine fg_RX12_229 E hW rh0 dX12_readClause_256 (fun y3164 m3165 b3166 => ?_)
                          obtain rfl : y3149 = y3164 := (m3150).symm.trans m3165
                          have hw3171 := hW.2.2.2
                          refine gs_840 E hW rN ⟨by omega, by omega⟩ dX12_readClause_259 (fun f3167 H locs e3168 n3169 g3170 hW => ?_)
                          have z3172 : DJ f0 f3167 h0 pF21.toInt pF21.toInt y2953.toInt y2953.toInt y3149.toInt := dj_keep z3157 hw3171 g3170 rh0 rfl (fun q => by rw [fm_I g3170 rh0 rfl]; exact q)
                          have hF := FM.tr hF g3170 rfl
                          have q3173 : x3162.toInt = 8 * pF19.toInt + 6 := by omega
                          have q3174 : 0 ≤ 8 * pF19.toInt := by omega
                          have z3175 : ∀ j : Nat, (j : Int) < 8 * pF19.toInt → aI (f3167 pN) j = aI (f0 pN) j := pre_st2 z3128 e3168 q3173 q3174 (by decide)
                          clear z3128
                          have z3176 : aI (f3167 pN) (8 * pF19.toInt + 0).toNat = x6 := ent_no2 z3129 e3168 q3173 q3174 (by decide)
                          have z3177 : aI (f3167 pN) (8 * pF19.toInt + 1).toNat = 0 := ent_no2 z3130 e3168 q3173 q3174 (by decide)
                          have z3178 : aI (f3167 pN) (8 * pF19.toInt + 2).toNat = 0 := ent_no2 z3131 e3168 q3173 q3174 (by decide)
                          have z3179 : aI (f3167 pN) (8 * pF19.toInt + 3).toNat = pF21 := ent_no2 z3132 e3168 q3173 q3174 (by decide)
                          have z3180 : aI (f3167 pN) (8 * pF19.toInt + 4).toNat = y2953 := ent_no2 z3133 e3168 q3173 q3174 (by decide)
                          have z3181 : aI (f3167 pN) (8 * pF19.toInt + 5).toNat = y2953 := ent_no2 z3134 e3168 q3173 q3174 (by decide)
                          have z3182 : aI (f3167 pN) (8 * pF19.toInt + 6).toNat = y3149 := ent_st2 e3168 q3173 q3174 (by decide)
                          clear q3173 q3174
                          clear z3129 z3130 z3131 z3132 z3133 z3134 z3135
                          exact e_V E hW rfl ⟨rfl, hF, (by simp only [((fm_I g3170 rh0 rfl).trans ((fm_I g3120 rh0 rfl).trans ((fm_I g3093 rh0 rfl).trans m3049))), mF12, ((fm_I g3170 rh0 rfl).trans m3138), mF13, ((fm_I g3170 rh0 rfl).trans m3141), mF14, ((fm_I g3170 rh0 rfl).trans m3144), mF15, ((fm_I g3170 rh0 rfl).trans m3147), mF18, ((fm_I g3170 rh0 rfl).trans m3165), mF21, ((fm_J g3170 rh0 rfl).trans m3156), mW, and_true, true_and, true_or, or_true, false_or, or_false] <;> omega), (by have hk0 : (0 : Int32).toInt = 0 := rfl; rw [((fm_I g3170 rh0 rfl).trans m3165), ((fm_I g3170 rh0 rfl).trans m3123)]; exact cl_end (nc := y3149.toInt) (hd := x6) (r1 := 0) (r2 := 0) (show CLs _ _ _ pF21.toInt pF19.toInt from hC) (by omega) (show DJ f0 f3167 h0 pF21.toInt (pF21 : Int32).toInt (y2953 : Int32).toInt (y2953 : Int32).toInt (y3149 : Int32).toInt from z3172) (fun j hj => by unfold vN; rw [((fm_R g3170 rh0 rfl).trans m3160), mN]; exact z3175 j hj) (by unfold vN; rw [((fm_R g3170 rh0 rfl).trans m3160)]; exact z3176) (by unfold vN; rw [((fm_R g3170 rh0 rfl).trans m3160)]; exact z3177) (by unfold vN; rw [((fm_R g3170 rh0 rfl).trans m3160)]; exact z3178) (by unfold vN; rw [((fm_R g3170 rh0 rfl).trans m3160)]; exact z3179) (by unfold vN; rw [((fm_R g3170 rh0 rfl).trans m3160)]; exact z3180) (by unfold vN; rw [((fm_R g3170 rh0 rfl).trans m3160)]; exact z3181) (by unfold vN; rw [((fm_R g3170 rh0 rfl).trans m3160)]; exact z3182) (by rw [((fm_I g3170 rh0 rfl).trans m3147)]; omega) (by omega) (by omega))⟩ dX12_readClause_260
                · refine lv_aload_n hx hb dX12_readClause_137 rfl (lv_at hl 3 rfl) ?_
                  refine fg_RX12_39 E hW rh0 dX12_readClause_138 (fun a3183 m3184 r3185 => ?_)
                  obtain rfl : pN = a3183 := (((fm_R g2417 rh0 rfl).trans ((fm_R g2395 rh0 rfl).trans m2390))).symm.trans m3184
                  refine lv_iload_n hx hb dX12_readClause_141 rfl (lv_at hl 1 rfl) ?_
                  refine lv_iconst (v := 1) hx hb dX12_readClause_142 (by decide) ?_
                  refine q_iadd (Y := 1) hx hb dX12_readClause_143 rfl rfl (by omega) (fun x3186 h3187 => ?_)
                  refine lv_aload_n hx hb dX12_readClause_144 rfl (lv_at hl 3 rfl) ?_
                  refine lv_lconst (v := 0) hx hb dX12_readClause_145 (by decide) ?_
                  refine lv_ldc2 (v := 3) hx hb hown (hts _ tw_1817) dX12_readClause_146 ?_
                  have hw3193 := hW.2.2.2
                  refine t_callV (As := [.long 0, .long 3]) (rest := [.int x3186, .ref pN]) E hW (c_X12_number l G cI cJ cZ cD cR cT kp L f2414 hW.2.2.2 _ h0 0 3 rh0 (by decide) (by decide) (by have hkq3188 : (0 : Int64).toInt = 0 := rfl; have hkq3189 : (3 : Int64).toInt = 3 := rfl; simp only [((fm_I g2417 rh0 rfl).trans ((fm_I g2395 rh0 rfl).trans m2371)), ((fm_I g2417 rh0 rfl).trans ((fm_I g2395 rh0 rfl).trans m2372)), ((fm_I g2417 rh0 rfl).trans ((fm_I g2395 rh0 rfl).trans m2373)), ((fm_I g2417 rh0 rfl).trans ((fm_I g2395 rh0 rfl).trans m2374)), ((fm_J g2417 rh0 rfl).trans ((fm_J g2395 rh0 rfl).trans m2375)), and_true, true_and, true_or, or_true, false_or, or_false] <;> omega)) rh0 (by decide) rfl wk_X12_number tw_1811 rfl ⟨Nat.le_of_ble_eq_true rfl, Nat.le_of_ble_eq_true rfl⟩ ⟨rfl, rfl⟩ hl.1 rfl (Nat.le_of_ble_eq_true rfl) dX12_readClause_149 ⟨Nat.le_of_ble_eq_true rfl, Nat.le_of_ble_eq_true rfl⟩ (fun v3190 f3191 H locs q3192 hW => ?_)
                  obtain ⟨⟨x3196, rfl, p3197⟩, g3194, h3195⟩ := q3192
                  clear p3197
                  have z3199 : ∀ j : Nat, (j : Int) < 8 * pF19.toInt → aI (f3191 pN) j = aI (f0 pN) j := by rw [fm_A g3194 rN (by decide) rfl]; exact z2421
                  clear z2421
                  have z3200 : aI (f3191 pN) (8 * pF19.toInt + 0).toNat = x6 := by rw [fm_A g3194 rN (by decide) rfl]; exact z2422
                  have z3201 : aI (f3191 pN) (8 * pF19.toInt + 1).toNat = 0 := by rw [fm_A g3194 rN (by decide) rfl]; exact z2423
                  have z3202 : aI (f3191 pN) (8 * pF19.toInt + 2).toNat = 0 := by rw [fm_A g3194 rN (by decide) rfl]; exact z2424
                  have z3203 : aI (f3191 pN) (8 * pF19.toInt + 3).toNat = 0 := by rw [fm_A g3194 rN (by decide) rfl]; exact z2425
                  have z3204 : aI (f3191 pN) (8 * pF19.toInt + 4).toNat = 0 := by rw [fm_A g3194 rN (by decide) rfl]; exact z2426
                  have z3205 : aI (f3191 pN) (8 * pF19.toInt + 5).toNat = 0 := by rw [fm_A g3194 rN (by decide) rfl]; exact z2427
                  have z3206 : aI (f3191 pN) (8 * pF19.toInt + 6).toNat = 0 := by rw [fm_A g3194 rN (by decide) rfl]; exact z2428
                  clear z2422 z2423 z2424 z2425 z2426 z2427 z2428
                  have hF := FM.tr hF g3194 rfl
                  have h3195 := h3195 _ rfl
                  have hk3207 : (0 : Int64).toInt = 0 := rfl
                  have hk3208 : (3 : Int64).toInt = 3 := rfl
                  obtain ⟨y3209, m3210⟩ : ∃ x : Int32, oI (f3191 h0) 13 = x := ⟨_, rfl⟩
                  have b3211 : (0 : Int) ≤ y3209.toInt ∧ y3209.toInt ≤ 400 := by rw [← m3210]; exact th_iv hW rh0 (by decide) (by decide) rfl
                  obtain ⟨y3212, m3213⟩ : ∃ x : Int32, oI (f3191 h0) 14 = x := ⟨_, rfl⟩
                  have b3214 : (0 : Int) ≤ y3212.toInt ∧ y3212.toInt ≤ 400 := by rw [← m3213]; exact th_iv hW rh0 (by decide) (by decide) rfl
                  obtain ⟨y3215, m3216⟩ : ∃ x : Int32, oI (f3191 h0) 15 = x := ⟨_, rfl⟩
                  have b3217 : (0 : Int) ≤ y3215.toInt ∧ y3215.toInt ≤ 3 := by rw [← m3216]; exact th_iv hW rh0 (by decide) (by decide) rfl
                  obtain ⟨y3218, m3219⟩ : ∃ x : Int32, oI (f3191 h0) 18 = x := ⟨_, rfl⟩
                  have b3220 : (0 : Int) ≤ y3218.toInt ∧ y3218.toInt ≤ 1 := by rw [← m3219]; exact th_iv hW rh0 (by decide) (by decide) rfl
                  obtain ⟨y3221, m3222⟩ : ∃ x : Int64, oJ (f3191 h0) 16 = x := ⟨_, rfl⟩
                  simp only [((fm_I g3194 rh0 rfl).trans ((fm_I g2417 rh0 rfl).trans ((fm_I g2395 rh0 rfl).trans m2371))), ((fm_I g2417 rh0 rfl).trans ((fm_I g2395 rh0 rfl).trans m2371)), m3210, ((fm_I g2417 rh0 rfl).trans ((fm_I g2395 rh0 rfl).trans m2372)), m3213, ((fm_I g2417 rh0 rfl).trans ((fm_I g2395 rh0 rfl).trans m2373)), m3216, ((fm_I g2417 rh0 rfl).trans ((fm_I g2395 rh0 rfl).trans m2374)), m3219, ((fm_I g2417 rh0 rfl).trans ((fm_I g2395 rh0 rfl).trans m2376)), m3222, ((fm_J g2417 rh0 rfl).trans ((fm_J g2395 rh0 rfl).trans m2375))] at h3195
                  have z3223 : DJ f0 f3191 h0 pF21.toInt 0 0 0 0 := dj_keep z2420 hw3193 g3194 rh0 rfl (fun q => by rw [((fm_I g2417 rh0 rfl).trans ((fm_I g2395 rh0 rfl).trans m2376))] at q; rw [m3219]; omega)
                  have hw3228 := hW.2.2.2
                  refine gs_840 E hW rN ⟨by omega, by omega⟩ dX12_readClause_152 (fun f3224 H locs e3225 n3226 g3227 hW => ?_)
                  have z3229 : DJ f0 f3224 h0 pF21.toInt 0 0 0 0 := dj_keep z3223 hw3228 g3227 rh0 rfl (fun q => by rw [fm_I g3227 rh0 rfl]; exact q)
                  have hF := FM.tr hF g3227 rfl
                  have q3230 : x3186.toInt = 8 * pF19.toInt + 1 := by omega
                  have q3231 : 0 ≤ 8 * pF19.toInt := by omega
                  have z3232 : ∀ j : Nat, (j : Int) < 8 * pF19.toInt → aI (f3224 pN) j = aI (f0 pN) j := pre_st2 z3199 e3225 q3230 q3231 (by decide)
                  clear z3199
                  have z3233 : aI (f3224 pN) (8 * pF19.toInt + 0).toNat = x6 := ent_no2 z3200 e3225 q3230 q3231 (by decide)
                  have z3234 : aI (f3224 pN) (8 * pF19.toInt + 1).toNat = x3196 := ent_st2 e3225 q3230 q3231 (by decide)
                  have z3235 : aI (f3224 pN) (8 * pF19.toInt + 2).toNat = 0 := ent_no2 z3202 e3225 q3230 q3231 (by decide)
                  have z3236 : aI (f3224 pN) (8 * pF19.toInt + 3).toNat = 0 := ent_no2 z3203 e3225 q3230 q3231 (by decide)
                  have z3237 : aI (f3224 pN) (8 * pF19.toInt + 4).toNat = 0 := ent_no2 z3204 e3225 q3230 q3231 (by decide)
                  have z3238 : aI (f3224 pN) (8 * pF19.toInt + 5).toNat = 0 := ent_no2 z3205 e3225 q3230 q3231 (by decide)
                  have z3239 : aI (f3224 pN) (8 * pF19.toInt + 6).toNat = 0 := ent_no2 z3206 e3225 q3230 q3231 (by decide)
                  clear q3230 q3231
                  clear z3200 z3201 z3202 z3203 z3204 z3205 z3206
                  refine lv_aload_n hx hb dX12_readClause_153 rfl (lv_at hl 3 rfl) ?_
                  refine fg_RX12_39 E hW rh0 dX12_readClause_154 (fun a3240 m3241 r3242 => ?_)
                  obtain rfl : pN = a3240 := (((fm_R g3227 rh0 rfl).trans ((fm_R g3194 rh0 rfl).trans m3184))).symm.trans m3241
                  refine lv_iload_n hx hb dX12_readClause_157 rfl (lv_at hl 1 rfl) ?_
                  refine lv_iconst (v := 2) hx hb dX12_readClause_158 (by decide) ?_
                  refine q_iadd (Y := 2) hx hb dX12_readClause_159 rfl rfl (by omega) (fun x3243 h3244 => ?_)
                  refine lv_aload_n hx hb dX12_readClause_160 rfl (lv_at hl 3 rfl) ?_
                  refine lv_lconst (v := 1) hx hb dX12_readClause_161 (by decide) ?_
                  refine lv_ldc2 (v := 52) hx hb hown (hts _ tw_1818) dX12_readClause_162 ?_
                  have hw3250 := hW.2.2.2
                  refine t_callV (As := [.long 1, .long 52]) (rest := [.int x3243, .ref pN]) E hW (c_X12_number l G cI cJ cZ cD cR cT kp L f3224 hW.2.2.2 _ h0 1 52 rh0 (by decide) (by decide) (by have hkq3245 : (1 : Int64).toInt = 1 := rfl; have hkq3246 : (52 : Int64).toInt = 52 := rfl; simp only [((fm_I g3227 rh0 rfl).trans ((fm_I g3194 rh0 rfl).trans ((fm_I g2417 rh0 rfl).trans ((fm_I g2395 rh0 rfl).trans m2371)))), ((fm_I g3227 rh0 rfl).trans m3210), ((fm_I g3227 rh0 rfl).trans m3213), ((fm_I g3227 rh0 rfl).trans m3216), ((fm_J g3227 rh0 rfl).trans m3222), and_true, true_and, true_or, or_true, false_or, or_false] <;> omega)) rh0 (by decide) rfl wk_X12_number tw_1811 rfl ⟨Nat.le_of_ble_eq_true rfl, Nat.le_of_ble_eq_true rfl⟩ ⟨rfl, rfl⟩ hl.1 rfl (Nat.le_of_ble_eq_true rfl) dX12_readClause_165 ⟨Nat.le_of_ble_eq_true rfl, Nat.le_of_ble_eq_true rfl⟩ (fun v3247 f3248 H locs q3249 hW => ?_)
                  obtain ⟨⟨x3253, rfl, p3254⟩, g3251, h3252⟩ := q3249
                  clear p3254
                  have m3255 : aI (f3248 pN) (x2088 : Int32).toNatClampNeg = x6 := ((congrArg (fun z => aI z (x2088 : Int32).toNatClampNeg) (fm_A g3251 rN (by decide) rfl)).trans (show aI (f3224 pN) (x2088 : Int32).toNatClampNeg = x6 from by rw [e3225, up_n (tn_ne (by omega) (by omega) (by omega))]; exact ((congrArg (fun z => aI z (x2088 : Int32).toNatClampNeg) (fm_A g3194 rN (by decide) rfl)).trans m2419)))
                  have m3256 : aI (f3248 pN) (x3186 : Int32).toNatClampNeg = x3196 := ((congrArg (fun z => aI z (x3186 : Int32).toNatClampNeg) (fm_A g3251 rN (by decide) rfl)).trans (show aI (f3224 pN) (x3186 : Int32).toNatClampNeg = x3196 from by rw [e3225]; exact up_s))
                  have z3258 : ∀ j : Nat, (j : Int) < 8 * pF19.toInt → aI (f3248 pN) j = aI (f0 pN) j := by rw [fm_A g3251 rN (by decide) rfl]; exact z3232
                  clear z3232
                  have z3259 : aI (f3248 pN) (8 * pF19.toInt + 0).toNat = x6 := by rw [fm_A g3251 rN (by decide) rfl]; exact z3233
                  have z3260 : aI (f3248 pN) (8 * pF19.toInt + 1).toNat = x3196 := by rw [fm_A g3251 rN (by decide) rfl]; exact z3234
                  have z3261 : aI (f3248 pN) (8 * pF19.toInt + 2).toNat = 0 := by rw [fm_A g3251 rN (by decide) rfl]; exact z3235
                  have z3262 : aI (f3248 pN) (8 * pF19.toInt + 3).toNat = 0 := by rw [fm_A g3251 rN (by decide) rfl]; exact z3236
                  have z3263 : aI (f3248 pN) (8 * pF19.toInt + 4).toNat = 0 := by rw [fm_A g3251 rN (by decide) rfl]; exact z3237
                  have z3264 : aI (f3248 pN) (8 * pF19.toInt + 5).toNat = 0 := by rw [fm_A g3251 rN (by decide) rfl]; exact z3238
                  have z3265 : aI (f3248 pN) (8 * pF19.toInt + 6).toNat = 0 := by rw [fm_A g3251 rN (by decide) rfl]; exact z3239
                  clear z3233 z3234 z3235 z3236 z3237 z3238 z3239
                  have hF := FM.tr hF g3251 rfl
                  have h3252 := h3252 _ rfl
                  have hk3266 : (1 : Int64).toInt = 1 := rfl
                  have hk3267 : (52 : Int64).toInt = 52 := rfl
                  obtain ⟨y3268, m3269⟩ : ∃ x : Int32, oI (f3248 h0) 13 = x := ⟨_, rfl⟩
                  have b3270 : (0 : Int) ≤ y3268.toInt ∧ y3268.toInt ≤ 400 := by rw [← m3269]; exact th_iv hW rh0 (by decide) (by decide) rfl
                  obtain ⟨y3271, m3272⟩ : ∃ x : Int32, oI (f3248 h0) 14 = x := ⟨_, rfl⟩
                  have b3273 : (0 : Int) ≤ y3271.toInt ∧ y3271.toInt ≤ 400 := by rw [← m3272]; exact th_iv hW rh0 (by decide) (by decide) rfl
                  obtain ⟨y3274, m3275⟩ : ∃ x : Int32, oI (f3248 h0) 15 = x := ⟨_, rfl⟩
                  have b3276 : (0 : Int) ≤ y3274.toInt ∧ y3274.toInt ≤ 3 := by rw [← m3275]; exact th_iv hW rh0 (by decide) (by decide) rfl
                  obtain ⟨y3277, m3278⟩ : ∃ x : Int32, oI (f3248 h0) 18 = x := ⟨_, rfl⟩
                  have b3279 : (0 : Int) ≤ y3277.toInt ∧ y3277.toInt ≤ 1 := by rw [← m3278]; exact th_iv hW rh0 (by decide) (by decide) rfl
                  obtain ⟨y3280, m3281⟩ : ∃ x : Int64, oJ (f3248 h0) 16 = x := ⟨_, rfl⟩
                  simp only [((fm_I g3251 rh0 rfl).trans ((fm_I g3227 rh0 rfl).trans ((fm_I g3194 rh0 rfl).trans ((fm_I g2417 rh0 rfl).trans ((fm_I g2395 rh0 rfl).trans m2371))))), ((fm_I g3227 rh0 rfl).trans ((fm_I g3194 rh0 rfl).trans ((fm_I g2417 rh0 rfl).trans ((fm_I g2395 rh0 rfl).trans m2371)))), m3269, ((fm_I g3227 rh0 rfl).trans m3210), m3272, ((fm_I g3227 rh0 rfl).trans m3213), m3275, ((fm_I g3227 rh0 rfl).trans m3216), m3278, ((fm_I g3227 rh0 rfl).trans m3219), m3281, ((fm_J g3227 rh0 rfl).trans m3222)] at h3252
                  have z3282 : DJ f0 f3248 h0 pF21.toInt 0 0 0 0 := dj_keep z3229 hw3250 g3251 rh0 rfl (fun q => by rw [((fm_I g3227 rh0 rfl).trans m3219)] at q; rw [m3278]; omega)
                  have hw3287 := hW.2.2.2
                  refine gs_840 E hW rN ⟨by omega, by omega⟩ dX12_readClause_168 (fun f3283 H locs e3284 n3285 g3286 hW => ?_)
                  have z3288 : DJ f0 f3283 h0 pF21.toInt 0 0 0 0 := dj_keep z3282 hw3287 g3286 rh0 rfl (fun q => by rw [fm_I g3286 rh0 rfl]; exact q)
                  have hF := FM.tr hF g3286 rfl
                  have q3289 : x3243.toInt = 8 * pF19.toInt + 2 := by omega
                  have q3290 : 0 ≤ 8 * pF19.toInt := by omega
                  have z3291 : ∀ j : Nat, (j : Int) < 8 * pF19.toInt → aI (f3283 pN) j = aI (f0 pN) j := pre_st2 z3258 e3284 q3289 q3290 (by decide)
                  clear z3258
                  have z3292 : aI (f3283 pN) (8 * pF19.toInt + 0).toNat = x6 := ent_no2 z3259 e3284 q3289 q3290 (by decide)
                  have z3293 : aI (f3283 pN) (8 * pF19.toInt + 1).toNat = x3196 := ent_no2 z3260 e3284 q3289 q3290 (by decide)
                  have z3294 : aI (f3283 pN) (8 * pF19.toInt + 2).toNat = x3253 := ent_st2 e3284 q3289 q3290 (by decide)
                  have z3295 : aI (f3283 pN) (8 * pF19.toInt + 3).toNat = 0 := ent_no2 z3262 e3284 q3289 q3290 (by decide)
                  have z3296 : aI (f3283 pN) (8 * pF19.toInt + 4).toNat = 0 := ent_no2 z3263 e3284 q3289 q3290 (by decide)
                  have z3297 : aI (f3283 pN) (8 * pF19.toInt + 5).toNat = 0 := ent_no2 z3264 e3284 q3289 q3290 (by decide)
                  have z3298 : aI (f3283 pN) (8 * pF19.toInt + 6).toNat = 0 := ent_no2 z3265 e3284 q3289 q3290 (by decide)
                  clear q3289 q3290
                  clear z3259 z3260 z3261 z3262 z3263 z3264 z3265
                  exact e_V E hW rfl ⟨rfl, hF, (by simp only [((fm_I g3286 rh0 rfl).trans ((fm_I g3251 rh0 rfl).trans ((fm_I g3227 rh0 rfl).trans ((fm_I g3194 rh0 rfl).trans ((fm_I g2417 rh0 rfl).trans ((fm_I g2395 rh0 rfl).trans m2371)))))), mF12, ((fm_I g3286 rh0 rfl).trans m3269), mF13, ((fm_I g3286 rh0 rfl).trans m3272), mF14, ((fm_I g3286 rh0 rfl).trans m3275), mF15, ((fm_I g3286 rh0 rfl).trans m3278), mF18, ((fm_I g3286 rh0 rfl).trans ((fm_I g3251 rh0 rfl).trans ((fm_I g3227 rh0 rfl).trans ((fm_I g3194 rh0 rfl).trans ((fm_I g2417 rh0 rfl).trans ((fm_I g2395 rh0 rfl).trans m2379)))))), mF21, ((fm_J g3286 rh0 rfl).trans m3281), mW, and_true, true_and, true_or, or_true, false_or, or_false] <;> omega), (by have hk0 : (0 : Int32).toInt = 0 := rfl; rw [((fm_I g3286 rh0 rfl).trans ((fm_I g3251 rh0 rfl).trans ((fm_I g3227 rh0 rfl).trans ((fm_I g3194 rh0 rfl).trans ((fm_I g2417 rh0 rfl).trans ((fm_I g2395 rh0 rfl).trans m2379)))))), ((fm_I g3286 rh0 rfl).trans ((fm_I g3251 rh0 rfl).trans ((fm_I g3227 rh0 rfl).trans ((fm_I g3194 rh0 rfl).trans e2415))))]; exact cl_end (nc := pF21.toInt) (hd := x6) (r1 := x3196) (r2 := x3253) (show CLs _ _ _ pF21.toInt pF19.toInt from hC) (by omega) (show DJ f0 f3283 h0 pF21.toInt (0 : Int32).toInt (0 : Int32).toInt (0 : Int32).toInt (0 : Int32).toInt from z3288) (fun j hj => by unfold vN; rw [((fm_R g3286 rh0 rfl).trans ((fm_R g3251 rh0 rfl).trans m3241)), mN]; exact z3291 j hj) (by unfold vN; rw [((fm_R g3286 rh0 rfl).trans ((fm_R g3251 rh0 rfl).trans m3241))]; exact z3292) (by unfold vN; rw [((fm_R g3286 rh0 rfl).trans ((fm_R g3251 rh0 rfl).trans m3241))]; exact z3293) (by unfold vN; rw [((fm_R g3286 rh0 rfl).trans ((fm_R g3251 rh0 rfl).trans m3241))]; exact z3294) (by unfold vN; rw [((fm_R g3286 rh0 rfl).trans ((fm_R g3251 rh0 rfl).trans m3241))]; exact z3295) (by unfold vN; rw [((fm_R g3286 rh0 rfl).trans ((fm_R g3251 rh0 rfl).trans m3241))]; exact z3296) (by unfold vN; rw [((fm_R g3286 rh0 rfl).trans ((fm_R g3251 rh0 rfl).trans m3241))]; exact z3297) (by unfold vN; rw [((fm_R g3286 rh0 rfl).trans ((fm_R g3251 rh0 rfl).trans m3241))]; exact z3298) (by rw [((fm_I g3286 rh0 rfl).trans m3278)]; omega) (by omega) (by omega))⟩ dX12_readClause_169
              · refine lv_aload_n hx hb dX12_readClause_88 rfl (lv_at hl 3 rfl) ?_
                refine fg_RX12_39 E hW rh0 dX12_readClause_89 (fun a3299 m3300 r3301 => ?_)
                obtain rfl : pN = a3299 := (((fm_R g2417 rh0 rfl).trans ((fm_R g2395 rh0 rfl).trans m2390))).symm.trans m3300
                refine lv_iload_n hx hb dX12_readClause_92 rfl (lv_at hl 1 rfl) ?_
                refine lv_iconst (v := 1) hx hb dX12_readClause_93 (by decide) ?_
                refine q_iadd (Y := 1) hx hb dX12_readClause_94 rfl rfl (by omega) (fun x3302 h3303 => ?_)
                refine lv_aload_n hx hb dX12_readClause_95 rfl (lv_at hl 3 rfl) ?_
                refine lv_lconst (v := 0) hx hb dX12_readClause_96 (by decide) ?_
                refine lv_ldc2 (v := 19) hx hb hown (hts _ tw_1569) dX12_readClause_97 ?_
                have hw3309 := hW.2.2.2
                refine t_callV (As := [.long 0, .long 19]) (rest := [.int x3302, .ref pN]) E hW (c_X12_number l G cI cJ cZ cD cR cT kp L f2414 hW.2.2.2 _ h0 0 19 rh0 (by decide) (by decide) (by have hkq3304 : (0 : Int64).toInt = 0 := rfl; have hkq3305 : (19 : Int64).toInt = 19 := rfl; simp only [((fm_I g2417 rh0 rfl).trans ((fm_I g2395 rh0 rfl).trans m2371)), ((fm_I g2417 rh0 rfl).trans ((fm_I g2395 rh0 rfl).trans m2372)), ((fm_I g2417 rh0 rfl).trans ((fm_I g2395 rh0 rfl).trans m2373)), ((fm_I g2417 rh0 rfl).trans ((fm_I g2395 rh0 rfl).trans m2374)), ((fm_J g2417 rh0 rfl).trans ((fm_J g2395 rh0 rfl).trans m2375)), and_true, true_and, true_or, or_true, false_or, or_false] <;> omega)) rh0 (by decide) rfl wk_X12_number tw_1811 rfl ⟨Nat.le_of_ble_eq_true rfl, Nat.le_of_ble_eq_true rfl⟩ ⟨rfl, rfl⟩ hl.1 rfl (Nat.le_of_ble_eq_true rfl) dX12_readClause_100 ⟨Nat.le_of_ble_eq_true rfl, Nat.le_of_ble_eq_true rfl⟩ (fun v3306 f3307 H locs q3308 hW => ?_)
                obtain ⟨⟨x3312, rfl, p3313⟩, g3310, h3311⟩ := q3308
                clear p3313
                have z3315 : ∀ j : Nat, (j : Int) < 8 * pF19.toInt → aI (f3307 pN) j = aI (f0 pN) j := by rw [fm_A g3310 rN (by decide) rfl]; exact z2421
                clear z2421
                have z3316 : aI (f3307 pN) (8 * pF19.toInt + 0).toNat = x6 := by rw [fm_A g3310 rN (by decide) rfl]; exact z2422
                have z3317 : aI (f3307 pN) (8 * pF19.toInt + 1).toNat = 0 := by rw [fm_A g3310 rN (by decide) rfl]; exact z2423
                have z3318 : aI (f3307 pN) (8 * pF19.toInt + 2).toNat = 0 := by rw [fm_A g3310 rN (by decide) rfl]; exact z2424
                have z3319 : aI (f3307 pN) (8 * pF19.toInt + 3).toNat = 0 := by rw [fm_A g3310 rN (by decide) rfl]; exact z2425
                have z3320 : aI (f3307 pN) (8 * pF19.toInt + 4).toNat = 0 := by rw [fm_A g3310 rN (by decide) rfl]; exact z2426
                have z3321 : aI (f3307 pN) (8 * pF19.toInt + 5).toNat = 0 := by rw [fm_A g3310 rN (by decide) rfl]; exact z2427
                have z3322 : aI (f3307 pN) (8 * pF19.toInt + 6).toNat = 0 := by rw [fm_A g3310 rN (by decide) rfl]; exact z2428
                clear z2422 z2423 z2424 z2425 z2426 z2427 z2428
                have hF := FM.tr hF g3310 rfl
                have h3311 := h3311 _ rfl
                have hk3323 : (0 : Int64).toInt = 0 := rfl
                have hk3324 : (19 : Int64).toInt = 19 := rfl
                obtain ⟨y3325, m3326⟩ : ∃ x : Int32, oI (f3307 h0) 13 = x := ⟨_, rfl⟩
                have b3327 : (0 : Int) ≤ y3325.toInt ∧ y3325.toInt ≤ 400 := by rw [← m3326]; exact th_iv hW rh0 (by decide) (by decide) rfl
                obtain ⟨y3328, m3329⟩ : ∃ x : Int32, oI (f3307 h0) 14 = x := ⟨_, rfl⟩
                have b3330 : (0 : Int) ≤ y3328.toInt ∧ y3328.toInt ≤ 400 := by rw [← m3329]; exact th_iv hW rh0 (by decide) (by decide) rfl
                obtain ⟨y3331, m3332⟩ : ∃ x : Int32, oI (f3307 h0) 15 = x := ⟨_, rfl⟩
                have b3333 : (0 : Int) ≤ y3331.toInt ∧ y3331.toInt ≤ 3 := by rw [← m3332]; exact th_iv hW rh0 (by decide) (by decide) rfl
                obtain ⟨y3334, m3335⟩ : ∃ x : Int32, oI (f3307 h0) 18 = x := ⟨_, rfl⟩
                have b3336 : (0 : Int) ≤ y3334.toInt ∧ y3334.toInt ≤ 1 := by rw [← m3335]; exact th_iv hW rh0 (by decide) (by decide) rfl
                obtain ⟨y3337, m3338⟩ : ∃ x : Int64, oJ (f3307 h0) 16 = x := ⟨_, rfl⟩
                simp only [((fm_I g3310 rh0 rfl).trans ((fm_I g2417 rh0 rfl).trans ((fm_I g2395 rh0 rfl).trans m2371))), ((fm_I g2417 rh0 rfl).trans ((fm_I g2395 rh0 rfl).trans m2371)), m3326, ((fm_I g2417 rh0 rfl).trans ((fm_I g2395 rh0 rfl).trans m2372)), m3329, ((fm_I g2417 rh0 rfl).trans ((fm_I g2395 rh0 rfl).trans m2373)), m3332, ((fm_I g2417 rh0 rfl).trans ((fm_I g2395 rh0 rfl).trans m2374)), m3335, ((fm_I g2417 rh0 rfl).trans ((fm_I g2395 rh0 rfl).trans m2376)), m3338, ((fm_J g2417 rh0 rfl).trans ((fm_J g2395 rh0 rfl).trans m2375))] at h3311
                have z3339 : DJ f0 f3307 h0 pF21.toInt 0 0 0 0 := dj_keep z2420 hw3309 g3310 rh0 rfl (fun q => by rw [((fm_I g2417 rh0 rfl).trans ((fm_I g2395 rh0 rfl).trans m2376))] at q; rw [m3335]; omega)
                have hw3344 := hW.2.2.2
                refine gs_840 E hW rN ⟨by omega, by omega⟩ dX12_readClause_103 (fun f3340 H locs e3341 n3342 g3343 hW => ?_)
                have z3345 : DJ f0 f3340 h0 pF21.toInt 0 0 0 0 := dj_keep z3339 hw3344 g3343 rh0 rfl (fun q => by rw [fm_I g3343 rh0 rfl]; exact q)
                have hF := FM.tr hF g3343 rfl
                have q3346 : x3302.toInt = 8 * pF19.toInt + 1 := by omega
                have q3347 : 0 ≤ 8 * pF19.toInt := by omega
                have z3348 : ∀ j : Nat, (j : Int) < 8 * pF19.toInt → aI (f3340 pN) j = aI (f0 pN) j := pre_st2 z3315 e3341 q3346 q3347 (by decide)
                clear z3315
                have z3349 : aI (f3340 pN) (8 * pF19.toInt + 0).toNat = x6 := ent_no2 z3316 e3341 q3346 q3347 (by decide)
                have z3350 : aI (f3340 pN) (8 * pF19.toInt + 1).toNat = x3312 := ent_st2 e3341 q3346 q3347 (by decide)
                have z3351 : aI (f3340 pN) (8 * pF19.toInt + 2).toNat = 0 := ent_no2 z3318 e3341 q3346 q3347 (by decide)
                have z3352 : aI (f3340 pN) (8 * pF19.toInt + 3).toNat = 0 := ent_no2 z3319 e3341 q3346 q3347 (by decide)
                have z3353 : aI (f3340 pN) (8 * pF19.toInt + 4).toNat = 0 := ent_no2 z3320 e3341 q3346 q3347 (by decide)
                have z3354 : aI (f3340 pN) (8 * pF19.toInt + 5).toNat = 0 := ent_no2 z3321 e3341 q3346 q3347 (by decide)
                have z3355 : aI (f3340 pN) (8 * pF19.toInt + 6).toNat = 0 := ent_no2 z3322 e3341 q3346 q3347 (by decide)
                clear q3346 q3347
                clear z3316 z3317 z3318 z3319 z3320 z3321 z3322
                refine lv_aload_n hx hb dX12_readClause_104 rfl (lv_at hl 3 rfl) ?_
                refine lv_aload_n hx hb dX12_readClause_105 rfl (lv_at hl 3 rfl) ?_
                refine lv_ldc2 (v := 113301093) hx hb hown (hts _ tw_1815) dX12_readClause_106 ?_
                have hw3359 := hW.2.2.2
                refine t_callV (As := [.long 113301093]) (rest := [.ref h0]) E hW (c_X12_isWord l G cI cJ cZ cD cR cT kp L f3340 hW.2.2.2 _ h0 113301093 rh0 (by decide)) rh0 (by decide) rfl wk_X12_isWord tw_1797 rfl ⟨Nat.le_of_ble_eq_true rfl, Nat.le_of_ble_eq_true rfl⟩ ⟨rfl, rfl⟩ hl.1 rfl (Nat.le_of_ble_eq_true rfl) dX12_readClause_109 ⟨Nat.le_of_ble_eq_true rfl, Nat.le_of_ble_eq_true rfl⟩ (fun v3356 f3357 H locs q3358 hW => ?_)
                obtain ⟨⟨x3361, rfl, p3362⟩, g3360⟩ := q3358
                simp only [((fm_I g3343 rh0 rfl).trans m3332), ((fm_J g3343 rh0 rfl).trans m3338)] at p3362
                have p3362 : (x3361.toInt = 1 ∧ y3331.toInt = 1 ∧ y3337.toInt = 113301093) ∨ x3361.toInt = 0 := p3362
                have m3363 : aI (f3357 pN) (x2088 : Int32).toNatClampNeg = x6 := ((congrArg (fun z => aI z (x2088 : Int32).toNatClampNeg) (fm_A g3360 rN (by decide) rfl)).trans (show aI (f3340 pN) (x2088 : Int32).toNatClampNeg = x6 from by rw [e3341, up_n (tn_ne (by omega) (by omega) (by omega))]; exact ((congrArg (fun z => aI z (x2088 : Int32).toNatClampNeg) (fm_A g3310 rN (by decide) rfl)).trans m2419)))
                have m3364 : aI (f3357 pN) (x3302 : Int32).toNatClampNeg = x3312 := ((congrArg (fun z => aI z (x3302 : Int32).toNatClampNeg) (fm_A g3360 rN (by decide) rfl)).trans (show aI (f3340 pN) (x3302 : Int32).toNatClampNeg = x3312 from by rw [e3341]; exact up_s))
                have z3365 : DJ f0 f3357 h0 pF21.toInt 0 0 0 0 := dj_keep z3345 hw3359 g3360 rh0 rfl (fun q => by rw [fm_I g3360 rh0 rfl]; exact q)
                have z3366 : ∀ j : Nat, (j : Int) < 8 * pF19.toInt → aI (f3357 pN) j = aI (f0 pN) j := by rw [fm_A g3360 rN (by decide) rfl]; exact z3348
                clear z3348
                have z3367 : aI (f3357 pN) (8 * pF19.toInt + 0).toNat = x6 := by rw [fm_A g3360 rN (by decide) rfl]; exact z3349
                have z3368 : aI (f3357 pN) (8 * pF19.toInt + 1).toNat = x3312 := by rw [fm_A g3360 rN (by decide) rfl]; exact z3350
                have z3369 : aI (f3357 pN) (8 * pF19.toInt + 2).toNat = 0 := by rw [fm_A g3360 rN (by decide) rfl]; exact z3351
                have z3370 : aI (f3357 pN) (8 * pF19.toInt + 3).toNat = 0 := by rw [fm_A g3360 rN (by decide) rfl]; exact z3352
                have z3371 : aI (f3357 pN) (8 * pF19.toInt + 4).toNat = 0 := by rw [fm_A g3360 rN (by decide) rfl]; exact z3353
                have z3372 : aI (f3357 pN) (8 * pF19.toInt + 5).toNat = 0 := by rw [fm_A g3360 rN (by decide) rfl]; exact z3354
                have z3373 : aI (f3357 pN) (8 * pF19.toInt + 6).toNat = 0 := by rw [fm_A g3360 rN (by decide) rfl]; exact z3355
                clear z3349 z3350 z3351 z3352 z3353 z3354 z3355
                have hF := FM.tr hF g3360 rfl
                have hw3377 := hW.2.2.2
                refine t_callV (As := [.int x3361]) (rest := []) E hW (c_X12_must l G cI cJ cZ cD cR cT kp L f3357 hW.2.2.2 _ h0 x3361 rh0 (by omega) (by simp only [((fm_I g3360 rh0 rfl).trans ((fm_I g3343 rh0 rfl).trans ((fm_I g3310 rh0 rfl).trans ((fm_I g2417 rh0 rfl).trans ((fm_I g2395 rh0 rfl).trans m2371))))), ((fm_I g3360 rh0 rfl).trans ((fm_I g3343 rh0 rfl).trans m3326)), ((fm_I g3360 rh0 rfl).trans ((fm_I g3343 rh0 rfl).trans m3329)), ((fm_I g3360 rh0 rfl).trans ((fm_I g3343 rh0 rfl).trans m3332)), ((fm_J g3360 rh0 rfl).trans ((fm_J g3343 rh0 rfl).trans m3338)), and_true, true_and, true_or, or_true, false_or, or_false] <;> omega)) rh0 (by decide) rfl wk_X12_must tw_1807 rfl ⟨Nat.le_of_ble_eq_true rfl, Nat.le_of_ble_eq_true rfl⟩ ⟨rfl, rfl⟩ hl.1 rfl (Nat.le_of_ble_eq_true rfl) dX12_readClause_112 ⟨Nat.le_of_ble_eq_true rfl, Nat.le_of_ble_eq_true rfl⟩ (fun v3374 f3375 H locs q3376 hW => ?_)
                obtain ⟨rfl, g3378, h3379⟩ := q3376
                have z3381 : ∀ j : Nat, (j : Int) < 8 * pF19.toInt → aI (f3375 pN) j = aI (f0 pN) j := by rw [fm_A g3378 rN (by decide) rfl]; exact z3366
                clear z3366
                have z3382 : aI (f3375 pN) (8 * pF19.toInt + 0).toNat = x6 := by rw [fm_A g3378 rN (by decide) rfl]; exact z3367
                have z3383 : aI (f3375 pN) (8 * pF19.toInt + 1).toNat = x3312 := by rw [fm_A g3378 rN (by decide) rfl]; exact z3368
                have z3384 : aI (f3375 pN) (8 * pF19.toInt + 2).toNat = 0 := by rw [fm_A g3378 rN (by decide) rfl]; exact z3369
                have z3385 : aI (f3375 pN) (8 * pF19.toInt + 3).toNat = 0 := by rw [fm_A g3378 rN (by decide) rfl]; exact z3370
                have z3386 : aI (f3375 pN) (8 * pF19.toInt + 4).toNat = 0 := by rw [fm_A g3378 rN (by decide) rfl]; exact z3371
                have z3387 : aI (f3375 pN) (8 * pF19.toInt + 5).toNat = 0 := by rw [fm_A g3378 rN (by decide) rfl]; exact z3372
                have z3388 : aI (f3375 pN) (8 * pF19.toInt + 6).toNat = 0 := by rw [fm_A g3378 rN (by decide) rfl]; exact z3373
                clear z3367 z3368 z3369 z3370 z3371 z3372 z3373
                have hF := FM.tr hF g3378 rfl
                obtain ⟨y3389, m3390⟩ : ∃ x : Int32, oI (f3375 h0) 13 = x := ⟨_, rfl⟩
                have b3391 : (0 : Int) ≤ y3389.toInt ∧ y3389.toInt ≤ 400 := by rw [← m3390]; exact th_iv hW rh0 (by decide) (by decide) rfl
                obtain ⟨y3392, m3393⟩ : ∃ x : Int32, oI (f3375 h0) 14 = x := ⟨_, rfl⟩
                have b3394 : (0 : Int) ≤ y3392.toInt ∧ y3392.toInt ≤ 400 := by rw [← m3393]; exact th_iv hW rh0 (by decide) (by decide) rfl
                obtain ⟨y3395, m3396⟩ : ∃ x : Int32, oI (f3375 h0) 15 = x := ⟨_, rfl⟩
                have b3397 : (0 : Int) ≤ y3395.toInt ∧ y3395.toInt ≤ 3 := by rw [← m3396]; exact th_iv hW rh0 (by decide) (by decide) rfl
                obtain ⟨y3398, m3399⟩ : ∃ x : Int32, oI (f3375 h0) 18 = x := ⟨_, rfl⟩
                have b3400 : (0 : Int) ≤ y3398.toInt ∧ y3398.toInt ≤ 1 := by rw [← m3399]; exact th_iv hW rh0 (by decide) (by decide) rfl
                obtain ⟨y3401, m3402⟩ : ∃ x : Int64, oJ (f3375 h0) 16 = x := ⟨_, rfl⟩
                simp only [((fm_I g3378 rh0 rfl).trans ((fm_I g3360 rh0 rfl).trans ((fm_I g3343 rh0 rfl).trans ((fm_I g3310 rh0 rfl).trans ((fm_I g2417 rh0 rfl).trans ((fm_I g2395 rh0 rfl).trans m2371)))))), ((fm_I g3360 rh0 rfl).trans ((fm_I g3343 rh0 rfl).trans ((fm_I g3310 rh0 rfl).trans ((fm_I g2417 rh0 rfl).trans ((fm_I g2395 rh0 rfl).trans m2371))))), m3390, ((fm_I g3360 rh0 rfl).trans ((fm_I g3343 rh0 rfl).trans m3326)), m3393, ((fm_I g3360 rh0 rfl).trans ((fm_I g3343 rh0 rfl).trans m3329)), m3396, ((fm_I g3360 rh0 rfl).trans ((fm_I g3343 rh0 rfl).trans m3332)), m3399, ((fm_I g3360 rh0 rfl).trans ((fm_I g3343 rh0 rfl).trans m3335)), m3402, ((fm_J g3360 rh0 rfl).trans ((fm_J g3343 rh0 rfl).trans m3338))] at h3379
                have z3403 : DJ f0 f3375 h0 pF21.toInt 0 0 0 0 := dj_keep z3365 hw3377 g3378 rh0 rfl (fun q => by rw [((fm_I g3360 rh0 rfl).trans ((fm_I g3343 rh0 rfl).trans m3335))] at q; rw [m3399]; omega)
                refine lv_aload_n hx hb dX12_readClause_115 rfl (lv_at hl 3 rfl) ?_
                refine fg_RX12_39 E hW rh0 dX12_readClause_116 (fun a3404 m3405 r3406 => ?_)
                obtain rfl : pN = a3404 := (((fm_R g3378 rh0 rfl).trans ((fm_R g3360 rh0 rfl).trans ((fm_R g3343 rh0 rfl).trans ((fm_R g3310 rh0 rfl).trans m3300))))).symm.trans m3405
                refine lv_iload_n hx hb dX12_readClause_119 rfl (lv_at hl 1 rfl) ?_
                refine lv_iconst (v := 2) hx hb dX12_readClause_120 (by decide) ?_
                refine q_iadd (Y := 2) hx hb dX12_readClause_121 rfl rfl (by omega) (fun x3407 h3408 => ?_)
                refine lv_aload_n hx hb dX12_readClause_122 rfl (lv_at hl 3 rfl) ?_
                refine lv_lconst (v := 0) hx hb dX12_readClause_123 (by decide) ?_
                refine lv_ldc2 (v := 11) hx hb hown (hts _ tw_1816) dX12_readClause_124 ?_
                have hw3414 := hW.2.2.2
                refine t_callV (As := [.long 0, .long 11]) (rest := [.int x3407, .ref pN]) E hW (c_X12_number l G cI cJ cZ cD cR cT kp L f3375 hW.2.2.2 _ h0 0 11 rh0 (by decide) (by decide) (by have hkq3409 : (0 : Int64).toInt = 0 := rfl; have hkq3410 : (11 : Int64).toInt = 11 := rfl; simp only [((fm_I g3378 rh0 rfl).trans ((fm_I g3360 rh0 rfl).trans ((fm_I g3343 rh0 rfl).trans ((fm_I g3310 rh0 rfl).trans ((fm_I g2417 rh0 rfl).trans ((fm_I g2395 rh0 rfl).trans m2371)))))), m3390, m3393, m3396, m3402, and_true, true_and, true_or, or_true, false_or, or_false] <;> omega)) rh0 (by decide) rfl wk_X12_number tw_1811 rfl ⟨Nat.le_of_ble_eq_true rfl, Nat.le_of_ble_eq_true rfl⟩ ⟨rfl, rfl⟩ hl.1 rfl (Nat.le_of_ble_eq_true rfl) dX12_readClause_127 ⟨Nat.le_of_ble_eq_true rfl, Nat.le_of_ble_eq_true rfl⟩ (fun v3411 f3412 H locs q3413 hW => ?_)
                obtain ⟨⟨x3417, rfl, p3418⟩, g3415, h3416⟩ := q3413
                clear p3418
                have m3419 : oR (f3412 h0) 2 = pR := ((fm_R g3415 rh0 rfl).trans ((fm_R g3378 rh0 rfl).trans ((fm_R g3360 rh0 rfl).trans ((fm_R g3343 rh0 rfl).trans ((fm_R g3310 rh0 rfl).trans ((fm_R g2417 rh0 rfl).trans ((fm_R g2395 rh0 rfl).trans m2370)))))))
                have m3420 : oI (f3412 h0) 12 = pF12 := ((fm_I g3415 rh0 rfl).trans ((fm_I g3378 rh0 rfl).trans ((fm_I g3360 rh0 rfl).trans ((fm_I g3343 rh0 rfl).trans ((fm_I g3310 rh0 rfl).trans ((fm_I g2417 rh0 rfl).trans ((fm_I g2395 rh0 rfl).trans m2371)))))))
                have m3421 : oI (f3412 h0) 21 = pF21 := ((fm_I g3415 rh0 rfl).trans ((fm_I g3378 rh0 rfl).trans ((fm_I g3360 rh0 rfl).trans ((fm_I g3343 rh0 rfl).trans ((fm_I g3310 rh0 rfl).trans ((fm_I g2417 rh0 rfl).trans ((fm_I g2395 rh0 rfl).trans m2379)))))))
                have m3422 : oI (f3412 h0) 24 = pF24 := ((fm_I g3415 rh0 rfl).trans ((fm_I g3378 rh0 rfl).trans ((fm_I g3360 rh0 rfl).trans ((fm_I g3343 rh0 rfl).trans ((fm_I g3310 rh0 rfl).trans ((fm_I g2417 rh0 rfl).trans ((fm_I g2395 rh0 rfl).trans m2380)))))))
                have m3423 : oI (f3412 h0) 27 = pF27 := ((fm_I g3415 rh0 rfl).trans ((fm_I g3378 rh0 rfl).trans ((fm_I g3360 rh0 rfl).trans ((fm_I g3343 rh0 rfl).trans ((fm_I g3310 rh0 rfl).trans ((fm_I g2417 rh0 rfl).trans ((fm_I g2395 rh0 rfl).trans m2381)))))))
                have m3424 : aI (f3412 pN) (x2088 : Int32).toNatClampNeg = x6 := ((congrArg (fun z => aI z (x2088 : Int32).toNatClampNeg) (fm_A g3415 rN (by decide) rfl)).trans ((congrArg (fun z => aI z (x2088 : Int32).toNatClampNeg) (fm_A g3378 rN (by decide) rfl)).trans m3363))
                have m3425 : aI (f3412 pN) (x3302 : Int32).toNatClampNeg = x3312 := ((congrArg (fun z => aI z (x3302 : Int32).toNatClampNeg) (fm_A g3415 rN (by decide) rfl)).trans ((congrArg (fun z => aI z (x3302 : Int32).toNatClampNeg) (fm_A g3378 rN (by decide) rfl)).trans m3364))
                have z3427 : ∀ j : Nat, (j : Int) < 8 * pF19.toInt → aI (f3412 pN) j = aI (f0 pN) j := by rw [fm_A g3415 rN (by decide) rfl]; exact z3381
                clear z3381
                have z3428 : aI (f3412 pN) (8 * pF19.toInt + 0).toNat = x6 := by rw [fm_A g3415 rN (by decide) rfl]; exact z3382
                have z3429 : aI (f3412 pN) (8 * pF19.toInt + 1).toNat = x3312 := by rw [fm_A g3415 rN (by decide) rfl]; exact z3383
                have z3430 : aI (f3412 pN) (8 * pF19.toInt + 2).toNat = 0 := by rw [fm_A g3415 rN (by decide) rfl]; exact z3384
                have z3431 : aI (f3412 pN) (8 * pF19.toInt + 3).toNat = 0 := by rw [fm_A g3415 rN (by decide) rfl]; exact z3385
                have z3432 : aI (f3412 pN) (8 * pF19.toInt + 4).toNat = 0 := by rw [fm_A g3415 rN (by decide) rfl]; exact z3386
                have z3433 : aI (f3412 pN) (8 * pF19.toInt + 5).toNat = 0 := by rw [fm_A g3415 rN (by decide) rfl]; exact z3387
                have z3434 : aI (f3412 pN) (8 * pF19.toInt + 6).toNat = 0 := by rw [fm_A g3415 rN (by decide) rfl]; exact z3388
                clear z3382 z3383 z3384 z3385 z3386 z3387 z3388
                have hF := FM.tr hF g3415 rfl
                have h3416 := h3416 _ rfl
                have hk3435 : (0 : Int64).toInt = 0 := rfl
                have hk3436 : (11 : Int64).toInt = 11 := rfl
                obtain ⟨y3437, m3438⟩ : ∃ x : Int32, oI (f3412 h0) 13 = x := ⟨_, rfl⟩
                have b3439 : (0 : Int) ≤ y3437.toInt ∧ y3437.toInt ≤ 400 := by rw [← m3438]; exact th_iv hW rh0 (by decide) (by decide) rfl
                obtain ⟨y3440, m3441⟩ : ∃ x : Int32, oI (f3412 h0) 14 = x := ⟨_, rfl⟩
                have b3442 : (0 : Int) ≤ y3440.toInt ∧ y3440.toInt ≤ 400 := by rw [← m3441]; exact th_iv hW rh0 (by decide) (by decide) rfl
                obtain ⟨y3443, m3444⟩ : ∃ x : Int32, oI (f3412 h0) 15 = x := ⟨_, rfl⟩
                have b3445 : (0 : Int) ≤ y3443.toInt ∧ y3443.toInt ≤ 3 := by rw [← m3444]; exact th_iv hW rh0 (by decide) (by decide) rfl
                obtain ⟨y3446, m3447⟩ : ∃ x : Int32, oI (f3412 h0) 18 = x := ⟨_, rfl⟩
                have b3448 : (0 : Int) ≤ y3446.toInt ∧ y3446.toInt ≤ 1 := by rw [← m3447]; exact th_iv hW rh0 (by decide) (by decide) rfl
                obtain ⟨y3449, m3450⟩ : ∃ x : Int64, oJ (f3412 h0) 16 = x := ⟨_, rfl⟩
                simp only [m3420, ((fm_I g3378 rh0 rfl).trans ((fm_I g3360 rh0 rfl).trans ((fm_I g3343 rh0 rfl).trans ((fm_I g3310 rh0 rfl).trans ((fm_I g2417 rh0 rfl).trans ((fm_I g2395 rh0 rfl).trans m2371)))))), m3438, m3390, m3441, m3393, m3444, m3396, m3447, m3399, m3450, m3402] at h3416
                have z3451 : DJ f0 f3412 h0 pF21.toInt 0 0 0 0 := dj_keep z3403 hw3414 g3415 rh0 rfl (fun q => by rw [m3399] at q; rw [m3447]; omega)
                have hw3456 := hW.2.2.2
                refine gs_840 E hW rN ⟨by omega, by omega⟩ dX12_readClause_130 (fun f3452 H locs e3453 n3454 g3455 hW => ?_)
                have z3457 : DJ f0 f3452 h0 pF21.toInt 0 0 0 0 := dj_keep z3451 hw3456 g3455 rh0 rfl (fun q => by rw [fm_I g3455 rh0 rfl]; exact q)
                have hF := FM.tr hF g3455 rfl
                have q3458 : x3407.toInt = 8 * pF19.toInt + 2 := by omega
                have q3459 : 0 ≤ 8 * pF19.toInt := by omega
                have z3460 : ∀ j : Nat, (j : Int) < 8 * pF19.toInt → aI (f3452 pN) j = aI (f0 pN) j := pre_st2 z3427 e3453 q3458 q3459 (by decide)
                clear z3427
                have z3461 : aI (f3452 pN) (8 * pF19.toInt + 0).toNat = x6 := ent_no2 z3428 e3453 q3458 q3459 (by decide)
                have z3462 : aI (f3452 pN) (8 * pF19.toInt + 1).toNat = x3312 := ent_no2 z3429 e3453 q3458 q3459 (by decide)
                have z3463 : aI (f3452 pN) (8 * pF19.toInt + 2).toNat = x3417 := ent_st2 e3453 q3458 q3459 (by decide)
                have z3464 : aI (f3452 pN) (8 * pF19.toInt + 3).toNat = 0 := ent_no2 z3431 e3453 q3458 q3459 (by decide)
                have z3465 : aI (f3452 pN) (8 * pF19.toInt + 4).toNat = 0 := ent_no2 z3432 e3453 q3458 q3459 (by decide)
                have z3466 : aI (f3452 pN) (8 * pF19.toInt + 5).toNat = 0 := ent_no2 z3433 e3453 q3458 q3459 (by decide)
                have z3467 : aI (f3452 pN) (8 * pF19.toInt + 6).toNat = 0 := ent_no2 z3434 e3453 q3458 q3459 (by decide)
                clear q3458 q3459
                clear z3428 z3429 z3430 z3431 z3432 z3433 z3434
                exact e_V E hW rfl ⟨rfl, hF, (by simp only [((fm_I g3455 rh0 rfl).trans m3420), mF12, ((fm_I g3455 rh0 rfl).trans m3438), mF13, ((fm_I g3455 rh0 rfl).trans m3441), mF14, ((fm_I g3455 rh0 rfl).trans m3444), mF15, ((fm_I g3455 rh0 rfl).trans m3447), mF18, ((fm_I g3455 rh0 rfl).trans m3421), mF21, ((fm_J g3455 rh0 rfl).trans m3450), mW, and_true, true_and, true_or, or_true, false_or, or_false] <;> omega), (by have hk0 : (0 : Int32).toInt = 0 := rfl; rw [((fm_I g3455 rh0 rfl).trans m3421), ((fm_I g3455 rh0 rfl).trans ((fm_I g3415 rh0 rfl).trans ((fm_I g3378 rh0 rfl).trans ((fm_I g3360 rh0 rfl).trans ((fm_I g3343 rh0 rfl).trans ((fm_I g3310 rh0 rfl).trans e2415))))))]; exact cl_end (nc := pF21.toInt) (hd := x6) (r1 := x3312) (r2 := x3417) (show CLs _ _ _ pF21.toInt pF19.toInt from hC) (by omega) (show DJ f0 f3452 h0 pF21.toInt (0 : Int32).toInt (0 : Int32).toInt (0 : Int32).toInt (0 : Int32).toInt from z3457) (fun j hj => by unfold vN; rw [((fm_R g3455 rh0 rfl).trans ((fm_R g3415 rh0 rfl).trans m3405)), mN]; exact z3460 j hj) (by unfold vN; rw [((fm_R g3455 rh0 rfl).trans ((fm_R g3415 rh0 rfl).trans m3405))]; exact z3461) (by unfold vN; rw [((fm_R g3455 rh0 rfl).trans ((fm_R g3415 rh0 rfl).trans m3405))]; exact z3462) (by unfold vN; rw [((fm_R g3455 rh0 rfl).trans ((fm_R g3415 rh0 rfl).trans m3405))]; exact z3463) (by unfold vN; rw [((fm_R g3455 rh0 rfl).trans ((fm_R g3415 rh0 rfl).trans m3405))]; exact z3464) (by unfold vN; rw [((fm_R g3455 rh0 rfl).trans ((fm_R g3415 rh0 rfl).trans m3405))]; exact z3465) (by unfold vN; rw [((fm_R g3455 rh0 rfl).trans ((fm_R g3415 rh0 rfl).trans m3405))]; exact z3466) (by unfold vN; rw [((fm_R g3455 rh0 rfl).trans ((fm_R g3415 rh0 rfl).trans m3405))]; exact z3467) (by rw [((fm_I g3455 rh0 rfl).trans m3447)]; omega) (by omega) (by omega))⟩ dX12_readClause_131
            · refine lv_aload_n hx hb dX12_readClause_52 rfl (lv_at hl 3 rfl) ?_
              refine fg_RX12_39 E hW rh0 dX12_readClause_53 (fun a3468 m3469 r3470 => ?_)
              obtain rfl : pN = a3468 := (m2378).symm.trans m3469
              refine lv_iload_n hx hb dX12_readClause_56 rfl (lv_at hl 1 rfl) ?_
              refine lv_iload_n hx hb dX12_readClause_57 rfl (lv_at hl 0 rfl) ?_
              refine q_iadd hx hb dX12_readClause_58 rfl rfl (by omega) (fun x3471 h3472 => ?_)
              refine lv_iconst (v := 0) hx hb dX12_readClause_59 (by decide) ?_
              have hw3477 := hW.2.2.2
              refine gs_840 E hW rN ⟨by omega, by omega⟩ dX12_readClause_60 (fun f3473 H locs e3474 n3475 g3476 hW => ?_)
              have z3478 : DJ f0 f3473 h0 pF21.toInt 0 0 0 0 := dj_keep v2386 hw3477 g3476 rh0 rfl (fun q => by rw [fm_I g3476 rh0 rfl]; exact q)
              have hF := FM.tr hF g3476 rfl
              refine q_iinc hx hb dX12_readClause_61 hl (k := 0) rfl rfl rfl (by omega) (by decide) (fun i3479 ls h3480 hl => ?_)
              have hl : lv_has ls 4 [(3, .int i3479), (2, .int x2088), (1, .int x6), (0, .ref h0)] := hl
              refine lv_goto (tgt := 46) hx hb dX12_readClause_64 (by decide) ?_
              exact ih46 f3473 i3479 ((fm_R g3476 rh0 rfl).trans m2370) ((fm_I g3476 rh0 rfl).trans m2371) ((fm_I g3476 rh0 rfl).trans m2372) ((fm_I g3476 rh0 rfl).trans m2373) ((fm_I g3476 rh0 rfl).trans m2374) ((fm_J g3476 rh0 rfl).trans m2375) ((fm_I g3476 rh0 rfl).trans m2376) ((fm_I g3476 rh0 rfl).trans m2377) ((fm_R g3476 rh0 rfl).trans m3469) ((fm_I g3476 rh0 rfl).trans m2379) ((fm_I g3476 rh0 rfl).trans m2380) ((fm_I g3476 rh0 rfl).trans m2381) (by omega) (zr_st v2384 e3474 (by decide) (by omega) (by omega) (by omega)) (pre_st v2385 e3474 (by omega)) z3478 (by omega) _ _ _ hW hF (lv_sub hl [0, 1, 2, 3] rfl)
        have hk3481 : (0 : Int32).toInt = 0 := rfl
        exact L2387 9 f2059 0 ((fm_R g2062 rh0 rfl).trans ((fm_R g5 rh0 rfl).trans mR)) ((fm_I g2062 rh0 rfl).trans ((fm_I g5 rh0 rfl).trans mF12)) m2067 m2070 m2073 m2079 m2082 m2086 ((fm_R g2062 rh0 rfl).trans ((fm_R g5 rh0 rfl).trans mN)) ((fm_I g2062 rh0 rfl).trans ((fm_I g5 rh0 rfl).trans mF21)) ((fm_I g2062 rh0 rfl).trans ((fm_I g5 rh0 rfl).trans mF24)) ((fm_I g2062 rh0 rfl).trans ((fm_I g5 rh0 rfl).trans mF27)) (by decide) (by have hk : (0 : Int32).toInt = 0 := rfl; rw [hk]; exact zr_0) (fun j _ => by rw [((congrArg aI (fm_A g2062 rN (by decide) rfl)).trans ((congrArg aI (fm_A g5 rN (by decide) rfl)).trans rfl))]) z2080 (by omega) _ _ _ hW hF (lv_sub hl [0, 1, 2, 3] rfl)
      · exact e_V E hW rfl ⟨rfl, hF, (by simp only [((fm_I g2062 rh0 rfl).trans ((fm_I g5 rh0 rfl).trans mF12)), mF12, m2067, mF13, m2070, mF14, m2073, mF15, m2082, mF18, ((fm_I g2062 rh0 rfl).trans ((fm_I g5 rh0 rfl).trans mF21)), mF21, m2079, mW, and_true, true_and, true_or, or_true, false_or, or_false] <;> omega), (Or.inl (by rw [m2082]; omega))⟩ dX12_readClause_35
