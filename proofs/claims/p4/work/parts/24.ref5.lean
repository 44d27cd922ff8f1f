theorem dX12_readClause_0 : decode cX12_readClause 0 = .ok (.aload_n 0, 1) := by decide +kernel
theorem dX12_readClause_1 : decode cX12_readClause 1 = .ok (.invokevirtual 353, 3) := by decide +kernel
theorem dX12_readClause_4 : decode cX12_readClause 4 = .ok (.istore_n 1, 1) := by decide +kernel
theorem dX12_readClause_5 : decode cX12_readClause 5 = .ok (.aload_n 0, 1) := by decide +kernel
theorem dX12_readClause_6 : decode cX12_readClause 6 = .ok (.iload_n 1, 1) := by decide +kernel
theorem dX12_readClause_7 : decode cX12_readClause 7 = .ok (.iconst (-1), 1) := by decide +kernel
theorem dX12_readClause_8 : decode cX12_readClause 8 = .ok (.if_icmp .eq 16, 3) := by decide +kernel
theorem dX12_readClause_24 : decode cX12_readClause 24 = .ok (.iconst 0, 1) := by decide +kernel
theorem dX12_readClause_25 : decode cX12_readClause 25 = .ok (.invokevirtual 225, 3) := by decide +kernel
theorem dX12_readClause_28 : decode cX12_readClause 28 = .ok (.aload_n 0, 1) := by decide +kernel
theorem dX12_readClause_29 : decode cX12_readClause 29 = .ok (.getfield 193, 3) := by decide +kernel
theorem dX12_readClause_32 : decode cX12_readClause 32 = .ok (.ifCond .eq 4, 3) := by decide +kernel
theorem dX12_readClause_36 : decode cX12_readClause 36 = .ok (.bipush 8, 2) := by decide +kernel
theorem dX12_readClause_38 : decode cX12_readClause 38 = .ok (.aload_n 0, 1) := by decide +kernel
theorem dX12_readClause_39 : decode cX12_readClause 39 = .ok (.getfield 356, 3) := by decide +kernel
theorem dX12_readClause_42 : decode cX12_readClause 42 = .ok (.imul, 1) := by decide +kernel
theorem dX12_readClause_43 : decode cX12_readClause 43 = .ok (.istore_n 2, 1) := by decide +kernel
theorem dX12_readClause_44 : decode cX12_readClause 44 = .ok (.iconst 0, 1) := by decide +kernel
theorem dX12_readClause_45 : decode cX12_readClause 45 = .ok (.istore_n 3, 1) := by decide +kernel
theorem dX12_readClause_46 : decode cX12_readClause 46 = .ok (.iload_n 3, 1) := by decide +kernel
theorem dX12_readClause_47 : decode cX12_readClause 47 = .ok (.bipush 8, 2) := by decide +kernel
theorem dX12_readClause_49 : decode cX12_readClause 49 = .ok (.if_icmp .ge 18, 3) := by decide +kernel
theorem dX12_readClause_67 : decode cX12_readClause 67 = .ok (.aload_n 0, 1) := by decide +kernel
theorem dX12_readClause_68 : decode cX12_readClause 68 = .ok (.getfield 39, 3) := by decide +kernel
theorem dX12_readClause_71 : decode cX12_readClause 71 = .ok (.iload_n 2, 1) := by decide +kernel
theorem dX12_readClause_72 : decode cX12_readClause 72 = .ok (.iload_n 1, 1) := by decide +kernel
theorem dX12_readClause_73 : decode cX12_readClause 73 = .ok (.iastore, 1) := by decide +kernel
theorem dX12_readClause_74 : decode cX12_readClause 74 = .ok (.aload_n 0, 1) := by decide +kernel
theorem dX12_readClause_75 : decode cX12_readClause 75 = .ok (.dup, 1) := by decide +kernel
theorem dX12_readClause_76 : decode cX12_readClause 76 = .ok (.getfield 356, 3) := by decide +kernel
theorem dX12_readClause_79 : decode cX12_readClause 79 = .ok (.iconst 1, 1) := by decide +kernel
theorem dX12_readClause_80 : decode cX12_readClause 80 = .ok (.iadd, 1) := by decide +kernel
theorem dX12_readClause_81 : decode cX12_readClause 81 = .ok (.putfield 356, 3) := by decide +kernel
theorem dX12_readClause_84 : decode cX12_readClause 84 = .ok (.iload_n 1, 1) := by decide +kernel
theorem dX12_readClause_85 : decode cX12_readClause 85 = .ok (.ifCond .ne 47, 3) := by decide +kernel
theorem dX12_readClause_132 : decode cX12_readClause 132 = .ok (.iload_n 1, 1) := by decide +kernel
theorem dX12_readClause_133 : decode cX12_readClause 133 = .ok (.iconst 1, 1) := by decide +kernel
theorem dX12_readClause_134 : decode cX12_readClause 134 = .ok (.if_icmp .ne 36, 3) := by decide +kernel
theorem dX12_readClause_170 : decode cX12_readClause 170 = .ok (.aload_n 0, 1) := by decide +kernel
theorem dX12_readClause_171 : decode cX12_readClause 171 = .ok (.getfield 39, 3) := by decide +kernel
theorem dX12_readClause_174 : decode cX12_readClause 174 = .ok (.iload_n 2, 1) := by decide +kernel
theorem dX12_readClause_175 : decode cX12_readClause 175 = .ok (.iconst 3, 1) := by decide +kernel
theorem dX12_readClause_176 : decode cX12_readClause 176 = .ok (.iadd, 1) := by decide +kernel
theorem dX12_readClause_177 : decode cX12_readClause 177 = .ok (.aload_n 0, 1) := by decide +kernel
theorem dX12_readClause_178 : decode cX12_readClause 178 = .ok (.getfield 229, 3) := by decide +kernel
theorem dX12_readClause_181 : decode cX12_readClause 181 = .ok (.iastore, 1) := by decide +kernel
theorem dX12_readClause_182 : decode cX12_readClause 182 = .ok (.iload_n 1, 1) := by decide +kernel
theorem dX12_readClause_183 : decode cX12_readClause 183 = .ok (.iconst 2, 1) := by decide +kernel
theorem dX12_readClause_184 : decode cX12_readClause 184 = .ok (.if_icmp .eq 8, 3) := by decide +kernel
theorem dX12_readClause_187 : decode cX12_readClause 187 = .ok (.iload_n 1, 1) := by decide +kernel
theorem dX12_readClause_188 : decode cX12_readClause 188 = .ok (.iconst 3, 1) := by decide +kernel
theorem dX12_readClause_189 : decode cX12_readClause 189 = .ok (.if_icmp .ne 8, 3) := by decide +kernel
theorem dX12_readClause_197 : decode cX12_readClause 197 = .ok (.aload_n 0, 1) := by decide +kernel
theorem dX12_readClause_198 : decode cX12_readClause 198 = .ok (.getfield 39, 3) := by decide +kernel
theorem dX12_readClause_201 : decode cX12_readClause 201 = .ok (.iload_n 2, 1) := by decide +kernel
theorem dX12_readClause_202 : decode cX12_readClause 202 = .ok (.iconst 4, 1) := by decide +kernel
theorem dX12_readClause_203 : decode cX12_readClause 203 = .ok (.iadd, 1) := by decide +kernel
theorem dX12_readClause_204 : decode cX12_readClause 204 = .ok (.aload_n 0, 1) := by decide +kernel
theorem dX12_readClause_205 : decode cX12_readClause 205 = .ok (.getfield 229, 3) := by decide +kernel
theorem dX12_readClause_208 : decode cX12_readClause 208 = .ok (.iastore, 1) := by decide +kernel
theorem dX12_readClause_209 : decode cX12_readClause 209 = .ok (.aload_n 0, 1) := by decide +kernel
theorem dX12_readClause_210 : decode cX12_readClause 210 = .ok (.getfield 39, 3) := by decide +kernel
theorem dX12_readClause_213 : decode cX12_readClause 213 = .ok (.iload_n 2, 1) := by decide +kernel
theorem dX12_readClause_214 : decode cX12_readClause 214 = .ok (.iconst 5, 1) := by decide +kernel
theorem dX12_readClause_215 : decode cX12_readClause 215 = .ok (.iadd, 1) := by decide +kernel
theorem dX12_readClause_216 : decode cX12_readClause 216 = .ok (.aload_n 0, 1) := by decide +kernel
theorem dX12_readClause_217 : decode cX12_readClause 217 = .ok (.getfield 229, 3) := by decide +kernel
theorem dX12_readClause_220 : decode cX12_readClause 220 = .ok (.iastore, 1) := by decide +kernel
theorem dX12_readClause_221 : decode cX12_readClause 221 = .ok (.aload_n 0, 1) := by decide +kernel
theorem dX12_readClause_222 : decode cX12_readClause 222 = .ok (.getfield 193, 3) := by decide +kernel
theorem dX12_readClause_225 : decode cX12_readClause 225 = .ok (.ifCond .ne 22, 3) := by decide +kernel
theorem dX12_readClause_228 : decode cX12_readClause 228 = .ok (.aload_n 0, 1) := by decide +kernel
theorem dX12_readClause_229 : decode cX12_readClause 229 = .ok (.ldc2_w 374, 3) := by decide +kernel
theorem dX12_readClause_232 : decode cX12_readClause 232 = .ok (.invokevirtual 252, 3) := by decide +kernel
theorem dX12_readClause_235 : decode cX12_readClause 235 = .ok (.ifCond .eq 12, 3) := by decide +kernel
theorem dX12_readClause_247 : decode cX12_readClause 247 = .ok (.aload_n 0, 1) := by decide +kernel
theorem dX12_readClause_248 : decode cX12_readClause 248 = .ok (.getfield 39, 3) := by decide +kernel
theorem dX12_readClause_251 : decode cX12_readClause 251 = .ok (.iload_n 2, 1) := by decide +kernel
theorem dX12_readClause_252 : decode cX12_readClause 252 = .ok (.bipush 6, 2) := by decide +kernel
theorem dX12_readClause_254 : decode cX12_readClause 254 = .ok (.iadd, 1) := by decide +kernel
theorem dX12_readClause_255 : decode cX12_readClause 255 = .ok (.aload_n 0, 1) := by decide +kernel
theorem dX12_readClause_256 : decode cX12_readClause 256 = .ok (.getfield 229, 3) := by decide +kernel
theorem dX12_readClause_259 : decode cX12_readClause 259 = .ok (.iastore, 1) := by decide +kernel
theorem dX12_readClause_260 : decode cX12_readClause 260 = .ok (.return_, 1) := by decide +kernel
theorem dX12_readClause_238 : decode cX12_readClause 238 = .ok (.aload_n 0, 1) := by decide +kernel
theorem dX12_readClause_239 : decode cX12_readClause 239 = .ok (.invokevirtual 196, 3) := by decide +kernel
theorem dX12_readClause_242 : decode cX12_readClause 242 = .ok (.aload_n 0, 1) := by decide +kernel
theorem dX12_readClause_243 : decode cX12_readClause 243 = .ok (.iconst 1, 1) := by decide +kernel
theorem dX12_readClause_244 : decode cX12_readClause 244 = .ok (.invokevirtual 371, 3) := by decide +kernel
theorem dX12_readClause_52 : decode cX12_readClause 52 = .ok (.aload_n 0, 1) := by decide +kernel
theorem dX12_readClause_53 : decode cX12_readClause 53 = .ok (.getfield 39, 3) := by decide +kernel
theorem dX12_readClause_56 : decode cX12_readClause 56 = .ok (.iload_n 2, 1) := by decide +kernel
theorem dX12_readClause_57 : decode cX12_readClause 57 = .ok (.iload_n 3, 1) := by decide +kernel
theorem dX12_readClause_58 : decode cX12_readClause 58 = .ok (.iadd, 1) := by decide +kernel
theorem dX12_readClause_59 : decode cX12_readClause 59 = .ok (.iconst 0, 1) := by decide +kernel
theorem dX12_readClause_60 : decode cX12_readClause 60 = .ok (.iastore, 1) := by decide +kernel
theorem dX12_readClause_61 : decode cX12_readClause 61 = .ok (.iinc 3 1, 3) := by decide +kernel
theorem dX12_readClause_64 : decode cX12_readClause 64 = .ok (.goto (-18), 3) := by decide +kernel
theorem dX12_readClause_35 : decode cX12_readClause 35 = .ok (.return_, 1) := by decide +kernel
theorem dX12_readClause_11 : decode cX12_readClause 11 = .ok (.aload_n 0, 1) := by decide +kernel
theorem dX12_readClause_12 : decode cX12_readClause 12 = .ok (.getfield 356, 3) := by decide +kernel
theorem dX12_readClause_15 : decode cX12_readClause 15 = .ok (.bipush 12, 2) := by decide +kernel
theorem dX12_readClause_17 : decode cX12_readClause 17 = .ok (.if_icmp .ge 7, 3) := by decide +kernel
theorem dX12_readClause_192 : decode cX12_readClause 192 = .ok (.aload_n 0, 1) := by decide +kernel
theorem dX12_readClause_193 : decode cX12_readClause 193 = .ok (.iconst 0, 1) := by decide +kernel
theorem dX12_readClause_194 : decode cX12_readClause 194 = .ok (.invokevirtual 371, 3) := by decide +kernel
theorem dX12_readClause_137 : decode cX12_readClause 137 = .ok (.aload_n 0, 1) := by decide +kernel
theorem dX12_readClause_138 : decode cX12_readClause 138 = .ok (.getfield 39, 3) := by decide +kernel
theorem dX12_readClause_141 : decode cX12_readClause 141 = .ok (.iload_n 2, 1) := by decide +kernel
theorem dX12_readClause_142 : decode cX12_readClause 142 = .ok (.iconst 1, 1) := by decide +kernel
theorem dX12_readClause_143 : decode cX12_readClause 143 = .ok (.iadd, 1) := by decide +kernel
theorem dX12_readClause_144 : decode cX12_readClause 144 = .ok (.aload_n 0, 1) := by decide +kernel
theorem dX12_readClause_145 : decode cX12_readClause 145 = .ok (.lconst 0, 1) := by decide +kernel
theorem dX12_readClause_146 : decode cX12_readClause 146 = .ok (.ldc2_w 367, 3) := by decide +kernel
theorem dX12_readClause_149 : decode cX12_readClause 149 = .ok (.invokevirtual 359, 3) := by decide +kernel
theorem dX12_readClause_152 : decode cX12_readClause 152 = .ok (.iastore, 1) := by decide +kernel
theorem dX12_readClause_153 : decode cX12_readClause 153 = .ok (.aload_n 0, 1) := by decide +kernel
theorem dX12_readClause_154 : decode cX12_readClause 154 = .ok (.getfield 39, 3) := by decide +kernel
theorem dX12_readClause_157 : decode cX12_readClause 157 = .ok (.iload_n 2, 1) := by decide +kernel
theorem dX12_readClause_158 : decode cX12_readClause 158 = .ok (.iconst 2, 1) := by decide +kernel
theorem dX12_readClause_159 : decode cX12_readClause 159 = .ok (.iadd, 1) := by decide +kernel
theorem dX12_readClause_160 : decode cX12_readClause 160 = .ok (.aload_n 0, 1) := by decide +kernel
theorem dX12_readClause_161 : decode cX12_readClause 161 = .ok (.lconst 1, 1) := by decide +kernel
theorem dX12_readClause_162 : decode cX12_readClause 162 = .ok (.ldc2_w 369, 3) := by decide +kernel
theorem dX12_readClause_165 : decode cX12_readClause 165 = .ok (.invokevirtual 359, 3) := by decide +kernel
theorem dX12_readClause_168 : decode cX12_readClause 168 = .ok (.iastore, 1) := by decide +kernel
theorem dX12_readClause_169 : decode cX12_readClause 169 = .ok (.return_, 1) := by decide +kernel
theorem dX12_readClause_88 : decode cX12_readClause 88 = .ok (.aload_n 0, 1) := by decide +kernel
theorem dX12_readClause_89 : decode cX12_readClause 89 = .ok (.getfield 39, 3) := by decide +kernel
theorem dX12_readClause_92 : decode cX12_readClause 92 = .ok (.iload_n 2, 1) := by decide +kernel
theorem dX12_readClause_93 : decode cX12_readClause 93 = .ok (.iconst 1, 1) := by decide +kernel
theorem dX12_readClause_94 : decode cX12_readClause 94 = .ok (.iadd, 1) := by decide +kernel
theorem dX12_readClause_95 : decode cX12_readClause 95 = .ok (.aload_n 0, 1) := by decide +kernel
theorem dX12_readClause_96 : decode cX12_readClause 96 = .ok (.lconst 0, 1) := by decide +kernel
theorem dX12_readClause_97 : decode cX12_readClause 97 = .ok (.ldc2_w 98, 3) := by decide +kernel
theorem dX12_readClause_100 : decode cX12_readClause 100 = .ok (.invokevirtual 359, 3) := by decide +kernel
theorem dX12_readClause_103 : decode cX12_readClause 103 = .ok (.iastore, 1) := by decide +kernel
theorem dX12_readClause_104 : decode cX12_readClause 104 = .ok (.aload_n 0, 1) := by decide +kernel
theorem dX12_readClause_105 : decode cX12_readClause 105 = .ok (.aload_n 0, 1) := by decide +kernel
theorem dX12_readClause_106 : decode cX12_readClause 106 = .ok (.ldc2_w 363, 3) := by decide +kernel
theorem dX12_readClause_109 : decode cX12_readClause 109 = .ok (.invokevirtual 252, 3) := by decide +kernel
theorem dX12_readClause_112 : decode cX12_readClause 112 = .ok (.invokevirtual 225, 3) := by decide +kernel
theorem dX12_readClause_115 : decode cX12_readClause 115 = .ok (.aload_n 0, 1) := by decide +kernel
theorem dX12_readClause_116 : decode cX12_readClause 116 = .ok (.getfield 39, 3) := by decide +kernel
theorem dX12_readClause_119 : decode cX12_readClause 119 = .ok (.iload_n 2, 1) := by decide +kernel
theorem dX12_readClause_120 : decode cX12_readClause 120 = .ok (.iconst 2, 1) := by decide +kernel
theorem dX12_readClause_121 : decode cX12_readClause 121 = .ok (.iadd, 1) := by decide +kernel
theorem dX12_readClause_122 : decode cX12_readClause 122 = .ok (.aload_n 0, 1) := by decide +kernel
theorem dX12_readClause_123 : decode cX12_readClause 123 = .ok (.lconst 0, 1) := by decide +kernel
theorem dX12_readClause_124 : decode cX12_readClause 124 = .ok (.ldc2_w 365, 3) := by decide +kernel
theorem dX12_readClause_127 : decode cX12_readClause 127 = .ok (.invokevirtual 359, 3) := by decide +kernel
theorem dX12_readClause_130 : decode cX12_readClause 130 = .ok (.iastore, 1) := by decide +kernel
theorem dX12_readClause_131 : decode cX12_readClause 131 = .ok (.return_, 1) := by decide +kernel
theorem dX12_readClause_20 : decode cX12_readClause 20 = .ok (.iconst 1, 1) := by decide +kernel
theorem dX12_readClause_21 : decode cX12_readClause 21 = .ok (.goto 4, 3) := by decide +kernel
def ms_X12_readClause : List (Nat × Nat) := [(12, 13), (12, 14), (12, 15), (12, 16), (12, 17), (12, 18), (12, 19), (12, 21), (12, 24), (12, 27), (12, 28), (840, 0), (842, 0), (843, 0), (845, 0), (846, 0)]
def po_X12_readClause (kp : Nat → Nat) (L : List Nat) (f0 : Nat → va_E) (h0 : Nat) : Option Value → (Nat → va_E) → Prop := fun v f => v = none ∧ FM kp L ms_X12_readClause f0 f ∧ ((oI (f h0) 21).toInt ≤ (oI (f h0) 13).toInt ∧ (oI (f h0) 13).toInt ≤ (oI (f h0) 14).toInt ∧ (oI (f h0) 14).toInt ≤ (oI (f0 h0) 12).toInt ∧ ((oI (f h0) 15).toInt = 0 ∨ (oI (f h0) 13).toInt < (oI (f h0) 14).toInt) ∧ (¬ (oI (f h0) 15).toInt = 1 ∨ (oJ (f h0) 16).toInt ≤ 26 ∨ (oI (f h0) 13).toInt + 2 ≤ (oI (f h0) 14).toInt) ∧ (oI (f0 h0) 21).toInt ≤ (oI (f h0) 21).toInt ∧ (oI (f0 h0) 13).toInt ≤ (oI (f h0) 13).toInt ∧ (¬ (oI (f0 h0) 18).toInt = 1 ∨ (oI (f h0) 18).toInt = 1) ∧ ((oI (f h0) 18).toInt = 1 ∨ (oI (f0 h0) 13).toInt < (oI (f h0) 13).toInt)) ∧ ((oI (f h0) 18).toInt = 1 ∨ CLs (vO f h0) (vA f h0) (vN f h0) (oI (f h0) 21).toInt (oI (f h0) 19).toInt)
set_option maxHeartbeats 40000000 in
set_option maxRecDepth 100000 in
theorem c_X12_readClause (l : Launch) (G : va_G) (cI cJ cZ cD cR cT : ClassId) (kp : Nat → Nat) (L : List Nat) (f0 : Nat → va_E) (hTH : TH cI cJ cZ cD cR cT kp L f0) (sz : Nat) (h0 : Nat) (rh0 : RK kp L h0 12) (hC : CLs (vO f0 h0) (vA f0 h0) (vN f0 h0) (oI (f0 h0) 21).toInt (oI (f0 h0) 19).toInt) (hq : (oI (f0 h0) 21).toInt ≤ (oI (f0 h0) 13).toInt ∧ (oI (f0 h0) 13).toInt ≤ (oI (f0 h0) 14).toInt ∧ (oI (f0 h0) 14).toInt ≤ (oI (f0 h0) 12).toInt ∧ ((oI (f0 h0) 15).toInt = 0 ∨ (oI (f0 h0) 13).toInt < (oI (f0 h0) 14).toInt) ∧ (¬ (oI (f0 h0) 15).toInt = 1 ∨ (oJ (f0 h0) 16).toInt ≤ 26 ∨ (oI (f0 h0) 13).toInt + 2 ≤ (oI (f0 h0) 14).toInt) ∧ (oI (f0 h0) 18).toInt = 0) : Met l yX12_readClause (Cond.code yX12_readClause cX12_readClause 4 none :: wTab) ({ frames := 8, cells := 0, slots := 0, locals := 189 }) (va_Pc [.ref h0] (PreW G (tys6 cI cJ cZ cD cR cT) (va_pl L f0) sz)) (QT (po_X12_readClause kp L f0 h0) G cI cJ cZ cD cR cT (va_A (va_pl L f0) sz) kp L) 0 0 (va_A (va_pl L f0) sz) := by
  refine metT (by decide) (Nat.le_of_ble_eq_true rfl) hTH ?_
  intro p e s m below meth c A ls E hW hl
  obtain ⟨hx, hb, -, hml, hown, hts, -, -, -⟩ := id E
  have hF : FM kp L ms_X12_readClause f0 f0 := FM.rf
  have hl : lv_has ls 4 [(0, .ref h0)] := hl
  obtain ⟨pF12, mF12⟩ : ∃ x : Int32, oI (f0 h0) 12 = x := ⟨_, rfl⟩
  have bF12 : (0 : Int) ≤ pF12.toInt ∧ pF12.toInt ≤ 400 := by rw [← mF12]; exact th_iv hW rh0 (by decide) (by decide) rfl
  obtain ⟨pF13, mF13⟩ : ∃ x : Int32, oI (f0 h0) 13 = x := ⟨_, rfl⟩
  have bF13 : (0 : Int) ≤ pF13.toInt ∧ pF13.toInt ≤ 400 := by rw [← mF13]; exact th_iv hW rh0 (by decide) (by decide) rfl
  obtain ⟨pF14, mF14⟩ : ∃ x : Int32, oI (f0 h0) 14 = x := ⟨_, rfl⟩
  have bF14 : (0 : Int) ≤ pF14.toInt ∧ pF14.toInt ≤ 400 := by rw [← mF14]; exact th_iv hW rh0 (by decide) (by decide) rfl
  obtain ⟨pF15, mF15⟩ : ∃ x : Int32, oI (f0 h0) 15 = x := ⟨_, rfl⟩
  have bF15 : (0 : Int) ≤ pF15.toInt ∧ pF15.toInt ≤ 3 := by rw [← mF15]; exact th_iv hW rh0 (by decide) (by decide) rfl
  obtain ⟨pF18, mF18⟩ : ∃ x : Int32, oI (f0 h0) 18 = x := ⟨_, rfl⟩
  have bF18 : (0 : Int) ≤ pF18.toInt ∧ pF18.toInt ≤ 1 := by rw [← mF18]; exact th_iv hW rh0 (by decide) (by decide) rfl
  obtain ⟨pF21, mF21⟩ : ∃ x : Int32, oI (f0 h0) 21 = x := ⟨_, rfl⟩
  have bF21 : (0 : Int) ≤ pF21.toInt ∧ pF21.toInt ≤ 400 := by rw [← mF21]; exact th_iv hW rh0 (by decide) (by decide) rfl
  obtain ⟨pF24, mF24⟩ : ∃ x : Int32, oI (f0 h0) 24 = x := ⟨_, rfl⟩
  have bF24 : (0 : Int) ≤ pF24.toInt ∧ pF24.toInt ≤ 50 := by rw [← mF24]; exact th_iv hW rh0 (by decide) (by decide) rfl
  obtain ⟨pF27, mF27⟩ : ∃ x : Int32, oI (f0 h0) 27 = x := ⟨_, rfl⟩
  have bF27 : (0 : Int) ≤ pF27.toInt ∧ pF27.toInt ≤ 400 := by rw [← mF27]; exact th_iv hW rh0 (by decide) (by decide) rfl
  obtain ⟨pF19, mF19⟩ : ∃ x : Int32, oI (f0 h0) 19 = x := ⟨_, rfl⟩
  have bF19 : (0 : Int) ≤ pF19.toInt ∧ pF19.toInt ≤ 12 := by rw [← mF19]; exact th_iv hW rh0 (by decide) (by decide) rfl
  obtain ⟨pW, mW⟩ : ∃ x : Int64, oJ (f0 h0) 16 = x := ⟨_, rfl⟩
  simp only [mF12, mF13, mF14, mF15, mF18, mF21, mF24, mF27, mF19, mW] at hq
  obtain ⟨pR, mR⟩ : ∃ x : Nat, oR (f0 h0) 2 = x := ⟨_, rfl⟩
  have rR : RK kp L pR 822 := by rw [← mR]; exact th_ref hTH rh0 (by decide) (by decide) rfl
  obtain ⟨pN, mN⟩ : ∃ x : Nat, oR (f0 h0) 20 = x := ⟨_, rfl⟩
  have rN : RK kp L pN 840 := by rw [← mN]; exact th_ref hTH rh0 (by decide) (by decide) rfl
  rw [mF21, mF19] at hC
  have hdj : DJ f0 f0 h0 pF21.toInt 0 0 0 0 := dj_0
  refine lv_aload_n hx hb dX12_readClause_0 rfl (lv_at hl 0 rfl) ?_
  have hw4 := hW.2.2.2
  refine t_callV (As := []) (rest := []) E hW (c_X12_headAt l G cI cJ cZ cD cR cT kp L f0 hW.2.2.2 _ h0 rh0) rh0 (by decide) rfl wk_X12_headAt tw_1792 rfl ⟨Nat.le_of_ble_eq_true rfl, Nat.le_of_ble_eq_true rfl⟩ ⟨rfl, rfl⟩ hl.1 rfl (Nat.le_of_ble_eq_true rfl) dX12_readClause_1 ⟨Nat.le_of_ble_eq_true rfl, Nat.le_of_ble_eq_true rfl⟩ (fun v1 f2 H locs q3 hW => ?_)
  obtain ⟨⟨x6, rfl, p7⟩, g5⟩ := q3
  simp only [mF15, mW] at p7
  have z8 : DJ f0 f2 h0 pF21.toInt 0 0 0 0 := dj_keep hdj hw4 g5 rh0 rfl (fun q => by rw [fm_I g5 rh0 rfl]; exact q)
  have hF := FM.tr hF g5 rfl
  refine lv_istore_n (lv' := [(1, .int x6), (0, .ref h0)]) hx hb dX12_readClause_4 rfl hl (by decide) rfl (fun ls hl => ?_)
  refine lv_aload_n hx hb dX12_readClause_5 rfl (lv_at hl 1 rfl) ?_
  refine lv_iload_n hx hb dX12_readClause_6 rfl (lv_at hl 0 rfl) ?_
  refine lv_iconst (v := (-1)) hx hb dX12_readClause_7 (by decide) ?_
  refine q_icmp_eq (Y := -1) (tgt := 24) hx hb dX12_readClause_8 (by decide) rfl rfl (fun c9 => ?_) (fun c9 => ?_)
  · refine lv_iconst (v := 0) hx hb dX12_readClause_24 (by decide) ?_
    have hw14 := hW.2.2.2
    refine t_callV (As := [.int 0]) (rest := []) E hW (c_X12_must l G cI cJ cZ cD cR cT kp L f2 hW.2.2.2 _ h0 0 rh0 (by decide) (by have hkq10 : (0 : Int32).toInt = 0 := rfl; simp only [((fm_I g5 rh0 rfl).trans mF12), ((fm_I g5 rh0 rfl).trans mF13), ((fm_I g5 rh0 rfl).trans mF14), ((fm_I g5 rh0 rfl).trans mF15), ((fm_J g5 rh0 rfl).trans mW), and_true, true_and, true_or, or_true, false_or, or_false] <;> omega)) rh0 (by decide) rfl wk_X12_must tw_1807 rfl ⟨Nat.le_of_ble_eq_true rfl, Nat.le_of_ble_eq_true rfl⟩ ⟨rfl, rfl⟩ hl.1 rfl (Nat.le_of_ble_eq_true rfl) dX12_readClause_25 ⟨Nat.le_of_ble_eq_true rfl, Nat.le_of_ble_eq_true rfl⟩ (fun v11 f12 H locs q13 hW => ?_)
    obtain ⟨rfl, g15, h16⟩ := q13
    have hF := FM.tr hF g15 rfl
    have hk18 : (0 : Int32).toInt = 0 := rfl
    obtain ⟨y19, m20⟩ : ∃ x : Int32, oI (f12 h0) 13 = x := ⟨_, rfl⟩
    have b21 : (0 : Int) ≤ y19.toInt ∧ y19.toInt ≤ 400 := by rw [← m20]; exact th_iv hW rh0 (by decide) (by decide) rfl
    obtain ⟨y22, m23⟩ : ∃ x : Int32, oI (f12 h0) 14 = x := ⟨_, rfl⟩
    have b24 : (0 : Int) ≤ y22.toInt ∧ y22.toInt ≤ 400 := by rw [← m23]; exact th_iv hW rh0 (by decide) (by decide) rfl
    obtain ⟨y25, m26⟩ : ∃ x : Int32, oI (f12 h0) 15 = x := ⟨_, rfl⟩
    have b27 : (0 : Int) ≤ y25.toInt ∧ y25.toInt ≤ 3 := by rw [← m26]; exact th_iv hW rh0 (by decide) (by decide) rfl
    obtain ⟨y28, m29⟩ : ∃ x : Int32, oI (f12 h0) 18 = x := ⟨_, rfl⟩
    have b30 : (0 : Int) ≤ y28.toInt ∧ y28.toInt ≤ 1 := by rw [← m29]; exact th_iv hW rh0 (by decide) (by decide) rfl
    obtain ⟨y31, m32⟩ : ∃ x : Int64, oJ (f12 h0) 16 = x := ⟨_, rfl⟩
    simp only [((fm_I g15 rh0 rfl).trans ((fm_I g5 rh0 rfl).trans mF12)), ((fm_I g5 rh0 rfl).trans mF12), m20, ((fm_I g5 rh0 rfl).trans mF13), m23, ((fm_I g5 rh0 rfl).trans mF14), m26, ((fm_I g5 rh0 rfl).trans mF15), m29, ((fm_I g5 rh0 rfl).trans mF18), m32, ((fm_J g5 rh0 rfl).trans mW)] at h16
    have z33 : DJ f0 f12 h0 pF21.toInt 0 0 0 0 := dj_keep z8 hw14 g15 rh0 rfl (fun q => by rw [((fm_I g5 rh0 rfl).trans mF18)] at q; rw [m29]; omega)
    obtain ⟨q34, q35, q36, q37, q38⟩ := h16
    refine lv_aload_n hx hb dX12_readClause_28 rfl (lv_at hl 1 rfl) ?_
    refine fg_RX12_193 E hW rh0 dX12_readClause_29 (fun y39 m40 b41 => ?_)
    obtain rfl : y28 = y39 := (m29).symm.trans m40
    refine q_if_eq (tgt := 36) hx hb dX12_readClause_32 (by decide) rfl (fun c42 => ?_) (fun c42 => ?_)
    · refine lv_bipush (v := 8) hx hb dX12_readClause_36 (by decide) ?_
      refine lv_aload_n hx hb dX12_readClause_38 rfl (lv_at hl 1 rfl) ?_
      refine fg_RX12_356 E hW rh0 dX12_readClause_39 (fun y43 m44 b45 => ?_)
      obtain rfl : pF19 = y43 := (((fm_I g15 rh0 rfl).trans ((fm_I g5 rh0 rfl).trans mF19))).symm.trans m44
      refine q_imul (X := 8) hx hb dX12_readClause_42 rfl rfl (by omega) (fun x46 h47 => ?_)
      refine lv_istore_n (lv' := [(2, .int x46), (1, .int x6), (0, .ref h0)]) hx hb dX12_readClause_43 rfl hl (by decide) rfl (fun ls hl => ?_)
      refine lv_iconst (v := 0) hx hb dX12_readClause_44 (by decide) ?_
      refine lv_istore_n (lv' := [(3, .int 0), (2, .int x46), (1, .int x6), (0, .ref h0)]) hx hb dX12_readClause_45 rfl hl (by decide) rfl (fun ls hl => ?_)
      have L345 : ∀ (n : Nat), ∀ (f327 : Nat → va_E) (y340 : Int32) (m328 : oR (f327 h0) 2 = pR) (m329 : oI (f327 h0) 12 = pF12) (m330 : oI (f327 h0) 13 = y19) (m331 : oI (f327 h0) 14 = y22) (m332 : oI (f327 h0) 15 = y25) (m333 : oJ (f327 h0) 16 = y31) (m334 : oI (f327 h0) 18 = y28) (m335 : oI (f327 h0) 19 = pF19) (m336 : oR (f327 h0) 20 = pN) (m337 : oI (f327 h0) 21 = pF21) (m338 : oI (f327 h0) 24 = pF24) (m339 : oI (f327 h0) 27 = pF27) (b341 : (0 : Int) ≤ y340.toInt ∧ y340.toInt ≤ 8) (v342 : ZR (aI (f327 pN)) (8 * pF19.toInt) y340.toInt) (v343 : ∀ j : Nat, (j : Int) < 8 * pF19.toInt → aI (f327 pN) j = aI (f0 pN) j) (v344 : DJ f0 f327 h0 pF21.toInt 0 0 0 0) (hm : (9 : Int) - y340.toInt ≤ n) (H : Heap) (locs : List Loc) (ls : Array Slot), WS G cI cJ cZ cD cR cT A kp L f327 s H locs → FM kp L ms_X12_readClause f0 f327 → lv_has ls 4 [(3, .int y340), (2, .int x46), (1, .int x6), (0, .ref h0)] → W p l e ({ frames := 8, cells := 0, slots := 0, locals := 189 }) s m ([.ref h0] : List Value).toArray below meth c H locs 0 0 (MQ below (QT (po_X12_readClause kp L f0 h0) G cI cJ cZ cD cR cT A kp L) ([.ref h0] : List Value).toArray s 0 0 A) (F0 m 46 ls []) := by
        intro n
        induction n with
        | zero =>
          intro f327 y340 m328 m329 m330 m331 m332 m333 m334 m335 m336 m337 m338 m339 b341 v342 v343 v344 hm H locs ls hW hF hl
          have hz := i32_b y340
          exfalso; omega
        | succ n ih =>
          intro f327 y340 m328 m329 m330 m331 m332 m333 m334 m335 m336 m337 m338 m339 b341 v342 v343 v344 hm H locs ls hW hF hl
          have ih46 := ih
          refine lv_iload_n hx hb dX12_readClause_46 rfl (lv_at hl 0 rfl) ?_
          refine lv_bipush (v := 8) hx hb dX12_readClause_47 (by decide) ?_
          refine q_icmp_ge (Y := 8) (tgt := 67) hx hb dX12_readClause_49 (by decide) rfl rfl (fun c346 => ?_) (fun c346 => ?_)
          · refine lv_aload_n hx hb dX12_readClause_67 rfl (lv_at hl 3 rfl) ?_
            refine fg_RX12_39 E hW rh0 dX12_readClause_68 (fun a347 m348 r349 => ?_)
            obtain rfl : pN = a347 := (m336).symm.trans m348
            refine lv_iload_n hx hb dX12_readClause_71 rfl (lv_at hl 1 rfl) ?_
            refine lv_iload_n hx hb dX12_readClause_72 rfl (lv_at hl 2 rfl) ?_
            have hw354 := hW.2.2.2
            refine gs_840 E hW rN ⟨by omega, by omega⟩ dX12_readClause_73 (fun f350 H locs e351 n352 g353 hW => ?_)
            have z355 : DJ f0 f350 h0 pF21.toInt 0 0 0 0 := dj_keep v344 hw354 g353 rh0 rfl (fun q => by rw [fm_I g353 rh0 rfl]; exact q)
            have hF := FM.tr hF g353 rfl
            have q356 : x46.toInt = 8 * pF19.toInt + 0 := by omega
            have q357 : 0 ≤ 8 * pF19.toInt := by omega
            have z358 : ∀ j : Nat, (j : Int) < 8 * pF19.toInt → aI (f350 pN) j = aI (f0 pN) j := pre_st2 v343 e351 q356 q357 (by decide)
            have z359 : ZR _ (8 * pF19.toInt) 8 := (by have q : y340.toInt = 8 := (by omega); have z := v342; rw [q] at z; exact z)
            have z360 : aI (f350 pN) (8 * pF19.toInt + 0).toNat = x6 := ent_st2 e351 q356 q357 (by decide)
            have z361 : aI (f350 pN) (8 * pF19.toInt + 1).toNat = 0 := ent_no2 (ent_z2 z359 (by decide)) e351 q356 q357 (by decide)
            have z362 : aI (f350 pN) (8 * pF19.toInt + 2).toNat = 0 := ent_no2 (ent_z2 z359 (by decide)) e351 q356 q357 (by decide)
            have z363 : aI (f350 pN) (8 * pF19.toInt + 3).toNat = 0 := ent_no2 (ent_z2 z359 (by decide)) e351 q356 q357 (by decide)
            have z364 : aI (f350 pN) (8 * pF19.toInt + 4).toNat = 0 := ent_no2 (ent_z2 z359 (by decide)) e351 q356 q357 (by decide)
            have z365 : aI (f350 pN) (8 * pF19.toInt + 5).toNat = 0 := ent_no2 (ent_z2 z359 (by decide)) e351 q356 q357 (by decide)
            have z366 : aI (f350 pN) (8 * pF19.toInt + 6).toNat = 0 := ent_no2 (ent_z2 z359 (by decide)) e351 q356 q357 (by decide)
            clear q356 q357
            refine lv_aload_n hx hb dX12_readClause_74 rfl (lv_at hl 3 rfl) ?_
            refine lv_dup hx hb dX12_readClause_75 rfl ?_
            refine fg_RX12_356 E hW rh0 dX12_readClause_76 (fun y367 m368 b369 => ?_)
            obtain rfl : pF19 = y367 := (((fm_I g353 rh0 rfl).trans m335)).symm.trans m368
            refine lv_iconst (v := 1) hx hb dX12_readClause_79 (by decide) ?_
            refine q_iadd (Y := 1) hx hb dX12_readClause_80 rfl rfl (by omega) (fun x370 h371 => ?_)
            have hw376 := hW.2.2.2
            refine fp_RX12_356 E hW rh0 (by omega) dX12_readClause_81 (fun f372 H locs e373 n374 g375 hW => ?_)
            have z377 : DJ f0 f372 h0 pF21.toInt 0 0 0 0 := dj_keep z355 hw376 g375 rh0 rfl (fun q => by rw [fm_I g375 rh0 rfl]; exact q)
            have z378 : ∀ j : Nat, (j : Int) < 8 * pF19.toInt → aI (f372 pN) j = aI (f0 pN) j := by rw [fm_A g375 rN (by decide) rfl]; exact z358
            clear z358
            have z379 : aI (f372 pN) (8 * pF19.toInt + 0).toNat = x6 := by rw [fm_A g375 rN (by decide) rfl]; exact z360
            have z380 : aI (f372 pN) (8 * pF19.toInt + 1).toNat = 0 := by rw [fm_A g375 rN (by decide) rfl]; exact z361
            have z381 : aI (f372 pN) (8 * pF19.toInt + 2).toNat = 0 := by rw [fm_A g375 rN (by decide) rfl]; exact z362
            have z382 : aI (f372 pN) (8 * pF19.toInt + 3).toNat = 0 := by rw [fm_A g375 rN (by decide) rfl]; exact z363
            have z383 : aI (f372 pN) (8 * pF19.toInt + 4).toNat = 0 := by rw [fm_A g375 rN (by decide) rfl]; exact z364
            have z384 : aI (f372 pN) (8 * pF19.toInt + 5).toNat = 0 := by rw [fm_A g375 rN (by decide) rfl]; exact z365
            have z385 : aI (f372 pN) (8 * pF19.toInt + 6).toNat = 0 := by rw [fm_A g375 rN (by decide) rfl]; exact z366
            clear z360 z361 z362 z363 z364 z365 z366
            have hF := FM.tr hF g375 rfl
            refine lv_iload_n hx hb dX12_readClause_84 rfl (lv_at hl 2 rfl) ?_
            refine q_if_ne (tgt := 132) hx hb dX12_readClause_85 (by decide) rfl (fun c386 => ?_) (fun c386 => ?_)
            · refine lv_iload_n hx hb dX12_readClause_132 rfl (lv_at hl 2 rfl) ?_
              refine lv_iconst (v := 1) hx hb dX12_readClause_133 (by decide) ?_
              refine q_icmp_ne (Y := 1) (tgt := 170) hx hb dX12_readClause_134 (by decide) rfl rfl (fun c387 => ?_) (fun c387 => ?_)
              · refine lv_aload_n hx hb dX12_readClause_170 rfl (lv_at hl 3 rfl) ?_
                refine fg_RX12_39 E hW rh0 dX12_readClause_171 (fun a388 m389 r390 => ?_)
                obtain rfl : pN = a388 := (((fm_R g375 rh0 rfl).trans ((fm_R g353 rh0 rfl).trans m348))).symm.trans m389
                refine lv_iload_n hx hb dX12_readClause_174 rfl (lv_at hl 1 rfl) ?_
                refine lv_iconst (v := 3) hx hb dX12_readClause_175 (by decide) ?_
                refine q_iadd (Y := 3) hx hb dX12_readClause_176 rfl rfl (by omega) (fun x391 h392 => ?_)
                refine lv_aload_n hx hb dX12_readClause_177 rfl (lv_at hl 3 rfl) ?_
                refine fg_RX12_229 E hW rh0 dX12_readClause_178 (fun y393 m394 b395 => ?_)
                obtain rfl : pF21 = y393 := (((fm_I g375 rh0 rfl).trans ((fm_I g353 rh0 rfl).trans m337))).symm.trans m394
                have hw400 := hW.2.2.2
                refine gs_840 E hW rN ⟨by omega, by omega⟩ dX12_readClause_181 (fun f396 H locs e397 n398 g399 hW => ?_)
                have z401 : DJ f0 f396 h0 pF21.toInt 0 0 0 0 := dj_keep z377 hw400 g399 rh0 rfl (fun q => by rw [fm_I g399 rh0 rfl]; exact q)
                have hF := FM.tr hF g399 rfl
                have q402 : x391.toInt = 8 * pF19.toInt + 3 := by omega
                have q403 : 0 ≤ 8 * pF19.toInt := by omega
                have z404 : ∀ j : Nat, (j : Int) < 8 * pF19.toInt → aI (f396 pN) j = aI (f0 pN) j := pre_st2 z378 e397 q402 q403 (by decide)
                clear z378
                have z405 : aI (f396 pN) (8 * pF19.toInt + 0).toNat = x6 := ent_no2 z379 e397 q402 q403 (by decide)
                have z406 : aI (f396 pN) (8 * pF19.toInt + 1).toNat = 0 := ent_no2 z380 e397 q402 q403 (by decide)
                have z407 : aI (f396 pN) (8 * pF19.toInt + 2).toNat = 0 := ent_no2 z381 e397 q402 q403 (by decide)
                have z408 : aI (f396 pN) (8 * pF19.toInt + 3).toNat = pF21 := ent_st2 e397 q402 q403 (by decide)
                have z409 : aI (f396 pN) (8 * pF19.toInt + 4).toNat = 0 := ent_no2 z383 e397 q402 q403 (by decide)
                have z410 : aI (f396 pN) (8 * pF19.toInt + 5).toNat = 0 := ent_no2 z384 e397 q402 q403 (by decide)
                have z411 : aI (f396 pN) (8 * pF19.toInt + 6).toNat = 0 := ent_no2 z385 e397 q402 q403 (by decide)
                clear q402 q403
                clear z379 z380 z381 z382 z383 z384 z385
                refine lv_iload_n hx hb dX12_readClause_182 rfl (lv_at hl 2 rfl) ?_
                refine lv_iconst (v := 2) hx hb dX12_readClause_183 (by decide) ?_
                refine q_icmp_eq (Y := 2) (tgt := 192) hx hb dX12_readClause_184 (by decide) rfl rfl (fun c412 => ?_) (fun c412 => ?_)
                · exfalso; omega
                · refine lv_iload_n hx hb dX12_readClause_187 rfl (lv_at hl 2 rfl) ?_
                  refine lv_iconst (v := 3) hx hb dX12_readClause_188 (by decide) ?_
                  refine q_icmp_ne (Y := 3) (tgt := 197) hx hb dX12_readClause_189 (by decide) rfl rfl (fun c413 => ?_) (fun c413 => ?_)
                  · refine lv_aload_n hx hb dX12_readClause_197 rfl (lv_at hl 3 rfl) ?_
                    refine fg_RX12_39 E hW rh0 dX12_readClause_198 (fun a414 m415 r416 => ?_)
                    obtain rfl : pN = a414 := (((fm_R g399 rh0 rfl).trans m389)).symm.trans m415
                    refine lv_iload_n hx hb dX12_readClause_201 rfl (lv_at hl 1 rfl) ?_
                    refine lv_iconst (v := 4) hx hb dX12_readClause_202 (by decide) ?_
                    refine q_iadd (Y := 4) hx hb dX12_readClause_203 rfl rfl (by omega) (fun x417 h418 => ?_)
                    refine lv_aload_n hx hb dX12_readClause_204 rfl (lv_at hl 3 rfl) ?_
                    refine fg_RX12_229 E hW rh0 dX12_readClause_205 (fun y419 m420 b421 => ?_)
                    obtain rfl : pF21 = y419 := (((fm_I g399 rh0 rfl).trans m394)).symm.trans m420
                    have hw426 := hW.2.2.2
                    refine gs_840 E hW rN ⟨by omega, by omega⟩ dX12_readClause_208 (fun f422 H locs e423 n424 g425 hW => ?_)
                    have z427 : DJ f0 f422 h0 pF21.toInt 0 0 0 0 := dj_keep z401 hw426 g425 rh0 rfl (fun q => by rw [fm_I g425 rh0 rfl]; exact q)
                    have hF := FM.tr hF g425 rfl
                    have q428 : x417.toInt = 8 * pF19.toInt + 4 := by omega
                    have q429 : 0 ≤ 8 * pF19.toInt := by omega
                    have z430 : ∀ j : Nat, (j : Int) < 8 * pF19.toInt → aI (f422 pN) j = aI (f0 pN) j := pre_st2 z404 e423 q428 q429 (by decide)
                    clear z404
                    have z431 : aI (f422 pN) (8 * pF19.toInt + 0).toNat = x6 := ent_no2 z405 e423 q428 q429 (by decide)
                    have z432 : aI (f422 pN) (8 * pF19.toInt + 1).toNat = 0 := ent_no2 z406 e423 q428 q429 (by decide)
                    have z433 : aI (f422 pN) (8 * pF19.toInt + 2).toNat = 0 := ent_no2 z407 e423 q428 q429 (by decide)
                    have z434 : aI (f422 pN) (8 * pF19.toInt + 3).toNat = pF21 := ent_no2 z408 e423 q428 q429 (by decide)
                    have z435 : aI (f422 pN) (8 * pF19.toInt + 4).toNat = pF21 := ent_st2 e423 q428 q429 (by decide)
                    have z436 : aI (f422 pN) (8 * pF19.toInt + 5).toNat = 0 := ent_no2 z410 e423 q428 q429 (by decide)
                    have z437 : aI (f422 pN) (8 * pF19.toInt + 6).toNat = 0 := ent_no2 z411 e423 q428 q429 (by decide)
                    clear q428 q429
                    clear z405 z406 z407 z408 z409 z410 z411
                    refine lv_aload_n hx hb dX12_readClause_209 rfl (lv_at hl 3 rfl) ?_
                    refine fg_RX12_39 E hW rh0 dX12_readClause_210 (fun a438 m439 r440 => ?_)
                    obtain rfl : pN = a438 := (((fm_R g425 rh0 rfl).trans m415)).symm.trans m439
                    refine lv_iload_n hx hb dX12_readClause_213 rfl (lv_at hl 1 rfl) ?_
                    refine lv_iconst (v := 5) hx hb dX12_readClause_214 (by decide) ?_
                    refine q_iadd (Y := 5) hx hb dX12_readClause_215 rfl rfl (by omega) (fun x441 h442 => ?_)
                    refine lv_aload_n hx hb dX12_readClause_216 rfl (lv_at hl 3 rfl) ?_
                    refine fg_RX12_229 E hW rh0 dX12_readClause_217 (fun y443 m444 b445 => ?_)
                    obtain rfl : pF21 = y443 := (((fm_I g425 rh0 rfl).trans m420)).symm.trans m444
                    have hw450 := hW.2.2.2
                    refine gs_840 E hW rN ⟨by omega, by omega⟩ dX12_readClause_220 (fun f446 H locs e447 n448 g449 hW => ?_)
                    have z451 : DJ f0 f446 h0 pF21.toInt 0 0 0 0 := dj_keep z427 hw450 g449 rh0 rfl (fun q => by rw [fm_I g449 rh0 rfl]; exact q)
                    have hF := FM.tr hF g449 rfl
                    have q452 : x441.toInt = 8 * pF19.toInt + 5 := by omega
                    have q453 : 0 ≤ 8 * pF19.toInt := by omega
                    have z454 : ∀ j : Nat, (j : Int) < 8 * pF19.toInt → aI (f446 pN) j = aI (f0 pN) j := pre_st2 z430 e447 q452 q453 (by decide)
                    clear z430
                    have z455 : aI (f446 pN) (8 * pF19.toInt + 0).toNat = x6 := ent_no2 z431 e447 q452 q453 (by decide)
                    have z456 : aI (f446 pN) (8 * pF19.toInt + 1).toNat = 0 := ent_no2 z432 e447 q452 q453 (by decide)
                    have z457 : aI (f446 pN) (8 * pF19.toInt + 2).toNat = 0 := ent_no2 z433 e447 q452 q453 (by decide)
                    have z458 : aI (f446 pN) (8 * pF19.toInt + 3).toNat = pF21 := ent_no2 z434 e447 q452 q453 (by decide)
                    have z459 : aI (f446 pN) (8 * pF19.toInt + 4).toNat = pF21 := ent_no2 z435 e447 q452 q453 (by decide)
                    have z460 : aI (f446 pN) (8 * pF19.toInt + 5).toNat = pF21 := ent_st2 e447 q452 q453 (by decide)
                    have z461 : aI (f446 pN) (8 * pF19.toInt + 6).toNat = 0 := ent_no2 z437 e447 q452 q453 (by decide)
                    clear q452 q453
                    clear z431 z432 z433 z434 z435 z436 z437
                    refine lv_aload_n hx hb dX12_readClause_221 rfl (lv_at hl 3 rfl) ?_
                    refine fg_RX12_193 E hW rh0 dX12_readClause_222 (fun y462 m463 b464 => ?_)
                    obtain rfl : y28 = y462 := (((fm_I g449 rh0 rfl).trans ((fm_I g425 rh0 rfl).trans ((fm_I g399 rh0 rfl).trans ((fm_I g375 rh0 rfl).trans ((fm_I g353 rh0 rfl).trans m334)))))).symm.trans m463
                    refine q_if_ne (tgt := 247) hx hb dX12_readClause_225 (by decide) rfl (fun c465 => ?_) (fun c465 => ?_)
                    · exfalso; omega
                    · refine lv_aload_n hx hb dX12_readClause_228 rfl (lv_at hl 3 rfl) ?_
                      refine lv_ldc2 (v := 294) hx hb hown (hts _ tw_1904) dX12_readClause_229 ?_
                      have hw469 := hW.2.2.2
                      refine t_callV (As := [.long 294]) (rest := []) E hW (c_X12_isWord l G cI cJ cZ cD cR cT kp L f446 hW.2.2.2 _ h0 294 rh0 (by decide)) rh0 (by decide) rfl wk_X12_isWord tw_1797 rfl ⟨Nat.le_of_ble_eq_true rfl, Nat.le_of_ble_eq_true rfl⟩ ⟨rfl, rfl⟩ hl.1 rfl (Nat.le_of_ble_eq_true rfl) dX12_readClause_232 ⟨Nat.le_of_ble_eq_true rfl, Nat.le_of_ble_eq_true rfl⟩ (fun v466 f467 H locs q468 hW => ?_)
                      obtain ⟨⟨x471, rfl, p472⟩, g470⟩ := q468
                      simp only [((fm_I g449 rh0 rfl).trans ((fm_I g425 rh0 rfl).trans ((fm_I g399 rh0 rfl).trans ((fm_I g375 rh0 rfl).trans ((fm_I g353 rh0 rfl).trans m332))))), ((fm_J g449 rh0 rfl).trans ((fm_J g425 rh0 rfl).trans ((fm_J g399 rh0 rfl).trans ((fm_J g375 rh0 rfl).trans ((fm_J g353 rh0 rfl).trans m333)))))] at p472
                      have p472 : (x471.toInt = 1 ∧ y25.toInt = 1 ∧ y31.toInt = 294) ∨ x471.toInt = 0 := p472
                      have m473 : aI (f467 pN) (x46 : Int32).toNatClampNeg = x6 := ((congrArg (fun z => aI z (x46 : Int32).toNatClampNeg) (fm_A g470 rN (by decide) rfl)).trans (show aI (f446 pN) (x46 : Int32).toNatClampNeg = x6 from by rw [e447, up_n (tn_ne (by omega) (by omega) (by omega))]; exact (show aI (f422 pN) (x46 : Int32).toNatClampNeg = x6 from by rw [e423, up_n (tn_ne (by omega) (by omega) (by omega))]; exact (show aI (f396 pN) (x46 : Int32).toNatClampNeg = x6 from by rw [e397, up_n (tn_ne (by omega) (by omega) (by omega))]; exact ((congrArg (fun z => aI z (x46 : Int32).toNatClampNeg) (fm_A g375 rN (by decide) rfl)).trans (show aI (f350 pN) (x46 : Int32).toNatClampNeg = x6 from by rw [e351]; exact up_s))))))
                      have m474 : aI (f467 pN) (x391 : Int32).toNatClampNeg = pF21 := ((congrArg (fun z => aI z (x391 : Int32).toNatClampNeg) (fm_A g470 rN (by decide) rfl)).trans (show aI (f446 pN) (x391 : Int32).toNatClampNeg = pF21 from by rw [e447, up_n (tn_ne (by omega) (by omega) (by omega))]; exact (show aI (f422 pN) (x391 : Int32).toNatClampNeg = pF21 from by rw [e423, up_n (tn_ne (by omega) (by omega) (by omega))]; exact (show aI (f396 pN) (x391 : Int32).toNatClampNeg = pF21 from by rw [e397]; exact up_s))))
                      have m475 : aI (f467 pN) (x417 : Int32).toNatClampNeg = pF21 := ((congrArg (fun z => aI z (x417 : Int32).toNatClampNeg) (fm_A g470 rN (by decide) rfl)).trans (show aI (f446 pN) (x417 : Int32).toNatClampNeg = pF21 from by rw [e447, up_n (tn_ne (by omega) (by omega) (by omega))]; exact (show aI (f422 pN) (x417 : Int32).toNatClampNeg = pF21 from by rw [e423]; exact up_s)))
                      have m476 : aI (f467 pN) (x441 : Int32).toNatClampNeg = pF21 := ((congrArg (fun z => aI z (x441 : Int32).toNatClampNeg) (fm_A g470 rN (by decide) rfl)).trans (show aI (f446 pN) (x441 : Int32).toNatClampNeg = pF21 from by rw [e447]; exact up_s))
                      have z477 : DJ f0 f467 h0 pF21.toInt 0 0 0 0 := dj_keep z451 hw469 g470 rh0 rfl (fun q => by rw [fm_I g470 rh0 rfl]; exact q)
                      have z478 : ∀ j : Nat, (j : Int) < 8 * pF19.toInt → aI (f467 pN) j = aI (f0 pN) j := by rw [fm_A g470 rN (by decide) rfl]; exact z454
                      clear z454
                      have z479 : aI (f467 pN) (8 * pF19.toInt + 0).toNat = x6 := by rw [fm_A g470 rN (by decide) rfl]; exact z455
                      have z480 : aI (f467 pN) (8 * pF19.toInt + 1).toNat = 0 := by rw [fm_A g470 rN (by decide) rfl]; exact z456
                      have z481 : aI (f467 pN) (8 * pF19.toInt + 2).toNat = 0 := by rw [fm_A g470 rN (by decide) rfl]; exact z457
                      have z482 : aI (f467 pN) (8 * pF19.toInt + 3).toNat = pF21 := by rw [fm_A g470 rN (by decide) rfl]; exact z458
                      have z483 : aI (f467 pN) (8 * pF19.toInt + 4).toNat = pF21 := by rw [fm_A g470 rN (by decide) rfl]; exact z459
                      have z484 : aI (f467 pN) (8 * pF19.toInt + 5).toNat = pF21 := by rw [fm_A g470 rN (by decide) rfl]; exact z460
                      have z485 : aI (f467 pN) (8 * pF19.toInt + 6).toNat = 0 := by rw [fm_A g470 rN (by decide) rfl]; exact z461
                      clear z455 z456 z457 z458 z459 z460 z461
                      have hF := FM.tr hF g470 rfl
                      refine q_if_eq (tgt := 247) hx hb dX12_readClause_235 (by decide) rfl (fun c486 => ?_) (fun c486 => ?_)
                      · clear p472
                        refine lv_aload_n hx hb dX12_readClause_247 rfl (lv_at hl 3 rfl) ?_
                        refine fg_RX12_39 E hW rh0 dX12_readClause_248 (fun a487 m488 r489 => ?_)
                        obtain rfl : pN = a487 := (((fm_R g470 rh0 rfl).trans ((fm_R g449 rh0 rfl).trans m439))).symm.trans m488
                        refine lv_iload_n hx hb dX12_readClause_251 rfl (lv_at hl 1 rfl) ?_
                        refine lv_bipush (v := 6) hx hb dX12_readClause_252 (by decide) ?_
                        refine q_iadd (Y := 6) hx hb dX12_readClause_254 rfl rfl (by omega) (fun x490 h491 => ?_)
                        refine lv_aload_n hx hb dX12_readClause_255 rfl (lv_at hl 3 rfl) ?_
                        refine fg_RX12_229 E hW rh0 dX12_readClause_256 (fun y492 m493 b494 => ?_)
                        obtain rfl : pF21 = y492 := (((fm_I g470 rh0 rfl).trans ((fm_I g449 rh0 rfl).trans m444))).symm.trans m493
                        have hw499 := hW.2.2.2
                        refine gs_840 E hW rN ⟨by omega, by omega⟩ dX12_readClause_259 (fun f495 H locs e496 n497 g498 hW => ?_)
                        have m500 : oR (f495 h0) 2 = pR := ((fm_R g498 rh0 rfl).trans ((fm_R g470 rh0 rfl).trans ((fm_R g449 rh0 rfl).trans ((fm_R g425 rh0 rfl).trans ((fm_R g399 rh0 rfl).trans ((fm_R g375 rh0 rfl).trans ((fm_R g353 rh0 rfl).trans m328)))))))
                        have m501 : oI (f495 h0) 12 = pF12 := ((fm_I g498 rh0 rfl).trans ((fm_I g470 rh0 rfl).trans ((fm_I g449 rh0 rfl).trans ((fm_I g425 rh0 rfl).trans ((fm_I g399 rh0 rfl).trans ((fm_I g375 rh0 rfl).trans ((fm_I g353 rh0 rfl).trans m329)))))))
                        have m502 : oI (f495 h0) 13 = y19 := ((fm_I g498 rh0 rfl).trans ((fm_I g470 rh0 rfl).trans ((fm_I g449 rh0 rfl).trans ((fm_I g425 rh0 rfl).trans ((fm_I g399 rh0 rfl).trans ((fm_I g375 rh0 rfl).trans ((fm_I g353 rh0 rfl).trans m330)))))))
                        have m503 : oI (f495 h0) 14 = y22 := ((fm_I g498 rh0 rfl).trans ((fm_I g470 rh0 rfl).trans ((fm_I g449 rh0 rfl).trans ((fm_I g425 rh0 rfl).trans ((fm_I g399 rh0 rfl).trans ((fm_I g375 rh0 rfl).trans ((fm_I g353 rh0 rfl).trans m331)))))))
                        have m504 : oI (f495 h0) 15 = y25 := ((fm_I g498 rh0 rfl).trans ((fm_I g470 rh0 rfl).trans ((fm_I g449 rh0 rfl).trans ((fm_I g425 rh0 rfl).trans ((fm_I g399 rh0 rfl).trans ((fm_I g375 rh0 rfl).trans ((fm_I g353 rh0 rfl).trans m332)))))))
                        have m505 : oJ (f495 h0) 16 = y31 := ((fm_J g498 rh0 rfl).trans ((fm_J g470 rh0 rfl).trans ((fm_J g449 rh0 rfl).trans ((fm_J g425 rh0 rfl).trans ((fm_J g399 rh0 rfl).trans ((fm_J g375 rh0 rfl).trans ((fm_J g353 rh0 rfl).trans m333)))))))
                        have m506 : oI (f495 h0) 24 = pF24 := ((fm_I g498 rh0 rfl).trans ((fm_I g470 rh0 rfl).trans ((fm_I g449 rh0 rfl).trans ((fm_I g425 rh0 rfl).trans ((fm_I g399 rh0 rfl).trans ((fm_I g375 rh0 rfl).trans ((fm_I g353 rh0 rfl).trans m338)))))))
                        have m507 : oI (f495 h0) 27 = pF27 := ((fm_I g498 rh0 rfl).trans ((fm_I g470 rh0 rfl).trans ((fm_I g449 rh0 rfl).trans ((fm_I g425 rh0 rfl).trans ((fm_I g399 rh0 rfl).trans ((fm_I g375 rh0 rfl).trans ((fm_I g353 rh0 rfl).trans m339)))))))
                        have z508 : DJ f0 f495 h0 pF21.toInt 0 0 0 0 := dj_keep z477 hw499 g498 rh0 rfl (fun q => by rw [fm_I g498 rh0 rfl]; exact q)
                        have hF := FM.tr hF g498 rfl
                        have q509 : x490.toInt = 8 * pF19.toInt + 6 := by omega
                        have q510 : 0 ≤ 8 * pF19.toInt := by omega
                        have z511 : ∀ j : Nat, (j : Int) < 8 * pF19.toInt → aI (f495 pN) j = aI (f0 pN) j := pre_st2 z478 e496 q509 q510 (by decide)
                        clear z478
                        have z512 : aI (f495 pN) (8 * pF19.toInt + 0).toNat = x6 := ent_no2 z479 e496 q509 q510 (by decide)
                        have z513 : aI (f495 pN) (8 * pF19.toInt + 1).toNat = 0 := ent_no2 z480 e496 q509 q510 (by decide)
                        have z514 : aI (f495 pN) (8 * pF19.toInt + 2).toNat = 0 := ent_no2 z481 e496 q509 q510 (by decide)
                        have z515 : aI (f495 pN) (8 * pF19.toInt + 3).toNat = pF21 := ent_no2 z482 e496 q509 q510 (by decide)
                        have z516 : aI (f495 pN) (8 * pF19.toInt + 4).toNat = pF21 := ent_no2 z483 e496 q509 q510 (by decide)
                        have z517 : aI (f495 pN) (8 * pF19.toInt + 5).toNat = pF21 := ent_no2 z484 e496 q509 q510 (by decide)
                        have z518 : aI (f495 pN) (8 * pF19.toInt + 6).toNat = pF21 := ent_st2 e496 q509 q510 (by decide)
                        clear q509 q510
                        clear z479 z480 z481 z482 z483 z484 z485
                        exact e_V E hW rfl ⟨rfl, hF, (by simp only [m501, mF12, m502, mF13, m503, mF14, m504, mF15, ((fm_I g498 rh0 rfl).trans ((fm_I g470 rh0 rfl).trans m463)), mF18, ((fm_I g498 rh0 rfl).trans m493), mF21, m505, mW, and_true, true_and, true_or, or_true, false_or, or_false] <;> omega), (by have hk0 : (0 : Int32).toInt = 0 := rfl; rw [((fm_I g498 rh0 rfl).trans m493), ((fm_I g498 rh0 rfl).trans ((fm_I g470 rh0 rfl).trans ((fm_I g449 rh0 rfl).trans ((fm_I g425 rh0 rfl).trans ((fm_I g399 rh0 rfl).trans e373)))))]; exact cl_end (nc := pF21.toInt) (hd := x6) (r1 := 0) (r2 := 0) (show CLs _ _ _ pF21.toInt pF19.toInt from hC) (by omega) (show DJ f0 f495 h0 pF21.toInt (pF21 : Int32).toInt (pF21 : Int32).toInt (pF21 : Int32).toInt (pF21 : Int32).toInt from (dj_triv2 (dj_triv1 z508))) (fun j hj => by unfold vN; rw [((fm_R g498 rh0 rfl).trans m488), mN]; exact z511 j hj) (by unfold vN; rw [((fm_R g498 rh0 rfl).trans m488)]; exact z512) (by unfold vN; rw [((fm_R g498 rh0 rfl).trans m488)]; exact z513) (by unfold vN; rw [((fm_R g498 rh0 rfl).trans m488)]; exact z514) (by unfold vN; rw [((fm_R g498 rh0 rfl).trans m488)]; exact z515) (by unfold vN; rw [((fm_R g498 rh0 rfl).trans m488)]; exact z516) (by unfold vN; rw [((fm_R g498 rh0 rfl).trans m488)]; exact z517) (by unfold vN; rw [((fm_R g498 rh0 rfl).trans m488)]; exact z518) (by rw [((fm_I g498 rh0 rfl).trans ((fm_I g470 rh0 rfl).trans m463))]; omega) (by omega) (by omega))⟩ dX12_readClause_260
                      · have q519 : y25.toInt = 1 ∧ y31.toInt = 294 := by omega
                        clear p472
                        refine lv_aload_n hx hb dX12_readClause_238 rfl (lv_at hl 3 rfl) ?_
                        have hw523 := hW.2.2.2
                        refine t_callV (As := []) (rest := []) E hW (c_X12_next l G cI cJ cZ cD cR cT kp L f467 hW.2.2.2 _ h0 rh0 (by simp only [((fm_I g470 rh0 rfl).trans ((fm_I g449 rh0 rfl).trans ((fm_I g425 rh0 rfl).trans ((fm_I g399 rh0 rfl).trans ((fm_I g375 rh0 rfl).trans ((fm_I g353 rh0 rfl).trans m329)))))), ((fm_I g470 rh0 rfl).trans ((fm_I g449 rh0 rfl).trans ((fm_I g425 rh0 rfl).trans ((fm_I g399 rh0 rfl).trans ((fm_I g375 rh0 rfl).trans ((fm_I g353 rh0 rfl).trans m331)))))), and_true, true_and, true_or, or_true, false_or, or_false] <;> omega)) rh0 (by decide) rfl wk_X12_next tw_1773 rfl ⟨Nat.le_of_ble_eq_true rfl, Nat.le_of_ble_eq_true rfl⟩ ⟨rfl, rfl⟩ hl.1 rfl (Nat.le_of_ble_eq_true rfl) dX12_readClause_239 ⟨Nat.le_of_ble_eq_true rfl, Nat.le_of_ble_eq_true rfl⟩ (fun v520 f521 H locs q522 hW => ?_)
                        obtain ⟨rfl, g524, h525⟩ := q522
                        have m526 : oR (f521 h0) 2 = pR := ((fm_R g524 rh0 rfl).trans ((fm_R g470 rh0 rfl).trans ((fm_R g449 rh0 rfl).trans ((fm_R g425 rh0 rfl).trans ((fm_R g399 rh0 rfl).trans ((fm_R g375 rh0 rfl).trans ((fm_R g353 rh0 rfl).trans m328)))))))
                        have m527 : oI (f521 h0) 12 = pF12 := ((fm_I g524 rh0 rfl).trans ((fm_I g470 rh0 rfl).trans ((fm_I g449 rh0 rfl).trans ((fm_I g425 rh0 rfl).trans ((fm_I g399 rh0 rfl).trans ((fm_I g375 rh0 rfl).trans ((fm_I g353 rh0 rfl).trans m329)))))))
                        have m528 : oI (f521 h0) 24 = pF24 := ((fm_I g524 rh0 rfl).trans ((fm_I g470 rh0 rfl).trans ((fm_I g449 rh0 rfl).trans ((fm_I g425 rh0 rfl).trans ((fm_I g399 rh0 rfl).trans ((fm_I g375 rh0 rfl).trans ((fm_I g353 rh0 rfl).trans m338)))))))
                        have m529 : oI (f521 h0) 27 = pF27 := ((fm_I g524 rh0 rfl).trans ((fm_I g470 rh0 rfl).trans ((fm_I g449 rh0 rfl).trans ((fm_I g425 rh0 rfl).trans ((fm_I g399 rh0 rfl).trans ((fm_I g375 rh0 rfl).trans ((fm_I g353 rh0 rfl).trans m339)))))))
                        have z530 : DJ f0 f521 h0 pF21.toInt 0 0 0 0 := dj_keep z477 hw523 g524 rh0 rfl (fun q => by rw [fm_I g524 rh0 rfl]; exact q)
                        have z531 : ∀ j : Nat, (j : Int) < 8 * pF19.toInt → aI (f521 pN) j = aI (f0 pN) j := by rw [fm_A g524 rN (by decide) rfl]; exact z478
                        clear z478
                        have z532 : aI (f521 pN) (8 * pF19.toInt + 0).toNat = x6 := by rw [fm_A g524 rN (by decide) rfl]; exact z479
                        have z533 : aI (f521 pN) (8 * pF19.toInt + 1).toNat = 0 := by rw [fm_A g524 rN (by decide) rfl]; exact z480
                        have z534 : aI (f521 pN) (8 * pF19.toInt + 2).toNat = 0 := by rw [fm_A g524 rN (by decide) rfl]; exact z481
                        have z535 : aI (f521 pN) (8 * pF19.toInt + 3).toNat = pF21 := by rw [fm_A g524 rN (by decide) rfl]; exact z482
                        have z536 : aI (f521 pN) (8 * pF19.toInt + 4).toNat = pF21 := by rw [fm_A g524 rN (by decide) rfl]; exact z483
                        have z537 : aI (f521 pN) (8 * pF19.toInt + 5).toNat = pF21 := by rw [fm_A g524 rN (by decide) rfl]; exact z484
                        have z538 : aI (f521 pN) (8 * pF19.toInt + 6).toNat = 0 := by rw [fm_A g524 rN (by decide) rfl]; exact z485
                        clear z479 z480 z481 z482 z483 z484 z485
                        have hF := FM.tr hF g524 rfl
                        obtain ⟨y539, m540⟩ : ∃ x : Int32, oI (f521 h0) 13 = x := ⟨_, rfl⟩
                        have b541 : (0 : Int) ≤ y539.toInt ∧ y539.toInt ≤ 400 := by rw [← m540]; exact th_iv hW rh0 (by decide) (by decide) rfl
                        obtain ⟨y542, m543⟩ : ∃ x : Int32, oI (f521 h0) 14 = x := ⟨_, rfl⟩
                        have b544 : (0 : Int) ≤ y542.toInt ∧ y542.toInt ≤ 400 := by rw [← m543]; exact th_iv hW rh0 (by decide) (by decide) rfl
                        obtain ⟨y545, m546⟩ : ∃ x : Int32, oI (f521 h0) 15 = x := ⟨_, rfl⟩
                        have b547 : (0 : Int) ≤ y545.toInt ∧ y545.toInt ≤ 3 := by rw [← m546]; exact th_iv hW rh0 (by decide) (by decide) rfl
                        obtain ⟨y548, m549⟩ : ∃ x : Int64, oJ (f521 h0) 16 = x := ⟨_, rfl⟩
                        simp only [m527, ((fm_I g470 rh0 rfl).trans ((fm_I g449 rh0 rfl).trans ((fm_I g425 rh0 rfl).trans ((fm_I g399 rh0 rfl).trans ((fm_I g375 rh0 rfl).trans ((fm_I g353 rh0 rfl).trans m329)))))), m540, ((fm_I g470 rh0 rfl).trans ((fm_I g449 rh0 rfl).trans ((fm_I g425 rh0 rfl).trans ((fm_I g399 rh0 rfl).trans ((fm_I g375 rh0 rfl).trans ((fm_I g353 rh0 rfl).trans m330)))))), m543, ((fm_I g470 rh0 rfl).trans ((fm_I g449 rh0 rfl).trans ((fm_I g425 rh0 rfl).trans ((fm_I g399 rh0 rfl).trans ((fm_I g375 rh0 rfl).trans ((fm_I g353 rh0 rfl).trans m331)))))), m546, ((fm_I g470 rh0 rfl).trans ((fm_I g449 rh0 rfl).trans ((fm_I g425 rh0 rfl).trans ((fm_I g399 rh0 rfl).trans ((fm_I g375 rh0 rfl).trans ((fm_I g353 rh0 rfl).trans m332)))))), m549, ((fm_J g470 rh0 rfl).trans ((fm_J g449 rh0 rfl).trans ((fm_J g425 rh0 rfl).trans ((fm_J g399 rh0 rfl).trans ((fm_J g375 rh0 rfl).trans ((fm_J g353 rh0 rfl).trans m333))))))] at h525
                        obtain ⟨q550, q551, q552, q553, q554⟩ := h525
                        clear q36 q37
                        refine lv_aload_n hx hb dX12_readClause_242 rfl (lv_at hl 3 rfl) ?_
                        refine lv_iconst (v := 1) hx hb dX12_readClause_243 (by decide) ?_
                        have hw559 := hW.2.2.2
                        refine t_callV (As := [.int 1]) (rest := []) E hW (c_X12_readExpression l G cI cJ cZ cD cR cT kp L f521 hW.2.2.2 _ h0 1 rh0 (by decide) (by have hkq555 : (1 : Int32).toInt = 1 := rfl; simp only [m527, m540, m543, m546, ((fm_I g524 rh0 rfl).trans ((fm_I g470 rh0 rfl).trans m463)), ((fm_I g524 rh0 rfl).trans ((fm_I g470 rh0 rfl).trans ((fm_I g449 rh0 rfl).trans m444))), m549, and_true, true_and, true_or, or_true, false_or, or_false] <;> omega)) rh0 (by decide) rfl wk_X12_readExpression tw_1819 rfl ⟨Nat.le_of_ble_eq_true rfl, Nat.le_of_ble_eq_true rfl⟩ ⟨rfl, rfl⟩ hl.1 rfl (Nat.le_of_ble_eq_true rfl) dX12_readClause_244 ⟨Nat.le_of_ble_eq_true rfl, Nat.le_of_ble_eq_true rfl⟩ (fun v556 f557 H locs q558 hW => ?_)
                        obtain ⟨rfl, g560, h561, h562⟩ := q558
                        have m563 : aI (f557 pN) (x46 : Int32).toNatClampNeg = x6 := ((congrArg (fun z => aI z (x46 : Int32).toNatClampNeg) (fm_A g560 rN (by decide) rfl)).trans ((congrArg (fun z => aI z (x46 : Int32).toNatClampNeg) (fm_A g524 rN (by decide) rfl)).trans m473))
                        have m564 : aI (f557 pN) (x391 : Int32).toNatClampNeg = pF21 := ((congrArg (fun z => aI z (x391 : Int32).toNatClampNeg) (fm_A g560 rN (by decide) rfl)).trans ((congrArg (fun z => aI z (x391 : Int32).toNatClampNeg) (fm_A g524 rN (by decide) rfl)).trans m474))
                        have m565 : aI (f557 pN) (x417 : Int32).toNatClampNeg = pF21 := ((congrArg (fun z => aI z (x417 : Int32).toNatClampNeg) (fm_A g560 rN (by decide) rfl)).trans ((congrArg (fun z => aI z (x417 : Int32).toNatClampNeg) (fm_A g524 rN (by decide) rfl)).trans m475))
                        have m566 : aI (f557 pN) (x441 : Int32).toNatClampNeg = pF21 := ((congrArg (fun z => aI z (x441 : Int32).toNatClampNeg) (fm_A g560 rN (by decide) rfl)).trans ((congrArg (fun z => aI z (x441 : Int32).toNatClampNeg) (fm_A g524 rN (by decide) rfl)).trans m476))
                        have z567 : ∀ j : Nat, (j : Int) < 8 * pF19.toInt → aI (f557 pN) j = aI (f0 pN) j := by rw [fm_A g560 rN (by decide) rfl]; exact z531
                        clear z531
                        have z568 : aI (f557 pN) (8 * pF19.toInt + 0).toNat = x6 := by rw [fm_A g560 rN (by decide) rfl]; exact z532
                        have z569 : aI (f557 pN) (8 * pF19.toInt + 1).toNat = 0 := by rw [fm_A g560 rN (by decide) rfl]; exact z533
                        have z570 : aI (f557 pN) (8 * pF19.toInt + 2).toNat = 0 := by rw [fm_A g560 rN (by decide) rfl]; exact z534
                        have z571 : aI (f557 pN) (8 * pF19.toInt + 3).toNat = pF21 := by rw [fm_A g560 rN (by decide) rfl]; exact z535
                        have z572 : aI (f557 pN) (8 * pF19.toInt + 4).toNat = pF21 := by rw [fm_A g560 rN (by decide) rfl]; exact z536
                        have z573 : aI (f557 pN) (8 * pF19.toInt + 5).toNat = pF21 := by rw [fm_A g560 rN (by decide) rfl]; exact z537
                        have z574 : aI (f557 pN) (8 * pF19.toInt + 6).toNat = 0 := by rw [fm_A g560 rN (by decide) rfl]; exact z538
                        clear z532 z533 z534 z535 z536 z537 z538
                        have hF := FM.tr hF g560 rfl
                        have hk575 : (1 : Int32).toInt = 1 := rfl
                        obtain ⟨y576, m577⟩ : ∃ x : Int32, oI (f557 h0) 13 = x := ⟨_, rfl⟩
                        have b578 : (0 : Int) ≤ y576.toInt ∧ y576.toInt ≤ 400 := by rw [← m577]; exact th_iv hW rh0 (by decide) (by decide) rfl
                        obtain ⟨y579, m580⟩ : ∃ x : Int32, oI (f557 h0) 14 = x := ⟨_, rfl⟩
                        have b581 : (0 : Int) ≤ y579.toInt ∧ y579.toInt ≤ 400 := by rw [← m580]; exact th_iv hW rh0 (by decide) (by decide) rfl
                        obtain ⟨y582, m583⟩ : ∃ x : Int32, oI (f557 h0) 15 = x := ⟨_, rfl⟩
                        have b584 : (0 : Int) ≤ y582.toInt ∧ y582.toInt ≤ 3 := by rw [← m583]; exact th_iv hW rh0 (by decide) (by decide) rfl
                        obtain ⟨y585, m586⟩ : ∃ x : Int32, oI (f557 h0) 18 = x := ⟨_, rfl⟩
                        have b587 : (0 : Int) ≤ y585.toInt ∧ y585.toInt ≤ 1 := by rw [← m586]; exact th_iv hW rh0 (by decide) (by decide) rfl
                        obtain ⟨y588, m589⟩ : ∃ x : Int32, oI (f557 h0) 21 = x := ⟨_, rfl⟩
                        have b590 : (0 : Int) ≤ y588.toInt ∧ y588.toInt ≤ 400 := by rw [← m589]; exact th_iv hW rh0 (by decide) (by decide) rfl
                        obtain ⟨y591, m592⟩ : ∃ x : Int32, oI (f557 h0) 27 = x := ⟨_, rfl⟩
                        have b593 : (0 : Int) ≤ y591.toInt ∧ y591.toInt ≤ 400 := by rw [← m592]; exact th_iv hW rh0 (by decide) (by decide) rfl
                        obtain ⟨y594, m595⟩ : ∃ x : Int64, oJ (f557 h0) 16 = x := ⟨_, rfl⟩
                        simp only [((fm_I g560 rh0 rfl).trans m527), m527, m577, m540, m580, m543, m583, m546, m586, ((fm_I g524 rh0 rfl).trans ((fm_I g470 rh0 rfl).trans m463)), m589, ((fm_I g524 rh0 rfl).trans ((fm_I g470 rh0 rfl).trans ((fm_I g449 rh0 rfl).trans m444))), m592, m529, m595, m549] at h561
                        obtain ⟨q596, q597, q598, q599, q600, q601⟩ := h561
                        clear q552 q553
                        have z603 := h562
                        rw [((fm_I g524 rh0 rfl).trans ((fm_I g470 rh0 rfl).trans ((fm_I g449 rh0 rfl).trans m444))), m589] at z603
                        have z602 : DJ f0 f557 h0 pF21.toInt 0 0 pF21.toInt y588.toInt := dj_ex2 z530 (by rw [((fm_I g524 rh0 rfl).trans ((fm_I g470 rh0 rfl).trans m463))]; omega) (by omega) (by omega) (by omega) z603
                        refine lv_aload_n hx hb dX12_readClause_247 rfl (lv_at hl 3 rfl) ?_
                        refine fg_RX12_39 E hW rh0 dX12_readClause_248 (fun a604 m605 r606 => ?_)
                        obtain rfl : pN = a604 := (((fm_R g560 rh0 rfl).trans ((fm_R g524 rh0 rfl).trans ((fm_R g470 rh0 rfl).trans ((fm_R g449 rh0 rfl).trans m439))))).symm.trans m605
                        refine lv_iload_n hx hb dX12_readClause_251 rfl (lv_at hl 1 rfl) ?_
                        refine lv_bipush (v := 6) hx hb dX12_readClause_252 (by decide) ?_
                        refine q_iadd (Y := 6) hx hb dX12_readClause_254 rfl rfl (by omega) (fun x607 h608 => ?_)
                        refine lv_aload_n hx hb dX12_readClause_255 rfl (lv_at hl 3 rfl) ?_
                        refine fg_RX12_229 E hW rh0 dX12_readClause_256 (fun y609 m610 b611 => ?_)
                        obtain rfl : y588 = y609 := (m589).symm.trans m610
                        have hw616 := hW.2.2.2
                        refine gs_840 E hW rN ⟨by omega, by omega⟩ dX12_readClause_259 (fun f612 H locs e613 n614 g615 hW => ?_)
                        have m617 : oI (f612 h0) 19 = x370 := ((fm_I g615 rh0 rfl).trans ((fm_I g560 rh0 rfl).trans ((fm_I g524 rh0 rfl).trans ((fm_I g470 rh0 rfl).trans ((fm_I g449 rh0 rfl).trans ((fm_I g425 rh0 rfl).trans ((fm_I g399 rh0 rfl).trans e373)))))))
                        have z618 : DJ f0 f612 h0 pF21.toInt 0 0 pF21.toInt y588.toInt := dj_keep z602 hw616 g615 rh0 rfl (fun q => by rw [fm_I g615 rh0 rfl]; exact q)
                        have hF := FM.tr hF g615 rfl
                        have q619 : x607.toInt = 8 * pF19.toInt + 6 := by omega
                        have q620 : 0 ≤ 8 * pF19.toInt := by omega
                        have z621 : ∀ j : Nat, (j : Int) < 8 * pF19.toInt → aI (f612 pN) j = aI (f0 pN) j := pre_st2 z567 e613 q619 q620 (by decide)
                        clear z567
                        have z622 : aI (f612 pN) (8 * pF19.toInt + 0).toNat = x6 := ent_no2 z568 e613 q619 q620 (by decide)
                        have z623 : aI (f612 pN) (8 * pF19.toInt + 1).toNat = 0 := ent_no2 z569 e613 q619 q620 (by decide)
                        have z624 : aI (f612 pN) (8 * pF19.toInt + 2).toNat = 0 := ent_no2 z570 e613 q619 q620 (by decide)
                        have z625 : aI (f612 pN) (8 * pF19.toInt + 3).toNat = pF21 := ent_no2 z571 e613 q619 q620 (by decide)
                        have z626 : aI (f612 pN) (8 * pF19.toInt + 4).toNat = pF21 := ent_no2 z572 e613 q619 q620 (by decide)
                        have z627 : aI (f612 pN) (8 * pF19.toInt + 5).toNat = pF21 := ent_no2 z573 e613 q619 q620 (by decide)
                        have z628 : aI (f612 pN) (8 * pF19.toInt + 6).toNat = y588 := ent_st2 e613 q619 q620 (by decide)
                        clear q619 q620
                        clear z568 z569 z570 z571 z572 z573 z574
                        exact e_V E hW rfl ⟨rfl, hF, (by simp only [((fm_I g615 rh0 rfl).trans ((fm_I g560 rh0 rfl).trans m527)), mF12, ((fm_I g615 rh0 rfl).trans m577), mF13, ((fm_I g615 rh0 rfl).trans m580), mF14, ((fm_I g615 rh0 rfl).trans m583), mF15, ((fm_I g615 rh0 rfl).trans m586), mF18, ((fm_I g615 rh0 rfl).trans m610), mF21, ((fm_J g615 rh0 rfl).trans m595), mW, and_true, true_and, true_or, or_true, false_or, or_false] <;> omega), (by have hk0 : (0 : Int32).toInt = 0 := rfl; rw [((fm_I g615 rh0 rfl).trans m610), m617]; exact cl_end (nc := y588.toInt) (hd := x6) (r1 := 0) (r2 := 0) (show CLs _ _ _ pF21.toInt pF19.toInt from hC) (by omega) (show DJ f0 f612 h0 pF21.toInt (pF21 : Int32).toInt (pF21 : Int32).toInt (pF21 : Int32).toInt (y588 : Int32).toInt from (dj_triv1 z618)) (fun j hj => by unfold vN; rw [((fm_R g615 rh0 rfl).trans m605), mN]; exact z621 j hj) (by unfold vN; rw [((fm_R g615 rh0 rfl).trans m605)]; exact z622) (by unfold vN; rw [((fm_R g615 rh0 rfl).trans m605)]; exact z623) (by unfold vN; rw [((fm_R g615 rh0 rfl).trans m605)]; exact z624) (by unfold vN; rw [((fm_R g615 rh0 rfl).trans m605)]; exact z625) (by unfold vN; rw [((fm_R g615 rh0 rfl).trans m605)]; exact z626) (by unfold vN; rw [((fm_R g615 rh0 rfl).trans m605)]; exact z627) (by unfold vN; rw [((fm_R g615 rh0 rfl).trans m605)]; exact z628) (by rw [((fm_I g615 rh0 rfl).trans m586)]; omega) (by omega) (by omega))⟩ dX12_readClause_260
                  · exfalso; omega
              · exfalso; omega
            · exfalso; omega
          · refine lv_aload_n hx hb dX12_readClause_52 rfl (lv_at hl 3 rfl) ?_
            refine fg_RX12_39 E hW rh0 dX12_readClause_53 (fun a629 m630 r631 => ?_)
            obtain rfl : pN = a629 := (m336).symm.trans m630
            refine lv_iload_n hx hb dX12_readClause_56 rfl (lv_at hl 1 rfl) ?_
            refine lv_iload_n hx hb dX12_readClause_57 rfl (lv_at hl 0 rfl) ?_
            refine q_iadd hx hb dX12_readClause_58 rfl rfl (by omega) (fun x632 h633 => ?_)
            refine lv_iconst (v := 0) hx hb dX12_readClause_59 (by decide) ?_
            have hw638 := hW.2.2.2
            refine gs_840 E hW rN ⟨by omega, by omega⟩ dX12_readClause_60 (fun f634 H locs e635 n636 g637 hW => ?_)
            have z639 : DJ f0 f634 h0 pF21.toInt 0 0 0 0 := dj_keep v344 hw638 g637 rh0 rfl (fun q => by rw [fm_I g637 rh0 rfl]; exact q)
            have hF := FM.tr hF g637 rfl
            refine q_iinc hx hb dX12_readClause_61 hl (k := 0) rfl rfl rfl (by omega) (by decide) (fun i640 ls h641 hl => ?_)
            have hl : lv_has ls 4 [(3, .int i640), (2, .int x46), (1, .int x6), (0, .ref h0)] := hl
            refine lv_goto (tgt := 46) hx hb dX12_readClause_64 (by decide) ?_
            exact ih46 f634 i640 ((fm_R g637 rh0 rfl).trans m328) ((fm_I g637 rh0 rfl).trans m329) ((fm_I g637 rh0 rfl).trans m330) ((fm_I g637 rh0 rfl).trans m331) ((fm_I g637 rh0 rfl).trans m332) ((fm_J g637 rh0 rfl).trans m333) ((fm_I g637 rh0 rfl).trans m334) ((fm_I g637 rh0 rfl).trans m335) ((fm_R g637 rh0 rfl).trans m630) ((fm_I g637 rh0 rfl).trans m337) ((fm_I g637 rh0 rfl).trans m338) ((fm_I g637 rh0 rfl).trans m339) (by omega) (zr_st v342 e635 (by decide) (by omega) (by omega) (by omega)) (pre_st v343 e635 (by omega)) z639 (by omega) _ _ _ hW hF (lv_sub hl [0, 1, 2, 3] rfl)
      have hk642 : (0 : Int32).toInt = 0 := rfl
      exact L345 9 f12 0 ((fm_R g15 rh0 rfl).trans ((fm_R g5 rh0 rfl).trans mR)) ((fm_I g15 rh0 rfl).trans ((fm_I g5 rh0 rfl).trans mF12)) m20 m23 m26 m32 m40 m44 ((fm_R g15 rh0 rfl).trans ((fm_R g5 rh0 rfl).trans mN)) ((fm_I g15 rh0 rfl).trans ((fm_I g5 rh0 rfl).trans mF21)) ((fm_I g15 rh0 rfl).trans ((fm_I g5 rh0 rfl).trans mF24)) ((fm_I g15 rh0 rfl).trans ((fm_I g5 rh0 rfl).trans mF27)) (by decide) (by have hk : (0 : Int32).toInt = 0 := rfl; rw [hk]; exact zr_0) (fun j _ => by rw [((congrArg aI (fm_A g15 rN (by decide) rfl)).trans ((congrArg aI (fm_A g5 rN (by decide) rfl)).trans rfl))]) z33 (by omega) _ _ _ hW hF (lv_sub hl [0, 1, 2, 3] rfl)
    · exact e_V E hW rfl ⟨rfl, hF, (by simp only [((fm_I g15 rh0 rfl).trans ((fm_I g5 rh0 rfl).trans mF12)), mF12, m20, mF13, m23, mF14, m26, mF15, m40, mF18, ((fm_I g15 rh0 rfl).trans ((fm_I g5 rh0 rfl).trans mF21)), mF21, m32, mW, and_true, true_and, true_or, or_true, false_or, or_false] <;> omega), (Or.inl (by rw [m40]; omega))⟩ dX12_readClause_35
  · refine lv_aload_n hx hb dX12_readClause_11 rfl (lv_at hl 1 rfl) ?_
    refine fg_RX12_356 E hW rh0 dX12_readClause_12 (fun y643 m644 b645 => ?_)
    obtain rfl : pF19 = y643 := (((fm_I g5 rh0 rfl).trans mF19)).symm.trans m644
    refine lv_bipush (v := 12) hx hb dX12_readClause_15 (by decide) ?_
    refine q_icmp_ge (Y := 12) (tgt := 24) hx hb dX12_readClause_17 (by decide) rfl rfl (fun c646 => ?_) (fun c646 => ?_)
    · refine lv_iconst (v := 0) hx hb dX12_readClause_24 (by decide) ?_
      have hw651 := hW.2.2.2
      refine t_callV (As := [.int 0]) (rest := []) E hW (c_X12_must l G cI cJ cZ cD cR cT kp L f2 hW.2.2.2 _ h0 0 rh0 (by decide) (by have hkq647 : (0 : Int32).toInt = 0 := rfl; simp only [((fm_I g5 rh0 rfl).trans mF12), ((fm_I g5 rh0 rfl).trans mF13), ((fm_I g5 rh0 rfl).trans mF14), ((fm_I g5 rh0 rfl).trans mF15), ((fm_J g5 rh0 rfl).trans mW), and_true, true_and, true_or, or_true, false_or, or_false] <;> omega)) rh0 (by decide) rfl wk_X12_must tw_1807 rfl ⟨Nat.le_of_ble_eq_true rfl, Nat.le_of_ble_eq_true rfl⟩ ⟨rfl, rfl⟩ hl.1 rfl (Nat.le_of_ble_eq_true rfl) dX12_readClause_25 ⟨Nat.le_of_ble_eq_true rfl, Nat.le_of_ble_eq_true rfl⟩ (fun v648 f649 H locs q650 hW => ?_)
      obtain ⟨rfl, g652, h653⟩ := q650
      have hF := FM.tr hF g652 rfl
      have hk655 : (0 : Int32).toInt = 0 := rfl
      obtain ⟨y656, m657⟩ : ∃ x : Int32, oI (f649 h0) 13 = x := ⟨_, rfl⟩
      have b658 : (0 : Int) ≤ y656.toInt ∧ y656.toInt ≤ 400 := by rw [← m657]; exact th_iv hW rh0 (by decide) (by decide) rfl
      obtain ⟨y659, m660⟩ : ∃ x : Int32, oI (f649 h0) 14 = x := ⟨_, rfl⟩
      have b661 : (0 : Int) ≤ y659.toInt ∧ y659.toInt ≤ 400 := by rw [← m660]; exact th_iv hW rh0 (by decide) (by decide) rfl
      obtain ⟨y662, m663⟩ : ∃ x : Int32, oI (f649 h0) 15 = x := ⟨_, rfl⟩
      have b664 : (0 : Int) ≤ y662.toInt ∧ y662.toInt ≤ 3 := by rw [← m663]; exact th_iv hW rh0 (by decide) (by decide) rfl
      obtain ⟨y665, m666⟩ : ∃ x : Int32, oI (f649 h0) 18 = x := ⟨_, rfl⟩
      have b667 : (0 : Int) ≤ y665.toInt ∧ y665.toInt ≤ 1 := by rw [← m666]; exact th_iv hW rh0 (by decide) (by decide) rfl
      obtain ⟨y668, m669⟩ : ∃ x : Int64, oJ (f649 h0) 16 = x := ⟨_, rfl⟩
      simp only [((fm_I g652 rh0 rfl).trans ((fm_I g5 rh0 rfl).trans mF12)), ((fm_I g5 rh0 rfl).trans mF12), m657, ((fm_I g5 rh0 rfl).trans mF13), m660, ((fm_I g5 rh0 rfl).trans mF14), m663, ((fm_I g5 rh0 rfl).trans mF15), m666, ((fm_I g5 rh0 rfl).trans mF18), m669, ((fm_J g5 rh0 rfl).trans mW)] at h653
      have z670 : DJ f0 f649 h0 pF21.toInt 0 0 0 0 := dj_keep z8 hw651 g652 rh0 rfl (fun q => by rw [((fm_I g5 rh0 rfl).trans mF18)] at q; rw [m666]; omega)
      obtain ⟨q671, q672, q673, q674, q675⟩ := h653
      refine lv_aload_n hx hb dX12_readClause_28 rfl (lv_at hl 1 rfl) ?_
      refine fg_RX12_193 E hW rh0 dX12_readClause_29 (fun y676 m677 b678 => ?_)
      obtain rfl : y665 = y676 := (m666).symm.trans m677
      refine q_if_eq (tgt := 36) hx hb dX12_readClause_32 (by decide) rfl (fun c679 => ?_) (fun c679 => ?_)
      · refine lv_bipush (v := 8) hx hb dX12_readClause_36 (by decide) ?_
        refine lv_aload_n hx hb dX12_readClause_38 rfl (lv_at hl 1 rfl) ?_
        refine fg_RX12_356 E hW rh0 dX12_readClause_39 (fun y680 m681 b682 => ?_)
        obtain rfl : pF19 = y680 := (((fm_I g652 rh0 rfl).trans m644)).symm.trans m681
        refine q_imul (X := 8) hx hb dX12_readClause_42 rfl rfl (by omega) (fun x683 h684 => ?_)
        refine lv_istore_n (lv' := [(2, .int x683), (1, .int x6), (0, .ref h0)]) hx hb dX12_readClause_43 rfl hl (by decide) rfl (fun ls hl => ?_)
        refine lv_iconst (v := 0) hx hb dX12_readClause_44 (by decide) ?_
        refine lv_istore_n (lv' := [(3, .int 0), (2, .int x683), (1, .int x6), (0, .ref h0)]) hx hb dX12_readClause_45 rfl hl (by decide) rfl (fun ls hl => ?_)
        have L982 : ∀ (n : Nat), ∀ (f964 : Nat → va_E) (y977 : Int32) (m965 : oR (f964 h0) 2 = pR) (m966 : oI (f964 h0) 12 = pF12) (m967 : oI (f964 h0) 13 = y656) (m968 : oI (f964 h0) 14 = y659) (m969 : oI (f964 h0) 15 = y662) (m970 : oJ (f964 h0) 16 = y668) (m971 : oI (f964 h0) 18 = y665) (m972 : oI (f964 h0) 19 = pF19) (m973 : oR (f964 h0) 20 = pN) (m974 : oI (f964 h0) 21 = pF21) (m975 : oI (f964 h0) 24 = pF24) (m976 : oI (f964 h0) 27 = pF27) (b978 : (0 : Int) ≤ y977.toInt ∧ y977.toInt ≤ 8) (v979 : ZR (aI (f964 pN)) (8 * pF19.toInt) y977.toInt) (v980 : ∀ j : Nat, (j : Int) < 8 * pF19.toInt → aI (f964 pN) j = aI (f0 pN) j) (v981 : DJ f0 f964 h0 pF21.toInt 0 0 0 0) (hm : (9 : Int) - y977.toInt ≤ n) (H : Heap) (locs : List Loc) (ls : Array Slot), WS G cI cJ cZ cD cR cT A kp L f964 s H locs → FM kp L ms_X12_readClause f0 f964 → lv_has ls 4 [(3, .int y977), (2, .int x683), (1, .int x6), (0, .ref h0)] → W p l e ({ frames := 8, cells := 0, slots := 0, locals := 189 }) s m ([.ref h0] : List Value).toArray below meth c H locs 0 0 (MQ below (QT (po_X12_readClause kp L f0 h0) G cI cJ cZ cD cR cT A kp L) ([.ref h0] : List Value).toArray s 0 0 A) (F0 m 46 ls []) := by
          intro n
          induction n with
          | zero =>
            intro f964 y977 m965 m966 m967 m968 m969 m970 m971 m972 m973 m974 m975 m976 b978 v979 v980 v981 hm H locs ls hW hF hl
            have hz := i32_b y977
            exfalso; omega
          | succ n ih =>
            intro f964 y977 m965 m966 m967 m968 m969 m970 m971 m972 m973 m974 m975 m976 b978 v979 v980 v981 hm H locs ls hW hF hl
            have ih46 := ih
            refine lv_iload_n hx hb dX12_readClause_46 rfl (lv_at hl 0 rfl) ?_
            refine lv_bipush (v := 8) hx hb dX12_readClause_47 (by decide) ?_
            refine q_icmp_ge (Y := 8) (tgt := 67) hx hb dX12_readClause_49 (by decide) rfl rfl (fun c983 => ?_) (fun c983 => ?_)
            · refine lv_aload_n hx hb dX12_readClause_67 rfl (lv_at hl 3 rfl) ?_
              refine fg_RX12_39 E hW rh0 dX12_readClause_68 (fun a984 m985 r986 => ?_)
              obtain rfl : pN = a984 := (m973).symm.trans m985
              refine lv_iload_n hx hb dX12_readClause_71 rfl (lv_at hl 1 rfl) ?_
              refine lv_iload_n hx hb dX12_readClause_72 rfl (lv_at hl 2 rfl) ?_
              have hw991 := hW.2.2.2
              refine gs_840 E hW rN ⟨by omega, by omega⟩ dX12_readClause_73 (fun f987 H locs e988 n989 g990 hW => ?_)
              have z992 : DJ f0 f987 h0 pF21.toInt 0 0 0 0 := dj_keep v981 hw991 g990 rh0 rfl (fun q => by rw [fm_I g990 rh0 rfl]; exact q)
              have hF := FM.tr hF g990 rfl
              have q993 : x683.toInt = 8 * pF19.toInt + 0 := by omega
              have q994 : 0 ≤ 8 * pF19.toInt := by omega
              have z995 : ∀ j : Nat, (j : Int) < 8 * pF19.toInt → aI (f987 pN) j = aI (f0 pN) j := pre_st2 v980 e988 q993 q994 (by decide)
              have z996 : ZR _ (8 * pF19.toInt) 8 := (by have q : y977.toInt = 8 := (by omega); have z := v979; rw [q] at z; exact z)
              have z997 : aI (f987 pN) (8 * pF19.toInt + 0).toNat = x6 := ent_st2 e988 q993 q994 (by decide)
              have z998 : aI (f987 pN) (8 * pF19.toInt + 1).toNat = 0 := ent_no2 (ent_z2 z996 (by decide)) e988 q993 q994 (by decide)
              have z999 : aI (f987 pN) (8 * pF19.toInt + 2).toNat = 0 := ent_no2 (ent_z2 z996 (by decide)) e988 q993 q994 (by decide)
              have z1000 : aI (f987 pN) (8 * pF19.toInt + 3).toNat = 0 := ent_no2 (ent_z2 z996 (by decide)) e988 q993 q994 (by decide)
              have z1001 : aI (f987 pN) (8 * pF19.toInt + 4).toNat = 0 := ent_no2 (ent_z2 z996 (by decide)) e988 q993 q994 (by decide)
              have z1002 : aI (f987 pN) (8 * pF19.toInt + 5).toNat = 0 := ent_no2 (ent_z2 z996 (by decide)) e988 q993 q994 (by decide)
              have z1003 : aI (f987 pN) (8 * pF19.toInt + 6).toNat = 0 := ent_no2 (ent_z2 z996 (by decide)) e988 q993 q994 (by decide)
              clear q993 q994
              refine lv_aload_n hx hb dX12_readClause_74 rfl (lv_at hl 3 rfl) ?_
              refine lv_dup hx hb dX12_readClause_75 rfl ?_
              refine fg_RX12_356 E hW rh0 dX12_readClause_76 (fun y1004 m1005 b1006 => ?_)
              obtain rfl : pF19 = y1004 := (((fm_I g990 rh0 rfl).trans m972)).symm.trans m1005
              refine lv_iconst (v := 1) hx hb dX12_readClause_79 (by decide) ?_
              refine q_iadd (Y := 1) hx hb dX12_readClause_80 rfl rfl (by omega) (fun x1007 h1008 => ?_)
              have hw1013 := hW.2.2.2
              refine fp_RX12_356 E hW rh0 (by omega) dX12_readClause_81 (fun f1009 H locs e1010 n1011 g1012 hW => ?_)
              have z1014 : DJ f0 f1009 h0 pF21.toInt 0 0 0 0 := dj_keep z992 hw1013 g1012 rh0 rfl (fun q => by rw [fm_I g1012 rh0 rfl]; exact q)
              have z1015 : ∀ j : Nat, (j : Int) < 8 * pF19.toInt → aI (f1009 pN) j = aI (f0 pN) j := by rw [fm_A g1012 rN (by decide) rfl]; exact z995
              clear z995
              have z1016 : aI (f1009 pN) (8 * pF19.toInt + 0).toNat = x6 := by rw [fm_A g1012 rN (by decide) rfl]; exact z997
              have z1017 : aI (f1009 pN) (8 * pF19.toInt + 1).toNat = 0 := by rw [fm_A g1012 rN (by decide) rfl]; exact z998
              have z1018 : aI (f1009 pN) (8 * pF19.toInt + 2).toNat = 0 := by rw [fm_A g1012 rN (by decide) rfl]; exact z999
              have z1019 : aI (f1009 pN) (8 * pF19.toInt + 3).toNat = 0 := by rw [fm_A g1012 rN (by decide) rfl]; exact z1000
              have z1020 : aI (f1009 pN) (8 * pF19.toInt + 4).toNat = 0 := by rw [fm_A g1012 rN (by decide) rfl]; exact z1001
              have z1021 : aI (f1009 pN) (8 * pF19.toInt + 5).toNat = 0 := by rw [fm_A g1012 rN (by decide) rfl]; exact z1002
              have z1022 : aI (f1009 pN) (8 * pF19.toInt + 6).toNat = 0 := by rw [fm_A g1012 rN (by decide) rfl]; exact z1003
              clear z997 z998 z999 z1000 z1001 z1002 z1003
              have hF := FM.tr hF g1012 rfl
              refine lv_iload_n hx hb dX12_readClause_84 rfl (lv_at hl 2 rfl) ?_
              refine q_if_ne (tgt := 132) hx hb dX12_readClause_85 (by decide) rfl (fun c1023 => ?_) (fun c1023 => ?_)
              · refine lv_iload_n hx hb dX12_readClause_132 rfl (lv_at hl 2 rfl) ?_
                refine lv_iconst (v := 1) hx hb dX12_readClause_133 (by decide) ?_
                refine q_icmp_ne (Y := 1) (tgt := 170) hx hb dX12_readClause_134 (by decide) rfl rfl (fun c1024 => ?_) (fun c1024 => ?_)
                · refine lv_aload_n hx hb dX12_readClause_170 rfl (lv_at hl 3 rfl) ?_
                  refine fg_RX12_39 E hW rh0 dX12_readClause_171 (fun a1025 m1026 r1027 => ?_)
                  obtain rfl : pN = a1025 := (((fm_R g1012 rh0 rfl).trans ((fm_R g990 rh0 rfl).trans m985))).symm.trans m1026
                  refine lv_iload_n hx hb dX12_readClause_174 rfl (lv_at hl 1 rfl) ?_
                  refine lv_iconst (v := 3) hx hb dX12_readClause_175 (by decide) ?_
                  refine q_iadd (Y := 3) hx hb dX12_readClause_176 rfl rfl (by omega) (fun x1028 h1029 => ?_)
                  refine lv_aload_n hx hb dX12_readClause_177 rfl (lv_at hl 3 rfl) ?_
                  refine fg_RX12_229 E hW rh0 dX12_readClause_178 (fun y1030 m1031 b1032 => ?_)
                  obtain rfl : pF21 = y1030 := (((fm_I g1012 rh0 rfl).trans ((fm_I g990 rh0 rfl).trans m974))).symm.trans m1031
                  have hw1037 := hW.2.2.2
                  refine gs_840 E hW rN ⟨by omega, by omega⟩ dX12_readClause_181 (fun f1033 H locs e1034 n1035 g1036 hW => ?_)
                  have z1038 : DJ f0 f1033 h0 pF21.toInt 0 0 0 0 := dj_keep z1014 hw1037 g1036 rh0 rfl (fun q => by rw [fm_I g1036 rh0 rfl]; exact q)
                  have hF := FM.tr hF g1036 rfl
                  have q1039 : x1028.toInt = 8 * pF19.toInt + 3 := by omega
                  have q1040 : 0 ≤ 8 * pF19.toInt := by omega
                  have z1041 : ∀ j : Nat, (j : Int) < 8 * pF19.toInt → aI (f1033 pN) j = aI (f0 pN) j := pre_st2 z1015 e1034 q1039 q1040 (by decide)
                  clear z1015
                  have z1042 : aI (f1033 pN) (8 * pF19.toInt + 0).toNat = x6 := ent_no2 z1016 e1034 q1039 q1040 (by decide)
                  have z1043 : aI (f1033 pN) (8 * pF19.toInt + 1).toNat = 0 := ent_no2 z1017 e1034 q1039 q1040 (by decide)
                  have z1044 : aI (f1033 pN) (8 * pF19.toInt + 2).toNat = 0 := ent_no2 z1018 e1034 q1039 q1040 (by decide)
                  have z1045 : aI (f1033 pN) (8 * pF19.toInt + 3).toNat = pF21 := ent_st2 e1034 q1039 q1040 (by decide)
                  have z1046 : aI (f1033 pN) (8 * pF19.toInt + 4).toNat = 0 := ent_no2 z1020 e1034 q1039 q1040 (by decide)
                  have z1047 : aI (f1033 pN) (8 * pF19.toInt + 5).toNat = 0 := ent_no2 z1021 e1034 q1039 q1040 (by decide)
                  have z1048 : aI (f1033 pN) (8 * pF19.toInt + 6).toNat = 0 := ent_no2 z1022 e1034 q1039 q1040 (by decide)
                  clear q1039 q1040
                  clear z1016 z1017 z1018 z1019 z1020 z1021 z1022
                  refine lv_iload_n hx hb dX12_readClause_182 rfl (lv_at hl 2 rfl) ?_
                  refine lv_iconst (v := 2) hx hb dX12_readClause_183 (by decide) ?_
                  refine q_icmp_eq (Y := 2) (tgt := 192) hx hb dX12_readClause_184 (by decide) rfl rfl (fun c1049 => ?_) (fun c1049 => ?_)
                  · refine lv_aload_n hx hb dX12_readClause_192 rfl (lv_at hl 3 rfl) ?_
                    refine lv_iconst (v := 0) hx hb dX12_readClause_193 (by decide) ?_
                    have hw1054 := hW.2.2.2
                    refine t_callV (As := [.int 0]) (rest := []) E hW (c_X12_readExpression l G cI cJ cZ cD cR cT kp L f1033 hW.2.2.2 _ h0 0 rh0 (by decide) (by have hkq1050 : (0 : Int32).toInt = 0 := rfl; simp only [((fm_I g1036 rh0 rfl).trans ((fm_I g1012 rh0 rfl).trans ((fm_I g990 rh0 rfl).trans m966))), ((fm_I g1036 rh0 rfl).trans ((fm_I g1012 rh0 rfl).trans ((fm_I g990 rh0 rfl).trans m967))), ((fm_I g1036 rh0 rfl).trans ((fm_I g1012 rh0 rfl).trans ((fm_I g990 rh0 rfl).trans m968))), ((fm_I g1036 rh0 rfl).trans ((fm_I g1012 rh0 rfl).trans ((fm_I g990 rh0 rfl).trans m969))), ((fm_I g1036 rh0 rfl).trans ((fm_I g1012 rh0 rfl).trans ((fm_I g990 rh0 rfl).trans m971))), ((fm_I g1036 rh0 rfl).trans m1031), ((fm_J g1036 rh0 rfl).trans ((fm_J g1012 rh0 rfl).trans ((fm_J g990 rh0 rfl).trans m970))), and_true, true_and, true_or, or_true, false_or, or_false] <;> omega)) rh0 (by decide) rfl wk_X12_readExpression tw_1819 rfl ⟨Nat.le_of_ble_eq_true rfl, Nat.le_of_ble_eq_true rfl⟩ ⟨rfl, rfl⟩ hl.1 rfl (Nat.le_of_ble_eq_true rfl) dX12_readClause_194 ⟨Nat.le_of_ble_eq_true rfl, Nat.le_of_ble_eq_true rfl⟩ (fun v1051 f1052 H locs q1053 hW => ?_)
                    obtain ⟨rfl, g1055, h1056, h1057⟩ := q1053
                    have m1058 : aI (f1052 pN) (x683 : Int32).toNatClampNeg = x6 := ((congrArg (fun z => aI z (x683 : Int32).toNatClampNeg) (fm_A g1055 rN (by decide) rfl)).trans (show aI (f1033 pN) (x683 : Int32).toNatClampNeg = x6 from by rw [e1034, up_n (tn_ne (by omega) (by omega) (by omega))]; exact ((congrArg (fun z => aI z (x683 : Int32).toNatClampNeg) (fm_A g1012 rN (by decide) rfl)).trans (show aI (f987 pN) (x683 : Int32).toNatClampNeg = x6 from by rw [e988]; exact up_s))))
                    have m1059 : aI (f1052 pN) (x1028 : Int32).toNatClampNeg = pF21 := ((congrArg (fun z => aI z (x1028 : Int32).toNatClampNeg) (fm_A g1055 rN (by decide) rfl)).trans (show aI (f1033 pN) (x1028 : Int32).toNatClampNeg = pF21 from by rw [e1034]; exact up_s))
                    have z1060 : ∀ j : Nat, (j : Int) < 8 * pF19.toInt → aI (f1052 pN) j = aI (f0 pN) j := by rw [fm_A g1055 rN (by decide) rfl]; exact z1041
                    clear z1041
                    have z1061 : aI (f1052 pN) (8 * pF19.toInt + 0).toNat = x6 := by rw [fm_A g1055 rN (by decide) rfl]; exact z1042
                    have z1062 : aI (f1052 pN) (8 * pF19.toInt + 1).toNat = 0 := by rw [fm_A g1055 rN (by decide) rfl]; exact z1043
                    have z1063 : aI (f1052 pN) (8 * pF19.toInt + 2).toNat = 0 := by rw [fm_A g1055 rN (by decide) rfl]; exact z1044
                    have z1064 : aI (f1052 pN) (8 * pF19.toInt + 3).toNat = pF21 := by rw [fm_A g1055 rN (by decide) rfl]; exact z1045
                    have z1065 : aI (f1052 pN) (8 * pF19.toInt + 4).toNat = 0 := by rw [fm_A g1055 rN (by decide) rfl]; exact z1046
                    have z1066 : aI (f1052 pN) (8 * pF19.toInt + 5).toNat = 0 := by rw [fm_A g1055 rN (by decide) rfl]; exact z1047
                    have z1067 : aI (f1052 pN) (8 * pF19.toInt + 6).toNat = 0 := by rw [fm_A g1055 rN (by decide) rfl]; exact z1048
                    clear z1042 z1043 z1044 z1045 z1046 z1047 z1048
                    have hF := FM.tr hF g1055 rfl
                    have hk1068 : (0 : Int32).toInt = 0 := rfl
                    obtain ⟨y1069, m1070⟩ : ∃ x : Int32, oI (f1052 h0) 13 = x := ⟨_, rfl⟩
                    have b1071 : (0 : Int) ≤ y1069.toInt ∧ y1069.toInt ≤ 400 := by rw [← m1070]; exact th_iv hW rh0 (by decide) (by decide) rfl
                    obtain ⟨y1072, m1073⟩ : ∃ x : Int32, oI (f1052 h0) 14 = x := ⟨_, rfl⟩
                    have b1074 : (0 : Int) ≤ y1072.toInt ∧ y1072.toInt ≤ 400 := by rw [← m1073]; exact th_iv hW rh0 (by decide) (by decide) rfl
                    obtain ⟨y1075, m1076⟩ : ∃ x : Int32, oI (f1052 h0) 15 = x := ⟨_, rfl⟩
                    have b1077 : (0 : Int) ≤ y1075.toInt ∧ y1075.toInt ≤ 3 := by rw [← m1076]; exact th_iv hW rh0 (by decide) (by decide) rfl
                    obtain ⟨y1078, m1079⟩ : ∃ x : Int32, oI (f1052 h0) 18 = x := ⟨_, rfl⟩
                    have b1080 : (0 : Int) ≤ y1078.toInt ∧ y1078.toInt ≤ 1 := by rw [← m1079]; exact th_iv hW rh0 (by decide) (by decide) rfl
                    obtain ⟨y1081, m1082⟩ : ∃ x : Int32, oI (f1052 h0) 21 = x := ⟨_, rfl⟩
                    have b1083 : (0 : Int) ≤ y1081.toInt ∧ y1081.toInt ≤ 400 := by rw [← m1082]; exact th_iv hW rh0 (by decide) (by decide) rfl
                    obtain ⟨y1084, m1085⟩ : ∃ x : Int32, oI (f1052 h0) 27 = x := ⟨_, rfl⟩
                    have b1086 : (0 : Int) ≤ y1084.toInt ∧ y1084.toInt ≤ 400 := by rw [← m1085]; exact th_iv hW rh0 (by decide) (by decide) rfl
                    obtain ⟨y1087, m1088⟩ : ∃ x : Int64, oJ (f1052 h0) 16 = x := ⟨_, rfl⟩
                    simp only [((fm_I g1055 rh0 rfl).trans ((fm_I g1036 rh0 rfl).trans ((fm_I g1012 rh0 rfl).trans ((fm_I g990 rh0 rfl).trans m966)))), ((fm_I g1036 rh0 rfl).trans ((fm_I g1012 rh0 rfl).trans ((fm_I g990 rh0 rfl).trans m966))), m1070, ((fm_I g1036 rh0 rfl).trans ((fm_I g1012 rh0 rfl).trans ((fm_I g990 rh0 rfl).trans m967))), m1073, ((fm_I g1036 rh0 rfl).trans ((fm_I g1012 rh0 rfl).trans ((fm_I g990 rh0 rfl).trans m968))), m1076, ((fm_I g1036 rh0 rfl).trans ((fm_I g1012 rh0 rfl).trans ((fm_I g990 rh0 rfl).trans m969))), m1079, ((fm_I g1036 rh0 rfl).trans ((fm_I g1012 rh0 rfl).trans ((fm_I g990 rh0 rfl).trans m971))), m1082, ((fm_I g1036 rh0 rfl).trans m1031), m1085, ((fm_I g1036 rh0 rfl).trans ((fm_I g1012 rh0 rfl).trans ((fm_I g990 rh0 rfl).trans m976))), m1088, ((fm_J g1036 rh0 rfl).trans ((fm_J g1012 rh0 rfl).trans ((fm_J g990 rh0 rfl).trans m970)))] at h1056
                    obtain ⟨q1089, q1090, q1091, q1092, q1093, q1094⟩ := h1056
                    clear q673 q674
                    have z1096 := h1057
                    rw [((fm_I g1036 rh0 rfl).trans m1031), m1082] at z1096
                    have z1095 : DJ f0 f1052 h0 pF21.toInt pF21.toInt y1081.toInt y1081.toInt y1081.toInt := dj_ex1 z1038 (by rw [((fm_I g1036 rh0 rfl).trans ((fm_I g1012 rh0 rfl).trans ((fm_I g990 rh0 rfl).trans m971)))]; omega) (by omega) z1096
                    refine lv_aload_n hx hb dX12_readClause_197 rfl (lv_at hl 3 rfl) ?_
                    refine fg_RX12_39 E hW rh0 dX12_readClause_198 (fun a1097 m1098 r1099 => ?_)
                    obtain rfl : pN = a1097 := (((fm_R g1055 rh0 rfl).trans ((fm_R g1036 rh0 rfl).trans m1026))).symm.trans m1098
                    refine lv_iload_n hx hb dX12_readClause_201 rfl (lv_at hl 1 rfl) ?_
                    refine lv_iconst (v := 4) hx hb dX12_readClause_202 (by decide) ?_
                    refine q_iadd (Y := 4) hx hb dX12_readClause_203 rfl rfl (by omega) (fun x1100 h1101 => ?_)
                    refine lv_aload_n hx hb dX12_readClause_204 rfl (lv_at hl 3 rfl) ?_
                    refine fg_RX12_229 E hW rh0 dX12_readClause_205 (fun y1102 m1103 b1104 => ?_)
                    obtain rfl : y1081 = y1102 := (m1082).symm.trans m1103
                    have hw1109 := hW.2.2.2
                    refine gs_840 E hW rN ⟨by omega, by omega⟩ dX12_readClause_208 (fun f1105 H locs e1106 n1107 g1108 hW => ?_)
                    have z1110 : DJ f0 f1105 h0 pF21.toInt pF21.toInt y1081.toInt y1081.toInt y1081.toInt := dj_keep z1095 hw1109 g1108 rh0 rfl (fun q => by rw [fm_I g1108 rh0 rfl]; exact q)
                    have hF := FM.tr hF g1108 rfl
                    have q1111 : x1100.toInt = 8 * pF19.toInt + 4 := by omega
                    have q1112 : 0 ≤ 8 * pF19.toInt := by omega
                    have z1113 : ∀ j : Nat, (j : Int) < 8 * pF19.toInt → aI (f1105 pN) j = aI (f0 pN) j := pre_st2 z1060 e1106 q1111 q1112 (by decide)
                    clear z1060
                    have z1114 : aI (f1105 pN) (8 * pF19.toInt + 0).toNat = x6 := ent_no2 z1061 e1106 q1111 q1112 (by decide)
                    have z1115 : aI (f1105 pN) (8 * pF19.toInt + 1).toNat = 0 := ent_no2 z1062 e1106 q1111 q1112 (by decide)
                    have z1116 : aI (f1105 pN) (8 * pF19.toInt + 2).toNat = 0 := ent_no2 z1063 e1106 q1111 q1112 (by decide)
                    have z1117 : aI (f1105 pN) (8 * pF19.toInt + 3).toNat = pF21 := ent_no2 z1064 e1106 q1111 q1112 (by decide)
                    have z1118 : aI (f1105 pN) (8 * pF19.toInt + 4).toNat = y1081 := ent_st2 e1106 q1111 q1112 (by decide)
                    have z1119 : aI (f1105 pN) (8 * pF19.toInt + 5).toNat = 0 := ent_no2 z1066 e1106 q1111 q1112 (by decide)
                    have z1120 : aI (f1105 pN) (8 * pF19.toInt + 6).toNat = 0 := ent_no2 z1067 e1106 q1111 q1112 (by decide)
                    clear q1111 q1112
                    clear z1061 z1062 z1063 z1064 z1065 z1066 z1067
                    refine lv_aload_n hx hb dX12_readClause_209 rfl (lv_at hl 3 rfl) ?_
                    refine fg_RX12_39 E hW rh0 dX12_readClause_210 (fun a1121 m1122 r1123 => ?_)
                    obtain rfl : pN = a1121 := (((fm_R g1108 rh0 rfl).trans m1098)).symm.trans m1122
                    refine lv_iload_n hx hb dX12_readClause_213 rfl (lv_at hl 1 rfl) ?_
                    refine lv_iconst (v := 5) hx hb dX12_readClause_214 (by decide) ?_
                    refine q_iadd (Y := 5) hx hb dX12_readClause_215 rfl rfl (by omega) (fun x1124 h1125 => ?_)
                    refine lv_aload_n hx hb dX12_readClause_216 rfl (lv_at hl 3 rfl) ?_
                    refine fg_RX12_229 E hW rh0 dX12_readClause_217 (fun y1126 m1127 b1128 => ?_)
                    obtain rfl : y1081 = y1126 := (((fm_I g1108 rh0 rfl).trans m1103)).symm.trans m1127
                    have hw1133 := hW.2.2.2
                    refine gs_840 E hW rN ⟨by omega, by omega⟩ dX12_readClause_220 (fun f1129 H locs e1130 n1131 g1132 hW => ?_)
                    have z1134 : DJ f0 f1129 h0 pF21.toInt pF21.toInt y1081.toInt y1081.toInt y1081.toInt := dj_keep z1110 hw1133 g1132 rh0 rfl (fun q => by rw [fm_I g1132 rh0 rfl]; exact q)
                    have hF := FM.tr hF g1132 rfl
                    have q1135 : x1124.toInt = 8 * pF19.toInt + 5 := by omega
                    have q1136 : 0 ≤ 8 * pF19.toInt := by omega
                    have z1137 : ∀ j : Nat, (j : Int) < 8 * pF19.toInt → aI (f1129 pN) j = aI (f0 pN) j := pre_st2 z1113 e1130 q1135 q1136 (by decide)
                    clear z1113
                    have z1138 : aI (f1129 pN) (8 * pF19.toInt + 0).toNat = x6 := ent_no2 z1114 e1130 q1135 q1136 (by decide)
                    have z1139 : aI (f1129 pN) (8 * pF19.toInt + 1).toNat = 0 := ent_no2 z1115 e1130 q1135 q1136 (by decide)
                    have z1140 : aI (f1129 pN) (8 * pF19.toInt + 2).toNat = 0 := ent_no2 z1116 e1130 q1135 q1136 (by decide)
                    have z1141 : aI (f1129 pN) (8 * pF19.toInt + 3).toNat = pF21 := ent_no2 z1117 e1130 q1135 q1136 (by decide)
                    have z1142 : aI (f1129 pN) (8 * pF19.toInt + 4).toNat = y1081 := ent_no2 z1118 e1130 q1135 q1136 (by decide)
                    have z1143 : aI (f1129 pN) (8 * pF19.toInt + 5).toNat = y1081 := ent_st2 e1130 q1135 q1136 (by decide)
                    have z1144 : aI (f1129 pN) (8 * pF19.toInt + 6).toNat = 0 := ent_no2 z1120 e1130 q1135 q1136 (by decide)
                    clear q1135 q1136
                    clear z1114 z1115 z1116 z1117 z1118 z1119 z1120
                    refine lv_aload_n hx hb dX12_readClause_221 rfl (lv_at hl 3 rfl) ?_
                    refine fg_RX12_193 E hW rh0 dX12_readClause_222 (fun y1145 m1146 b1147 => ?_)
                    obtain rfl : y1078 = y1145 := (((fm_I g1132 rh0 rfl).trans ((fm_I g1108 rh0 rfl).trans m1079))).symm.trans m1146
                    refine q_if_ne (tgt := 247) hx hb dX12_readClause_225 (by decide) rfl (fun c1148 => ?_) (fun c1148 => ?_)
                    · refine lv_aload_n hx hb dX12_readClause_247 rfl (lv_at hl 3 rfl) ?_
                      refine fg_RX12_39 E hW rh0 dX12_readClause_248 (fun a1149 m1150 r1151 => ?_)
                      obtain rfl : pN = a1149 := (((fm_R g1132 rh0 rfl).trans m1122)).symm.trans m1150
                      refine lv_iload_n hx hb dX12_readClause_251 rfl (lv_at hl 1 rfl) ?_
                      refine lv_bipush (v := 6) hx hb dX12_readClause_252 (by decide) ?_
                      refine q_iadd (Y := 6) hx hb dX12_readClause_254 rfl rfl (by omega) (fun x1152 h1153 => ?_)
                      refine lv_aload_n hx hb dX12_readClause_255 rfl (lv_at hl 3 rfl) ?_
                      refine fg_RX12_229 E hW rh0 dX12_readClause_256 (fun y1154 m1155 b1156 => ?_)
                      obtain rfl : y1081 = y1154 := (((fm_I g1132 rh0 rfl).trans m1127)).symm.trans m1155
                      have hw1161 := hW.2.2.2
                      refine gs_840 E hW rN ⟨by omega, by omega⟩ dX12_readClause_259 (fun f1157 H locs e1158 n1159 g1160 hW => ?_)
                      have m1162 : oR (f1157 h0) 2 = pR := ((fm_R g1160 rh0 rfl).trans ((fm_R g1132 rh0 rfl).trans ((fm_R g1108 rh0 rfl).trans ((fm_R g1055 rh0 rfl).trans ((fm_R g1036 rh0 rfl).trans ((fm_R g1012 rh0 rfl).trans ((fm_R g990 rh0 rfl).trans m965)))))))
                      have m1163 : oI (f1157 h0) 12 = pF12 := ((fm_I g1160 rh0 rfl).trans ((fm_I g1132 rh0 rfl).trans ((fm_I g1108 rh0 rfl).trans ((fm_I g1055 rh0 rfl).trans ((fm_I g1036 rh0 rfl).trans ((fm_I g1012 rh0 rfl).trans ((fm_I g990 rh0 rfl).trans m966)))))))
                      have z1164 : DJ f0 f1157 h0 pF21.toInt pF21.toInt y1081.toInt y1081.toInt y1081.toInt := dj_keep z1134 hw1161 g1160 rh0 rfl (fun q => by rw [fm_I g1160 rh0 rfl]; exact q)
                      have hF := FM.tr hF g1160 rfl
                      have q1165 : x1152.toInt = 8 * pF19.toInt + 6 := by omega
                      have q1166 : 0 ≤ 8 * pF19.toInt := by omega
                      have z1167 : ∀ j : Nat, (j : Int) < 8 * pF19.toInt → aI (f1157 pN) j = aI (f0 pN) j := pre_st2 z1137 e1158 q1165 q1166 (by decide)
                      clear z1137
                      have z1168 : aI (f1157 pN) (8 * pF19.toInt + 0).toNat = x6 := ent_no2 z1138 e1158 q1165 q1166 (by decide)
                      have z1169 : aI (f1157 pN) (8 * pF19.toInt + 1).toNat = 0 := ent_no2 z1139 e1158 q1165 q1166 (by decide)
                      have z1170 : aI (f1157 pN) (8 * pF19.toInt + 2).toNat = 0 := ent_no2 z1140 e1158 q1165 q1166 (by decide)
                      have z1171 : aI (f1157 pN) (8 * pF19.toInt + 3).toNat = pF21 := ent_no2 z1141 e1158 q1165 q1166 (by decide)
                      have z1172 : aI (f1157 pN) (8 * pF19.toInt + 4).toNat = y1081 := ent_no2 z1142 e1158 q1165 q1166 (by decide)
                      have z1173 : aI (f1157 pN) (8 * pF19.toInt + 5).toNat = y1081 := ent_no2 z1143 e1158 q1165 q1166 (by decide)
                      have z1174 : aI (f1157 pN) (8 * pF19.toInt + 6).toNat = y1081 := ent_st2 e1158 q1165 q1166 (by decide)
                      clear q1165 q1166
                      clear z1138 z1139 z1140 z1141 z1142 z1143 z1144
                      exact e_V E hW rfl ⟨rfl, hF, (by simp only [m1163, mF12, ((fm_I g1160 rh0 rfl).trans ((fm_I g1132 rh0 rfl).trans ((fm_I g1108 rh0 rfl).trans m1070))), mF13, ((fm_I g1160 rh0 rfl).trans ((fm_I g1132 rh0 rfl).trans ((fm_I g1108 rh0 rfl).trans m1073))), mF14, ((fm_I g1160 rh0 rfl).trans ((fm_I g1132 rh0 rfl).trans ((fm_I g1108 rh0 rfl).trans m1076))), mF15, ((fm_I g1160 rh0 rfl).trans m1146), mF18, ((fm_I g1160 rh0 rfl).trans m1155), mF21, ((fm_J g1160 rh0 rfl).trans ((fm_J g1132 rh0 rfl).trans ((fm_J g1108 rh0 rfl).trans m1088))), mW, and_true, true_and, true_or, or_true, false_or, or_false] <;> omega), (Or.inl (by rw [((fm_I g1160 rh0 rfl).trans m1146)]; omega))⟩ dX12_readClause_260
                    · refine lv_aload_n hx hb dX12_readClause_228 rfl (lv_at hl 3 rfl) ?_
                      refine lv_ldc2 (v := 294) hx hb hown (hts _ tw_1904) dX12_readClause_229 ?_
                      have hw1178 := hW.2.2.2
                      refine t_callV (As := [.long 294]) (rest := []) E hW (c_X12_isWord l G cI cJ cZ cD cR cT kp L f1129 hW.2.2.2 _ h0 294 rh0 (by decide)) rh0 (by decide) rfl wk_X12_isWord tw_1797 rfl ⟨Nat.le_of_ble_eq_true rfl, Nat.le_of_ble_eq_true rfl⟩ ⟨rfl, rfl⟩ hl.1 rfl (Nat.le_of_ble_eq_true rfl) dX12_readClause_232 ⟨Nat.le_of_ble_eq_true rfl, Nat.le_of_ble_eq_true rfl⟩ (fun v1175 f1176 H locs q1177 hW => ?_)
                      obtain ⟨⟨x1180, rfl, p1181⟩, g1179⟩ := q1177
                      simp only [((fm_I g1132 rh0 rfl).trans ((fm_I g1108 rh0 rfl).trans m1076)), ((fm_J g1132 rh0 rfl).trans ((fm_J g1108 rh0 rfl).trans m1088))] at p1181
                      have p1181 : (x1180.toInt = 1 ∧ y1075.toInt = 1 ∧ y1087.toInt = 294) ∨ x1180.toInt = 0 := p1181
                      have m1182 : oR (f1176 h0) 2 = pR := ((fm_R g1179 rh0 rfl).trans ((fm_R g1132 rh0 rfl).trans ((fm_R g1108 rh0 rfl).trans ((fm_R g1055 rh0 rfl).trans ((fm_R g1036 rh0 rfl).trans ((fm_R g1012 rh0 rfl).trans ((fm_R g990 rh0 rfl).trans m965)))))))
                      have m1183 : oI (f1176 h0) 12 = pF12 := ((fm_I g1179 rh0 rfl).trans ((fm_I g1132 rh0 rfl).trans ((fm_I g1108 rh0 rfl).trans ((fm_I g1055 rh0 rfl).trans ((fm_I g1036 rh0 rfl).trans ((fm_I g1012 rh0 rfl).trans ((fm_I g990 rh0 rfl).trans m966)))))))
                      have m1184 : aI (f1176 pN) (x683 : Int32).toNatClampNeg = x6 := ((congrArg (fun z => aI z (x683 : Int32).toNatClampNeg) (fm_A g1179 rN (by decide) rfl)).trans (show aI (f1129 pN) (x683 : Int32).toNatClampNeg = x6 from by rw [e1130, up_n (tn_ne (by omega) (by omega) (by omega))]; exact (show aI (f1105 pN) (x683 : Int32).toNatClampNeg = x6 from by rw [e1106, up_n (tn_ne (by omega) (by omega) (by omega))]; exact m1058)))
                      have m1185 : aI (f1176 pN) (x1028 : Int32).toNatClampNeg = pF21 := ((congrArg (fun z => aI z (x1028 : Int32).toNatClampNeg) (fm_A g1179 rN (by decide) rfl)).trans (show aI (f1129 pN) (x1028 : Int32).toNatClampNeg = pF21 from by rw [e1130, up_n (tn_ne (by omega) (by omega) (by omega))]; exact (show aI (f1105 pN) (x1028 : Int32).toNatClampNeg = pF21 from by rw [e1106, up_n (tn_ne (by omega) (by omega) (by omega))]; exact m1059)))
                      have m1186 : aI (f1176 pN) (x1100 : Int32).toNatClampNeg = y1081 := ((congrArg (fun z => aI z (x1100 : Int32).toNatClampNeg) (fm_A g1179 rN (by decide) rfl)).trans (show aI (f1129 pN) (x1100 : Int32).toNatClampNeg = y1081 from by rw [e1130, up_n (tn_ne (by omega) (by omega) (by omega))]; exact (show aI (f1105 pN) (x1100 : Int32).toNatClampNeg = y1081 from by rw [e1106]; exact up_s)))
                      have m1187 : aI (f1176 pN) (x1124 : Int32).toNatClampNeg = y1081 := ((congrArg (fun z => aI z (x1124 : Int32).toNatClampNeg) (fm_A g1179 rN (by decide) rfl)).trans (show aI (f1129 pN) (x1124 : Int32).toNatClampNeg = y1081 from by rw [e1130]; exact up_s))
                      have z1188 : DJ f0 f1176 h0 pF21.toInt pF21.toInt y1081.toInt y1081.toInt y1081.toInt := dj_keep z1134 hw1178 g1179 rh0 rfl (fun q => by rw [fm_I g1179 rh0 rfl]; exact q)
                      have z1189 : ∀ j : Nat, (j : Int) < 8 * pF19.toInt → aI (f1176 pN) j = aI (f0 pN) j := by rw [fm_A g1179 rN (by decide) rfl]; exact z1137
                      clear z1137
                      have z1190 : aI (f1176 pN) (8 * pF19.toInt + 0).toNat = x6 := by rw [fm_A g1179 rN (by decide) rfl]; exact z1138
                      have z1191 : aI (f1176 pN) (8 * pF19.toInt + 1).toNat = 0 := by rw [fm_A g1179 rN (by decide) rfl]; exact z1139
                      have z1192 : aI (f1176 pN) (8 * pF19.toInt + 2).toNat = 0 := by rw [fm_A g1179 rN (by decide) rfl]; exact z1140
                      have z1193 : aI (f1176 pN) (8 * pF19.toInt + 3).toNat = pF21 := by rw [fm_A g1179 rN (by decide) rfl]; exact z1141
                      have z1194 : aI (f1176 pN) (8 * pF19.toInt + 4).toNat = y1081 := by rw [fm_A g1179 rN (by decide) rfl]; exact z1142
                      have z1195 : aI (f1176 pN) (8 * pF19.toInt + 5).toNat = y1081 := by rw [fm_A g1179 rN (by decide) rfl]; exact z1143
                      have z1196 : aI (f1176 pN) (8 * pF19.toInt + 6).toNat = 0 := by rw [fm_A g1179 rN (by decide) rfl]; exact z1144
                      clear z1138 z1139 z1140 z1141 z1142 z1143 z1144
                      have hF := FM.tr hF g1179 rfl
                      refine q_if_eq (tgt := 247) hx hb dX12_readClause_235 (by decide) rfl (fun c1197 => ?_) (fun c1197 => ?_)
                      · clear p1181
                        refine lv_aload_n hx hb dX12_readClause_247 rfl (lv_at hl 3 rfl) ?_
                        refine fg_RX12_39 E hW rh0 dX12_readClause_248 (fun a1198 m1199 r1200 => ?_)
                        obtain rfl : pN = a1198 := (((fm_R g1179 rh0 rfl).trans ((fm_R g1132 rh0 rfl).trans m1122))).symm.trans m1199
                        refine lv_iload_n hx hb dX12_readClause_251 rfl (lv_at hl 1 rfl) ?_
                        refine lv_bipush (v := 6) hx hb dX12_readClause_252 (by decide) ?_
                        refine q_iadd (Y := 6) hx hb dX12_readClause_254 rfl rfl (by omega) (fun x1201 h1202 => ?_)
                        refine lv_aload_n hx hb dX12_readClause_255 rfl (lv_at hl 3 rfl) ?_
                        refine fg_RX12_229 E hW rh0 dX12_readClause_256 (fun y1203 m1204 b1205 => ?_)
                        obtain rfl : y1081 = y1203 := (((fm_I g1179 rh0 rfl).trans ((fm_I g1132 rh0 rfl).trans m1127))).symm.trans m1204
                        have hw1210 := hW.2.2.2
                        refine gs_840 E hW rN ⟨by omega, by omega⟩ dX12_readClause_259 (fun f1206 H locs e1207 n1208 g1209 hW => ?_)
                        have z1211 : DJ f0 f1206 h0 pF21.toInt pF21.toInt y1081.toInt y1081.toInt y1081.toInt := dj_keep z1188 hw1210 g1209 rh0 rfl (fun q => by rw [fm_I g1209 rh0 rfl]; exact q)
                        have hF := FM.tr hF g1209 rfl
                        have q1212 : x1201.toInt = 8 * pF19.toInt + 6 := by omega
                        have q1213 : 0 ≤ 8 * pF19.toInt := by omega
                        have z1214 : ∀ j : Nat, (j : Int) < 8 * pF19.toInt → aI (f1206 pN) j = aI (f0 pN) j := pre_st2 z1189 e1207 q1212 q1213 (by decide)
                        clear z1189
                        have z1215 : aI (f1206 pN) (8 * pF19.toInt + 0).toNat = x6 := ent_no2 z1190 e1207 q1212 q1213 (by decide)
                        have z1216 : aI (f1206 pN) (8 * pF19.toInt + 1).toNat = 0 := ent_no2 z1191 e1207 q1212 q1213 (by decide)
                        have z1217 : aI (f1206 pN) (8 * pF19.toInt + 2).toNat = 0 := ent_no2 z1192 e1207 q1212 q1213 (by decide)
                        have z1218 : aI (f1206 pN) (8 * pF19.toInt + 3).toNat = pF21 := ent_no2 z1193 e1207 q1212 q1213 (by decide)
                        have z1219 : aI (f1206 pN) (8 * pF19.toInt + 4).toNat = y1081 := ent_no2 z1194 e1207 q1212 q1213 (by decide)
                        have z1220 : aI (f1206 pN) (8 * pF19.toInt + 5).toNat = y1081 := ent_no2 z1195 e1207 q1212 q1213 (by decide)
                        have z1221 : aI (f1206 pN) (8 * pF19.toInt + 6).toNat = y1081 := ent_st2 e1207 q1212 q1213 (by decide)
                        clear q1212 q1213
                        clear z1190 z1191 z1192 z1193 z1194 z1195 z1196
                        exact e_V E hW rfl ⟨rfl, hF, (by simp only [((fm_I g1209 rh0 rfl).trans m1183), mF12, ((fm_I g1209 rh0 rfl).trans ((fm_I g1179 rh0 rfl).trans ((fm_I g1132 rh0 rfl).trans ((fm_I g1108 rh0 rfl).trans m1070)))), mF13, ((fm_I g1209 rh0 rfl).trans ((fm_I g1179 rh0 rfl).trans ((fm_I g1132 rh0 rfl).trans ((fm_I g1108 rh0 rfl).trans m1073)))), mF14, ((fm_I g1209 rh0 rfl).trans ((fm_I g1179 rh0 rfl).trans ((fm_I g1132 rh0 rfl).trans ((fm_I g1108 rh0 rfl).trans m1076)))), mF15, ((fm_I g1209 rh0 rfl).trans ((fm_I g1179 rh0 rfl).trans m1146)), mF18, ((fm_I g1209 rh0 rfl).trans m1204), mF21, ((fm_J g1209 rh0 rfl).trans ((fm_J g1179 rh0 rfl).trans ((fm_J g1132 rh0 rfl).trans ((fm_J g1108 rh0 rfl).trans m1088)))), mW, and_true, true_and, true_or, or_true, false_or, or_false] <;> omega), (by have hk0 : (0 : Int32).toInt = 0 := rfl; rw [((fm_I g1209 rh0 rfl).trans m1204), ((fm_I g1209 rh0 rfl).trans ((fm_I g1179 rh0 rfl).trans ((fm_I g1132 rh0 rfl).trans ((fm_I g1108 rh0 rfl).trans ((fm_I g1055 rh0 rfl).trans ((fm_I g1036 rh0 rfl).trans e1010))))))]; exact cl_end (nc := y1081.toInt) (hd := x6) (r1 := 0) (r2 := 0) (show CLs _ _ _ pF21.toInt pF19.toInt from hC) (by omega) (show DJ f0 f1206 h0 pF21.toInt (pF21 : Int32).toInt (y1081 : Int32).toInt (y1081 : Int32).toInt (y1081 : Int32).toInt from z1211) (fun j hj => by unfold vN; rw [((fm_R g1209 rh0 rfl).trans m1199), mN]; exact z1214 j hj) (by unfold vN; rw [((fm_R g1209 rh0 rfl).trans m1199)]; exact z1215) (by unfold vN; rw [((fm_R g1209 rh0 rfl).trans m1199)]; exact z1216) (by unfold vN; rw [((fm_R g1209 rh0 rfl).trans m1199)]; exact z1217) (by unfold vN; rw [((fm_R g1209 rh0 rfl).trans m1199)]; exact z1218) (by unfold vN; rw [((fm_R g1209 rh0 rfl).trans m1199)]; exact z1219) (by unfold vN; rw [((fm_R g1209 rh0 rfl).trans m1199)]; exact z1220) (by unfold vN; rw [((fm_R g1209 rh0 rfl).trans m1199)]; exact z1221) (by rw [((fm_I g1209 rh0 rfl).trans ((fm_I g1179 rh0 rfl).trans m1146))]; omega) (by omega) (by omega))⟩ dX12_readClause_260
                      · have q1222 : y1075.toInt = 1 ∧ y1087.toInt = 294 := by omega
                        clear p1181
                        refine lv_aload_n hx hb dX12_readClause_238 rfl (lv_at hl 3 rfl) ?_
                        have hw1226 := hW.2.2.2
                        refine t_callV (As := []) (rest := []) E hW (c_X12_next l G cI cJ cZ cD cR cT kp L f1176 hW.2.2.2 _ h0 rh0 (by simp only [m1183, ((fm_I g1179 rh0 rfl).trans ((fm_I g1132 rh0 rfl).trans ((fm_I g1108 rh0 rfl).trans m1073))), and_true, true_and, true_or, or_true, false_or, or_false] <;> omega)) rh0 (by decide) rfl wk_X12_next tw_1773 rfl ⟨Nat.le_of_ble_eq_true rfl, Nat.le_of_ble_eq_true rfl⟩ ⟨rfl, rfl⟩ hl.1 rfl (Nat.le_of_ble_eq_true rfl) dX12_readClause_239 ⟨Nat.le_of_ble_eq_true rfl, Nat.le_of_ble_eq_true rfl⟩ (fun v1223 f1224 H locs q1225 hW => ?_)
                        obtain ⟨rfl, g1227, h1228⟩ := q1225
                        have z1229 : DJ f0 f1224 h0 pF21.toInt pF21.toInt y1081.toInt y1081.toInt y1081.toInt := dj_keep z1188 hw1226 g1227 rh0 rfl (fun q => by rw [fm_I g1227 rh0 rfl]; exact q)
                        have z1230 : ∀ j : Nat, (j : Int) < 8 * pF19.toInt → aI (f1224 pN) j = aI (f0 pN) j := by rw [fm_A g1227 rN (by decide) rfl]; exact z1189
                        clear z1189
                        have z1231 : aI (f1224 pN) (8 * pF19.toInt + 0).toNat = x6 := by rw [fm_A g1227 rN (by decide) rfl]; exact z1190
                        have z1232 : aI (f1224 pN) (8 * pF19.toInt + 1).toNat = 0 := by rw [fm_A g1227 rN (by decide) rfl]; exact z1191
                        have z1233 : aI (f1224 pN) (8 * pF19.toInt + 2).toNat = 0 := by rw [fm_A g1227 rN (by decide) rfl]; exact z1192
                        have z1234 : aI (f1224 pN) (8 * pF19.toInt + 3).toNat = pF21 := by rw [fm_A g1227 rN (by decide) rfl]; exact z1193
                        have z1235 : aI (f1224 pN) (8 * pF19.toInt + 4).toNat = y1081 := by rw [fm_A g1227 rN (by decide) rfl]; exact z1194
                        have z1236 : aI (f1224 pN) (8 * pF19.toInt + 5).toNat = y1081 := by rw [fm_A g1227 rN (by decide) rfl]; exact z1195
                        have z1237 : aI (f1224 pN) (8 * pF19.toInt + 6).toNat = 0 := by rw [fm_A g1227 rN (by decide) rfl]; exact z1196
                        clear z1190 z1191 z1192 z1193 z1194 z1195 z1196
                        have hF := FM.tr hF g1227 rfl
                        obtain ⟨y1238, m1239⟩ : ∃ x : Int32, oI (f1224 h0) 13 = x := ⟨_, rfl⟩
                        have b1240 : (0 : Int) ≤ y1238.toInt ∧ y1238.toInt ≤ 400 := by rw [← m1239]; exact th_iv hW rh0 (by decide) (by decide) rfl
                        obtain ⟨y1241, m1242⟩ : ∃ x : Int32, oI (f1224 h0) 14 = x := ⟨_, rfl⟩
                        have b1243 : (0 : Int) ≤ y1241.toInt ∧ y1241.toInt ≤ 400 := by rw [← m1242]; exact th_iv hW rh0 (by decide) (by decide) rfl
                        obtain ⟨y1244, m1245⟩ : ∃ x : Int32, oI (f1224 h0) 15 = x := ⟨_, rfl⟩
                        have b1246 : (0 : Int) ≤ y1244.toInt ∧ y1244.toInt ≤ 3 := by rw [← m1245]; exact th_iv hW rh0 (by decide) (by decide) rfl
                        obtain ⟨y1247, m1248⟩ : ∃ x : Int64, oJ (f1224 h0) 16 = x := ⟨_, rfl⟩
                        simp only [((fm_I g1227 rh0 rfl).trans m1183), m1183, m1239, ((fm_I g1179 rh0 rfl).trans ((fm_I g1132 rh0 rfl).trans ((fm_I g1108 rh0 rfl).trans m1070))), m1242, ((fm_I g1179 rh0 rfl).trans ((fm_I g1132 rh0 rfl).trans ((fm_I g1108 rh0 rfl).trans m1073))), m1245, ((fm_I g1179 rh0 rfl).trans ((fm_I g1132 rh0 rfl).trans ((fm_I g1108 rh0 rfl).trans m1076))), m1248, ((fm_J g1179 rh0 rfl).trans ((fm_J g1132 rh0 rfl).trans ((fm_J g1108 rh0 rfl).trans m1088)))] at h1228
                        obtain ⟨q1249, q1250, q1251, q1252, q1253⟩ := h1228
                        clear q1092 q1093
                        refine lv_aload_n hx hb dX12_readClause_242 rfl (lv_at hl 3 rfl) ?_
                        refine lv_iconst (v := 1) hx hb dX12_readClause_243 (by decide) ?_
                        have hw1258 := hW.2.2.2
                        refine t_callV (As := [.int 1]) (rest := []) E hW (c_X12_readExpression l G cI cJ cZ cD cR cT kp L f1224 hW.2.2.2 _ h0 1 rh0 (by decide) (by have hkq1254 : (1 : Int32).toInt = 1 := rfl; simp only [((fm_I g1227 rh0 rfl).trans m1183), m1239, m1242, m1245, ((fm_I g1227 rh0 rfl).trans ((fm_I g1179 rh0 rfl).trans m1146)), ((fm_I g1227 rh0 rfl).trans ((fm_I g1179 rh0 rfl).trans ((fm_I g1132 rh0 rfl).trans m1127))), m1248, and_true, true_and, true_or, or_true, false_or, or_false] <;> omega)) rh0 (by decide) rfl wk_X12_readExpression tw_1819 rfl ⟨Nat.le_of_ble_eq_true rfl, Nat.le_of_ble_eq_true rfl⟩ ⟨rfl, rfl⟩ hl.1 rfl (Nat.le_of_ble_eq_true rfl) dX12_readClause_244 ⟨Nat.le_of_ble_eq_true rfl, Nat.le_of_ble_eq_true rfl⟩ (fun v1255 f1256 H locs q1257 hW => ?_)
                        obtain ⟨rfl, g1259, h1260, h1261⟩ := q1257
                        have m1262 : oI (f1256 h0) 19 = x1007 := ((fm_I g1259 rh0 rfl).trans ((fm_I g1227 rh0 rfl).trans ((fm_I g1179 rh0 rfl).trans ((fm_I g1132 rh0 rfl).trans ((fm_I g1108 rh0 rfl).trans ((fm_I g1055 rh0 rfl).trans ((fm_I g1036 rh0 rfl).trans e1010)))))))
                        have m1263 : aI (f1256 pN) (x683 : Int32).toNatClampNeg = x6 := ((congrArg (fun z => aI z (x683 : Int32).toNatClampNeg) (fm_A g1259 rN (by decide) rfl)).trans ((congrArg (fun z => aI z (x683 : Int32).toNatClampNeg) (fm_A g1227 rN (by decide) rfl)).trans m1184))
                        have m1264 : aI (f1256 pN) (x1028 : Int32).toNatClampNeg = pF21 := ((congrArg (fun z => aI z (x1028 : Int32).toNatClampNeg) (fm_A g1259 rN (by decide) rfl)).trans ((congrArg (fun z => aI z (x1028 : Int32).toNatClampNeg) (fm_A g1227 rN (by decide) rfl)).trans m1185))
                        have m1265 : aI (f1256 pN) (x1100 : Int32).toNatClampNeg = y1081 := ((congrArg (fun z => aI z (x1100 : Int32).toNatClampNeg) (fm_A g1259 rN (by decide) rfl)).trans ((congrArg (fun z => aI z (x1100 : Int32).toNatClampNeg) (fm_A g1227 rN (by decide) rfl)).trans m1186))
                        have m1266 : aI (f1256 pN) (x1124 : Int32).toNatClampNeg = y1081 := ((congrArg (fun z => aI z (x1124 : Int32).toNatClampNeg) (fm_A g1259 rN (by decide) rfl)).trans ((congrArg (fun z => aI z (x1124 : Int32).toNatClampNeg) (fm_A g1227 rN (by decide) rfl)).trans m1187))
                        have z1267 : ∀ j : Nat, (j : Int) < 8 * pF19.toInt → aI (f1256 pN) j = aI (f0 pN) j := by rw [fm_A g1259 rN (by decide) rfl]; exact z1230
                        clear z1230
                        have z1268 : aI (f1256 pN) (8 * pF19.toInt + 0).toNat = x6 := by rw [fm_A g1259 rN (by decide) rfl]; exact z1231
                        have z1269 : aI (f1256 pN) (8 * pF19.toInt + 1).toNat = 0 := by rw [fm_A g1259 rN (by decide) rfl]; exact z1232
                        have z1270 : aI (f1256 pN) (8 * pF19.toInt + 2).toNat = 0 := by rw [fm_A g1259 rN (by decide) rfl]; exact z1233
                        have z1271 : aI (f1256 pN) (8 * pF19.toInt + 3).toNat = pF21 := by rw [fm_A g1259 rN (by decide) rfl]; exact z1234
                        have z1272 : aI (f1256 pN) (8 * pF19.toInt + 4).toNat = y1081 := by rw [fm_A g1259 rN (by decide) rfl]; exact z1235
                        have z1273 : aI (f1256 pN) (8 * pF19.toInt + 5).toNat = y1081 := by rw [fm_A g1259 rN (by decide) rfl]; exact z1236
                        have z1274 : aI (f1256 pN) (8 * pF19.toInt + 6).toNat = 0 := by rw [fm_A g1259 rN (by decide) rfl]; exact z1237
                        clear z1231 z1232 z1233 z1234 z1235 z1236 z1237
                        have hF := FM.tr hF g1259 rfl
                        have hk1275 : (1 : Int32).toInt = 1 := rfl
                        obtain ⟨y1276, m1277⟩ : ∃ x : Int32, oI (f1256 h0) 13 = x := ⟨_, rfl⟩
                        have b1278 : (0 : Int) ≤ y1276.toInt ∧ y1276.toInt ≤ 400 := by rw [← m1277]; exact th_iv hW rh0 (by decide) (by decide) rfl
                        obtain ⟨y1279, m1280⟩ : ∃ x : Int32, oI (f1256 h0) 14 = x := ⟨_, rfl⟩
                        have b1281 : (0 : Int) ≤ y1279.toInt ∧ y1279.toInt ≤ 400 := by rw [← m1280]; exact th_iv hW rh0 (by decide) (by decide) rfl
                        obtain ⟨y1282, m1283⟩ : ∃ x : Int32, oI (f1256 h0) 15 = x := ⟨_, rfl⟩
                        have b1284 : (0 : Int) ≤ y1282.toInt ∧ y1282.toInt ≤ 3 := by rw [← m1283]; exact th_iv hW rh0 (by decide) (by decide) rfl
                        obtain ⟨y1285, m1286⟩ : ∃ x : Int32, oI (f1256 h0) 18 = x := ⟨_, rfl⟩
                        have b1287 : (0 : Int) ≤ y1285.toInt ∧ y1285.toInt ≤ 1 := by rw [← m1286]; exact th_iv hW rh0 (by decide) (by decide) rfl
                        obtain ⟨y1288, m1289⟩ : ∃ x : Int32, oI (f1256 h0) 21 = x := ⟨_, rfl⟩
                        have b1290 : (0 : Int) ≤ y1288.toInt ∧ y1288.toInt ≤ 400 := by rw [← m1289]; exact th_iv hW rh0 (by decide) (by decide) rfl
                        obtain ⟨y1291, m1292⟩ : ∃ x : Int32, oI (f1256 h0) 27 = x := ⟨_, rfl⟩
                        have b1293 : (0 : Int) ≤ y1291.toInt ∧ y1291.toInt ≤ 400 := by rw [← m1292]; exact th_iv hW rh0 (by decide) (by decide) rfl
                        obtain ⟨y1294, m1295⟩ : ∃ x : Int64, oJ (f1256 h0) 16 = x := ⟨_, rfl⟩
                        simp only [((fm_I g1259 rh0 rfl).trans ((fm_I g1227 rh0 rfl).trans m1183)), ((fm_I g1227 rh0 rfl).trans m1183), m1277, m1239, m1280, m1242, m1283, m1245, m1286, ((fm_I g1227 rh0 rfl).trans ((fm_I g1179 rh0 rfl).trans m1146)), m1289, ((fm_I g1227 rh0 rfl).trans ((fm_I g1179 rh0 rfl).trans ((fm_I g1132 rh0 rfl).trans m1127))), m1292, ((fm_I g1227 rh0 rfl).trans ((fm_I g1179 rh0 rfl).trans ((fm_I g1132 rh0 rfl).trans ((fm_I g1108 rh0 rfl).trans m1085)))), m1295, m1248] at h1260
                        obtain ⟨q1296, q1297, q1298, q1299, q1300, q1301⟩ := h1260
                        clear q1251 q1252
                        have z1303 := h1261
                        rw [((fm_I g1227 rh0 rfl).trans ((fm_I g1179 rh0 rfl).trans ((fm_I g1132 rh0 rfl).trans m1127))), m1289] at z1303
                        have z1302 : DJ f0 f1256 h0 pF21.toInt pF21.toInt y1081.toInt y1081.toInt y1288.toInt := dj_ex2 z1229 (by rw [((fm_I g1227 rh0 rfl).trans ((fm_I g1179 rh0 rfl).trans m1146))]; omega) (by omega) (by omega) (by omega) z1303
                        refine lv_aload_n hx hb dX12_readClause_247 rfl (lv_at hl 3 rfl) ?_
                        refine fg_RX12_39 E hW rh0 dX12_readClause_248 (fun a1304 m1305 r1306 => ?_)
                        obtain rfl : pN = a1304 := (((fm_R g1259 rh0 rfl).trans ((fm_R g1227 rh0 rfl).trans ((fm_R g1179 rh0 rfl).trans ((fm_R g1132 rh0 rfl).trans m1122))))).symm.trans m1305
                        refine lv_iload_n hx hb dX12_readClause_251 rfl (lv_at hl 1 rfl) ?_
                        refine lv_bipush (v := 6) hx hb dX12_readClause_252 (by decide) ?_
                        refine q_iadd (Y := 6) hx hb dX12_readClause_254 rfl rfl (by omega) (fun x1307 h1308 => ?_)
                        refine lv_aload_n hx hb dX12_readClause_255 rfl (lv_at hl 3 rfl) ?_
                        refine fg_RX12_229 E hW rh0 dX12_readClause_256 (fun y1309 m1310 b1311 => ?_)
                        obtain rfl : y1288 = y1309 := (m1289).symm.trans m1310
                        have hw1316 := hW.2.2.2
                        refine gs_840 E hW rN ⟨by omega, by omega⟩ dX12_readClause_259 (fun f1312 H locs e1313 n1314 g1315 hW => ?_)
                        have z1317 : DJ f0 f1312 h0 pF21.toInt pF21.toInt y1081.toInt y1081.toInt y1288.toInt := dj_keep z1302 hw1316 g1315 rh0 rfl (fun q => by rw [fm_I g1315 rh0 rfl]; exact q)
                        have hF := FM.tr hF g1315 rfl
                        have q1318 : x1307.toInt = 8 * pF19.toInt + 6 := by omega
                        have q1319 : 0 ≤ 8 * pF19.toInt := by omega
                        have z1320 : ∀ j : Nat, (j : Int) < 8 * pF19.toInt → aI (f1312 pN) j = aI (f0 pN) j := pre_st2 z1267 e1313 q1318 q1319 (by decide)
                        clear z1267
                        have z1321 : aI (f1312 pN) (8 * pF19.toInt + 0).toNat = x6 := ent_no2 z1268 e1313 q1318 q1319 (by decide)
                        have z1322 : aI (f1312 pN) (8 * pF19.toInt + 1).toNat = 0 := ent_no2 z1269 e1313 q1318 q1319 (by decide)
                        have z1323 : aI (f1312 pN) (8 * pF19.toInt + 2).toNat = 0 := ent_no2 z1270 e1313 q1318 q1319 (by decide)
                        have z1324 : aI (f1312 pN) (8 * pF19.toInt + 3).toNat = pF21 := ent_no2 z1271 e1313 q1318 q1319 (by decide)
                        have z1325 : aI (f1312 pN) (8 * pF19.toInt + 4).toNat = y1081 := ent_no2 z1272 e1313 q1318 q1319 (by decide)
                        have z1326 : aI (f1312 pN) (8 * pF19.toInt + 5).toNat = y1081 := ent_no2 z1273 e1313 q1318 q1319 (by decide)
                        have z1327 : aI (f1312 pN) (8 * pF19.toInt + 6).toNat = y1288 := ent_st2 e1313 q1318 q1319 (by decide)
                        clear q1318 q1319
                        clear z1268 z1269 z1270 z1271 z1272 z1273 z1274
                        exact e_V E hW rfl ⟨rfl, hF, (by simp only [((fm_I g1315 rh0 rfl).trans ((fm_I g1259 rh0 rfl).trans ((fm_I g1227 rh0 rfl).trans m1183))), mF12, ((fm_I g1315 rh0 rfl).trans m1277), mF13, ((fm_I g1315 rh0 rfl).trans m1280), mF14, ((fm_I g1315 rh0 rfl).trans m1283), mF15, ((fm_I g1315 rh0 rfl).trans m1286), mF18, ((fm_I g1315 rh0 rfl).trans m1310), mF21, ((fm_J g1315 rh0 rfl).trans m1295), mW, and_true, true_and, true_or, or_true, false_or, or_false] <;> omega), (by have hk0 : (0 : Int32).toInt = 0 := rfl; rw [((fm_I g1315 rh0 rfl).trans m1310), ((fm_I g1315 rh0 rfl).trans m1262)]; exact cl_end (nc := y1288.toInt) (hd := x6) (r1 := 0) (r2 := 0) (show CLs _ _ _ pF21.toInt pF19.toInt from hC) (by omega) (show DJ f0 f1312 h0 pF21.toInt (pF21 : Int32).toInt (y1081 : Int32).toInt (y1081 : Int32).toInt (y1288 : Int32).toInt from z1317) (fun j hj => by unfold vN; rw [((fm_R g1315 rh0 rfl).trans m1305), mN]; exact z1320 j hj) (by unfold vN; rw [((fm_R g1315 rh0 rfl).trans m1305)]; exact z1321) (by unfold vN; rw [((fm_R g1315 rh0 rfl).trans m1305)]; exact z1322) (by unfold vN; rw [((fm_R g1315 rh0 rfl).trans m1305)]; exact z1323) (by unfold vN; rw [((fm_R g1315 rh0 rfl).trans m1305)]; exact z1324) (by unfold vN; rw [((fm_R g1315 rh0 rfl).trans m1305)]; exact z1325) (by unfold vN; rw [((fm_R g1315 rh0 rfl).trans m1305)]; exact z1326) (by unfold vN; rw [((fm_R g1315 rh0 rfl).trans m1305)]; exact z1327) (by rw [((fm_I g1315 rh0 rfl).trans m1286)]; omega) (by omega) (by omega))⟩ dX12_readClause_260
                  · refine lv_iload_n hx hb dX12_readClause_187 rfl (lv_at hl 2 rfl) ?_
                    refine lv_iconst (v := 3) hx hb dX12_readClause_188 (by decide) ?_
                    refine q_icmp_ne (Y := 3) (tgt := 197) hx hb dX12_readClause_189 (by decide) rfl rfl (fun c1328 => ?_) (fun c1328 => ?_)
                    · refine lv_aload_n hx hb dX12_readClause_197 rfl (lv_at hl 3 rfl) ?_
                      refine fg_RX12_39 E hW rh0 dX12_readClause_198 (fun a1329 m1330 r1331 => ?_)
                      obtain rfl : pN = a1329 := (((fm_R g1036 rh0 rfl).trans m1026)).symm.trans m1330
                      refine lv_iload_n hx hb dX12_readClause_201 rfl (lv_at hl 1 rfl) ?_
                      refine lv_iconst (v := 4) hx hb dX12_readClause_202 (by decide) ?_
                      refine q_iadd (Y := 4) hx hb dX12_readClause_203 rfl rfl (by omega) (fun x1332 h1333 => ?_)
                      refine lv_aload_n hx hb dX12_readClause_204 rfl (lv_at hl 3 rfl) ?_
                      refine fg_RX12_229 E hW rh0 dX12_readClause_205 (fun y1334 m1335 b1336 => ?_)
                      obtain rfl : pF21 = y1334 := (((fm_I g1036 rh0 rfl).trans m1031)).symm.trans m1335
                      have hw1341 := hW.2.2.2
                      refine gs_840 E hW rN ⟨by omega, by omega⟩ dX12_readClause_208 (fun f1337 H locs e1338 n1339 g1340 hW => ?_)
                      have z1342 : DJ f0 f1337 h0 pF21.toInt 0 0 0 0 := dj_keep z1038 hw1341 g1340 rh0 rfl (fun q => by rw [fm_I g1340 rh0 rfl]; exact q)
                      have hF := FM.tr hF g1340 rfl
                      have q1343 : x1332.toInt = 8 * pF19.toInt + 4 := by omega
                      have q1344 : 0 ≤ 8 * pF19.toInt := by omega
                      have z1345 : ∀ j : Nat, (j : Int) < 8 * pF19.toInt → aI (f1337 pN) j = aI (f0 pN) j := pre_st2 z1041 e1338 q1343 q1344 (by decide)
                      clear z1041
                      have z1346 : aI (f1337 pN) (8 * pF19.toInt + 0).toNat = x6 := ent_no2 z1042 e1338 q1343 q1344 (by decide)
                      have z1347 : aI (f1337 pN) (8 * pF19.toInt + 1).toNat = 0 := ent_no2 z1043 e1338 q1343 q1344 (by decide)
                      have z1348 : aI (f1337 pN) (8 * pF19.toInt + 2).toNat = 0 := ent_no2 z1044 e1338 q1343 q1344 (by decide)
                      have z1349 : aI (f1337 pN) (8 * pF19.toInt + 3).toNat = pF21 := ent_no2 z1045 e1338 q1343 q1344 (by decide)
                      have z1350 : aI (f1337 pN) (8 * pF19.toInt + 4).toNat = pF21 := ent_st2 e1338 q1343 q1344 (by decide)
                      have z1351 : aI (f1337 pN) (8 * pF19.toInt + 5).toNat = 0 := ent_no2 z1047 e1338 q1343 q1344 (by decide)
                      have z1352 : aI (f1337 pN) (8 * pF19.toInt + 6).toNat = 0 := ent_no2 z1048 e1338 q1343 q1344 (by decide)
                      clear q1343 q1344
                      clear z1042 z1043 z1044 z1045 z1046 z1047 z1048
                      refine lv_aload_n hx hb dX12_readClause_209 rfl (lv_at hl 3 rfl) ?_
                      refine fg_RX12_39 E hW rh0 dX12_readClause_210 (fun a1353 m1354 r1355 => ?_)
                      obtain rfl : pN = a1353 := (((fm_R g1340 rh0 rfl).trans m1330)).symm.trans m1354
                      refine lv_iload_n hx hb dX12_readClause_213 rfl (lv_at hl 1 rfl) ?_
                      refine lv_iconst (v := 5) hx hb dX12_readClause_214 (by decide) ?_
                      refine q_iadd (Y := 5) hx hb dX12_readClause_215 rfl rfl (by omega) (fun x1356 h1357 => ?_)
                      refine lv_aload_n hx hb dX12_readClause_216 rfl (lv_at hl 3 rfl) ?_
                      refine fg_RX12_229 E hW rh0 dX12_readClause_217 (fun y1358 m1359 b1360 => ?_)
                      obtain rfl : pF21 = y1358 := (((fm_I g1340 rh0 rfl).trans m1335)).symm.trans m1359
                      have hw1365 := hW.2.2.2
                      refine gs_840 E hW rN ⟨by omega, by omega⟩ dX12_readClause_220 (fun f1361 H locs e1362 n1363 g1364 hW => ?_)
                      have z1366 : DJ f0 f1361 h0 pF21.toInt 0 0 0 0 := dj_keep z1342 hw1365 g1364 rh0 rfl (fun q => by rw [fm_I g1364 rh0 rfl]; exact q)
                      have hF := FM.tr hF g1364 rfl
                      have q1367 : x1356.toInt = 8 * pF19.toInt + 5 := by omega
                      have q1368 : 0 ≤ 8 * pF19.toInt := by omega
                      have z1369 : ∀ j : Nat, (j : Int) < 8 * pF19.toInt → aI (f1361 pN) j = aI (f0 pN) j := pre_st2 z1345 e1362 q1367 q1368 (by decide)
                      clear z1345
                      have z1370 : aI (f1361 pN) (8 * pF19.toInt + 0).toNat = x6 := ent_no2 z1346 e1362 q1367 q1368 (by decide)
                      have z1371 : aI (f1361 pN) (8 * pF19.toInt + 1).toNat = 0 := ent_no2 z1347 e1362 q1367 q1368 (by decide)
                      have z1372 : aI (f1361 pN) (8 * pF19.toInt + 2).toNat = 0 := ent_no2 z1348 e1362 q1367 q1368 (by decide)
                      have z1373 : aI (f1361 pN) (8 * pF19.toInt + 3).toNat = pF21 := ent_no2 z1349 e1362 q1367 q1368 (by decide)
                      have z1374 : aI (f1361 pN) (8 * pF19.toInt + 4).toNat = pF21 := ent_no2 z1350 e1362 q1367 q1368 (by decide)
                      have z1375 : aI (f1361 pN) (8 * pF19.toInt + 5).toNat = pF21 := ent_st2 e1362 q1367 q1368 (by decide)
                      have z1376 : aI (f1361 pN) (8 * pF19.toInt + 6).toNat = 0 := ent_no2 z1352 e1362 q1367 q1368 (by decide)
                      clear q1367 q1368
                      clear z1346 z1347 z1348 z1349 z1350 z1351 z1352
                      refine lv_aload_n hx hb dX12_readClause_221 rfl (lv_at hl 3 rfl) ?_
                      refine fg_RX12_193 E hW rh0 dX12_readClause_222 (fun y1377 m1378 b1379 => ?_)
                      obtain rfl : y665 = y1377 := (((fm_I g1364 rh0 rfl).trans ((fm_I g1340 rh0 rfl).trans ((fm_I g1036 rh0 rfl).trans ((fm_I g1012 rh0 rfl).trans ((fm_I g990 rh0 rfl).trans m971)))))).symm.trans m1378
                      refine q_if_ne (tgt := 247) hx hb dX12_readClause_225 (by decide) rfl (fun c1380 => ?_) (fun c1380 => ?_)
                      · exfalso; omega
                      · refine lv_aload_n hx hb dX12_readClause_228 rfl (lv_at hl 3 rfl) ?_
                        refine lv_ldc2 (v := 294) hx hb hown (hts _ tw_1904) dX12_readClause_229 ?_
                        have hw1384 := hW.2.2.2
                        refine t_callV (As := [.long 294]) (rest := []) E hW (c_X12_isWord l G cI cJ cZ cD cR cT kp L f1361 hW.2.2.2 _ h0 294 rh0 (by decide)) rh0 (by decide) rfl wk_X12_isWord tw_1797 rfl ⟨Nat.le_of_ble_eq_true rfl, Nat.le_of_ble_eq_true rfl⟩ ⟨rfl, rfl⟩ hl.1 rfl (Nat.le_of_ble_eq_true rfl) dX12_readClause_232 ⟨Nat.le_of_ble_eq_true rfl, Nat.le_of_ble_eq_true rfl⟩ (fun v1381 f1382 H locs q1383 hW => ?_)
                        obtain ⟨⟨x1386, rfl, p1387⟩, g1385⟩ := q1383
                        simp only [((fm_I g1364 rh0 rfl).trans ((fm_I g1340 rh0 rfl).trans ((fm_I g1036 rh0 rfl).trans ((fm_I g1012 rh0 rfl).trans ((fm_I g990 rh0 rfl).trans m969))))), ((fm_J g1364 rh0 rfl).trans ((fm_J g1340 rh0 rfl).trans ((fm_J g1036 rh0 rfl).trans ((fm_J g1012 rh0 rfl).trans ((fm_J g990 rh0 rfl).trans m970)))))] at p1387
                        have p1387 : (x1386.toInt = 1 ∧ y662.toInt = 1 ∧ y668.toInt = 294) ∨ x1386.toInt = 0 := p1387
                        have m1388 : aI (f1382 pN) (x683 : Int32).toNatClampNeg = x6 := ((congrArg (fun z => aI z (x683 : Int32).toNatClampNeg) (fm_A g1385 rN (by decide) rfl)).trans (show aI (f1361 pN) (x683 : Int32).toNatClampNeg = x6 from by rw [e1362, up_n (tn_ne (by omega) (by omega) (by omega))]; exact (show aI (f1337 pN) (x683 : Int32).toNatClampNeg = x6 from by rw [e1338, up_n (tn_ne (by omega) (by omega) (by omega))]; exact (show aI (f1033 pN) (x683 : Int32).toNatClampNeg = x6 from by rw [e1034, up_n (tn_ne (by omega) (by omega) (by omega))]; exact ((congrArg (fun z => aI z (x683 : Int32).toNatClampNeg) (fm_A g1012 rN (by decide) rfl)).trans (show aI (f987 pN) (x683 : Int32).toNatClampNeg = x6 from by rw [e988]; exact up_s))))))
                        have m1389 : aI (f1382 pN) (x1028 : Int32).toNatClampNeg = pF21 := ((congrArg (fun z => aI z (x1028 : Int32).toNatClampNeg) (fm_A g1385 rN (by decide) rfl)).trans (show aI (f1361 pN) (x1028 : Int32).toNatClampNeg = pF21 from by rw [e1362, up_n (tn_ne (by omega) (by omega) (by omega))]; exact (show aI (f1337 pN) (x1028 : Int32).toNatClampNeg = pF21 from by rw [e1338, up_n (tn_ne (by omega) (by omega) (by omega))]; exact (show aI (f1033 pN) (x1028 : Int32).toNatClampNeg = pF21 from by rw [e1034]; exact up_s))))
                        have m1390 : aI (f1382 pN) (x1332 : Int32).toNatClampNeg = pF21 := ((congrArg (fun z => aI z (x1332 : Int32).toNatClampNeg) (fm_A g1385 rN (by decide) rfl)).trans (show aI (f1361 pN) (x1332 : Int32).toNatClampNeg = pF21 from by rw [e1362, up_n (tn_ne (by omega) (by omega) (by omega))]; exact (show aI (f1337 pN) (x1332 : Int32).toNatClampNeg = pF21 from by rw [e1338]; exact up_s)))
                        have m1391 : aI (f1382 pN) (x1356 : Int32).toNatClampNeg = pF21 := ((congrArg (fun z => aI z (x1356 : Int32).toNatClampNeg) (fm_A g1385 rN (by decide) rfl)).trans (show aI (f1361 pN) (x1356 : Int32).toNatClampNeg = pF21 from by rw [e1362]; exact up_s))
                        have z1392 : DJ f0 f1382 h0 pF21.toInt 0 0 0 0 := dj_keep z1366 hw1384 g1385 rh0 rfl (fun q => by rw [fm_I g1385 rh0 rfl]; exact q)
                        have z1393 : ∀ j : Nat, (j : Int) < 8 * pF19.toInt → aI (f1382 pN) j = aI (f0 pN) j := by rw [fm_A g1385 rN (by decide) rfl]; exact z1369
                        clear z1369
                        have z1394 : aI (f1382 pN) (8 * pF19.toInt + 0).toNat = x6 := by rw [fm_A g1385 rN (by decide) rfl]; exact z1370
                        have z1395 : aI (f1382 pN) (8 * pF19.toInt + 1).toNat = 0 := by rw [fm_A g1385 rN (by decide) rfl]; exact z1371
                        have z1396 : aI (f1382 pN) (8 * pF19.toInt + 2).toNat = 0 := by rw [fm_A g1385 rN (by decide) rfl]; exact z1372
                        have z1397 : aI (f1382 pN) (8 * pF19.toInt + 3).toNat = pF21 := by rw [fm_A g1385 rN (by decide) rfl]; exact z1373
                        have z1398 : aI (f1382 pN) (8 * pF19.toInt + 4).toNat = pF21 := by rw [fm_A g1385 rN (by decide) rfl]; exact z1374
                        have z1399 : aI (f1382 pN) (8 * pF19.toInt + 5).toNat = pF21 := by rw [fm_A g1385 rN (by decide) rfl]; exact z1375
                        have z1400 : aI (f1382 pN) (8 * pF19.toInt + 6).toNat = 0 := by rw [fm_A g1385 rN (by decide) rfl]; exact z1376
                        clear z1370 z1371 z1372 z1373 z1374 z1375 z1376
                        have hF := FM.tr hF g1385 rfl
                        refine q_if_eq (tgt := 247) hx hb dX12_readClause_235 (by decide) rfl (fun c1401 => ?_) (fun c1401 => ?_)
                        · clear p1387
                          refine lv_aload_n hx hb dX12_readClause_247 rfl (lv_at hl 3 rfl) ?_
                          refine fg_RX12_39 E hW rh0 dX12_readClause_248 (fun a1402 m1403 r1404 => ?_)
                          obtain rfl : pN = a1402 := (((fm_R g1385 rh0 rfl).trans ((fm_R g1364 rh0 rfl).trans m1354))).symm.trans m1403
                          refine lv_iload_n hx hb dX12_readClause_251 rfl (lv_at hl 1 rfl) ?_
                          refine lv_bipush (v := 6) hx hb dX12_readClause_252 (by decide) ?_
                          refine q_iadd (Y := 6) hx hb dX12_readClause_254 rfl rfl (by omega) (fun x1405 h1406 => ?_)
                          refine lv_aload_n hx hb dX12_readClause_255 rfl (lv_at hl 3 rfl) ?_
                          refine fg_RX12_229 E hW rh0 dX12_readClause_256 (fun y1407 m1408 b1409 => ?_)
                          obtain rfl : pF21 = y1407 := (((fm_I g1385 rh0 rfl).trans ((fm_I g1364 rh0 rfl).trans m1359))).symm.trans m1408
                          have hw1414 := hW.2.2.2
                          refine gs_840 E hW rN ⟨by omega, by omega⟩ dX12_readClause_259 (fun f1410 H locs e1411 n1412 g1413 hW => ?_)
                          have m1415 : oR (f1410 h0) 2 = pR := ((fm_R g1413 rh0 rfl).trans ((fm_R g1385 rh0 rfl).trans ((fm_R g1364 rh0 rfl).trans ((fm_R g1340 rh0 rfl).trans ((fm_R g1036 rh0 rfl).trans ((fm_R g1012 rh0 rfl).trans ((fm_R g990 rh0 rfl).trans m965)))))))
                          have m1416 : oI (f1410 h0) 12 = pF12 := ((fm_I g1413 rh0 rfl).trans ((fm_I g1385 rh0 rfl).trans ((fm_I g1364 rh0 rfl).trans ((fm_I g1340 rh0 rfl).trans ((fm_I g1036 rh0 rfl).trans ((fm_I g1012 rh0 rfl).trans ((fm_I g990 rh0 rfl).trans m966)))))))
                          have m1417 : oI (f1410 h0) 13 = y656 := ((fm_I g1413 rh0 rfl).trans ((fm_I g1385 rh0 rfl).trans ((fm_I g1364 rh0 rfl).trans ((fm_I g1340 rh0 rfl).trans ((fm_I g1036 rh0 rfl).trans ((fm_I g1012 rh0 rfl).trans ((fm_I g990 rh0 rfl).trans m967)))))))
                          have m1418 : oI (f1410 h0) 14 = y659 := ((fm_I g1413 rh0 rfl).trans ((fm_I g1385 rh0 rfl).trans ((fm_I g1364 rh0 rfl).trans ((fm_I g1340 rh0 rfl).trans ((fm_I g1036 rh0 rfl).trans ((fm_I g1012 rh0 rfl).trans ((fm_I g990 rh0 rfl).trans m968)))))))
                          have m1419 : oI (f1410 h0) 15 = y662 := ((fm_I g1413 rh0 rfl).trans ((fm_I g1385 rh0 rfl).trans ((fm_I g1364 rh0 rfl).trans ((fm_I g1340 rh0 rfl).trans ((fm_I g1036 rh0 rfl).trans ((fm_I g1012 rh0 rfl).trans ((fm_I g990 rh0 rfl).trans m969)))))))
                          have m1420 : oJ (f1410 h0) 16 = y668 := ((fm_J g1413 rh0 rfl).trans ((fm_J g1385 rh0 rfl).trans ((fm_J g1364 rh0 rfl).trans ((fm_J g1340 rh0 rfl).trans ((fm_J g1036 rh0 rfl).trans ((fm_J g1012 rh0 rfl).trans ((fm_J g990 rh0 rfl).trans m970)))))))
                          have m1421 : oI (f1410 h0) 24 = pF24 := ((fm_I g1413 rh0 rfl).trans ((fm_I g1385 rh0 rfl).trans ((fm_I g1364 rh0 rfl).trans ((fm_I g1340 rh0 rfl).trans ((fm_I g1036 rh0 rfl).trans ((fm_I g1012 rh0 rfl).trans ((fm_I g990 rh0 rfl).trans m975)))))))
                          have m1422 : oI (f1410 h0) 27 = pF27 := ((fm_I g1413 rh0 rfl).trans ((fm_I g1385 rh0 rfl).trans ((fm_I g1364 rh0 rfl).trans ((fm_I g1340 rh0 rfl).trans ((fm_I g1036 rh0 rfl).trans ((fm_I g1012 rh0 rfl).trans ((fm_I g990 rh0 rfl).trans m976)))))))
                          have z1423 : DJ f0 f1410 h0 pF21.toInt 0 0 0 0 := dj_keep z1392 hw1414 g1413 rh0 rfl (fun q => by rw [fm_I g1413 rh0 rfl]; exact q)
                          have hF := FM.tr hF g1413 rfl
                          have q1424 : x1405.toInt = 8 * pF19.toInt + 6 := by omega
                          have q1425 : 0 ≤ 8 * pF19.toInt := by omega
                          have z1426 : ∀ j : Nat, (j : Int) < 8 * pF19.toInt → aI (f1410 pN) j = aI (f0 pN) j := pre_st2 z1393 e1411 q1424 q1425 (by decide)
                          clear z1393
                          have z1427 : aI (f1410 pN) (8 * pF19.toInt + 0).toNat = x6 := ent_no2 z1394 e1411 q1424 q1425 (by decide)
                          have z1428 : aI (f1410 pN) (8 * pF19.toInt + 1).toNat = 0 := ent_no2 z1395 e1411 q1424 q1425 (by decide)
                          have z1429 : aI (f1410 pN) (8 * pF19.toInt + 2).toNat = 0 := ent_no2 z1396 e1411 q1424 q1425 (by decide)
                          have z1430 : aI (f1410 pN) (8 * pF19.toInt + 3).toNat = pF21 := ent_no2 z1397 e1411 q1424 q1425 (by decide)
                          have z1431 : aI (f1410 pN) (8 * pF19.toInt + 4).toNat = pF21 := ent_no2 z1398 e1411 q1424 q1425 (by decide)
                          have z1432 : aI (f1410 pN) (8 * pF19.toInt + 5).toNat = pF21 := ent_no2 z1399 e1411 q1424 q1425 (by decide)
                          have z1433 : aI (f1410 pN) (8 * pF19.toInt + 6).toNat = pF21 := ent_st2 e1411 q1424 q1425 (by decide)
                          clear q1424 q1425
                          clear z1394 z1395 z1396 z1397 z1398 z1399 z1400
                          exact e_V E hW rfl ⟨rfl, hF, (by simp only [m1416, mF12, m1417, mF13, m1418, mF14, m1419, mF15, ((fm_I g1413 rh0 rfl).trans ((fm_I g1385 rh0 rfl).trans m1378)), mF18, ((fm_I g1413 rh0 rfl).trans m1408), mF21, m1420, mW, and_true, true_and, true_or, or_true, false_or, or_false] <;> omega), (by have hk0 : (0 : Int32).toInt = 0 := rfl; rw [((fm_I g1413 rh0 rfl).trans m1408), ((fm_I g1413 rh0 rfl).trans ((fm_I g1385 rh0 rfl).trans ((fm_I g1364 rh0 rfl).trans ((fm_I g1340 rh0 rfl).trans ((fm_I g1036 rh0 rfl).trans e1010)))))]; exact cl_end (nc := pF21.toInt) (hd := x6) (r1 := 0) (r2 := 0) (show CLs _ _ _ pF21.toInt pF19.toInt from hC) (by omega) (show DJ f0 f1410 h0 pF21.toInt (pF21 : Int32).toInt (pF21 : Int32).toInt (pF21 : Int32).toInt (pF21 : Int32).toInt from (dj_triv2 (dj_triv1 z1423))) (fun j hj => by unfold vN; rw [((fm_R g1413 rh0 rfl).trans m1403), mN]; exact z1426 j hj) (by unfold vN; rw [((fm_R g1413 rh0 rfl).trans m1403)]; exact z1427) (by unfold vN; rw [((fm_R g1413 rh0 rfl).trans m1403)]; exact z1428) (by unfold vN; rw [((fm_R g1413 rh0 rfl).trans m1403)]; exact z1429) (by unfold vN; rw [((fm_R g1413 rh0 rfl).trans m1403)]; exact z1430) (by unfold vN; rw [((fm_R g1413 rh0 rfl).trans m1403)]; exact z1431) (by unfold vN; rw [((fm_R g1413 rh0 rfl).trans m1403)]; exact z1432) (by unfold vN; rw [((fm_R g1413 rh0 rfl).trans m1403)]; exact z1433) (by rw [((fm_I g1413 rh0 rfl).trans ((fm_I g1385 rh0 rfl).trans m1378))]; omega) (by omega) (by omega))⟩ dX12_readClause_260
                        · have q1434 : y662.toInt = 1 ∧ y668.toInt = 294 := by omega
                          clear p1387
                          refine lv_aload_n hx hb dX12_readClause_238 rfl (lv_at hl 3 rfl) ?_
                          have hw1438 := hW.2.2.2
                          refine t_callV (As := []) (rest := []) E hW (c_X12_next l G cI cJ cZ cD cR cT kp L f1382 hW.2.2.2 _ h0 rh0 (by simp only [((fm_I g1385 rh0 rfl).trans ((fm_I g1364 rh0 rfl).trans ((fm_I g1340 rh0 rfl).trans ((fm_I g1036 rh0 rfl).trans ((fm_I g1012 rh0 rfl).trans ((fm_I g990 rh0 rfl).trans m966)))))), ((fm_I g1385 rh0 rfl).trans ((fm_I g1364 rh0 rfl).trans ((fm_I g1340 rh0 rfl).trans ((fm_I g1036 rh0 rfl).trans ((fm_I g1012 rh0 rfl).trans ((fm_I g990 rh0 rfl).trans m968)))))), and_true, true_and, true_or, or_true, false_or, or_false] <;> omega)) rh0 (by decide) rfl wk_X12_next tw_1773 rfl ⟨Nat.le_of_ble_eq_true rfl, Nat.le_of_ble_eq_true rfl⟩ ⟨rfl, rfl⟩ hl.1 rfl (Nat.le_of_ble_eq_true rfl) dX12_readClause_239 ⟨Nat.le_of_ble_eq_true rfl, Nat.le_of_ble_eq_true rfl⟩ (fun v1435 f1436 H locs q1437 hW => ?_)
                          obtain ⟨rfl, g1439, h1440⟩ := q1437
                          have m1441 : oR (f1436 h0) 2 = pR := ((fm_R g1439 rh0 rfl).trans ((fm_R g1385 rh0 rfl).trans ((fm_R g1364 rh0 rfl).trans ((fm_R g1340 rh0 rfl).trans ((fm_R g1036 rh0 rfl).trans ((fm_R g1012 rh0 rfl).trans ((fm_R g990 rh0 rfl).trans m965)))))))
                          have m1442 : oI (f1436 h0) 12 = pF12 := ((fm_I g1439 rh0 rfl).trans ((fm_I g1385 rh0 rfl).trans ((fm_I g1364 rh0 rfl).trans ((fm_I g1340 rh0 rfl).trans ((fm_I g1036 rh0 rfl).trans ((fm_I g1012 rh0 rfl).trans ((fm_I g990 rh0 rfl).trans m966)))))))
                          have m1443 : oI (f1436 h0) 24 = pF24 := ((fm_I g1439 rh0 rfl).trans ((fm_I g1385 rh0 rfl).trans ((fm_I g1364 rh0 rfl).trans ((fm_I g1340 rh0 rfl).trans ((fm_I g1036 rh0 rfl).trans ((fm_I g1012 rh0 rfl).trans ((fm_I g990 rh0 rfl).trans m975)))))))
                          have m1444 : oI (f1436 h0) 27 = pF27 := ((fm_I g1439 rh0 rfl).trans ((fm_I g1385 rh0 rfl).trans ((fm_I g1364 rh0 rfl).trans ((fm_I g1340 rh0 rfl).trans ((fm_I g1036 rh0 rfl).trans ((fm_I g1012 rh0 rfl).trans ((fm_I g990 rh0 rfl).trans m976)))))))
                          have z1445 : DJ f0 f1436 h0 pF21.toInt 0 0 0 0 := dj_keep z1392 hw1438 g1439 rh0 rfl (fun q => by rw [fm_I g1439 rh0 rfl]; exact q)
                          have z1446 : ∀ j : Nat, (j : Int) < 8 * pF19.toInt → aI (f1436 pN) j = aI (f0 pN) j := by rw [fm_A g1439 rN (by decide) rfl]; exact z1393
                          clear z1393
                          have z1447 : aI (f1436 pN) (8 * pF19.toInt + 0).toNat = x6 := by rw [fm_A g1439 rN (by decide) rfl]; exact z1394
                          have z1448 : aI (f1436 pN) (8 * pF19.toInt + 1).toNat = 0 := by rw [fm_A g1439 rN (by decide) rfl]; exact z1395
                          have z1449 : aI (f1436 pN) (8 * pF19.toInt + 2).toNat = 0 := by rw [fm_A g1439 rN (by decide) rfl]; exact z1396
                          have z1450 : aI (f1436 pN) (8 * pF19.toInt + 3).toNat = pF21 := by rw [fm_A g1439 rN (by decide) rfl]; exact z1397
                          have z1451 : aI (f1436 pN) (8 * pF19.toInt + 4).toNat = pF21 := by rw [fm_A g1439 rN (by decide) rfl]; exact z1398
                          have z1452 : aI (f1436 pN) (8 * pF19.toInt + 5).toNat = pF21 := by rw [fm_A g1439 rN (by decide) rfl]; exact z1399
                          have z1453 : aI (f1436 pN) (8 * pF19.toInt + 6).toNat = 0 := by rw [fm_A g1439 rN (by decide) rfl]; exact z1400
                          clear z1394 z1395 z1396 z1397 z1398 z1399 z1400
                          have hF := FM.tr hF g1439 rfl
                          obtain ⟨y1454, m1455⟩ : ∃ x : Int32, oI (f1436 h0) 13 = x := ⟨_, rfl⟩
                          have b1456 : (0 : Int) ≤ y1454.toInt ∧ y1454.toInt ≤ 400 := by rw [← m1455]; exact th_iv hW rh0 (by decide) (by decide) rfl
                          obtain ⟨y1457, m1458⟩ : ∃ x : Int32, oI (f1436 h0) 14 = x := ⟨_, rfl⟩
                          have b1459 : (0 : Int) ≤ y1457.toInt ∧ y1457.toInt ≤ 400 := by rw [← m1458]; exact th_iv hW rh0 (by decide) (by decide) rfl
                          obtain ⟨y1460, m1461⟩ : ∃ x : Int32, oI (f1436 h0) 15 = x := ⟨_, rfl⟩
                          have b1462 : (0 : Int) ≤ y1460.toInt ∧ y1460.toInt ≤ 3 := by rw [← m1461]; exact th_iv hW rh0 (by decide) (by decide) rfl
                          obtain ⟨y1463, m1464⟩ : ∃ x : Int64, oJ (f1436 h0) 16 = x := ⟨_, rfl⟩
                          simp only [m1442, ((fm_I g1385 rh0 rfl).trans ((fm_I g1364 rh0 rfl).trans ((fm_I g1340 rh0 rfl).trans ((fm_I g1036 rh0 rfl).trans ((fm_I g1012 rh0 rfl).trans ((fm_I g990 rh0 rfl).trans m966)))))), m1455, ((fm_I g1385 rh0 rfl).trans ((fm_I g1364 rh0 rfl).trans ((fm_I g1340 rh0 rfl).trans ((fm_I g1036 rh0 rfl).trans ((fm_I g1012 rh0 rfl).trans ((fm_I g990 rh0 rfl).trans m967)))))), m1458, ((fm_I g1385 rh0 rfl).trans ((fm_I g1364 rh0 rfl).trans ((fm_I g1340 rh0 rfl).trans ((fm_I g1036 rh0 rfl).trans ((fm_I g1012 rh0 rfl).trans ((fm_I g990 rh0 rfl).trans m968)))))), m1461, ((fm_I g1385 rh0 rfl).trans ((fm_I g1364 rh0 rfl).trans ((fm_I g1340 rh0 rfl).trans ((fm_I g1036 rh0 rfl).trans ((fm_I g1012 rh0 rfl).trans ((fm_I g990 rh0 rfl).trans m969)))))), m1464, ((fm_J g1385 rh0 rfl).trans ((fm_J g1364 rh0 rfl).trans ((fm_J g1340 rh0 rfl).trans ((fm_J g1036 rh0 rfl).trans ((fm_J g1012 rh0 rfl).trans ((fm_J g990 rh0 rfl).trans m970))))))] at h1440
                          obtain ⟨q1465, q1466, q1467, q1468, q1469⟩ := h1440
                          clear q673 q674
                          refine lv_aload_n hx hb dX12_readClause_242 rfl (lv_at hl 3 rfl) ?_
                          refine lv_iconst (v := 1) hx hb dX12_readClause_243 (by decide) ?_
                          have hw1474 := hW.2.2.2
                          refine t_callV (As := [.int 1]) (rest := []) E hW (c_X12_readExpression l G cI cJ cZ cD cR cT kp L f1436 hW.2.2.2 _ h0 1 rh0 (by decide) (by have hkq1470 : (1 : Int32).toInt = 1 := rfl; simp only [m1442, m1455, m1458, m1461, ((fm_I g1439 rh0 rfl).trans ((fm_I g1385 rh0 rfl).trans m1378)), ((fm_I g1439 rh0 rfl).trans ((fm_I g1385 rh0 rfl).trans ((fm_I g1364 rh0 rfl).trans m1359))), m1464, and_true, true_and, true_or, or_true, false_or, or_false] <;> omega)) rh0 (by decide) rfl wk_X12_readExpression tw_1819 rfl ⟨Nat.le_of_ble_eq_true rfl, Nat.le_of_ble_eq_true rfl⟩ ⟨rfl, rfl⟩ hl.1 rfl (Nat.le_of_ble_eq_true rfl) dX12_readClause_244 ⟨Nat.le_of_ble_eq_true rfl, Nat.le_of_ble_eq_true rfl⟩ (fun v1471 f1472 H locs q1473 hW => ?_)
                          obtain ⟨rfl, g1475, h1476, h1477⟩ := q1473
                          have m1478 : aI (f1472 pN) (x683 : Int32).toNatClampNeg = x6 := ((congrArg (fun z => aI z (x683 : Int32).toNatClampNeg) (fm_A g1475 rN (by decide) rfl)).trans ((congrArg (fun z => aI z (x683 : Int32).toNatClampNeg) (fm_A g1439 rN (by decide) rfl)).trans m1388))
                          have m1479 : aI (f1472 pN) (x1028 : Int32).toNatClampNeg = pF21 := ((congrArg (fun z => aI z (x1028 : Int32).toNatClampNeg) (fm_A g1475 rN (by decide) rfl)).trans ((congrArg (fun z => aI z (x1028 : Int32).toNatClampNeg) (fm_A g1439 rN (by decide) rfl)).trans m1389))
                          have m1480 : aI (f1472 pN) (x1332 : Int32).toNatClampNeg = pF21 := ((congrArg (fun z => aI z (x1332 : Int32).toNatClampNeg) (fm_A g1475 rN (by decide) rfl)).trans ((congrArg (fun z => aI z (x1332 : Int32).toNatClampNeg) (fm_A g1439 rN (by decide) rfl)).trans m1390))
                          have m1481 : aI (f1472 pN) (x1356 : Int32).toNatClampNeg = pF21 := ((congrArg (fun z => aI z (x1356 : Int32).toNatClampNeg) (fm_A g1475 rN (by decide) rfl)).trans ((congrArg (fun z => aI z (x1356 : Int32).toNatClampNeg) (fm_A g1439 rN (by decide) rfl)).trans m1391))
                          have z1482 : ∀ j : Nat, (j : Int) < 8 * pF19.toInt → aI (f1472 pN) j = aI (f0 pN) j := by rw [fm_A g1475 rN (by decide) rfl]; exact z1446
                          clear z1446
                          have z1483 : aI (f1472 pN) (8 * pF19.toInt + 0).toNat = x6 := by rw [fm_A g1475 rN (by decide) rfl]; exact z1447
                          have z1484 : aI (f1472 pN) (8 * pF19.toInt + 1).toNat = 0 := by rw [fm_A g1475 rN (by decide) rfl]; exact z1448
                          have z1485 : aI (f1472 pN) (8 * pF19.toInt + 2).toNat = 0 := by rw [fm_A g1475 rN (by decide) rfl]; exact z1449
                          have z1486 : aI (f1472 pN) (8 * pF19.toInt + 3).toNat = pF21 := by rw [fm_A g1475 rN (by decide) rfl]; exact z1450
                          have z1487 : aI (f1472 pN) (8 * pF19.toInt + 4).toNat = pF21 := by rw [fm_A g1475 rN (by decide) rfl]; exact z1451
                          have z1488 : aI (f1472 pN) (8 * pF19.toInt + 5).toNat = pF21 := by rw [fm_A g1475 rN (by decide) rfl]; exact z1452
                          have z1489 : aI (f1472 pN) (8 * pF19.toInt + 6).toNat = 0 := by rw [fm_A g1475 rN (by decide) rfl]; exact z1453
                          clear z1447 z1448 z1449 z1450 z1451 z1452 z1453
                          have hF := FM.tr hF g1475 rfl
                          have hk1490 : (1 : Int32).toInt = 1 := rfl
                          obtain ⟨y1491, m1492⟩ : ∃ x : Int32, oI (f1472 h0) 13 = x := ⟨_, rfl⟩
                          have b1493 : (0 : Int) ≤ y1491.toInt ∧ y1491.toInt ≤ 400 := by rw [← m1492]; exact th_iv hW rh0 (by decide) (by decide) rfl
                          obtain ⟨y1494, m1495⟩ : ∃ x : Int32, oI (f1472 h0) 14 = x := ⟨_, rfl⟩
                          have b1496 : (0 : Int) ≤ y1494.toInt ∧ y1494.toInt ≤ 400 := by rw [← m1495]; exact th_iv hW rh0 (by decide) (by decide) rfl
                          obtain ⟨y1497, m1498⟩ : ∃ x : Int32, oI (f1472 h0) 15 = x := ⟨_, rfl⟩
                          have b1499 : (0 : Int) ≤ y1497.toInt ∧ y1497.toInt ≤ 3 := by rw [← m1498]; exact th_iv hW rh0 (by decide) (by decide) rfl
                          obtain ⟨y1500, m1501⟩ : ∃ x : Int32, oI (f1472 h0) 18 = x := ⟨_, rfl⟩
                          have b1502 : (0 : Int) ≤ y1500.toInt ∧ y1500.toInt ≤ 1 := by rw [← m1501]; exact th_iv hW rh0 (by decide) (by decide) rfl
                          obtain ⟨y1503, m1504⟩ : ∃ x : Int32, oI (f1472 h0) 21 = x := ⟨_, rfl⟩
                          have b1505 : (0 : Int) ≤ y1503.toInt ∧ y1503.toInt ≤ 400 := by rw [← m1504]; exact th_iv hW rh0 (by decide) (by decide) rfl
                          obtain ⟨y1506, m1507⟩ : ∃ x : Int32, oI (f1472 h0) 27 = x := ⟨_, rfl⟩
                          have b1508 : (0 : Int) ≤ y1506.toInt ∧ y1506.toInt ≤ 400 := by rw [← m1507]; exact th_iv hW rh0 (by decide) (by decide) rfl
                          obtain ⟨y1509, m1510⟩ : ∃ x : Int64, oJ (f1472 h0) 16 = x := ⟨_, rfl⟩
                          simp only [((fm_I g1475 rh0 rfl).trans m1442), m1442, m1492, m1455, m1495, m1458, m1498, m1461, m1501, ((fm_I g1439 rh0 rfl).trans ((fm_I g1385 rh0 rfl).trans m1378)), m1504, ((fm_I g1439 rh0 rfl).trans ((fm_I g1385 rh0 rfl).trans ((fm_I g1364 rh0 rfl).trans m1359))), m1507, m1444, m1510, m1464] at h1476
                          obtain ⟨q1511, q1512, q1513, q1514, q1515, q1516⟩ := h1476
                          clear q1467 q1468
                          have z1518 := h1477
                          rw [((fm_I g1439 rh0 rfl).trans ((fm_I g1385 rh0 rfl).trans ((fm_I g1364 rh0 rfl).trans m1359))), m1504] at z1518
                          have z1517 : DJ f0 f1472 h0 pF21.toInt 0 0 pF21.toInt y1503.toInt := dj_ex2 z1445 (by rw [((fm_I g1439 rh0 rfl).trans ((fm_I g1385 rh0 rfl).trans m1378))]; omega) (by omega) (by omega) (by omega) z1518
                          refine lv_aload_n hx hb dX12_readClause_247 rfl (lv_at hl 3 rfl) ?_
                          refine fg_RX12_39 E hW rh0 dX12_readClause_248 (fun a1519 m1520 r1521 => ?_)
                          obtain rfl : pN = a1519 := (((fm_R g1475 rh0 rfl).trans ((fm_R g1439 rh0 rfl).trans ((fm_R g1385 rh0 rfl).trans ((fm_R g1364 rh0 rfl).trans m1354))))).symm.trans m1520
                          refine lv_iload_n hx hb dX12_readClause_251 rfl (lv_at hl 1 rfl) ?_
                          refine lv_bipush (v := 6) hx hb dX12_readClause_252 (by decide) ?_
                          refine q_iadd (Y := 6) hx hb dX12_readClause_254 rfl rfl (by omega) (fun x1522 h1523 => ?_)
                          refine lv_aload_n hx hb dX12_readClause_255 rfl (lv_at hl 3 rfl) ?_
                          refine fg_RX12_229 E hW rh0 dX12_readClause_256 (fun y1524 m1525 b1526 => ?_)
                          obtain rfl : y1503 = y1524 := (m1504).symm.trans m1525
                          have hw1531 := hW.2.2.2
                          refine gs_840 E hW rN ⟨by omega, by omega⟩ dX12_readClause_259 (fun f1527 H locs e1528 n1529 g1530 hW => ?_)
                          have m1532 : oI (f1527 h0) 19 = x1007 := ((fm_I g1530 rh0 rfl).trans ((fm_I g1475 rh0 rfl).trans ((fm_I g1439 rh0 rfl).trans ((fm_I g1385 rh0 rfl).trans ((fm_I g1364 rh0 rfl).trans ((fm_I g1340 rh0 rfl).trans ((fm_I g1036 rh0 rfl).trans e1010)))))))
                          have z1533 : DJ f0 f1527 h0 pF21.toInt 0 0 pF21.toInt y1503.toInt := dj_keep z1517 hw1531 g1530 rh0 rfl (fun q => by rw [fm_I g1530 rh0 rfl]; exact q)
                          have hF := FM.tr hF g1530 rfl
                          have q1534 : x1522.toInt = 8 * pF19.toInt + 6 := by omega
                          have q1535 : 0 ≤ 8 * pF19.toInt := by omega
                          have z1536 : ∀ j : Nat, (j : Int) < 8 * pF19.toInt → aI (f1527 pN) j = aI (f0 pN) j := pre_st2 z1482 e1528 q1534 q1535 (by decide)
                          clear z1482
                          have z1537 : aI (f1527 pN) (8 * pF19.toInt + 0).toNat = x6 := ent_no2 z1483 e1528 q1534 q1535 (by decide)
                          have z1538 : aI (f1527 pN) (8 * pF19.toInt + 1).toNat = 0 := ent_no2 z1484 e1528 q1534 q1535 (by decide)
                          have z1539 : aI (f1527 pN) (8 * pF19.toInt + 2).toNat = 0 := ent_no2 z1485 e1528 q1534 q1535 (by decide)
                          have z1540 : aI (f1527 pN) (8 * pF19.toInt + 3).toNat = pF21 := ent_no2 z1486 e1528 q1534 q1535 (by decide)
                          have z1541 : aI (f1527 pN) (8 * pF19.toInt + 4).toNat = pF21 := ent_no2 z1487 e1528 q1534 q1535 (by decide)
                          have z1542 : aI (f1527 pN) (8 * pF19.toInt + 5).toNat = pF21 := ent_no2 z1488 e1528 q1534 q1535 (by decide)
                          have z1543 : aI (f1527 pN) (8 * pF19.toInt + 6).toNat = y1503 := ent_st2 e1528 q1534 q1535 (by decide)
                          clear q1534 q1535
                          clear z1483 z1484 z1485 z1486 z1487 z1488 z1489
                          exact e_V E hW rfl ⟨rfl, hF, (by simp only [((fm_I g1530 rh0 rfl).trans ((fm_I g1475 rh0 rfl).trans m1442)), mF12, ((fm_I g1530 rh0 rfl).trans m1492), mF13, ((fm_I g1530 rh0 rfl).trans m1495), mF14, ((fm_I g1530 rh0 rfl).trans m1498), mF15, ((fm_I g1530 rh0 rfl).trans m1501), mF18, ((fm_I g1530 rh0 rfl).trans m1525), mF21, ((fm_J g1530 rh0 rfl).trans m1510), mW, and_true, true_and, true_or, or_true, false_or, or_false] <;> omega), (by have hk0 : (0 : Int32).toInt = 0 := rfl; rw [((fm_I g1530 rh0 rfl).trans m1525), m1532]; exact cl_end (nc := y1503.toInt) (hd := x6) (r1 := 0) (r2 := 0) (show CLs _ _ _ pF21.toInt pF19.toInt from hC) (by omega) (show DJ f0 f1527 h0 pF21.toInt (pF21 : Int32).toInt (pF21 : Int32).toInt (pF21 : Int32).toInt (y1503 : Int32).toInt from (dj_triv1 z1533)) (fun j hj => by unfold vN; rw [((fm_R g1530 rh0 rfl).trans m1520), mN]; exact z1536 j hj) (by unfold vN; rw [((fm_R g1530 rh0 rfl).trans m1520)]; exact z1537) (by unfold vN; rw [((fm_R g1530 rh0 rfl).trans m1520)]; exact z1538) (by unfold vN; rw [((fm_R g1530 rh0 rfl).trans m1520)]; exact z1539) (by unfold vN; rw [((fm_R g1530 rh0 rfl).trans m1520)]; exact z1540) (by unfold vN; rw [((fm_R g1530 rh0 rfl).trans m1520)]; exact z1541) (by unfold vN; rw [((fm_R g1530 rh0 rfl).trans m1520)]; exact z1542) (by unfold vN; rw [((fm_R g1530 rh0 rfl).trans m1520)]; exact z1543) (by rw [((fm_I g1530 rh0 rfl).trans m1501)]; omega) (by omega) (by omega))⟩ dX12_readClause_260
                    · refine lv_aload_n hx hb dX12_readClause_192 rfl (lv_at hl 3 rfl) ?_
                      refine lv_iconst (v := 0) hx hb dX12_readClause_193 (by decide) ?_
                      have hw1548 := hW.2.2.2
                      refine t_callV (As := [.int 0]) (rest := []) E hW (c_X12_readExpression l G cI cJ cZ cD cR cT kp L f1033 hW.2.2.2 _ h0 0 rh0 (by decide) (by have hkq1544 : (0 : Int32).toInt = 0 := rfl; simp only [((fm_I g1036 rh0 rfl).trans ((fm_I g1012 rh0 rfl).trans ((fm_I g990 rh0 rfl).trans m966))), ((fm_I g1036 rh0 rfl).trans ((fm_I g1012 rh0 rfl).trans ((fm_I g990 rh0 rfl).trans m967))), ((fm_I g1036 rh0 rfl).trans ((fm_I g1012 rh0 rfl).trans ((fm_I g990 rh0 rfl).trans m968))), ((fm_I g1036 rh0 rfl).trans ((fm_I g1012 rh0 rfl).trans ((fm_I g990 rh0 rfl).trans m969))), ((fm_I g1036 rh0 rfl).trans ((fm_I g1012 rh0 rfl).trans ((fm_I g990 rh0 rfl).trans m971))), ((fm_I g1036 rh0 rfl).trans m1031), ((fm_J g1036 rh0 rfl).trans ((fm_J g1012 rh0 rfl).trans ((fm_J g990 rh0 rfl).trans m970))), and_true, true_and, true_or, or_true, false_or, or_false] <;> omega)) rh0 (by decide) rfl wk_X12_readExpression tw_1819 rfl ⟨Nat.le_of_ble_eq_true rfl, Nat.le_of_ble_eq_true rfl⟩ ⟨rfl, rfl⟩ hl.1 rfl (Nat.le_of_ble_eq_true rfl) dX12_readClause_194 ⟨Nat.le_of_ble_eq_true rfl, Nat.le_of_ble_eq_true rfl⟩ (fun v1545 f1546 H locs q1547 hW => ?_)
                      obtain ⟨rfl, g1549, h1550, h1551⟩ := q1547
                      have m1552 : aI (f1546 pN) (x683 : Int32).toNatClampNeg = x6 := ((congrArg (fun z => aI z (x683 : Int32).toNatClampNeg) (fm_A g1549 rN (by decide) rfl)).trans (show aI (f1033 pN) (x683 : Int32).toNatClampNeg = x6 from by rw [e1034, up_n (tn_ne (by omega) (by omega) (by omega))]; exact ((congrArg (fun z => aI z (x683 : Int32).toNatClampNeg) (fm_A g1012 rN (by decide) rfl)).trans (show aI (f987 pN) (x683 : Int32).toNatClampNeg = x6 from by rw [e988]; exact up_s))))
                      have m1553 : aI (f1546 pN) (x1028 : Int32).toNatClampNeg = pF21 := ((congrArg (fun z => aI z (x1028 : Int32).toNatClampNeg) (fm_A g1549 rN (by decide) rfl)).trans (show aI (f1033 pN) (x1028 : Int32).toNatClampNeg = pF21 from by rw [e1034]; exact up_s))
                      have z1554 : ∀ j : Nat, (j : Int) < 8 * pF19.toInt → aI (f1546 pN) j = aI (f0 pN) j := by rw [fm_A g1549 rN (by decide) rfl]; exact z1041
                      clear z1041
                      have z1555 : aI (f1546 pN) (8 * pF19.toInt + 0).toNat = x6 := by rw [fm_A g1549 rN (by decide) rfl]; exact z1042
                      have z1556 : aI (f1546 pN) (8 * pF19.toInt + 1).toNat = 0 := by rw [fm_A g1549 rN (by decide) rfl]; exact z1043
                      have z1557 : aI (f1546 pN) (8 * pF19.toInt + 2).toNat = 0 := by rw [fm_A g1549 rN (by decide) rfl]; exact z1044
                      have z1558 : aI (f1546 pN) (8 * pF19.toInt + 3).toNat = pF21 := by rw [fm_A g1549 rN (by decide) rfl]; exact z1045
                      have z1559 : aI (f1546 pN) (8 * pF19.toInt + 4).toNat = 0 := by rw [fm_A g1549 rN (by decide) rfl]; exact z1046
                      have z1560 : aI (f1546 pN) (8 * pF19.toInt + 5).toNat = 0 := by rw [fm_A g1549 rN (by decide) rfl]; exact z1047
                      have z1561 : aI (f1546 pN) (8 * pF19.toInt + 6).toNat = 0 := by rw [fm_A g1549 rN (by decide) rfl]; exact z1048
                      clear z1042 z1043 z1044 z1045 z1046 z1047 z1048
                      have hF := FM.tr hF g1549 rfl
                      have hk1562 : (0 : Int32).toInt = 0 := rfl
                      obtain ⟨y1563, m1564⟩ : ∃ x : Int32, oI (f1546 h0) 13 = x := ⟨_, rfl⟩
                      have b1565 : (0 : Int) ≤ y1563.toInt ∧ y1563.toInt ≤ 400 := by rw [← m1564]; exact th_iv hW rh0 (by decide) (by decide) rfl
                      obtain ⟨y1566, m1567⟩ : ∃ x : Int32, oI (f1546 h0) 14 = x := ⟨_, rfl⟩
                      have b1568 : (0 : Int) ≤ y1566.toInt ∧ y1566.toInt ≤ 400 := by rw [← m1567]; exact th_iv hW rh0 (by decide) (by decide) rfl
                      obtain ⟨y1569, m1570⟩ : ∃ x : Int32, oI (f1546 h0) 15 = x := ⟨_, rfl⟩
                      have b1571 : (0 : Int) ≤ y1569.toInt ∧ y1569.toInt ≤ 3 := by rw [← m1570]; exact th_iv hW rh0 (by decide) (by decide) rfl
                      obtain ⟨y1572, m1573⟩ : ∃ x : Int32, oI (f1546 h0) 18 = x := ⟨_, rfl⟩
                      have b1574 : (0 : Int) ≤ y1572.toInt ∧ y1572.toInt ≤ 1 := by rw [← m1573]; exact th_iv hW rh0 (by decide) (by decide) rfl
                      obtain ⟨y1575, m1576⟩ : ∃ x : Int32, oI (f1546 h0) 21 = x := ⟨_, rfl⟩
                      have b1577 : (0 : Int) ≤ y1575.toInt ∧ y1575.toInt ≤ 400 := by rw [← m1576]; exact th_iv hW rh0 (by decide) (by decide) rfl
                      obtain ⟨y1578, m1579⟩ : ∃ x : Int32, oI (f1546 h0) 27 = x := ⟨_, rfl⟩
                      have b1580 : (0 : Int) ≤ y1578.toInt ∧ y1578.toInt ≤ 400 := by rw [← m1579]; exact th_iv hW rh0 (by decide) (by decide) rfl
                      obtain ⟨y1581, m1582⟩ : ∃ x : Int64, oJ (f1546 h0) 16 = x := ⟨_, rfl⟩
                      simp only [((fm_I g1549 rh0 rfl).trans ((fm_I g1036 rh0 rfl).trans ((fm_I g1012 rh0 rfl).trans ((fm_I g990 rh0 rfl).trans m966)))), ((fm_I g1036 rh0 rfl).trans ((fm_I g1012 rh0 rfl).trans ((fm_I g990 rh0 rfl).trans m966))), m1564, ((fm_I g1036 rh0 rfl).trans ((fm_I g1012 rh0 rfl).trans ((fm_I g990 rh0 rfl).trans m967))), m1567, ((fm_I g1036 rh0 rfl).trans ((fm_I g1012 rh0 rfl).trans ((fm_I g990 rh0 rfl).trans m968))), m1570, ((fm_I g1036 rh0 rfl).trans ((fm_I g1012 rh0 rfl).trans ((fm_I g990 rh0 rfl).trans m969))), m1573, ((fm_I g1036 rh0 rfl).trans ((fm_I g1012 rh0 rfl).trans ((fm_I g990 rh0 rfl).trans m971))), m1576, ((fm_I g1036 rh0 rfl).trans m1031), m1579, ((fm_I g1036 rh0 rfl).trans ((fm_I g1012 rh0 rfl).trans ((fm_I g990 rh0 rfl).trans m976))), m1582, ((fm_J g1036 rh0 rfl).trans ((fm_J g1012 rh0 rfl).trans ((fm_J g990 rh0 rfl).trans m970)))] at h1550
                      obtain ⟨q1583, q1584, q1585, q1586, q1587, q1588⟩ := h1550
                      clear q673 q674
                      have z1590 := h1551
                      rw [((fm_I g1036 rh0 rfl).trans m1031), m1576] at z1590
                      have z1589 : DJ f0 f1546 h0 pF21.toInt pF21.toInt y1575.toInt y1575.toInt y1575.toInt := dj_ex1 z1038 (by rw [((fm_I g1036 rh0 rfl).trans ((fm_I g1012 rh0 rfl).trans ((fm_I g990 rh0 rfl).trans m971)))]; omega) (by omega) z1590
                      refine lv_aload_n hx hb dX12_readClause_197 rfl (lv_at hl 3 rfl) ?_
                      refine fg_RX12_39 E hW rh0 dX12_readClause_198 (fun a1591 m1592 r1593 => ?_)
                      obtain rfl : pN = a1591 := (((fm_R g1549 rh0 rfl).trans ((fm_R g1036 rh0 rfl).trans m1026))).symm.trans m1592
                      refine lv_iload_n hx hb dX12_readClause_201 rfl (lv_at hl 1 rfl) ?_
                      refine lv_iconst (v := 4) hx hb dX12_readClause_202 (by decide) ?_
                      refine q_iadd (Y := 4) hx hb dX12_readClause_203 rfl rfl (by omega) (fun x1594 h1595 => ?_)
                      refine lv_aload_n hx hb dX12_readClause_204 rfl (lv_at hl 3 rfl) ?_
                      refine fg_RX12_229 E hW rh0 dX12_readClause_205 (fun y1596 m1597 b1598 => ?_)
                      obtain rfl : y1575 = y1596 := (m1576).symm.trans m1597
                      have hw1603 := hW.2.2.2
                      refine gs_840 E hW rN ⟨by omega, by omega⟩ dX12_readClause_208 (fun f1599 H locs e1600 n1601 g1602 hW => ?_)
                      have z1604 : DJ f0 f1599 h0 pF21.toInt pF21.toInt y1575.toInt y1575.toInt y1575.toInt := dj_keep z1589 hw1603 g1602 rh0 rfl (fun q => by rw [fm_I g1602 rh0 rfl]; exact q)
                      have hF := FM.tr hF g1602 rfl
                      have q1605 : x1594.toInt = 8 * pF19.toInt + 4 := by omega
                      have q1606 : 0 ≤ 8 * pF19.toInt := by omega
                      have z1607 : ∀ j : Nat, (j : Int) < 8 * pF19.toInt → aI (f1599 pN) j = aI (f0 pN) j := pre_st2 z1554 e1600 q1605 q1606 (by decide)
                      clear z1554
                      have z1608 : aI (f1599 pN) (8 * pF19.toInt + 0).toNat = x6 := ent_no2 z1555 e1600 q1605 q1606 (by decide)
                      have z1609 : aI (f1599 pN) (8 * pF19.toInt + 1).toNat = 0 := ent_no2 z1556 e1600 q1605 q1606 (by decide)
                      have z1610 : aI (f1599 pN) (8 * pF19.toInt + 2).toNat = 0 := ent_no2 z1557 e1600 q1605 q1606 (by decide)
                      have z1611 : aI (f1599 pN) (8 * pF19.toInt + 3).toNat = pF21 := ent_no2 z1558 e1600 q1605 q1606 (by decide)
                      have z1612 : aI (f1599 pN) (8 * pF19.toInt + 4).toNat = y1575 := ent_st2 e1600 q1605 q1606 (by decide)
                      have z1613 : aI (f1599 pN) (8 * pF19.toInt + 5).toNat = 0 := ent_no2 z1560 e1600 q1605 q1606 (by decide)
                      have z1614 : aI (f1599 pN) (8 * pF19.toInt + 6).toNat = 0 := ent_no2 z1561 e1600 q1605 q1606 (by decide)
                      clear q1605 q1606
                      clear z1555 z1556 z1557 z1558 z1559 z1560 z1561
                      refine lv_aload_n hx hb dX12_readClause_209 rfl (lv_at hl 3 rfl) ?_
                      refine fg_RX12_39 E hW rh0 dX12_readClause_210 (fun a1615 m1616 r1617 => ?_)
                      obtain rfl : pN = a1615 := (((fm_R g1602 rh0 rfl).trans m1592)).symm.trans m1616
                      refine lv_iload_n hx hb dX12_readClause_213 rfl (lv_at hl 1 rfl) ?_
                      refine lv_iconst (v := 5) hx hb dX12_readClause_214 (by decide) ?_
                      refine q_iadd (Y := 5) hx hb dX12_readClause_215 rfl rfl (by omega) (fun x1618 h1619 => ?_)
                      refine lv_aload_n hx hb dX12_readClause_216 rfl (lv_at hl 3 rfl) ?_
                      refine fg_RX12_229 E hW rh0 dX12_readClause_217 (fun y1620 m1621 b1622 => ?_)
                      obtain rfl : y1575 = y1620 := (((fm_I g1602 rh0 rfl).trans m1597)).symm.trans m1621
                      have hw1627 := hW.2.2.2
                      refine gs_840 E hW rN ⟨by omega, by omega⟩ dX12_readClause_220 (fun f1623 H locs e1624 n1625 g1626 hW => ?_)
                      have z1628 : DJ f0 f1623 h0 pF21.toInt pF21.toInt y1575.toInt y1575.toInt y1575.toInt := dj_keep z1604 hw1627 g1626 rh0 rfl (fun q => by rw [fm_I g1626 rh0 rfl]; exact q)
                      have hF := FM.tr hF g1626 rfl
                      have q1629 : x1618.toInt = 8 * pF19.toInt + 5 := by omega
                      have q1630 : 0 ≤ 8 * pF19.toInt := by omega
                      have z1631 : ∀ j : Nat, (j : Int) < 8 * pF19.toInt → aI (f1623 pN) j = aI (f0 pN) j := pre_st2 z1607 e1624 q1629 q1630 (by decide)
                      clear z1607
                      have z1632 : aI (f1623 pN) (8 * pF19.toInt + 0).toNat = x6 := ent_no2 z1608 e1624 q1629 q1630 (by decide)
                      have z1633 : aI (f1623 pN) (8 * pF19.toInt + 1).toNat = 0 := ent_no2 z1609 e1624 q1629 q1630 (by decide)
                      have z1634 : aI (f1623 pN) (8 * pF19.toInt + 2).toNat = 0 := ent_no2 z1610 e1624 q1629 q1630 (by decide)
                      have z1635 : aI (f1623 pN) (8 * pF19.toInt + 3).toNat = pF21 := ent_no2 z1611 e1624 q1629 q1630 (by decide)
                      have z1636 : aI (f1623 pN) (8 * pF19.toInt + 4).toNat = y1575 := ent_no2 z1612 e1624 q1629 q1630 (by decide)
                      have z1637 : aI (f1623 pN) (8 * pF19.toInt + 5).toNat = y1575 := ent_st2 e1624 q1629 q1630 (by decide)
                      have z1638 : aI (f1623 pN) (8 * pF19.toInt + 6).toNat = 0 := ent_no2 z1614 e1624 q1629 q1630 (by decide)
                      clear q1629 q1630
                      clear z1608 z1609 z1610 z1611 z1612 z1613 z1614
                      refine lv_aload_n hx hb dX12_readClause_221 rfl (lv_at hl 3 rfl) ?_
                      refine fg_RX12_193 E hW rh0 dX12_readClause_222 (fun y1639 m1640 b1641 => ?_)
                      obtain rfl : y1572 = y1639 := (((fm_I g1626 rh0 rfl).trans ((fm_I g1602 rh0 rfl).trans m1573))).symm.trans m1640
                      refine q_if_ne (tgt := 247) hx hb dX12_readClause_225 (by decide) rfl (fun c1642 => ?_) (fun c1642 => ?_)
                      · refine lv_aload_n hx hb dX12_readClause_247 rfl (lv_at hl 3 rfl) ?_
                        refine fg_RX12_39 E hW rh0 dX12_readClause_248 (fun a1643 m1644 r1645 => ?_)
                        obtain rfl : pN = a1643 := (((fm_R g1626 rh0 rfl).trans m1616)).symm.trans m1644
                        refine lv_iload_n hx hb dX12_readClause_251 rfl (lv_at hl 1 rfl) ?_
                        refine lv_bipush (v := 6) hx hb dX12_readClause_252 (by decide) ?_
                        refine q_iadd (Y := 6) hx hb dX12_readClause_254 rfl rfl (by omega) (fun x1646 h1647 => ?_)
                        refine lv_aload_n hx hb dX12_readClause_255 rfl (lv_at hl 3 rfl) ?_
                        refine fg_RX12_229 E hW rh0 dX12_readClause_256 (fun y1648 m1649 b1650 => ?_)
                        obtain rfl : y1575 = y1648 := (((fm_I g1626 rh0 rfl).trans m1621)).symm.trans m1649
                        have hw1655 := hW.2.2.2
                        refine gs_840 E hW rN ⟨by omega, by omega⟩ dX12_readClause_259 (fun f1651 H locs e1652 n1653 g1654 hW => ?_)
                        have m1656 : oR (f1651 h0) 2 = pR := ((fm_R g1654 rh0 rfl).trans ((fm_R g1626 rh0 rfl).trans ((fm_R g1602 rh0 rfl).trans ((fm_R g1549 rh0 rfl).trans ((fm_R g1036 rh0 rfl).trans ((fm_R g1012 rh0 rfl).trans ((fm_R g990 rh0 rfl).trans m965)))))))
                        have m1657 : oI (f1651 h0) 12 = pF12 := ((fm_I g1654 rh0 rfl).trans ((fm_I g1626 rh0 rfl).trans ((fm_I g1602 rh0 rfl).trans ((fm_I g1549 rh0 rfl).trans ((fm_I g1036 rh0 rfl).trans ((fm_I g1012 rh0 rfl).trans ((fm_I g990 rh0 rfl).trans m966)))))))
                        have z1658 : DJ f0 f1651 h0 pF21.toInt pF21.toInt y1575.toInt y1575.toInt y1575.toInt := dj_keep z1628 hw1655 g1654 rh0 rfl (fun q => by rw [fm_I g1654 rh0 rfl]; exact q)
                        have hF := FM.tr hF g1654 rfl
                        have q1659 : x1646.toInt = 8 * pF19.toInt + 6 := by omega
                        have q1660 : 0 ≤ 8 * pF19.toInt := by omega
                        have z1661 : ∀ j : Nat, (j : Int) < 8 * pF19.toInt → aI (f1651 pN) j = aI (f0 pN) j := pre_st2 z1631 e1652 q1659 q1660 (by decide)
                        clear z1631
                        have z1662 : aI (f1651 pN) (8 * pF19.toInt + 0).toNat = x6 := ent_no2 z1632 e1652 q1659 q1660 (by decide)
                        have z1663 : aI (f1651 pN) (8 * pF19.toInt + 1).toNat = 0 := ent_no2 z1633 e1652 q1659 q1660 (by decide)
                        have z1664 : aI (f1651 pN) (8 * pF19.toInt + 2).toNat = 0 := ent_no2 z1634 e1652 q1659 q1660 (by decide)
                        have z1665 : aI (f1651 pN) (8 * pF19.toInt + 3).toNat = pF21 := ent_no2 z1635 e1652 q1659 q1660 (by decide)
                        have z1666 : aI (f1651 pN) (8 * pF19.toInt + 4).toNat = y1575 := ent_no2 z1636 e1652 q1659 q1660 (by decide)
                        have z1667 : aI (f1651 pN) (8 * pF19.toInt + 5).toNat = y1575 := ent_no2 z1637 e1652 q1659 q1660 (by decide)
                        have z1668 : aI (f1651 pN) (8 * pF19.toInt + 6).toNat = y1575 := ent_st2 e1652 q1659 q1660 (by decide)
                        clear q1659 q1660
                        clear z1632 z1633 z1634 z1635 z1636 z1637 z1638
                        exact e_V E hW rfl ⟨rfl, hF, (by simp only [m1657, mF12, ((fm_I g1654 rh0 rfl).trans ((fm_I g1626 rh0 rfl).trans ((fm_I g1602 rh0 rfl).trans m1564))), mF13, ((fm_I g1654 rh0 rfl).trans ((fm_I g1626 rh0 rfl).trans ((fm_I g1602 rh0 rfl).trans m1567))), mF14, ((fm_I g1654 rh0 rfl).trans ((fm_I g1626 rh0 rfl).trans ((fm_I g1602 rh0 rfl).trans m1570))), mF15, ((fm_I g1654 rh0 rfl).trans m1640), mF18, ((fm_I g1654 rh0 rfl).trans m1649), mF21, ((fm_J g1654 rh0 rfl).trans ((fm_J g1626 rh0 rfl).trans ((fm_J g1602 rh0 rfl).trans m1582))), mW, and_true, true_and, true_or, or_true, false_or, or_false] <;> omega), (Or.inl (by rw [((fm_I g1654 rh0 rfl).trans m1640)]; omega))⟩ dX12_readClause_260
                      · refine lv_aload_n hx hb dX12_readClause_228 rfl (lv_at hl 3 rfl) ?_
                        refine lv_ldc2 (v := 294) hx hb hown (hts _ tw_1904) dX12_readClause_229 ?_
                        have hw1672 := hW.2.2.2
                        refine t_callV (As := [.long 294]) (rest := []) E hW (c_X12_isWord l G cI cJ cZ cD cR cT kp L f1623 hW.2.2.2 _ h0 294 rh0 (by decide)) rh0 (by decide) rfl wk_X12_isWord tw_1797 rfl ⟨Nat.le_of_ble_eq_true rfl, Nat.le_of_ble_eq_true rfl⟩ ⟨rfl, rfl⟩ hl.1 rfl (Nat.le_of_ble_eq_true rfl) dX12_readClause_232 ⟨Nat.le_of_ble_eq_true rfl, Nat.le_of_ble_eq_true rfl⟩ (fun v1669 f1670 H locs q1671 hW => ?_)
                        obtain ⟨⟨x1674, rfl, p1675⟩, g1673⟩ := q1671
                        simp only [((fm_I g1626 rh0 rfl).trans ((fm_I g1602 rh0 rfl).trans m1570)), ((fm_J g1626 rh0 rfl).trans ((fm_J g1602 rh0 rfl).trans m1582))] at p1675
                        have p1675 : (x1674.toInt = 1 ∧ y1569.toInt = 1 ∧ y1581.toInt = 294) ∨ x1674.toInt = 0 := p1675
                        have m1676 : oR (f1670 h0) 2 = pR := ((fm_R g1673 rh0 rfl).trans ((fm_R g1626 rh0 rfl).trans ((fm_R g1602 rh0 rfl).trans ((fm_R g1549 rh0 rfl).trans ((fm_R g1036 rh0 rfl).trans ((fm_R g1012 rh0 rfl).trans ((fm_R g990 rh0 rfl).trans m965)))))))
                        have m1677 : oI (f1670 h0) 12 = pF12 := ((fm_I g1673 rh0 rfl).trans ((fm_I g1626 rh0 rfl).trans ((fm_I g1602 rh0 rfl).trans ((fm_I g1549 rh0 rfl).trans ((fm_I g1036 rh0 rfl).trans ((fm_I g1012 rh0 rfl).trans ((fm_I g990 rh0 rfl).trans m966)))))))
                        have m1678 : aI (f1670 pN) (x683 : Int32).toNatClampNeg = x6 := ((congrArg (fun z => aI z (x683 : Int32).toNatClampNeg) (fm_A g1673 rN (by decide) rfl)).trans (show aI (f1623 pN) (x683 : Int32).toNatClampNeg = x6 from by rw [e1624, up_n (tn_ne (by omega) (by omega) (by omega))]; exact (show aI (f1599 pN) (x683 : Int32).toNatClampNeg = x6 from by rw [e1600, up_n (tn_ne (by omega) (by omega) (by omega))]; exact m1552)))
                        have m1679 : aI (f1670 pN) (x1028 : Int32).toNatClampNeg = pF21 := ((congrArg (fun z => aI z (x1028 : Int32).toNatClampNeg) (fm_A g1673 rN (by decide) rfl)).trans (show aI (f1623 pN) (x1028 : Int32).toNatClampNeg = pF21 from by rw [e1624, up_n (tn_ne (by omega) (by omega) (by omega))]; exact (show aI (f1599 pN) (x1028 : Int32).toNatClampNeg = pF21 from by rw [e1600, up_n (tn_ne (by omega) (by omega) (by omega))]; exact m1553)))
                        have m1680 : aI (f1670 pN) (x1594 : Int32).toNatClampNeg = y1575 := ((congrArg (fun z => aI z (x1594 : Int32).toNatClampNeg) (fm_A g1673 rN (by decide) rfl)).trans (show aI (f1623 pN) (x1594 : Int32).toNatClampNeg = y1575 from by rw [e1624, up_n (tn_ne (by omega) (by omega) (by omega))]; exact (show aI (f1599 pN) (x1594 : Int32).toNatClampNeg = y1575 from by rw [e1600]; exact up_s)))
                        have m1681 : aI (f1670 pN) (x1618 : Int32).toNatClampNeg = y1575 := ((congrArg (fun z => aI z (x1618 : Int32).toNatClampNeg) (fm_A g1673 rN (by decide) rfl)).trans (show aI (f1623 pN) (x1618 : Int32).toNatClampNeg = y1575 from by rw [e1624]; exact up_s))
                        have z1682 : DJ f0 f1670 h0 pF21.toInt pF21.toInt y1575.toInt y1575.toInt y1575.toInt := dj_keep z1628 hw1672 g1673 rh0 rfl (fun q => by rw [fm_I g1673 rh0 rfl]; exact q)
                        have z1683 : ∀ j : Nat, (j : Int) < 8 * pF19.toInt → aI (f1670 pN) j = aI (f0 pN) j := by rw [fm_A g1673 rN (by decide) rfl]; exact z1631
                        clear z1631
                        have z1684 : aI (f1670 pN) (8 * pF19.toInt + 0).toNat = x6 := by rw [fm_A g1673 rN (by decide) rfl]; exact z1632
                        have z1685 : aI (f1670 pN) (8 * pF19.toInt + 1).toNat = 0 := by rw [fm_A g1673 rN (by decide) rfl]; exact z1633
                        have z1686 : aI (f1670 pN) (8 * pF19.toInt + 2).toNat = 0 := by rw [fm_A g1673 rN (by decide) rfl]; exact z1634
                        have z1687 : aI (f1670 pN) (8 * pF19.toInt + 3).toNat = pF21 := by rw [fm_A g1673 rN (by decide) rfl]; exact z1635
                        have z1688 : aI (f1670 pN) (8 * pF19.toInt + 4).toNat = y1575 := by rw [fm_A g1673 rN (by decide) rfl]; exact z1636
                        have z1689 : aI (f1670 pN) (8 * pF19.toInt + 5).toNat = y1575 := by rw [fm_A g1673 rN (by decide) rfl]; exact z1637
                        have z1690 : aI (f1670 pN) (8 * pF19.toInt + 6).toNat = 0 := by rw [fm_A g1673 rN (by decide) rfl]; exact z1638
                        clear z1632 z1633 z1634 z1635 z1636 z1637 z1638
                        have hF := FM.tr hF g1673 rfl
                        refine q_if_eq (tgt := 247) hx hb dX12_readClause_235 (by decide) rfl (fun c1691 => ?_) (fun c1691 => ?_)
                        · clear p1675
                          refine lv_aload_n hx hb dX12_readClause_247 rfl (lv_at hl 3 rfl) ?_
                          refine fg_RX12_39 E hW rh0 dX12_readClause_248 (fun a1692 m1693 r1694 => ?_)
                          obtain rfl : pN = a1692 := (((fm_R g1673 rh0 rfl).trans ((fm_R g1626 rh0 rfl).trans m1616))).symm.trans m1693
                          refine lv_iload_n hx hb dX12_readClause_251 rfl (lv_at hl 1 rfl) ?_
                          refine lv_bipush (v := 6) hx hb dX12_readClause_252 (by decide) ?_
                          refine q_iadd (Y := 6) hx hb dX12_readClause_254 rfl rfl (by omega) (fun x1695 h1696 => ?_)
                          refine lv_aload_n hx hb dX12_readClause_255 rfl (lv_at hl 3 rfl) ?_
                          refine fg_RX12_229 E hW rh0 dX12_readClause_256 (fun y1697 m1698 b1699 => ?_)
                          obtain rfl : y1575 = y1697 := (((fm_I g1673 rh0 rfl).trans ((fm_I g1626 rh0 rfl).trans m1621))).symm.trans m1698
                          have hw1704 := hW.2.2.2
                          refine gs_840 E hW rN ⟨by omega, by omega⟩ dX12_readClause_259 (fun f1700 H locs e1701 n1702 g1703 hW => ?_)
                          have z1705 : DJ f0 f1700 h0 pF21.toInt pF21.toInt y1575.toInt y1575.toInt y1575.toInt := dj_keep z1682 hw1704 g1703 rh0 rfl (fun q => by rw [fm_I g1703 rh0 rfl]; exact q)
                          have hF := FM.tr hF g1703 rfl
                          have q1706 : x1695.toInt = 8 * pF19.toInt + 6 := by omega
                          have q1707 : 0 ≤ 8 * pF19.toInt := by omega
                          have z1708 : ∀ j : Nat, (j : Int) < 8 * pF19.toInt → aI (f1700 pN) j = aI (f0 pN) j := pre_st2 z1683 e1701 q1706 q1707 (by decide)
                          clear z1683
                          have z1709 : aI (f1700 pN) (8 * pF19.toInt + 0).toNat = x6 := ent_no2 z1684 e1701 q1706 q1707 (by decide)
                          have z1710 : aI (f1700 pN) (8 * pF19.toInt + 1).toNat = 0 := ent_no2 z1685 e1701 q1706 q1707 (by decide)
                          have z1711 : aI (f1700 pN) (8 * pF19.toInt + 2).toNat = 0 := ent_no2 z1686 e1701 q1706 q1707 (by decide)
                          have z1712 : aI (f1700 pN) (8 * pF19.toInt + 3).toNat = pF21 := ent_no2 z1687 e1701 q1706 q1707 (by decide)
                          have z1713 : aI (f1700 pN) (8 * pF19.toInt + 4).toNat = y1575 := ent_no2 z1688 e1701 q1706 q1707 (by decide)
                          have z1714 : aI (f1700 pN) (8 * pF19.toInt + 5).toNat = y1575 := ent_no2 z1689 e1701 q1706 q1707 (by decide)
                          have z1715 : aI (f1700 pN) (8 * pF19.toInt + 6).toNat = y1575 := ent_st2 e1701 q1706 q1707 (by decide)
                          clear q1706 q1707
                          clear z1684 z1685 z1686 z1687 z1688 z1689 z1690
                          exact e_V E hW rfl ⟨rfl, hF, (by simp only [((fm_I g1703 rh0 rfl).trans m1677), mF12, ((fm_I g1703 rh0 rfl).trans ((fm_I g1673 rh0 rfl).trans ((fm_I g1626 rh0 rfl).trans ((fm_I g1602 rh0 rfl).trans m1564)))), mF13, ((fm_I g1703 rh0 rfl).trans ((fm_I g1673 rh0 rfl).trans ((fm_I g1626 rh0 rfl).trans ((fm_I g1602 rh0 rfl).trans m1567)))), mF14, ((fm_I g1703 rh0 rfl).trans ((fm_I g1673 rh0 rfl).trans ((fm_I g1626 rh0 rfl).trans ((fm_I g1602 rh0 rfl).trans m1570)))), mF15, ((fm_I g1703 rh0 rfl).trans ((fm_I g1673 rh0 rfl).trans m1640)), mF18, ((fm_I g1703 rh0 rfl).trans m1698), mF21, ((fm_J g1703 rh0 rfl).trans ((fm_J g1673 rh0 rfl).trans ((fm_J g1626 rh0 rfl).trans ((fm_J g1602 rh0 rfl).trans m1582)))), mW, and_true, true_and, true_or, or_true, false_or, or_false] <;> omega), (by have hk0 : (0 : Int32).toInt = 0 := rfl; rw [((fm_I g1703 rh0 rfl).trans m1698), ((fm_I g1703 rh0 rfl).trans ((fm_I g1673 rh0 rfl).trans ((fm_I g1626 rh0 rfl).trans ((fm_I g1602 rh0 rfl).trans ((fm_I g1549 rh0 rfl).trans ((fm_I g1036 rh0 rfl).trans e1010))))))]; exact cl_end (nc := y1575.toInt) (hd := x6) (r1 := 0) (r2 := 0) (show CLs _ _ _ pF21.toInt pF19.toInt from hC) (by omega) (show DJ f0 f1700 h0 pF21.toInt (pF21 : Int32).toInt (y1575 : Int32).toInt (y1575 : Int32).toInt (y1575 : Int32).toInt from z1705) (fun j hj => by unfold vN; rw [((fm_R g1703 rh0 rfl).trans m1693), mN]; exact z1708 j hj) (by unfold vN; rw [((fm_R g1703 rh0 rfl).trans m1693)]; exact z1709) (by unfold vN; rw [((fm_R g1703 rh0 rfl).trans m1693)]; exact z1710) (by unfold vN; rw [((fm_R g1703 rh0 rfl).trans m1693)]; exact z1711) (by unfold vN; rw [((fm_R g1703 rh0 rfl).trans m1693)]; exact z1712) (by unfold vN; rw [((fm_R g1703 rh0 rfl).trans m1693)]; exact z1713) (by unfold vN; rw [((fm_R g1703 rh0 rfl).trans m1693)]; exact z1714) (by unfold vN; rw [((fm_R g1703 rh0 rfl).trans m1693)]; exact z1715) (by rw [((fm_I g1703 rh0 rfl).trans ((fm_I g1673 rh0 rfl).trans m1640))]; omega) (by omega) (by omega))⟩ dX12_readClause_260
                        · have q1716 : y1569.toInt = 1 ∧ y1581.toInt = 294 := by omega
                          clear p1675
                          refine lv_aload_n hx hb dX12_readClause_238 rfl (lv_at hl 3 rfl) ?_
                          have hw1720 := hW.2.2.2
                          refine t_callV (As := []) (rest := []) E hW (c_X12_next l G cI cJ cZ cD cR cT kp L f1670 hW.2.2.2 _ h0 rh0 (by simp only [m1677, ((fm_I g1673 rh0 rfl).trans ((fm_I g1626 rh0 rfl).trans ((fm_I g1602 rh0 rfl).trans m1567))), and_true, true_and, true_or, or_true, false_or, or_false] <;> omega)) rh0 (by decide) rfl wk_X12_next tw_1773 rfl ⟨Nat.le_of_ble_eq_true rfl, Nat.le_of_ble_eq_true rfl⟩ ⟨rfl, rfl⟩ hl.1 rfl (Nat.le_of_ble_eq_true rfl) dX12_readClause_239 ⟨Nat.le_of_ble_eq_true rfl, Nat.le_of_ble_eq_true rfl⟩ (fun v1717 f1718 H locs q1719 hW => ?_)
                          obtain ⟨rfl, g1721, h1722⟩ := q1719
                          have z1723 : DJ f0 f1718 h0 pF21.toInt pF21.toInt y1575.toInt y1575.toInt y1575.toInt := dj_keep z1682 hw1720 g1721 rh0 rfl (fun q => by rw [fm_I g1721 rh0 rfl]; exact q)
                          have z1724 : ∀ j : Nat, (j : Int) < 8 * pF19.toInt → aI (f1718 pN) j = aI (f0 pN) j := by rw [fm_A g1721 rN (by decide) rfl]; exact z1683
                          clear z1683
                          have z1725 : aI (f1718 pN) (8 * pF19.toInt + 0).toNat = x6 := by rw [fm_A g1721 rN (by decide) rfl]; exact z1684
                          have z1726 : aI (f1718 pN) (8 * pF19.toInt + 1).toNat = 0 := by rw [fm_A g1721 rN (by decide) rfl]; exact z1685
                          have z1727 : aI (f1718 pN) (8 * pF19.toInt + 2).toNat = 0 := by rw [fm_A g1721 rN (by decide) rfl]; exact z1686
                          have z1728 : aI (f1718 pN) (8 * pF19.toInt + 3).toNat = pF21 := by rw [fm_A g1721 rN (by decide) rfl]; exact z1687
                          have z1729 : aI (f1718 pN) (8 * pF19.toInt + 4).toNat = y1575 := by rw [fm_A g1721 rN (by decide) rfl]; exact z1688
                          have z1730 : aI (f1718 pN) (8 * pF19.toInt + 5).toNat = y1575 := by rw [fm_A g1721 rN (by decide) rfl]; exact z1689
                          have z1731 : aI (f1718 pN) (8 * pF19.toInt + 6).toNat = 0 := by rw [fm_A g1721 rN (by decide) rfl]; exact z1690
                          clear z1684 z1685 z1686 z1687 z1688 z1689 z1690
                          have hF := FM.tr hF g1721 rfl
                          obtain ⟨y1732, m1733⟩ : ∃ x : Int32, oI (f1718 h0) 13 = x := ⟨_, rfl⟩
                          have b1734 : (0 : Int) ≤ y1732.toInt ∧ y1732.toInt ≤ 400 := by rw [← m1733]; exact th_iv hW rh0 (by decide) (by decide) rfl
                          obtain ⟨y1735, m1736⟩ : ∃ x : Int32, oI (f1718 h0) 14 = x := ⟨_, rfl⟩
                          have b1737 : (0 : Int) ≤ y1735.toInt ∧ y1735.toInt ≤ 400 := by rw [← m1736]; exact th_iv hW rh0 (by decide) (by decide) rfl
                          obtain ⟨y1738, m1739⟩ : ∃ x : Int32, oI (f1718 h0) 15 = x := ⟨_, rfl⟩
                          have b1740 : (0 : Int) ≤ y1738.toInt ∧ y1738.toInt ≤ 3 := by rw [← m1739]; exact th_iv hW rh0 (by decide) (by decide) rfl
                          obtain ⟨y1741, m1742⟩ : ∃ x : Int64, oJ (f1718 h0) 16 = x := ⟨_, rfl⟩
                          simp only [((fm_I g1721 rh0 rfl).trans m1677), m1677, m1733, ((fm_I g1673 rh0 rfl).trans ((fm_I g1626 rh0 rfl).trans ((fm_I g1602 rh0 rfl).trans m1564))), m1736, ((fm_I g1673 rh0 rfl).trans ((fm_I g1626 rh0 rfl).trans ((fm_I g1602 rh0 rfl).trans m1567))), m1739, ((fm_I g1673 rh0 rfl).trans ((fm_I g1626 rh0 rfl).trans ((fm_I g1602 rh0 rfl).trans m1570))), m1742, ((fm_J g1673 rh0 rfl).trans ((fm_J g1626 rh0 rfl).trans ((fm_J g1602 rh0 rfl).trans m1582)))] at h1722
                          obtain ⟨q1743, q1744, q1745, q1746, q1747⟩ := h1722
                          clear q1586 q1587
                          refine lv_aload_n hx hb dX12_readClause_242 rfl (lv_at hl 3 rfl) ?_
                          refine lv_iconst (v := 1) hx hb dX12_readClause_243 (by decide) ?_
                          have hw1752 := hW.2.2.2
                          refine t_callV (As := [.int 1]) (rest := []) E hW (c_X12_readExpression l G cI cJ cZ cD cR cT kp L f1718 hW.2.2.2 _ h0 1 rh0 (by decide) (by have hkq1748 : (1 : Int32).toInt = 1 := rfl; simp only [((fm_I g1721 rh0 rfl).trans m1677), m1733, m1736, m1739, ((fm_I g1721 rh0 rfl).trans ((fm_I g1673 rh0 rfl).trans m1640)), ((fm_I g1721 rh0 rfl).trans ((fm_I g1673 rh0 rfl).trans ((fm_I g1626 rh0 rfl).trans m1621))), m1742, and_true, true_and, true_or, or_true, false_or, or_false] <;> omega)) rh0 (by decide) rfl wk_X12_readExpression tw_1819 rfl ⟨Nat.le_of_ble_eq_true rfl, Nat.le_of_ble_eq_true rfl⟩ ⟨rfl, rfl⟩ hl.1 rfl (Nat.le_of_ble_eq_true rfl) dX12_readClause_244 ⟨Nat.le_of_ble_eq_true rfl, Nat.le_of_ble_eq_true rfl⟩ (fun v1749 f1750 H locs q1751 hW => ?_)
                          obtain ⟨rfl, g1753, h1754, h1755⟩ := q1751
                          have m1756 : oI (f1750 h0) 19 = x1007 := ((fm_I g1753 rh0 rfl).trans ((fm_I g1721 rh0 rfl).trans ((fm_I g1673 rh0 rfl).trans ((fm_I g1626 rh0 rfl).trans ((fm_I g1602 rh0 rfl).trans ((fm_I g1549 rh0 rfl).trans ((fm_I g1036 rh0 rfl).trans e1010)))))))
                          have m1757 : aI (f1750 pN) (x683 : Int32).toNatClampNeg = x6 := ((congrArg (fun z => aI z (x683 : Int32).toNatClampNeg) (fm_A g1753 rN (by decide) rfl)).trans ((congrArg (fun z => aI z (x683 : Int32).toNatClampNeg) (fm_A g1721 rN (by decide) rfl)).trans m1678))
                          have m1758 : aI (f1750 pN) (x1028 : Int32).toNatClampNeg = pF21 := ((congrArg (fun z => aI z (x1028 : Int32).toNatClampNeg) (fm_A g1753 rN (by decide) rfl)).trans ((congrArg (fun z => aI z (x1028 : Int32).toNatClampNeg) (fm_A g1721 rN (by decide) rfl)).trans m1679))
                          have m1759 : aI (f1750 pN) (x1594 : Int32).toNatClampNeg = y1575 := ((congrArg (fun z => aI z (x1594 : Int32).toNatClampNeg) (fm_A g1753 rN (by decide) rfl)).trans ((congrArg (fun z => aI z (x1594 : Int32).toNatClampNeg) (fm_A g1721 rN (by decide) rfl)).trans m1680))
                          have m1760 : aI (f1750 pN) (x1618 : Int32).toNatClampNeg = y1575 := ((congrArg (fun z => aI z (x1618 : Int32).toNatClampNeg) (fm_A g1753 rN (by decide) rfl)).trans ((congrArg (fun z => aI z (x1618 : Int32).toNatClampNeg) (fm_A g1721 rN (by decide) rfl)).trans m1681))
                          have z1761 : ∀ j : Nat, (j : Int) < 8 * pF19.toInt → aI (f1750 pN) j = aI (f0 pN) j := by rw [fm_A g1753 rN (by decide) rfl]; exact z1724
                          clear z1724
                          have z1762 : aI (f1750 pN) (8 * pF19.toInt + 0).toNat = x6 := by rw [fm_A g1753 rN (by decide) rfl]; exact z1725
                          have z1763 : aI (f1750 pN) (8 * pF19.toInt + 1).toNat = 0 := by rw [fm_A g1753 rN (by decide) rfl]; exact z1726
                          have z1764 : aI (f1750 pN) (8 * pF19.toInt + 2).toNat = 0 := by rw [fm_A g1753 rN (by decide) rfl]; exact z1727
                          have z1765 : aI (f1750 pN) (8 * pF19.toInt + 3).toNat = pF21 := by rw [fm_A g1753 rN (by decide) rfl]; exact z1728
                          have z1766 : aI (f1750 pN) (8 * pF19.toInt + 4).toNat = y1575 := by rw [fm_A g1753 rN (by decide) rfl]; exact z1729
                          have z1767 : aI (f1750 pN) (8 * pF19.toInt + 5).toNat = y1575 := by rw [fm_A g1753 rN (by decide) rfl]; exact z1730
                          have z1768 : aI (f1750 pN) (8 * pF19.toInt + 6).toNat = 0 := by rw [fm_A g1753 rN (by decide) rfl]; exact z1731
                          clear z1725 z1726 z1727 z1728 z1729 z1730 z1731
                          have hF := FM.tr hF g1753 rfl
                          have hk1769 : (1 : Int32).toInt = 1 := rfl
                          obtain ⟨y1770, m1771⟩ : ∃ x : Int32, oI (f1750 h0) 13 = x := ⟨_, rfl⟩
                          have b1772 : (0 : Int) ≤ y1770.toInt ∧ y1770.toInt ≤ 400 := by rw [← m1771]; exact th_iv hW rh0 (by decide) (by decide) rfl
                          obtain ⟨y1773, m1774⟩ : ∃ x : Int32, oI (f1750 h0) 14 = x := ⟨_, rfl⟩
                          have b1775 : (0 : Int) ≤ y1773.toInt ∧ y1773.toInt ≤ 400 := by rw [← m1774]; exact th_iv hW rh0 (by decide) (by decide) rfl
                          obtain ⟨y1776, m1777⟩ : ∃ x : Int32, oI (f1750 h0) 15 = x := ⟨_, rfl⟩
                          have b1778 : (0 : Int) ≤ y1776.toInt ∧ y1776.toInt ≤ 3 := by rw [← m1777]; exact th_iv hW rh0 (by decide) (by decide) rfl
                          obtain ⟨y1779, m1780⟩ : ∃ x : Int32, oI (f1750 h0) 18 = x := ⟨_, rfl⟩
                          have b1781 : (0 : Int) ≤ y1779.toInt ∧ y1779.toInt ≤ 1 := by rw [← m1780]; exact th_iv hW rh0 (by decide) (by decide) rfl
                          obtain ⟨y1782, m1783⟩ : ∃ x : Int32, oI (f1750 h0) 21 = x := ⟨_, rfl⟩
                          have b1784 : (0 : Int) ≤ y1782.toInt ∧ y1782.toInt ≤ 400 := by rw [← m1783]; exact th_iv hW rh0 (by decide) (by decide) rfl
                          obtain ⟨y1785, m1786⟩ : ∃ x : Int32, oI (f1750 h0) 27 = x := ⟨_, rfl⟩
                          have b1787 : (0 : Int) ≤ y1785.toInt ∧ y1785.toInt ≤ 400 := by rw [← m1786]; exact th_iv hW rh0 (by decide) (by decide) rfl
                          obtain ⟨y1788, m1789⟩ : ∃ x : Int64, oJ (f1750 h0) 16 = x := ⟨_, rfl⟩
                          simp only [((fm_I g1753 rh0 rfl).trans ((fm_I g1721 rh0 rfl).trans m1677)), ((fm_I g1721 rh0 rfl).trans m1677), m1771, m1733, m1774, m1736, m1777, m1739, m1780, ((fm_I g1721 rh0 rfl).trans ((fm_I g1673 rh0 rfl).trans m1640)), m1783, ((fm_I g1721 rh0 rfl).trans ((fm_I g1673 rh0 rfl).trans ((fm_I g1626 rh0 rfl).trans m1621))), m1786, ((fm_I g1721 rh0 rfl).trans ((fm_I g1673 rh0 rfl).trans ((fm_I g1626 rh0 rfl).trans ((fm_I g1602 rh0 rfl).trans m1579)))), m1789, m1742] at h1754
                          obtain ⟨q1790, q1791, q1792, q1793, q1794, q1795⟩ := h1754
                          clear q1745 q1746
                          have z1797 := h1755
                          rw [((fm_I g1721 rh0 rfl).trans ((fm_I g1673 rh0 rfl).trans ((fm_I g1626 rh0 rfl).trans m1621))), m1783] at z1797
                          have z1796 : DJ f0 f1750 h0 pF21.toInt pF21.toInt y1575.toInt y1575.toInt y1782.toInt := dj_ex2 z1723 (by rw [((fm_I g1721 rh0 rfl).trans ((fm_I g1673 rh0 rfl).trans m1640))]; omega) (by omega) (by omega) (by omega) z1797
                          refine lv_aload_n hx hb dX12_readClause_247 rfl (lv_at hl 3 rfl) ?_
                          refine fg_RX12_39 E hW rh0 dX12_readClause_248 (fun a1798 m1799 r1800 => ?_)
                          obtain rfl : pN = a1798 := (((fm_R g1753 rh0 rfl).trans ((fm_R g1721 rh0 rfl).trans ((fm_R g1673 rh0 rfl).trans ((fm_R g1626 rh0 rfl).trans m1616))))).symm.trans m1799
                          refine lv_iload_n hx hb dX12_readClause_251 rfl (lv_at hl 1 rfl) ?_
                          refine lv_bipush (v := 6) hx hb dX12_readClause_252 (by decide) ?_
                          refine q_iadd (Y := 6) hx hb dX12_readClause_254 rfl rfl (by omega) (fun x1801 h1802 => ?_)
                          refine lv_aload_n hx hb dX12_readClause_255 rfl (lv_at hl 3 rfl) ?_
                          refine fg_RX12_229 E hW rh0 dX12_readClause_256 (fun y1803 m1804 b1805 => ?_)
                          obtain rfl : y1782 = y1803 := (m1783).symm.trans m1804
                          have hw1810 := hW.2.2.2
                          refine gs_840 E hW rN ⟨by omega, by omega⟩ dX12_readClause_259 (fun f1806 H locs e1807 n1808 g1809 hW => ?_)
                          have z1811 : DJ f0 f1806 h0 pF21.toInt pF21.toInt y1575.toInt y1575.toInt y1782.toInt := dj_keep z1796 hw1810 g1809 rh0 rfl (fun q => by rw [fm_I g1809 rh0 rfl]; exact q)
                          have hF := FM.tr hF g1809 rfl
                          have q1812 : x1801.toInt = 8 * pF19.toInt + 6 := by omega
                          have q1813 : 0 ≤ 8 * pF19.toInt := by omega
                          have z1814 : ∀ j : Nat, (j : Int) < 8 * pF19.toInt → aI (f1806 pN) j = aI (f0 pN) j := pre_st2 z1761 e1807 q1812 q1813 (by decide)
                          clear z1761
                          have z1815 : aI (f1806 pN) (8 * pF19.toInt + 0).toNat = x6 := ent_no2 z1762 e1807 q1812 q1813 (by decide)
                          have z1816 : aI (f1806 pN) (8 * pF19.toInt + 1).toNat = 0 := ent_no2 z1763 e1807 q1812 q1813 (by decide)
                          have z1817 : aI (f1806 pN) (8 * pF19.toInt + 2).toNat = 0 := ent_no2 z1764 e1807 q1812 q1813 (by decide)
                          have z1818 : aI (f1806 pN) (8 * pF19.toInt + 3).toNat = pF21 := ent_no2 z1765 e1807 q1812 q1813 (by decide)
                          have z1819 : aI (f1806 pN) (8 * pF19.toInt + 4).toNat = y1575 := ent_no2 z1766 e1807 q1812 q1813 (by decide)
                          have z1820 : aI (f1806 pN) (8 * pF19.toInt + 5).toNat = y1575 := ent_no2 z1767 e1807 q1812 q1813 (by decide)
                          have z1821 : aI (f1806 pN) (8 * pF19.toInt + 6).toNat = y1782 := ent_st2 e1807 q1812 q1813 (by decide)
                          clear q1812 q1813
                          clear z1762 z1763 z1764 z1765 z1766 z1767 z1768
                          exact e_V E hW rfl ⟨rfl, hF, (by simp only [((fm_I g1809 rh0 rfl).trans ((fm_I g1753 rh0 rfl).trans ((fm_I g1721 rh0 rfl).trans m1677))), mF12, ((fm_I g1809 rh0 rfl).trans m1771), mF13, ((fm_I g1809 rh0 rfl).trans m1774), mF14, ((fm_I g1809 rh0 rfl).trans m1777), mF15, ((fm_I g1809 rh0 rfl).trans m1780), mF18, ((fm_I g1809 rh0 rfl).trans m1804), mF21, ((fm_J g1809 rh0 rfl).trans m1789), mW, and_true, true_and, true_or, or_true, false_or, or_false] <;> omega), (by have hk0 : (0 : Int32).toInt = 0 := rfl; rw [((fm_I g1809 rh0 rfl).trans m1804), ((fm_I g1809 rh0 rfl).trans m1756)]; exact cl_end (nc := y1782.toInt) (hd := x6) (r1 := 0) (r2 := 0) (show CLs _ _ _ pF21.toInt pF19.toInt from hC) (by omega) (show DJ f0 f1806 h0 pF21.toInt (pF21 : Int32).toInt (y1575 : Int32).toInt (y1575 : Int32).toInt (y1782 : Int32).toInt from z1811) (fun j hj => by unfold vN; rw [((fm_R g1809 rh0 rfl).trans m1799), mN]; exact z1814 j hj) (by unfold vN; rw [((fm_R g1809 rh0 rfl).trans m1799)]; exact z1815) (by unfold vN; rw [((fm_R g1809 rh0 rfl).trans m1799)]; exact z1816) (by unfold vN; rw [((fm_R g1809 rh0 rfl).trans m1799)]; exact z1817) (by unfold vN; rw [((fm_R g1809 rh0 rfl).trans m1799)]; exact z1818) (by unfold vN; rw [((fm_R g1809 rh0 rfl).trans m1799)]; exact z1819) (by unfold vN; rw [((fm_R g1809 rh0 rfl).trans m1799)]; exact z1820) (by unfold vN; rw [((fm_R g1809 rh0 rfl).trans m1799)]; exact z1821) (by rw [((fm_I g1809 rh0 rfl).trans m1780)]; omega) (by omega) (by omega))⟩ dX12_readClause_260
                · refine lv_aload_n hx hb dX12_readClause_137 rfl (lv_at hl 3 rfl) ?_
                  refine fg_RX12_39 E hW rh0 dX12_readClause_138 (fun a1822 m1823 r1824 => ?_)
                  obtain rfl : pN = a1822 := (((fm_R g1012 rh0 rfl).trans ((fm_R g990 rh0 rfl).trans m985))).symm.trans m1823
                  refine lv_iload_n hx hb dX12_readClause_141 rfl (lv_at hl 1 rfl) ?_
                  refine lv_iconst (v := 1) hx hb dX12_readClause_142 (by decide) ?_
                  refine q_iadd (Y := 1) hx hb dX12_readClause_143 rfl rfl (by omega) (fun x1825 h1826 => ?_)
                  refine lv_aload_n hx hb dX12_readClause_144 rfl (lv_at hl 3 rfl) ?_
                  refine lv_lconst (v := 0) hx hb dX12_readClause_145 (by decide) ?_
                  refine lv_ldc2 (v := 3) hx hb hown (hts _ tw_1817) dX12_readClause_146 ?_
                  have hw1832 := hW.2.2.2
                  refine t_callV (As := [.long 0, .long 3]) (rest := [.int x1825, .ref pN]) E hW (c_X12_number l G cI cJ cZ cD cR cT kp L f1009 hW.2.2.2 _ h0 0 3 rh0 (by decide) (by decide) (by have hkq1827 : (0 : Int64).toInt = 0 := rfl; have hkq1828 : (3 : Int64).toInt = 3 := rfl; simp only [((fm_I g1012 rh0 rfl).trans ((fm_I g990 rh0 rfl).trans m966)), ((fm_I g1012 rh0 rfl).trans ((fm_I g990 rh0 rfl).trans m967)), ((fm_I g1012 rh0 rfl).trans ((fm_I g990 rh0 rfl).trans m968)), ((fm_I g1012 rh0 rfl).trans ((fm_I g990 rh0 rfl).trans m969)), ((fm_J g1012 rh0 rfl).trans ((fm_J g990 rh0 rfl).trans m970)), and_true, true_and, true_or, or_true, false_or, or_false] <;> omega)) rh0 (by decide) rfl wk_X12_number tw_1811 rfl ⟨Nat.le_of_ble_eq_true rfl, Nat.le_of_ble_eq_true rfl⟩ ⟨rfl, rfl⟩ hl.1 rfl (Nat.le_of_ble_eq_true rfl) dX12_readClause_149 ⟨Nat.le_of_ble_eq_true rfl, Nat.le_of_ble_eq_true rfl⟩ (fun v1829 f1830 H locs q1831 hW => ?_)
                  obtain ⟨⟨x1835, rfl, p1836⟩, g1833, h1834⟩ := q1831
                  clear p1836
                  have m1837 : aI (f1830 pN) (x683 : Int32).toNatClampNeg = x6 := ((congrArg (fun z => aI z (x683 : Int32).toNatClampNeg) (fm_A g1833 rN (by decide) rfl)).trans ((congrArg (fun z => aI z (x683 : Int32).toNatClampNeg) (fm_A g1012 rN (by decide) rfl)).trans (show aI (f987 pN) (x683 : Int32).toNatClampNeg = x6 from by rw [e988]; exact up_s)))
                  have z1839 : ∀ j : Nat, (j : Int) < 8 * pF19.toInt → aI (f1830 pN) j = aI (f0 pN) j := by rw [fm_A g1833 rN (by decide) rfl]; exact z1015
                  clear z1015
                  have z1840 : aI (f1830 pN) (8 * pF19.toInt + 0).toNat = x6 := by rw [fm_A g1833 rN (by decide) rfl]; exact z1016
                  have z1841 : aI (f1830 pN) (8 * pF19.toInt + 1).toNat = 0 := by rw [fm_A g1833 rN (by decide) rfl]; exact z1017
                  have z1842 : aI (f1830 pN) (8 * pF19.toInt + 2).toNat = 0 := by rw [fm_A g1833 rN (by decide) rfl]; exact z1018
                  have z1843 : aI (f1830 pN) (8 * pF19.toInt + 3).toNat = 0 := by rw [fm_A g1833 rN (by decide) rfl]; exact z1019
                  have z1844 : aI (f1830 pN) (8 * pF19.toInt + 4).toNat = 0 := by rw [fm_A g1833 rN (by decide) rfl]; exact z1020
                  have z1845 : aI (f1830 pN) (8 * pF19.toInt + 5).toNat = 0 := by rw [fm_A g1833 rN (by decide) rfl]; exact z1021
                  have z1846 : aI (f1830 pN) (8 * pF19.toInt + 6).toNat = 0 := by rw [fm_A g1833 rN (by decide) rfl]; exact z1022
                  clear z1016 z1017 z1018 z1019 z1020 z1021 z1022
                  have hF := FM.tr hF g1833 rfl
                  have h1834 := h1834 _ rfl
                  have hk1847 : (0 : Int64).toInt = 0 := rfl
                  have hk1848 : (3 : Int64).toInt = 3 := rfl
                  obtain ⟨y1849, m1850⟩ : ∃ x : Int32, oI (f1830 h0) 13 = x := ⟨_, rfl⟩
                  have b1851 : (0 : Int) ≤ y1849.toInt ∧ y1849.toInt ≤ 400 := by rw [← m1850]; exact th_iv hW rh0 (by decide) (by decide) rfl
                  obtain ⟨y1852, m1853⟩ : ∃ x : Int32, oI (f1830 h0) 14 = x := ⟨_, rfl⟩
                  have b1854 : (0 : Int) ≤ y1852.toInt ∧ y1852.toInt ≤ 400 := by rw [← m1853]; exact th_iv hW rh0 (by decide) (by decide) rfl
                  obtain ⟨y1855, m1856⟩ : ∃ x : Int32, oI (f1830 h0) 15 = x := ⟨_, rfl⟩
                  have b1857 : (0 : Int) ≤ y1855.toInt ∧ y1855.toInt ≤ 3 := by rw [← m1856]; exact th_iv hW rh0 (by decide) (by decide) rfl
                  obtain ⟨y1858, m1859⟩ : ∃ x : Int32, oI (f1830 h0) 18 = x := ⟨_, rfl⟩
                  have b1860 : (0 : Int) ≤ y1858.toInt ∧ y1858.toInt ≤ 1 := by rw [← m1859]; exact th_iv hW rh0 (by decide) (by decide) rfl
                  obtain ⟨y1861, m1862⟩ : ∃ x : Int64, oJ (f1830 h0) 16 = x := ⟨_, rfl⟩
                  simp only [((fm_I g1833 rh0 rfl).trans ((fm_I g1012 rh0 rfl).trans ((fm_I g990 rh0 rfl).trans m966))), ((fm_I g1012 rh0 rfl).trans ((fm_I g990 rh0 rfl).trans m966)), m1850, ((fm_I g1012 rh0 rfl).trans ((fm_I g990 rh0 rfl).trans m967)), m1853, ((fm_I g1012 rh0 rfl).trans ((fm_I g990 rh0 rfl).trans m968)), m1856, ((fm_I g1012 rh0 rfl).trans ((fm_I g990 rh0 rfl).trans m969)), m1859, ((fm_I g1012 rh0 rfl).trans ((fm_I g990 rh0 rfl).trans m971)), m1862, ((fm_J g1012 rh0 rfl).trans ((fm_J g990 rh0 rfl).trans m970))] at h1834
                  have z1863 : DJ f0 f1830 h0 pF21.toInt 0 0 0 0 := dj_keep z1014 hw1832 g1833 rh0 rfl (fun q => by rw [((fm_I g1012 rh0 rfl).trans ((fm_I g990 rh0 rfl).trans m971))] at q; rw [m1859]; omega)
                  obtain ⟨q1864, q1865, q1866, q1867, q1868⟩ := h1834
                  clear q673 q674
                  have hw1873 := hW.2.2.2
                  refine gs_840 E hW rN ⟨by omega, by omega⟩ dX12_readClause_152 (fun f1869 H locs e1870 n1871 g1872 hW => ?_)
                  have z1874 : DJ f0 f1869 h0 pF21.toInt 0 0 0 0 := dj_keep z1863 hw1873 g1872 rh0 rfl (fun q => by rw [fm_I g1872 rh0 rfl]; exact q)
                  have hF := FM.tr hF g1872 rfl
                  have q1875 : x1825.toInt = 8 * pF19.toInt + 1 := by omega
                  have q1876 : 0 ≤ 8 * pF19.toInt := by omega
                  have z1877 : ∀ j : Nat, (j : Int) < 8 * pF19.toInt → aI (f1869 pN) j = aI (f0 pN) j := pre_st2 z1839 e1870 q1875 q1876 (by decide)
                  clear z1839
                  have z1878 : aI (f1869 pN) (8 * pF19.toInt + 0).toNat = x6 := ent_no2 z1840 e1870 q1875 q1876 (by decide)
                  have z1879 : aI (f1869 pN) (8 * pF19.toInt + 1).toNat = x1835 := ent_st2 e1870 q1875 q1876 (by decide)
                  have z1880 : aI (f1869 pN) (8 * pF19.toInt + 2).toNat = 0 := ent_no2 z1842 e1870 q1875 q1876 (by decide)
                  have z1881 : aI (f1869 pN) (8 * pF19.toInt + 3).toNat = 0 := ent_no2 z1843 e1870 q1875 q1876 (by decide)
                  have z1882 : aI (f1869 pN) (8 * pF19.toInt + 4).toNat = 0 := ent_no2 z1844 e1870 q1875 q1876 (by decide)
                  have z1883 : aI (f1869 pN) (8 * pF19.toInt + 5).toNat = 0 := ent_no2 z1845 e1870 q1875 q1876 (by decide)
                  have z1884 : aI (f1869 pN) (8 * pF19.toInt + 6).toNat = 0 := ent_no2 z1846 e1870 q1875 q1876 (by decide)
                  clear q1875 q1876
                  clear z1840 z1841 z1842 z1843 z1844 z1845 z1846
                  refine lv_aload_n hx hb dX12_readClause_153 rfl (lv_at hl 3 rfl) ?_
                  refine fg_RX12_39 E hW rh0 dX12_readClause_154 (fun a1885 m1886 r1887 => ?_)
                  obtain rfl : pN = a1885 := (((fm_R g1872 rh0 rfl).trans ((fm_R g1833 rh0 rfl).trans m1823))).symm.trans m1886
                  refine lv_iload_n hx hb dX12_readClause_157 rfl (lv_at hl 1 rfl) ?_
                  refine lv_iconst (v := 2) hx hb dX12_readClause_158 (by decide) ?_
                  refine q_iadd (Y := 2) hx hb dX12_readClause_159 rfl rfl (by omega) (fun x1888 h1889 => ?_)
                  refine lv_aload_n hx hb dX12_readClause_160 rfl (lv_at hl 3 rfl) ?_
                  refine lv_lconst (v := 1) hx hb dX12_readClause_161 (by decide) ?_
                  refine lv_ldc2 (v := 52) hx hb hown (hts _ tw_1818) dX12_readClause_162 ?_
                  have hw1895 := hW.2.2.2
                  refine t_callV (As := [.long 1, .long 52]) (rest := [.int x1888, .ref pN]) E hW (c_X12_number l G cI cJ cZ cD cR cT kp L f1869 hW.2.2.2 _ h0 1 52 rh0 (by decide) (by decide) (by have hkq1890 : (1 : Int64).toInt = 1 := rfl; have hkq1891 : (52 : Int64).toInt = 52 := rfl; simp only [((fm_I g1872 rh0 rfl).trans ((fm_I g1833 rh0 rfl).trans ((fm_I g1012 rh0 rfl).trans ((fm_I g990 rh0 rfl).trans m966)))), ((fm_I g1872 rh0 rfl).trans m1850), ((fm_I g1872 rh0 rfl).trans m1853), ((fm_I g1872 rh0 rfl).trans m1856), ((fm_J g1872 rh0 rfl).trans m1862), and_true, true_and, true_or, or_true, false_or, or_false] <;> omega)) rh0 (by decide) rfl wk_X12_number tw_1811 rfl ⟨Nat.le_of_ble_eq_true rfl, Nat.le_of_ble_eq_true rfl⟩ ⟨rfl, rfl⟩ hl.1 rfl (Nat.le_of_ble_eq_true rfl) dX12_readClause_165 ⟨Nat.le_of_ble_eq_true rfl, Nat.le_of_ble_eq_true rfl⟩ (fun v1892 f1893 H locs q1894 hW => ?_)
                  obtain ⟨⟨x1898, rfl, p1899⟩, g1896, h1897⟩ := q1894
                  clear p1899
                  have m1900 : aI (f1893 pN) (x683 : Int32).toNatClampNeg = x6 := ((congrArg (fun z => aI z (x683 : Int32).toNatClampNeg) (fm_A g1896 rN (by decide) rfl)).trans (show aI (f1869 pN) (x683 : Int32).toNatClampNeg = x6 from by rw [e1870, up_n (tn_ne (by omega) (by omega) (by omega))]; exact m1837))
                  have m1901 : aI (f1893 pN) (x1825 : Int32).toNatClampNeg = x1835 := ((congrArg (fun z => aI z (x1825 : Int32).toNatClampNeg) (fm_A g1896 rN (by decide) rfl)).trans (show aI (f1869 pN) (x1825 : Int32).toNatClampNeg = x1835 from by rw [e1870]; exact up_s))
                  have z1903 : ∀ j : Nat, (j : Int) < 8 * pF19.toInt → aI (f1893 pN) j = aI (f0 pN) j := by rw [fm_A g1896 rN (by decide) rfl]; exact z1877
                  clear z1877
                  have z1904 : aI (f1893 pN) (8 * pF19.toInt + 0).toNat = x6 := by rw [fm_A g1896 rN (by decide) rfl]; exact z1878
                  have z1905 : aI (f1893 pN) (8 * pF19.toInt + 1).toNat = x1835 := by rw [fm_A g1896 rN (by decide) rfl]; exact z1879
                  have z1906 : aI (f1893 pN) (8 * pF19.toInt + 2).toNat = 0 := by rw [fm_A g1896 rN (by decide) rfl]; exact z1880
                  have z1907 : aI (f1893 pN) (8 * pF19.toInt + 3).toNat = 0 := by rw [fm_A g1896 rN (by decide) rfl]; exact z1881
                  have z1908 : aI (f1893 pN) (8 * pF19.toInt + 4).toNat = 0 := by rw [fm_A g1896 rN (by decide) rfl]; exact z1882
                  have z1909 : aI (f1893 pN) (8 * pF19.toInt + 5).toNat = 0 := by rw [fm_A g1896 rN (by decide) rfl]; exact z1883
                  have z1910 : aI (f1893 pN) (8 * pF19.toInt + 6).toNat = 0 := by rw [fm_A g1896 rN (by decide) rfl]; exact z1884
                  clear z1878 z1879 z1880 z1881 z1882 z1883 z1884
                  have hF := FM.tr hF g1896 rfl
                  have h1897 := h1897 _ rfl
                  have hk1911 : (1 : Int64).toInt = 1 := rfl
                  have hk1912 : (52 : Int64).toInt = 52 := rfl
                  obtain ⟨y1913, m1914⟩ : ∃ x : Int32, oI (f1893 h0) 13 = x := ⟨_, rfl⟩
                  have b1915 : (0 : Int) ≤ y1913.toInt ∧ y1913.toInt ≤ 400 := by rw [← m1914]; exact th_iv hW rh0 (by decide) (by decide) rfl
                  obtain ⟨y1916, m1917⟩ : ∃ x : Int32, oI (f1893 h0) 14 = x := ⟨_, rfl⟩
                  have b1918 : (0 : Int) ≤ y1916.toInt ∧ y1916.toInt ≤ 400 := by rw [← m1917]; exact th_iv hW rh0 (by decide) (by decide) rfl
                  obtain ⟨y1919, m1920⟩ : ∃ x : Int32, oI (f1893 h0) 15 = x := ⟨_, rfl⟩
                  have b1921 : (0 : Int) ≤ y1919.toInt ∧ y1919.toInt ≤ 3 := by rw [← m1920]; exact th_iv hW rh0 (by decide) (by decide) rfl
                  obtain ⟨y1922, m1923⟩ : ∃ x : Int32, oI (f1893 h0) 18 = x := ⟨_, rfl⟩
                  have b1924 : (0 : Int) ≤ y1922.toInt ∧ y1922.toInt ≤ 1 := by rw [← m1923]; exact th_iv hW rh0 (by decide) (by decide) rfl
                  obtain ⟨y1925, m1926⟩ : ∃ x : Int64, oJ (f1893 h0) 16 = x := ⟨_, rfl⟩
                  simp only [((fm_I g1896 rh0 rfl).trans ((fm_I g1872 rh0 rfl).trans ((fm_I g1833 rh0 rfl).trans ((fm_I g1012 rh0 rfl).trans ((fm_I g990 rh0 rfl).trans m966))))), ((fm_I g1872 rh0 rfl).trans ((fm_I g1833 rh0 rfl).trans ((fm_I g1012 rh0 rfl).trans ((fm_I g990 rh0 rfl).trans m966)))), m1914, ((fm_I g1872 rh0 rfl).trans m1850), m1917, ((fm_I g1872 rh0 rfl).trans m1853), m1920, ((fm_I g1872 rh0 rfl).trans m1856), m1923, ((fm_I g1872 rh0 rfl).trans m1859), m1926, ((fm_J g1872 rh0 rfl).trans m1862)] at h1897
                  have z1927 : DJ f0 f1893 h0 pF21.toInt 0 0 0 0 := dj_keep z1874 hw1895 g1896 rh0 rfl (fun q => by rw [((fm_I g1872 rh0 rfl).trans m1859)] at q; rw [m1923]; omega)
                  obtain ⟨q1928, q1929, q1930, q1931, q1932⟩ := h1897
                  clear q1866 q1867
                  have hw1937 := hW.2.2.2
                  refine gs_840 E hW rN ⟨by omega, by omega⟩ dX12_readClause_168 (fun f1933 H locs e1934 n1935 g1936 hW => ?_)
                  have z1938 : DJ f0 f1933 h0 pF21.toInt 0 0 0 0 := dj_keep z1927 hw1937 g1936 rh0 rfl (fun q => by rw [fm_I g1936 rh0 rfl]; exact q)
                  have hF := FM.tr hF g1936 rfl
                  have q1939 : x1888.toInt = 8 * pF19.toInt + 2 := by omega
                  have q1940 : 0 ≤ 8 * pF19.toInt := by omega
                  have z1941 : ∀ j : Nat, (j : Int) < 8 * pF19.toInt → aI (f1933 pN) j = aI (f0 pN) j := pre_st2 z1903 e1934 q1939 q1940 (by decide)
                  clear z1903
                  have z1942 : aI (f1933 pN) (8 * pF19.toInt + 0).toNat = x6 := ent_no2 z1904 e1934 q1939 q1940 (by decide)
                  have z1943 : aI (f1933 pN) (8 * pF19.toInt + 1).toNat = x1835 := ent_no2 z1905 e1934 q1939 q1940 (by decide)
                  have z1944 : aI (f1933 pN) (8 * pF19.toInt + 2).toNat = x1898 := ent_st2 e1934 q1939 q1940 (by decide)
                  have z1945 : aI (f1933 pN) (8 * pF19.toInt + 3).toNat = 0 := ent_no2 z1907 e1934 q1939 q1940 (by decide)
                  have z1946 : aI (f1933 pN) (8 * pF19.toInt + 4).toNat = 0 := ent_no2 z1908 e1934 q1939 q1940 (by decide)
                  have z1947 : aI (f1933 pN) (8 * pF19.toInt + 5).toNat = 0 := ent_no2 z1909 e1934 q1939 q1940 (by decide)
                  have z1948 : aI (f1933 pN) (8 * pF19.toInt + 6).toNat = 0 := ent_no2 z1910 e1934 q1939 q1940 (by decide)
                  clear q1939 q1940
                  clear z1904 z1905 z1906 z1907 z1908 z1909 z1910
                  exact e_V E hW rfl ⟨rfl, hF, (by simp only [((fm_I g1936 rh0 rfl).trans ((fm_I g1896 rh0 rfl).trans ((fm_I g1872 rh0 rfl).trans ((fm_I g1833 rh0 rfl).trans ((fm_I g1012 rh0 rfl).trans ((fm_I g990 rh0 rfl).trans m966)))))), mF12, ((fm_I g1936 rh0 rfl).trans m1914), mF13, ((fm_I g1936 rh0 rfl).trans m1917), mF14, ((fm_I g1936 rh0 rfl).trans m1920), mF15, ((fm_I g1936 rh0 rfl).trans m1923), mF18, ((fm_I g1936 rh0 rfl).trans ((fm_I g1896 rh0 rfl).trans ((fm_I g1872 rh0 rfl).trans ((fm_I g1833 rh0 rfl).trans ((fm_I g1012 rh0 rfl).trans ((fm_I g990 rh0 rfl).trans m974)))))), mF21, ((fm_J g1936 rh0 rfl).trans m1926), mW, and_true, true_and, true_or, or_true, false_or, or_false] <;> omega), (by have hk0 : (0 : Int32).toInt = 0 := rfl; rw [((fm_I g1936 rh0 rfl).trans ((fm_I g1896 rh0 rfl).trans ((fm_I g1872 rh0 rfl).trans ((fm_I g1833 rh0 rfl).trans ((fm_I g1012 rh0 rfl).trans ((fm_I g990 rh0 rfl).trans m974)))))), ((fm_I g1936 rh0 rfl).trans ((fm_I g1896 rh0 rfl).trans ((fm_I g1872 rh0 rfl).trans ((fm_I g1833 rh0 rfl).trans e1010))))]; exact cl_end (nc := pF21.toInt) (hd := x6) (r1 := x1835) (r2 := x1898) (show CLs _ _ _ pF21.toInt pF19.toInt from hC) (by omega) (show DJ f0 f1933 h0 pF21.toInt (0 : Int32).toInt (0 : Int32).toInt (0 : Int32).toInt (0 : Int32).toInt from z1938) (fun j hj => by unfold vN; rw [((fm_R g1936 rh0 rfl).trans ((fm_R g1896 rh0 rfl).trans m1886)), mN]; exact z1941 j hj) (by unfold vN; rw [((fm_R g1936 rh0 rfl).trans ((fm_R g1896 rh0 rfl).trans m1886))]; exact z1942) (by unfold vN; rw [((fm_R g1936 rh0 rfl).trans ((fm_R g1896 rh0 rfl).trans m1886))]; exact z1943) (by unfold vN; rw [((fm_R g1936 rh0 rfl).trans ((fm_R g1896 rh0 rfl).trans m1886))]; exact z1944) (by unfold vN; rw [((fm_R g1936 rh0 rfl).trans ((fm_R g1896 rh0 rfl).trans m1886))]; exact z1945) (by unfold vN; rw [((fm_R g1936 rh0 rfl).trans ((fm_R g1896 rh0 rfl).trans m1886))]; exact z1946) (by unfold vN; rw [((fm_R g1936 rh0 rfl).trans ((fm_R g1896 rh0 rfl).trans m1886))]; exact z1947) (by unfold vN; rw [((fm_R g1936 rh0 rfl).trans ((fm_R g1896 rh0 rfl).trans m1886))]; exact z1948) (by rw [((fm_I g1936 rh0 rfl).trans m1923)]; omega) (by omega) (by omega))⟩ dX12_readClause_169
              · refine lv_aload_n hx hb dX12_readClause_88 rfl (lv_at hl 3 rfl) ?_
                refine fg_RX12_39 E hW rh0 dX12_readClause_89 (fun a1949 m1950 r1951 => ?_)
                obtain rfl : pN = a1949 := (((fm_R g1012 rh0 rfl).trans ((fm_R g990 rh0 rfl).trans m985))).symm.trans m1950
                refine lv_iload_n hx hb dX12_readClause_92 rfl (lv_at hl 1 rfl) ?_
                refine lv_iconst (v := 1) hx hb dX12_readClause_93 (by decide) ?_
                refine q_iadd (Y := 1) hx hb dX12_readClause_94 rfl rfl (by omega) (fun x1952 h1953 => ?_)
                refine lv_aload_n hx hb dX12_readClause_95 rfl (lv_at hl 3 rfl) ?_
                refine lv_lconst (v := 0) hx hb dX12_readClause_96 (by decide) ?_
                refine lv_ldc2 (v := 19) hx hb hown (hts _ tw_1569) dX12_readClause_97 ?_
                have hw1959 := hW.2.2.2
                refine t_callV (As := [.long 0, .long 19]) (rest := [.int x1952, .ref pN]) E hW (c_X12_number l G cI cJ cZ cD cR cT kp L f1009 hW.2.2.2 _ h0 0 19 rh0 (by decide) (by decide) (by have hkq1954 : (0 : Int64).toInt = 0 := rfl; have hkq1955 : (19 : Int64).toInt = 19 := rfl; simp only [((fm_I g1012 rh0 rfl).trans ((fm_I g990 rh0 rfl).trans m966)), ((fm_I g1012 rh0 rfl).trans ((fm_I g990 rh0 rfl).trans m967)), ((fm_I g1012 rh0 rfl).trans ((fm_I g990 rh0 rfl).trans m968)), ((fm_I g1012 rh0 rfl).trans ((fm_I g990 rh0 rfl).trans m969)), ((fm_J g1012 rh0 rfl).trans ((fm_J g990 rh0 rfl).trans m970)), and_true, true_and, true_or, or_true, false_or, or_false] <;> omega)) rh0 (by decide) rfl wk_X12_number tw_1811 rfl ⟨Nat.le_of_ble_eq_true rfl, Nat.le_of_ble_eq_true rfl⟩ ⟨rfl, rfl⟩ hl.1 rfl (Nat.le_of_ble_eq_true rfl) dX12_readClause_100 ⟨Nat.le_of_ble_eq_true rfl, Nat.le_of_ble_eq_true rfl⟩ (fun v1956 f1957 H locs q1958 hW => ?_)
                obtain ⟨⟨x1962, rfl, p1963⟩, g1960, h1961⟩ := q1958
                clear p1963
                have m1964 : aI (f1957 pN) (x683 : Int32).toNatClampNeg = x6 := ((congrArg (fun z => aI z (x683 : Int32).toNatClampNeg) (fm_A g1960 rN (by decide) rfl)).trans ((congrArg (fun z => aI z (x683 : Int32).toNatClampNeg) (fm_A g1012 rN (by decide) rfl)).trans (show aI (f987 pN) (x683 : Int32).toNatClampNeg = x6 from by rw [e988]; exact up_s)))
                have z1966 : ∀ j : Nat, (j : Int) < 8 * pF19.toInt → aI (f1957 pN) j = aI (f0 pN) j := by rw [fm_A g1960 rN (by decide) rfl]; exact z1015
                clear z1015
                have z1967 : aI (f1957 pN) (8 * pF19.toInt + 0).toNat = x6 := by rw [fm_A g1960 rN (by decide) rfl]; exact z1016
                have z1968 : aI (f1957 pN) (8 * pF19.toInt + 1).toNat = 0 := by rw [fm_A g1960 rN (by decide) rfl]; exact z1017
                have z1969 : aI (f1957 pN) (8 * pF19.toInt + 2).toNat = 0 := by rw [fm_A g1960 rN (by decide) rfl]; exact z1018
                have z1970 : aI (f1957 pN) (8 * pF19.toInt + 3).toNat = 0 := by rw [fm_A g1960 rN (by decide) rfl]; exact z1019
                have z1971 : aI (f1957 pN) (8 * pF19.toInt + 4).toNat = 0 := by rw [fm_A g1960 rN (by decide) rfl]; exact z1020
                have z1972 : aI (f1957 pN) (8 * pF19.toInt + 5).toNat = 0 := by rw [fm_A g1960 rN (by decide) rfl]; exact z1021
                have z1973 : aI (f1957 pN) (8 * pF19.toInt + 6).toNat = 0 := by rw [fm_A g1960 rN (by decide) rfl]; exact z1022
                clear z1016 z1017 z1018 z1019 z1020 z1021 z1022
                have hF := FM.tr hF g1960 rfl
                have h1961 := h1961 _ rfl
                have hk1974 : (0 : Int64).toInt = 0 := rfl
                have hk1975 : (19 : Int64).toInt = 19 := rfl
                obtain ⟨y1976, m1977⟩ : ∃ x : Int32, oI (f1957 h0) 13 = x := ⟨_, rfl⟩
                have b1978 : (0 : Int) ≤ y1976.toInt ∧ y1976.toInt ≤ 400 := by rw [← m1977]; exact th_iv hW rh0 (by decide) (by decide) rfl
                obtain ⟨y1979, m1980⟩ : ∃ x : Int32, oI (f1957 h0) 14 = x := ⟨_, rfl⟩
                have b1981 : (0 : Int) ≤ y1979.toInt ∧ y1979.toInt ≤ 400 := by rw [← m1980]; exact th_iv hW rh0 (by decide) (by decide) rfl
                obtain ⟨y1982, m1983⟩ : ∃ x : Int32, oI (f1957 h0) 15 = x := ⟨_, rfl⟩
                have b1984 : (0 : Int) ≤ y1982.toInt ∧ y1982.toInt ≤ 3 := by rw [← m1983]; exact th_iv hW rh0 (by decide) (by decide) rfl
                obtain ⟨y1985, m1986⟩ : ∃ x : Int32, oI (f1957 h0) 18 = x := ⟨_, rfl⟩
                have b1987 : (0 : Int) ≤ y1985.toInt ∧ y1985.toInt ≤ 1 := by rw [← m1986]; exact th_iv hW rh0 (by decide) (by decide) rfl
                obtain ⟨y1988, m1989⟩ : ∃ x : Int64, oJ (f1957 h0) 16 = x := ⟨_, rfl⟩
                simp only [((fm_I g1960 rh0 rfl).trans ((fm_I g1012 rh0 rfl).trans ((fm_I g990 rh0 rfl).trans m966))), ((fm_I g1012 rh0 rfl).trans ((fm_I g990 rh0 rfl).trans m966)), m1977, ((fm_I g1012 rh0 rfl).trans ((fm_I g990 rh0 rfl).trans m967)), m1980, ((fm_I g1012 rh0 rfl).trans ((fm_I g990 rh0 rfl).trans m968)), m1983, ((fm_I g1012 rh0 rfl).trans ((fm_I g990 rh0 rfl).trans m969)), m1986, ((fm_I g1012 rh0 rfl).trans ((fm_I g990 rh0 rfl).trans m971)), m1989, ((fm_J g1012 rh0 rfl).trans ((fm_J g990 rh0 rfl).trans m970))] at h1961
                have z1990 : DJ f0 f1957 h0 pF21.toInt 0 0 0 0 := dj_keep z1014 hw1959 g1960 rh0 rfl (fun q => by rw [((fm_I g1012 rh0 rfl).trans ((fm_I g990 rh0 rfl).trans m971))] at q; rw [m1986]; omega)
                obtain ⟨q1991, q1992, q1993, q1994, q1995⟩ := h1961
                clear q673 q674
                have hw2000 := hW.2.2.2
                refine gs_840 E hW rN ⟨by omega, by omega⟩ dX12_readClause_103 (fun f1996 H locs e1997 n1998 g1999 hW => ?_)
                have z2001 : DJ f0 f1996 h0 pF21.toInt 0 0 0 0 := dj_keep z1990 hw2000 g1999 rh0 rfl (fun q => by rw [fm_I g1999 rh0 rfl]; exact q)
                have hF := FM.tr hF g1999 rfl
                have q2002 : x1952.toInt = 8 * pF19.toInt + 1 := by omega
                have q2003 : 0 ≤ 8 * pF19.toInt := by omega
                have z2004 : ∀ j : Nat, (j : Int) < 8 * pF19.toInt → aI (f1996 pN) j = aI (f0 pN) j := pre_st2 z1966 e1997 q2002 q2003 (by decide)
                clear z1966
                have z2005 : aI (f1996 pN) (8 * pF19.toInt + 0).toNat = x6 := ent_no2 z1967 e1997 q2002 q2003 (by decide)
                have z2006 : aI (f1996 pN) (8 * pF19.toInt + 1).toNat = x1962 := ent_st2 e1997 q2002 q2003 (by decide)
                have z2007 : aI (f1996 pN) (8 * pF19.toInt + 2).toNat = 0 := ent_no2 z1969 e1997 q2002 q2003 (by decide)
                have z2008 : aI (f1996 pN) (8 * pF19.toInt + 3).toNat = 0 := ent_no2 z1970 e1997 q2002 q2003 (by decide)
                have z2009 : aI (f1996 pN) (8 * pF19.toInt + 4).toNat = 0 := ent_no2 z1971 e1997 q2002 q2003 (by decide)
                have z2010 : aI (f1996 pN) (8 * pF19.toInt + 5).toNat = 0 := ent_no2 z1972 e1997 q2002 q2003 (by decide)
                have z2011 : aI (f1996 pN) (8 * pF19.toInt + 6).toNat = 0 := ent_no2 z1973 e1997 q2002 q2003 (by decide)
                clear q2002 q2003
                clear z1967 z1968 z1969 z1970 z1971 z1972 z1973
                refine lv_aload_n hx hb dX12_readClause_104 rfl (lv_at hl 3 rfl) ?_
                refine lv_aload_n hx hb dX12_readClause_105 rfl (lv_at hl 3 rfl) ?_
                refine lv_ldc2 (v := 113301093) hx hb hown (hts _ tw_1815) dX12_readClause_106 ?_
                have hw2015 := hW.2.2.2
                refine t_callV (As := [.long 113301093]) (rest := [.ref h0]) E hW (c_X12_isWord l G cI cJ cZ cD cR cT kp L f1996 hW.2.2.2 _ h0 113301093 rh0 (by decide)) rh0 (by decide) rfl wk_X12_isWord tw_1797 rfl ⟨Nat.le_of_ble_eq_true rfl, Nat.le_of_ble_eq_true rfl⟩ ⟨rfl, rfl⟩ hl.1 rfl (Nat.le_of_ble_eq_true rfl) dX12_readClause_109 ⟨Nat.le_of_ble_eq_true rfl, Nat.le_of_ble_eq_true rfl⟩ (fun v2012 f2013 H locs q2014 hW => ?_)
                obtain ⟨⟨x2017, rfl, p2018⟩, g2016⟩ := q2014
                simp only [((fm_I g1999 rh0 rfl).trans m1983), ((fm_J g1999 rh0 rfl).trans m1989)] at p2018
                have p2018 : (x2017.toInt = 1 ∧ y1982.toInt = 1 ∧ y1988.toInt = 113301093) ∨ x2017.toInt = 0 := p2018
                have m2019 : aI (f2013 pN) (x683 : Int32).toNatClampNeg = x6 := ((congrArg (fun z => aI z (x683 : Int32).toNatClampNeg) (fm_A g2016 rN (by decide) rfl)).trans (show aI (f1996 pN) (x683 : Int32).toNatClampNeg = x6 from by rw [e1997, up_n (tn_ne (by omega) (by omega) (by omega))]; exact m1964))
                have m2020 : aI (f2013 pN) (x1952 : Int32).toNatClampNeg = x1962 := ((congrArg (fun z => aI z (x1952 : Int32).toNatClampNeg) (fm_A g2016 rN (by decide) rfl)).trans (show aI (f1996 pN) (x1952 : Int32).toNatClampNeg = x1962 from by rw [e1997]; exact up_s))
                have z2021 : DJ f0 f2013 h0 pF21.toInt 0 0 0 0 := dj_keep z2001 hw2015 g2016 rh0 rfl (fun q => by rw [fm_I g2016 rh0 rfl]; exact q)
                have z2022 : ∀ j : Nat, (j : Int) < 8 * pF19.toInt → aI (f2013 pN) j = aI (f0 pN) j := by rw [fm_A g2016 rN (by decide) rfl]; exact z2004
                clear z2004
                have z2023 : aI (f2013 pN) (8 * pF19.toInt + 0).toNat = x6 := by rw [fm_A g2016 rN (by decide) rfl]; exact z2005
                have z2024 : aI (f2013 pN) (8 * pF19.toInt + 1).toNat = x1962 := by rw [fm_A g2016 rN (by decide) rfl]; exact z2006
                have z2025 : aI (f2013 pN) (8 * pF19.toInt + 2).toNat = 0 := by rw [fm_A g2016 rN (by decide) rfl]; exact z2007
                have z2026 : aI (f2013 pN) (8 * pF19.toInt + 3).toNat = 0 := by rw [fm_A g2016 rN (by decide) rfl]; exact z2008
                have z2027 : aI (f2013 pN) (8 * pF19.toInt + 4).toNat = 0 := by rw [fm_A g2016 rN (by decide) rfl]; exact z2009
                have z2028 : aI (f2013 pN) (8 * pF19.toInt + 5).toNat = 0 := by rw [fm_A g2016 rN (by decide) rfl]; exact z2010
                have z2029 : aI (f2013 pN) (8 * pF19.toInt + 6).toNat = 0 := by rw [fm_A g2016 rN (by decide) rfl]; exact z2011
                clear z2005 z2006 z2007 z2008 z2009 z2010 z2011
                have hF := FM.tr hF g2016 rfl
                have hw2033 := hW.2.2.2
                refine t_callV (As := [.int x2017]) (rest := []) E hW (c_X12_must l G cI cJ cZ cD cR cT kp L f2013 hW.2.2.2 _ h0 x2017 rh0 (by omega) (by simp only [((fm_I g2016 rh0 rfl).trans ((fm_I g1999 rh0 rfl).trans ((fm_I g1960 rh0 rfl).trans ((fm_I g1012 rh0 rfl).trans ((fm_I g990 rh0 rfl).trans m966))))), ((fm_I g2016 rh0 rfl).trans ((fm_I g1999 rh0 rfl).trans m1977)), ((fm_I g2016 rh0 rfl).trans ((fm_I g1999 rh0 rfl).trans m1980)), ((fm_I g2016 rh0 rfl).trans ((fm_I g1999 rh0 rfl).trans m1983)), ((fm_J g2016 rh0 rfl).trans ((fm_J g1999 rh0 rfl).trans m1989)), and_true, true_and, true_or, or_true, false_or, or_false] <;> omega)) rh0 (by decide) rfl wk_X12_must tw_1807 rfl ⟨Nat.le_of_ble_eq_true rfl, Nat.le_of_ble_eq_true rfl⟩ ⟨rfl, rfl⟩ hl.1 rfl (Nat.le_of_ble_eq_true rfl) dX12_readClause_112 ⟨Nat.le_of_ble_eq_true rfl, Nat.le_of_ble_eq_true rfl⟩ (fun v2030 f2031 H locs q2032 hW => ?_)
                obtain ⟨rfl, g2034, h2035⟩ := q2032
                have z2037 : ∀ j : Nat, (j : Int) < 8 * pF19.toInt → aI (f2031 pN) j = aI (f0 pN) j := by rw [fm_A g2034 rN (by decide) rfl]; exact z2022
                clear z2022
                have z2038 : aI (f2031 pN) (8 * pF19.toInt + 0).toNat = x6 := by rw [fm_A g2034 rN (by decide) rfl]; exact z2023
                have z2039 : aI (f2031 pN) (8 * pF19.toInt + 1).toNat = x1962 := by rw [fm_A g2034 rN (by decide) rfl]; exact z2024
                have z2040 : aI (f2031 pN) (8 * pF19.toInt + 2).toNat = 0 := by rw [fm_A g2034 rN (by decide) rfl]; exact z2025
                have z2041 : aI (f2031 pN) (8 * pF19.toInt + 3).toNat = 0 := by rw [fm_A g2034 rN (by decide) rfl]; exact z2026
                have z2042 : aI (f2031 pN) (8 * pF19.toInt + 4).toNat = 0 := by rw [fm_A g2034 rN (by decide) rfl]; exact z2027
                have z2043 : aI (f2031 pN) (8 * pF19.toInt + 5).toNat = 0 := by rw [fm_A g2034 rN (by decide) rfl]; exact z2028
                have z2044 : aI (f2031 pN) (8 * pF19.toInt + 6).toNat = 0 := by rw [fm_A g2034 rN (by decide) rfl]; exact z2029
                clear z2023 z2024 z2025 z2026 z2027 z2028 z2029
                have hF := FM.tr hF g2034 rfl
                obtain ⟨y2045, m2046⟩ : ∃ x : Int32, oI (f2031 h0) 13 = x := ⟨_, rfl⟩
                have b2047 : (0 : Int) ≤ y2045.toInt ∧ y2045.toInt ≤ 400 := by rw [← m2046]; exact th_iv hW rh0 (by decide) (by decide) rfl
                obtain ⟨y2048, m2049⟩ : ∃ x : Int32, oI (f2031 h0) 14 = x := ⟨_, rfl⟩
                have b2050 : (0 : Int) ≤ y2048.toInt ∧ y2048.toInt ≤ 400 := by rw [← m2049]; exact th_iv hW rh0 (by decide) (by decide) rfl
                obtain ⟨y2051, m2052⟩ : ∃ x : Int32, oI (f2031 h0) 15 = x := ⟨_, rfl⟩
                have b2053 : (0 : Int) ≤ y2051.toInt ∧ y2051.toInt ≤ 3 := by rw [← m2052]; exact th_iv hW rh0 (by decide) (by decide) rfl
                obtain ⟨y2054, m2055⟩ : ∃ x : Int32, oI (f2031 h0) 18 = x := ⟨_, rfl⟩
                have b2056 : (0 : Int) ≤ y2054.toInt ∧ y2054.toInt ≤ 1 := by rw [← m2055]; exact th_iv hW rh0 (by decide) (by decide) rfl
                obtain ⟨y2057, m2058⟩ : ∃ x : Int64, oJ (f2031 h0) 16 = x := ⟨_, rfl⟩
                simp only [((fm_I g2034 rh0 rfl).trans ((fm_I g2016 rh0 rfl).trans ((fm_I g1999 rh0 rfl).trans ((fm_I g1960 rh0 rfl).trans ((fm_I g1012 rh0 rfl).trans ((fm_I g990 rh0 rfl).trans m966)))))), ((fm_I g2016 rh0 rfl).trans ((fm_I g1999 rh0 rfl).trans ((fm_I g1960 rh0 rfl).trans ((fm_I g1012 rh0 rfl).trans ((fm_I g990 rh0 rfl).trans m966))))), m2046, ((fm_I g2016 rh0 rfl).trans ((fm_I g1999 rh0 rfl).trans m1977)), m2049, ((fm_I g2016 rh0 rfl).trans ((fm_I g1999 rh0 rfl).trans m1980)), m2052, ((fm_I g2016 rh0 rfl).trans ((fm_I g1999 rh0 rfl).trans m1983)), m2055, ((fm_I g2016 rh0 rfl).trans ((fm_I g1999 rh0 rfl).trans m1986)), m2058, ((fm_J g2016 rh0 rfl).trans ((fm_J g1999 rh0 rfl).trans m1989))] at h2035
                have z2059 : DJ f0 f2031 h0 pF21.toInt 0 0 0 0 := dj_keep z2021 hw2033 g2034 rh0 rfl (fun q => by rw [((fm_I g2016 rh0 rfl).trans ((fm_I g1999 rh0 rfl).trans m1986))] at q; rw [m2055]; omega)
                obtain ⟨q2060, q2061, q2062, q2063, q2064⟩ := h2035
                clear q1993 q1994
                refine lv_aload_n hx hb dX12_readClause_115 rfl (lv_at hl 3 rfl) ?_
                refine fg_RX12_39 E hW rh0 dX12_readClause_116 (fun a2065 m2066 r2067 => ?_)
                obtain rfl : pN = a2065 := (((fm_R g2034 rh0 rfl).trans ((fm_R g2016 rh0 rfl).trans ((fm_R g1999 rh0 rfl).trans ((fm_R g1960 rh0 rfl).trans m1950))))).symm.trans m2066
                refine lv_iload_n hx hb dX12_readClause_119 rfl (lv_at hl 1 rfl) ?_
                refine lv_iconst (v := 2) hx hb dX12_readClause_120 (by decide) ?_
                refine q_iadd (Y := 2) hx hb dX12_readClause_121 rfl rfl (by omega) (fun x2068 h2069 => ?_)
                refine lv_aload_n hx hb dX12_readClause_122 rfl (lv_at hl 3 rfl) ?_
                refine lv_lconst (v := 0) hx hb dX12_readClause_123 (by decide) ?_
                refine lv_ldc2 (v := 11) hx hb hown (hts _ tw_1816) dX12_readClause_124 ?_
                have hw2075 := hW.2.2.2
                refine t_callV (As := [.long 0, .long 11]) (rest := [.int x2068, .ref pN]) E hW (c_X12_number l G cI cJ cZ cD cR cT kp L f2031 hW.2.2.2 _ h0 0 11 rh0 (by decide) (by decide) (by have hkq2070 : (0 : Int64).toInt = 0 := rfl; have hkq2071 : (11 : Int64).toInt = 11 := rfl; simp only [((fm_I g2034 rh0 rfl).trans ((fm_I g2016 rh0 rfl).trans ((fm_I g1999 rh0 rfl).trans ((fm_I g1960 rh0 rfl).trans ((fm_I g1012 rh0 rfl).trans ((fm_I g990 rh0 rfl).trans m966)))))), m2046, m2049, m2052, m2058, and_true, true_and, true_or, or_true, false_or, or_false] <;> omega)) rh0 (by decide) rfl wk_X12_number tw_1811 rfl ⟨Nat.le_of_ble_eq_true rfl, Nat.le_of_ble_eq_true rfl⟩ ⟨rfl, rfl⟩ hl.1 rfl (Nat.le_of_ble_eq_true rfl) dX12_readClause_127 ⟨Nat.le_of_ble_eq_true rfl, Nat.le_of_ble_eq_true rfl⟩ (fun v2072 f2073 H locs q2074 hW => ?_)
                obtain ⟨⟨x2078, rfl, p2079⟩, g2076, h2077⟩ := q2074
                clear p2079
                have m2080 : oR (f2073 h0) 2 = pR := ((fm_R g2076 rh0 rfl).trans ((fm_R g2034 rh0 rfl).trans ((fm_R g2016 rh0 rfl).trans ((fm_R g1999 rh0 rfl).trans ((fm_R g1960 rh0 rfl).trans ((fm_R g1012 rh0 rfl).trans ((fm_R g990 rh0 rfl).trans m965)))))))
                have m2081 : oI (f2073 h0) 12 = pF12 := ((fm_I g2076 rh0 rfl).trans ((fm_I g2034 rh0 rfl).trans ((fm_I g2016 rh0 rfl).trans ((fm_I g1999 rh0 rfl).trans ((fm_I g1960 rh0 rfl).trans ((fm_I g1012 rh0 rfl).trans ((fm_I g990 rh0 rfl).trans m966)))))))
                have m2082 : oI (f2073 h0) 21 = pF21 := ((fm_I g2076 rh0 rfl).trans ((fm_I g2034 rh0 rfl).trans ((fm_I g2016 rh0 rfl).trans ((fm_I g1999 rh0 rfl).trans ((fm_I g1960 rh0 rfl).trans ((fm_I g1012 rh0 rfl).trans ((fm_I g990 rh0 rfl).trans m974)))))))
                have m2083 : oI (f2073 h0) 24 = pF24 := ((fm_I g2076 rh0 rfl).trans ((fm_I g2034 rh0 rfl).trans ((fm_I g2016 rh0 rfl).trans ((fm_I g1999 rh0 rfl).trans ((fm_I g1960 rh0 rfl).trans ((fm_I g1012 rh0 rfl).trans ((fm_I g990 rh0 rfl).trans m975)))))))
                have m2084 : oI (f2073 h0) 27 = pF27 := ((fm_I g2076 rh0 rfl).trans ((fm_I g2034 rh0 rfl).trans ((fm_I g2016 rh0 rfl).trans ((fm_I g1999 rh0 rfl).trans ((fm_I g1960 rh0 rfl).trans ((fm_I g1012 rh0 rfl).trans ((fm_I g990 rh0 rfl).trans m976)))))))
                have m2085 : aI (f2073 pN) (x683 : Int32).toNatClampNeg = x6 := ((congrArg (fun z => aI z (x683 : Int32).toNatClampNeg) (fm_A g2076 rN (by decide) rfl)).trans ((congrArg (fun z => aI z (x683 : Int32).toNatClampNeg) (fm_A g2034 rN (by decide) rfl)).trans m2019))
                have m2086 : aI (f2073 pN) (x1952 : Int32).toNatClampNeg = x1962 := ((congrArg (fun z => aI z (x1952 : Int32).toNatClampNeg) (fm_A g2076 rN (by decide) rfl)).trans ((congrArg (fun z => aI z (x1952 : Int32).toNatClampNeg) (fm_A g2034 rN (by decide) rfl)).trans m2020))
                have z2088 : ∀ j : Nat, (j : Int) < 8 * pF19.toInt → aI (f2073 pN) j = aI (f0 pN) j := by rw [fm_A g2076 rN (by decide) rfl]; exact z2037
                clear z2037
                have z2089 : aI (f2073 pN) (8 * pF19.toInt + 0).toNat = x6 := by rw [fm_A g2076 rN (by decide) rfl]; exact z2038
                have z2090 : aI (f2073 pN) (8 * pF19.toInt + 1).toNat = x1962 := by rw [fm_A g2076 rN (by decide) rfl]; exact z2039
                have z2091 : aI (f2073 pN) (8 * pF19.toInt + 2).toNat = 0 := by rw [fm_A g2076 rN (by decide) rfl]; exact z2040
                have z2092 : aI (f2073 pN) (8 * pF19.toInt + 3).toNat = 0 := by rw [fm_A g2076 rN (by decide) rfl]; exact z2041
                have z2093 : aI (f2073 pN) (8 * pF19.toInt + 4).toNat = 0 := by rw [fm_A g2076 rN (by decide) rfl]; exact z2042
                have z2094 : aI (f2073 pN) (8 * pF19.toInt + 5).toNat = 0 := by rw [fm_A g2076 rN (by decide) rfl]; exact z2043
                have z2095 : aI (f2073 pN) (8 * pF19.toInt + 6).toNat = 0 := by rw [fm_A g2076 rN (by decide) rfl]; exact z2044
                clear z2038 z2039 z2040 z2041 z2042 z2043 z2044
                have hF := FM.tr hF g2076 rfl
                have h2077 := h2077 _ rfl
                have hk2096 : (0 : Int64).toInt = 0 := rfl
                have hk2097 : (11 : Int64).toInt = 11 := rfl
                obtain ⟨y2098, m2099⟩ : ∃ x : Int32, oI (f2073 h0) 13 = x := ⟨_, rfl⟩
                have b2100 : (0 : Int) ≤ y2098.toInt ∧ y2098.toInt ≤ 400 := by rw [← m2099]; exact th_iv hW rh0 (by decide) (by decide) rfl
                obtain ⟨y2101, m2102⟩ : ∃ x : Int32, oI (f2073 h0) 14 = x := ⟨_, rfl⟩
                have b2103 : (0 : Int) ≤ y2101.toInt ∧ y2101.toInt ≤ 400 := by rw [← m2102]; exact th_iv hW rh0 (by decide) (by decide) rfl
                obtain ⟨y2104, m2105⟩ : ∃ x : Int32, oI (f2073 h0) 15 = x := ⟨_, rfl⟩
                have b2106 : (0 : Int) ≤ y2104.toInt ∧ y2104.toInt ≤ 3 := by rw [← m2105]; exact th_iv hW rh0 (by decide) (by decide) rfl
                obtain ⟨y2107, m2108⟩ : ∃ x : Int32, oI (f2073 h0) 18 = x := ⟨_, rfl⟩
                have b2109 : (0 : Int) ≤ y2107.toInt ∧ y2107.toInt ≤ 1 := by rw [← m2108]; exact th_iv hW rh0 (by decide) (by decide) rfl
                obtain ⟨y2110, m2111⟩ : ∃ x : Int64, oJ (f2073 h0) 16 = x := ⟨_, rfl⟩
                simp only [m2081, ((fm_I g2034 rh0 rfl).trans ((fm_I g2016 rh0 rfl).trans ((fm_I g1999 rh0 rfl).trans ((fm_I g1960 rh0 rfl).trans ((fm_I g1012 rh0 rfl).trans ((fm_I g990 rh0 rfl).trans m966)))))), m2099, m2046, m2102, m2049, m2105, m2052, m2108, m2055, m2111, m2058] at h2077
                have z2112 : DJ f0 f2073 h0 pF21.toInt 0 0 0 0 := dj_keep z2059 hw2075 g2076 rh0 rfl (fun q => by rw [m2055] at q; rw [m2108]; omega)
                obtain ⟨q2113, q2114, q2115, q2116, q2117⟩ := h2077
                clear q2062 q2063
                have hw2122 := hW.2.2.2
                refine gs_840 E hW rN ⟨by omega, by omega⟩ dX12_readClause_130 (fun f2118 H locs e2119 n2120 g2121 hW => ?_)
                have z2123 : DJ f0 f2118 h0 pF21.toInt 0 0 0 0 := dj_keep z2112 hw2122 g2121 rh0 rfl (fun q => by rw [fm_I g2121 rh0 rfl]; exact q)
                have hF := FM.tr hF g2121 rfl
                have q2124 : x2068.toInt = 8 * pF19.toInt + 2 := by omega
                have q2125 : 0 ≤ 8 * pF19.toInt := by omega
                have z2126 : ∀ j : Nat, (j : Int) < 8 * pF19.toInt → aI (f2118 pN) j = aI (f0 pN) j := pre_st2 z2088 e2119 q2124 q2125 (by decide)
                clear z2088
                have z2127 : aI (f2118 pN) (8 * pF19.toInt + 0).toNat = x6 := ent_no2 z2089 e2119 q2124 q2125 (by decide)
                have z2128 : aI (f2118 pN) (8 * pF19.toInt + 1).toNat = x1962 := ent_no2 z2090 e2119 q2124 q2125 (by decide)
                have z2129 : aI (f2118 pN) (8 * pF19.toInt + 2).toNat = x2078 := ent_st2 e2119 q2124 q2125 (by decide)
                have z2130 : aI (f2118 pN) (8 * pF19.toInt + 3).toNat = 0 := ent_no2 z2092 e2119 q2124 q2125 (by decide)
                have z2131 : aI (f2118 pN) (8 * pF19.toInt + 4).toNat = 0 := ent_no2 z2093 e2119 q2124 q2125 (by decide)
                have z2132 : aI (f2118 pN) (8 * pF19.toInt + 5).toNat = 0 := ent_no2 z2094 e2119 q2124 q2125 (by decide)
                have z2133 : aI (f2118 pN) (8 * pF19.toInt + 6).toNat = 0 := ent_no2 z2095 e2119 q2124 q2125 (by decide)
                clear q2124 q2125
                clear z2089 z2090 z2091 z2092 z2093 z2094 z2095
                exact e_V E hW rfl ⟨rfl, hF, (by simp only [((fm_I g2121 rh0 rfl).trans m2081), mF12, ((fm_I g2121 rh0 rfl).trans m2099), mF13, ((fm_I g2121 rh0 rfl).trans m2102), mF14, ((fm_I g2121 rh0 rfl).trans m2105), mF15, ((fm_I g2121 rh0 rfl).trans m2108), mF18, ((fm_I g2121 rh0 rfl).trans m2082), mF21, ((fm_J g2121 rh0 rfl).trans m2111), mW, and_true, true_and, true_or, or_true, false_or, or_false] <;> omega), (by have hk0 : (0 : Int32).toInt = 0 := rfl; rw [((fm_I g2121 rh0 rfl).trans m2082), ((fm_I g2121 rh0 rfl).trans ((fm_I g2076 rh0 rfl).trans ((fm_I g2034 rh0 rfl).trans ((fm_I g2016 rh0 rfl).trans ((fm_I g1999 rh0 rfl).trans ((fm_I g1960 rh0 rfl).trans e1010))))))]; exact cl_end (nc := pF21.toInt) (hd := x6) (r1 := x1962) (r2 := x2078) (show CLs _ _ _ pF21.toInt pF19.toInt from hC) (by omega) (show DJ f0 f2118 h0 pF21.toInt (0 : Int32).toInt (0 : Int32).toInt (0 : Int32).toInt (0 : Int32).toInt from z2123) (fun j hj => by unfold vN; rw [((fm_R g2121 rh0 rfl).trans ((fm_R g2076 rh0 rfl).trans m2066)), mN]; exact z2126 j hj) (by unfold vN; rw [((fm_R g2121 rh0 rfl).trans ((fm_R g2076 rh0 rfl).trans m2066))]; exact z2127) (by unfold vN; rw [((fm_R g2121 rh0 rfl).trans ((fm_R g2076 rh0 rfl).trans m2066))]; exact z2128) (by unfold vN; rw [((fm_R g2121 rh0 rfl).trans ((fm_R g2076 rh0 rfl).trans m2066))]; exact z2129) (by unfold vN; rw [((fm_R g2121 rh0 rfl).trans ((fm_R g2076 rh0 rfl).trans m2066))]; exact z2130) (by unfold vN; rw [((fm_R g2121 rh0 rfl).trans ((fm_R g2076 rh0 rfl).trans m2066))]; exact z2131) (by unfold vN; rw [((fm_R g2121 rh0 rfl).trans ((fm_R g2076 rh0 rfl).trans m2066))]; exact z2132) (by unfold vN; rw [((fm_R g2121 rh0 rfl).trans ((fm_R g2076 rh0 rfl).trans m2066))]; exact z2133) (by rw [((fm_I g2121 rh0 rfl).trans m2108)]; omega) (by omega) (by omega))⟩ dX12_readClause_131
            · refine lv_aload_n hx hb dX12_readClause_52 rfl (lv_at hl 3 rfl) ?_
              refine fg_RX12_39 E hW rh0 dX12_readClause_53 (fun a2134 m2135 r2136 => ?_)
              obtain rfl : pN = a2134 := (m973).symm.trans m2135
              refine lv_iload_n hx hb dX12_readClause_56 rfl (lv_at hl 1 rfl) ?_
              refine lv_iload_n hx hb dX12_readClause_57 rfl (lv_at hl 0 rfl) ?_
              refine q_iadd hx hb dX12_readClause_58 rfl rfl (by omega) (fun x2137 h2138 => ?_)
              refine lv_iconst (v := 0) hx hb dX12_readClause_59 (by decide) ?_
              have hw2143 := hW.2.2.2
              refine gs_840 E hW rN ⟨by omega, by omega⟩ dX12_readClause_60 (fun f2139 H locs e2140 n2141 g2142 hW => ?_)
              have z2144 : DJ f0 f2139 h0 pF21.toInt 0 0 0 0 := dj_keep v981 hw2143 g2142 rh0 rfl (fun q => by rw [fm_I g2142 rh0 rfl]; exact q)
              have hF := FM.tr hF g2142 rfl
              refine q_iinc hx hb dX12_readClause_61 hl (k := 0) rfl rfl rfl (by omega) (by decide) (fun i2145 ls h2146 hl => ?_)
              have hl : lv_has ls 4 [(3, .int i2145), (2, .int x683), (1, .int x6), (0, .ref h0)] := hl
              refine lv_goto (tgt := 46) hx hb dX12_readClause_64 (by decide) ?_
              exact ih46 f2139 i2145 ((fm_R g2142 rh0 rfl).trans m965) ((fm_I g2142 rh0 rfl).trans m966) ((fm_I g2142 rh0 rfl).trans m967) ((fm_I g2142 rh0 rfl).trans m968) ((fm_I g2142 rh0 rfl).trans m969) ((fm_J g2142 rh0 rfl).trans m970) ((fm_I g2142 rh0 rfl).trans m971) ((fm_I g2142 rh0 rfl).trans m972) ((fm_R g2142 rh0 rfl).trans m2135) ((fm_I g2142 rh0 rfl).trans m974) ((fm_I g2142 rh0 rfl).trans m975) ((fm_I g2142 rh0 rfl).trans m976) (by omega) (zr_st v979 e2140 (by decide) (by omega) (by omega) (by omega)) (pre_st v980 e2140 (by omega)) z2144 (by omega) _ _ _ hW hF (lv_sub hl [0, 1, 2, 3] rfl)
        have hk2147 : (0 : Int32).toInt = 0 := rfl
        exact L982 9 f649 0 ((fm_R g652 rh0 rfl).trans ((fm_R g5 rh0 rfl).trans mR)) ((fm_I g652 rh0 rfl).trans ((fm_I g5 rh0 rfl).trans mF12)) m657 m660 m663 m669 m677 m681 ((fm_R g652 rh0 rfl).trans ((fm_R g5 rh0 rfl).trans mN)) ((fm_I g652 rh0 rfl).trans ((fm_I g5 rh0 rfl).trans mF21)) ((fm_I g652 rh0 rfl).trans ((fm_I g5 rh0 rfl).trans mF24)) ((fm_I g652 rh0 rfl).trans ((fm_I g5 rh0 rfl).trans mF27)) (by decide) (by have hk : (0 : Int32).toInt = 0 := rfl; rw [hk]; exact zr_0) (fun j _ => by rw [((congrArg aI (fm_A g652 rN (by decide) rfl)).trans ((congrArg aI (fm_A g5 rN (by decide) rfl)).trans rfl))]) z670 (by omega) _ _ _ hW hF (lv_sub hl [0, 1, 2, 3] rfl)
      · exact e_V E hW rfl ⟨rfl, hF, (by simp only [((fm_I g652 rh0 rfl).trans ((fm_I g5 rh0 rfl).trans mF12)), mF12, m657, mF13, m660, mF14, m663, mF15, m677, mF18, ((fm_I g652 rh0 rfl).trans ((fm_I g5 rh0 rfl).trans mF21)), mF21, m669, mW, and_true, true_and, true_or, or_true, false_or, or_false] <;> omega), (Or.inl (by rw [m677]; omega))⟩ dX12_readClause_35
    · refine lv_iconst (v := 1) hx hb dX12_readClause_20 (by decide) ?_
      refine lv_goto (tgt := 25) hx hb dX12_readClause_21 (by decide) ?_
      have hw2152 := hW.2.2.2
      refine t_callV (As := [.int 1]) (rest := []) E hW (c_X12_must l G cI cJ cZ cD cR cT kp L f2 hW.2.2.2 _ h0 1 rh0 (by decide) (by have hkq2148 : (1 : Int32).toInt = 1 := rfl; simp only [((fm_I g5 rh0 rfl).trans mF12), ((fm_I g5 rh0 rfl).trans mF13), ((fm_I g5 rh0 rfl).trans mF14), ((fm_I g5 rh0 rfl).trans mF15), ((fm_J g5 rh0 rfl).trans mW), and_true, true_and, true_or, or_true, false_or, or_false] <;> omega)) rh0 (by decide) rfl wk_X12_must tw_1807 rfl ⟨Nat.le_of_ble_eq_true rfl, Nat.le_of_ble_eq_true rfl⟩ ⟨rfl, rfl⟩ hl.1 rfl (Nat.le_of_ble_eq_true rfl) dX12_readClause_25 ⟨Nat.le_of_ble_eq_true rfl, Nat.le_of_ble_eq_true rfl⟩ (fun v2149 f2150 H locs q2151 hW => ?_)
      obtain ⟨rfl, g2153, h2154⟩ := q2151
      have hF := FM.tr hF g2153 rfl
      have hk2156 : (1 : Int32).toInt = 1 := rfl
      obtain ⟨y2157, m2158⟩ : ∃ x : Int32, oI (f2150 h0) 13 = x := ⟨_, rfl⟩
      have b2159 : (0 : Int) ≤ y2157.toInt ∧ y2157.toInt ≤ 400 := by rw [← m2158]; exact th_iv hW rh0 (by decide) (by decide) rfl
      obtain ⟨y2160, m2161⟩ : ∃ x : Int32, oI (f2150 h0) 14 = x := ⟨_, rfl⟩
      have b2162 : (0 : Int) ≤ y2160.toInt ∧ y2160.toInt ≤ 400 := by rw [← m2161]; exact th_iv hW rh0 (by decide) (by decide) rfl
      obtain ⟨y2163, m2164⟩ : ∃ x : Int32, oI (f2150 h0) 15 = x := ⟨_, rfl⟩
      have b2165 : (0 : Int) ≤ y2163.toInt ∧ y2163.toInt ≤ 3 := by rw [← m2164]; exact th_iv hW rh0 (by decide) (by decide) rfl
      obtain ⟨y2166, m2167⟩ : ∃ x : Int32, oI (f2150 h0) 18 = x := ⟨_, rfl⟩
      have b2168 : (0 : Int) ≤ y2166.toInt ∧ y2166.toInt ≤ 1 := by rw [← m2167]; exact th_iv hW rh0 (by decide) (by decide) rfl
      obtain ⟨y2169, m2170⟩ : ∃ x : Int64, oJ (f2150 h0) 16 = x := ⟨_, rfl⟩
      simp only [((fm_I g2153 rh0 rfl).trans ((fm_I g5 rh0 rfl).trans mF12)), ((fm_I g5 rh0 rfl).trans mF12), m2158, ((fm_I g5 rh0 rfl).trans mF13), m2161, ((fm_I g5 rh0 rfl).trans mF14), m2164, ((fm_I g5 rh0 rfl).trans mF15), m2167, ((fm_I g5 rh0 rfl).trans mF18), m2170, ((fm_J g5 rh0 rfl).trans mW)] at h2154
      have z2171 : DJ f0 f2150 h0 pF21.toInt 0 0 0 0 := dj_keep z8 hw2152 g2153 rh0 rfl (fun q => by rw [((fm_I g5 rh0 rfl).trans mF18)] at q; rw [m2167]; omega)
      obtain ⟨q2172, q2173, q2174, q2175, q2176⟩ := h2154
      refine lv_aload_n hx hb dX12_readClause_28 rfl (lv_at hl 1 rfl) ?_
      refine fg_RX12_193 E hW rh0 dX12_readClause_29 (fun y2177 m2178 b2179 => ?_)
      obtain rfl : y2166 = y2177 := (m2167).symm.trans m2178
      refine q_if_eq (tgt := 36) hx hb dX12_readClause_32 (by decide) rfl (fun c2180 => ?_) (fun c2180 => ?_)
      · refine lv_bipush (v := 8) hx hb dX12_readClause_36 (by decide) ?_
        refine lv_aload_n hx hb dX12_readClause_38 rfl (lv_at hl 1 rfl) ?_
        refine fg_RX12_356 E hW rh0 dX12_readClause_39 (fun y2181 m2182 b2183 => ?_)
        obtain rfl : pF19 = y2181 := (((fm_I g2153 rh0 rfl).trans m644)).symm.trans m2182
        refine q_imul (X := 8) hx hb dX12_readClause_42 rfl rfl (by omega) (fun x2184 h2185 => ?_)
        refine lv_istore_n (lv' := [(2, .int x2184), (1, .int x6), (0, .ref h0)]) hx hb dX12_readClause_43 rfl hl (by decide) rfl (fun ls hl => ?_)
        refine lv_iconst (v := 0) hx hb dX12_readClause_44 (by decide) ?_
        refine lv_istore_n (lv' := [(3, .int 0), (2, .int x2184), (1, .int x6), (0, .ref h0)]) hx hb dX12_readClause_45 rfl hl (by decide) rfl (fun ls hl => ?_)
        have L2483 : ∀ (n : Nat), ∀ (f2465 : Nat → va_E) (y2478 : Int32) (m2466 : oR (f2465 h0) 2 = pR) (m2467 : oI (f2465 h0) 12 = pF12) (m2468 : oI (f2465 h0) 13 = y2157) (m2469 : oI (f2465 h0) 14 = y2160) (m2470 : oI (f2465 h0) 15 = y2163) (m2471 : oJ (f2465 h0) 16 = y2169) (m2472 : oI (f2465 h0) 18 = y2166) (m2473 : oI (f2465 h0) 19 = pF19) (m2474 : oR (f2465 h0) 20 = pN) (m2475 : oI (f2465 h0) 21 = pF21) (m2476 : oI (f2465 h0) 24 = pF24) (m2477 : oI (f2465 h0) 27 = pF27) (b2479 : (0 : Int) ≤ y2478.toInt ∧ y2478.toInt ≤ 8) (v2480 : ZR (aI (f2465 pN)) (8 * pF19.toInt) y2478.toInt) (v2481 : ∀ j : Nat, (j : Int) < 8 * pF19.toInt → aI (f2465 pN) j = aI (f0 pN) j) (v2482 : DJ f0 f2465 h0 pF21.toInt 0 0 0 0) (hm : (9 : Int) - y2478.toInt ≤ n) (H : Heap) (locs : List Loc) (ls : Array Slot), WS G cI cJ cZ cD cR cT A kp L f2465 s H locs → FM kp L ms_X12_readClause f0 f2465 → lv_has ls 4 [(3, .int y2478), (2, .int x2184), (1, .int x6), (0, .ref h0)] → W p l e ({ frames := 8, cells := 0, slots := 0, locals := 189 }) s m ([.ref h0] : List Value).toArray below meth c H locs 0 0 (MQ below (QT (po_X12_readClause kp L f0 h0) G cI cJ cZ cD cR cT A kp L) ([.ref h0] : List Value).toArray s 0 0 A) (F0 m 46 ls []) := by
          intro n
          induction n with
          | zero =>
            intro f2465 y2478 m2466 m2467 m2468 m2469 m2470 m2471 m2472 m2473 m2474 m2475 m2476 m2477 b2479 v2480 v2481 v2482 hm H locs ls hW hF hl
            have hz := i32_b y2478
            exfalso; omega
          | succ n ih =>
            intro f2465 y2478 m2466 m2467 m2468 m2469 m2470 m2471 m2472 m2473 m2474 m2475 m2476 m2477 b2479 v2480 v2481 v2482 hm H locs ls hW hF hl
            have ih46 := ih
            refine lv_iload_n hx hb dX12_readClause_46 rfl (lv_at hl 0 rfl) ?_
            refine lv_bipush (v := 8) hx hb dX12_readClause_47 (by decide) ?_
            refine q_icmp_ge (Y := 8) (tgt := 67) hx hb dX12_readClause_49 (by decide) rfl rfl (fun c2484 => ?_) (fun c2484 => ?_)
            · refine lv_aload_n hx hb dX12_readClause_67 rfl (lv_at hl 3 rfl) ?_
              refine fg_RX12_39 E hW rh0 dX12_readClause_68 (fun a2485 m2486 r2487 => ?_)
              obtain rfl : pN = a2485 := (m2474).symm.trans m2486
              refine lv_iload_n hx hb dX12_readClause_71 rfl (lv_at hl 1 rfl) ?_
              refine lv_iload_n hx hb dX12_readClause_72 rfl (lv_at hl 2 rfl) ?_
              have hw2492 := hW.2.2.2
              refine gs_840 E hW rN ⟨by omega, by omega⟩ dX12_readClause_73 (fun f2488 H locs e2489 n2490 g2491 hW => ?_)
              have z2493 : DJ f0 f2488 h0 pF21.toInt 0 0 0 0 := dj_keep v2482 hw2492 g2491 rh0 rfl (fun q => by rw [fm_I g2491 rh0 rfl]; exact q)
              have hF := FM.tr hF g2491 rfl
              have q2494 : x2184.toInt = 8 * pF19.toInt + 0 := by omega
              have q2495 : 0 ≤ 8 * pF19.toInt := by omega
              have z2496 : ∀ j : Nat, (j : Int) < 8 * pF19.toInt → aI (f2488 pN) j = aI (f0 pN) j := pre_st2 v2481 e2489 q2494 q2495 (by decide)
              have z2497 : ZR _ (8 * pF19.toInt) 8 := (by have q : y2478.toInt = 8 := (by omega); have z := v2480; rw [q] at z; exact z)
              have z2498 : aI (f2488 pN) (8 * pF19.toInt + 0).toNat = x6 := ent_st2 e2489 q2494 q2495 (by decide)
              have z2499 : aI (f2488 pN) (8 * pF19.toInt + 1).toNat = 0 := ent_no2 (ent_z2 z2497 (by decide)) e2489 q2494 q2495 (by decide)
              have z2500 : aI (f2488 pN) (8 * pF19.toInt + 2).toNat = 0 := ent_no2 (ent_z2 z2497 (by decide)) e2489 q2494 q2495 (by decide)
              have z2501 : aI (f2488 pN) (8 * pF19.toInt + 3).toNat = 0 := ent_no2 (ent_z2 z2497 (by decide)) e2489 q2494 q2495 (by decide)
              have z2502 : aI (f2488 pN) (8 * pF19.toInt + 4).toNat = 0 := ent_no2 (ent_z2 z2497 (by decide)) e2489 q2494 q2495 (by decide)
              have z2503 : aI (f2488 pN) (8 * pF19.toInt + 5).toNat = 0 := ent_no2 (ent_z2 z2497 (by decide)) e2489 q2494 q2495 (by decide)
              have z2504 : aI (f2488 pN) (8 * pF19.toInt + 6).toNat = 0 := ent_no2 (ent_z2 z2497 (by decide)) e2489 q2494 q2495 (by decide)
              clear q2494 q2495
              refine lv_aload_n hx hb dX12_readClause_74 rfl (lv_at hl 3 rfl) ?_
              refine lv_dup hx hb dX12_readClause_75 rfl ?_
              refine fg_RX12_356 E hW rh0 dX12_readClause_76 (fun y2505 m2506 b2507 => ?_)
              obtain rfl : pF19 = y2505 := (((fm_I g2491 rh0 rfl).trans m2473)).symm.trans m2506
              refine lv_iconst (v := 1) hx hb dX12_readClause_79 (by decide) ?_
              refine q_iadd (Y := 1) hx hb dX12_readClause_80 rfl rfl (by omega) (fun x2508 h2509 => ?_)
              have hw2514 := hW.2.2.2
              refine fp_RX12_356 E hW rh0 (by omega) dX12_readClause_81 (fun f2510 H locs e2511 n2512 g2513 hW => ?_)
              have m2515 : aI (f2510 pN) (x2184 : Int32).toNatClampNeg = x6 := ((congrArg (fun z => aI z (x2184 : Int32).toNatClampNeg) (fm_A g2513 rN (by decide) rfl)).trans (show aI (f2488 pN) (x2184 : Int32).toNatClampNeg = x6 from by rw [e2489]; exact up_s))
              have z2516 : DJ f0 f2510 h0 pF21.toInt 0 0 0 0 := dj_keep z2493 hw2514 g2513 rh0 rfl (fun q => by rw [fm_I g2513 rh0 rfl]; exact q)
              have z2517 : ∀ j : Nat, (j : Int) < 8 * pF19.toInt → aI (f2510 pN) j = aI (f0 pN) j := by rw [fm_A g2513 rN (by decide) rfl]; exact z2496
              clear z2496
              have z2518 : aI (f2510 pN) (8 * pF19.toInt + 0).toNat = x6 := by rw [fm_A g2513 rN (by decide) rfl]; exact z2498
              have z2519 : aI (f2510 pN) (8 * pF19.toInt + 1).toNat = 0 := by rw [fm_A g2513 rN (by decide) rfl]; exact z2499
              have z2520 : aI (f2510 pN) (8 * pF19.toInt + 2).toNat = 0 := by rw [fm_A g2513 rN (by decide) rfl]; exact z2500
              have z2521 : aI (f2510 pN) (8 * pF19.toInt + 3).toNat = 0 := by rw [fm_A g2513 rN (by decide) rfl]; exact z2501
              have z2522 : aI (f2510 pN) (8 * pF19.toInt + 4).toNat = 0 := by rw [fm_A g2513 rN (by decide) rfl]; exact z2502
              have z2523 : aI (f2510 pN) (8 * pF19.toInt + 5).toNat = 0 := by rw [fm_A g2513 rN (by decide) rfl]; exact z2503
              have z2524 : aI (f2510 pN) (8 * pF19.toInt + 6).toNat = 0 := by rw [fm_A g2513 rN (by decide) rfl]; exact z2504
              clear z2498 z2499 z2500 z2501 z2502 z2503 z2504
              have hF := FM.tr hF g2513 rfl
              refine lv_iload_n hx hb dX12_readClause_84 rfl (lv_at hl 2 rfl) ?_
              refine q_if_ne (tgt := 132) hx hb dX12_readClause_85 (by decide) rfl (fun c2525 => ?_) (fun c2525 => ?_)
              · refine lv_iload_n hx hb dX12_readClause_132 rfl (lv_at hl 2 rfl) ?_
                refine lv_iconst (v := 1) hx hb dX12_readClause_133 (by decide) ?_
                refine q_icmp_ne (Y := 1) (tgt := 170) hx hb dX12_readClause_134 (by decide) rfl rfl (fun c2526 => ?_) (fun c2526 => ?_)
                · refine lv_aload_n hx hb dX12_readClause_170 rfl (lv_at hl 3 rfl) ?_
                  refine fg_RX12_39 E hW rh0 dX12_readClause_171 (fun a2527 m2528 r2529 => ?_)
                  obtain rfl : pN = a2527 := (((fm_R g2513 rh0 rfl).trans ((fm_R g2491 rh0 rfl).trans m2486))).symm.trans m2528
                  refine lv_iload_n hx hb dX12_readClause_174 rfl (lv_at hl 1 rfl) ?_
                  refine lv_iconst (v := 3) hx hb dX12_readClause_175 (by decide) ?_
                  refine q_iadd (Y := 3) hx hb dX12_readClause_176 rfl rfl (by omega) (fun x2530 h2531 => ?_)
                  refine lv_aload_n hx hb dX12_readClause_177 rfl (lv_at hl 3 rfl) ?_
                  refine fg_RX12_229 E hW rh0 dX12_readClause_178 (fun y2532 m2533 b2534 => ?_)
                  obtain rfl : pF21 = y2532 := (((fm_I g2513 rh0 rfl).trans ((fm_I g2491 rh0 rfl).trans m2475))).symm.trans m2533
                  have hw2539 := hW.2.2.2
                  refine gs_840 E hW rN ⟨by omega, by omega⟩ dX12_readClause_181 (fun f2535 H locs e2536 n2537 g2538 hW => ?_)
                  have z2540 : DJ f0 f2535 h0 pF21.toInt 0 0 0 0 := dj_keep z2516 hw2539 g2538 rh0 rfl (fun q => by rw [fm_I g2538 rh0 rfl]; exact q)
                  have hF := FM.tr hF g2538 rfl
                  have q2541 : x2530.toInt = 8 * pF19.toInt + 3 := by omega
                  have q2542 : 0 ≤ 8 * pF19.toInt := by omega
                  have z2543 : ∀ j : Nat, (j : Int) < 8 * pF19.toInt → aI (f2535 pN) j = aI (f0 pN) j := pre_st2 z2517 e2536 q2541 q2542 (by decide)
                  clear z2517
                  have z2544 : aI (f2535 pN) (8 * pF19.toInt + 0).toNat = x6 := ent_no2 z2518 e2536 q2541 q2542 (by decide)
                  have z2545 : aI (f2535 pN) (8 * pF19.toInt + 1).toNat = 0 := ent_no2 z2519 e2536 q2541 q2542 (by decide)
                  have z2546 : aI (f2535 pN) (8 * pF19.toInt + 2).toNat = 0 := ent_no2 z2520 e2536 q2541 q2542 (by decide)
                  have z2547 : aI (f2535 pN) (8 * pF19.toInt + 3).toNat = pF21 := ent_st2 e2536 q2541 q2542 (by decide)
                  have z2548 : aI (f2535 pN) (8 * pF19.toInt + 4).toNat = 0 := ent_no2 z2522 e2536 q2541 q2542 (by decide)
                  have z2549 : aI (f2535 pN) (8 * pF19.toInt + 5).toNat = 0 := ent_no2 z2523 e2536 q2541 q2542 (by decide)
                  have z2550 : aI (f2535 pN) (8 * pF19.toInt + 6).toNat = 0 := ent_no2 z2524 e2536 q2541 q2542 (by decide)
                  clear q2541 q2542
                  clear z2518 z2519 z2520 z2521 z2522 z2523 z2524
                  refine lv_iload_n hx hb dX12_readClause_182 rfl (lv_at hl 2 rfl) ?_
                  refine lv_iconst (v := 2) hx hb dX12_readClause_183 (by decide) ?_
                  refine q_icmp_eq (Y := 2) (tgt := 192) hx hb dX12_readClause_184 (by decide) rfl rfl (fun c2551 => ?_) (fun c2551 => ?_)
                  · refine lv_aload_n hx hb dX12_readClause_192 rfl (lv_at hl 3 rfl) ?_
                    refine lv_iconst (v := 0) hx hb dX12_readClause_193 (by decide) ?_
                    have hw2556 := hW.2.2.2
                    refine t_callV (As := [.int 0]) (rest := []) E hW (c_X12_readExpression l G cI cJ cZ cD cR cT kp L f2535 hW.2.2.2 _ h0 0 rh0 (by decide) (by have hkq2552 : (0 : Int32).toInt = 0 := rfl; simp only [((fm_I g2538 rh0 rfl).trans ((fm_I g2513 rh0 rfl).trans ((fm_I g2491 rh0 rfl).trans m2467))), ((fm_I g2538 rh0 rfl).trans ((fm_I g2513 rh0 rfl).trans ((fm_I g2491 rh0 rfl).trans m2468))), ((fm_I g2538 rh0 rfl).trans ((fm_I g2513 rh0 rfl).trans ((fm_I g2491 rh0 rfl).trans m2469))), ((fm_I g2538 rh0 rfl).trans ((fm_I g2513 rh0 rfl).trans ((fm_I g2491 rh0 rfl).trans m2470))), ((fm_I g2538 rh0 rfl).trans ((fm_I g2513 rh0 rfl).trans ((fm_I g2491 rh0 rfl).trans m2472))), ((fm_I g2538 rh0 rfl).trans m2533), ((fm_J g2538 rh0 rfl).trans ((fm_J g2513 rh0 rfl).trans ((fm_J g2491 rh0 rfl).trans m2471))), and_true, true_and, true_or, or_true, false_or, or_false] <;> omega)) rh0 (by decide) rfl wk_X12_readExpression tw_1819 rfl ⟨Nat.le_of_ble_eq_true rfl, Nat.le_of_ble_eq_true rfl⟩ ⟨rfl, rfl⟩ hl.1 rfl (Nat.le_of_ble_eq_true rfl) dX12_readClause_194 ⟨Nat.le_of_ble_eq_true rfl, Nat.le_of_ble_eq_true rfl⟩ (fun v2553 f2554 H locs q2555 hW => ?_)
                    obtain ⟨rfl, g2557, h2558, h2559⟩ := q2555
                    have m2560 : aI (f2554 pN) (x2184 : Int32).toNatClampNeg = x6 := ((congrArg (fun z => aI z (x2184 : Int32).toNatClampNeg) (fm_A g2557 rN (by decide) rfl)).trans (show aI (f2535 pN) (x2184 : Int32).toNatClampNeg = x6 from by rw [e2536, up_n (tn_ne (by omega) (by omega) (by omega))]; exact m2515))
                    have m2561 : aI (f2554 pN) (x2530 : Int32).toNatClampNeg = pF21 := ((congrArg (fun z => aI z (x2530 : Int32).toNatClampNeg) (fm_A g2557 rN (by decide) rfl)).trans (show aI (f2535 pN) (x2530 : Int32).toNatClampNeg = pF21 from by rw [e2536]; exact up_s))
                    have z2562 : ∀ j : Nat, (j : Int) < 8 * pF19.toInt → aI (f2554 pN) j = aI (f0 pN) j := by rw [fm_A g2557 rN (by decide) rfl]; exact z2543
                    clear z2543
                    have z2563 : aI (f2554 pN) (8 * pF19.toInt + 0).toNat = x6 := by rw [fm_A g2557 rN (by decide) rfl]; exact z2544
                    have z2564 : aI (f2554 pN) (8 * pF19.toInt + 1).toNat = 0 := by rw [fm_A g2557 rN (by decide) rfl]; exact z2545
                    have z2565 : aI (f2554 pN) (8 * pF19.toInt + 2).toNat = 0 := by rw [fm_A g2557 rN (by decide) rfl]; exact z2546
                    have z2566 : aI (f2554 pN) (8 * pF19.toInt + 3).toNat = pF21 := by rw [fm_A g2557 rN (by decide) rfl]; exact z2547
                    have z2567 : aI (f2554 pN) (8 * pF19.toInt + 4).toNat = 0 := by rw [fm_A g2557 rN (by decide) rfl]; exact z2548
                    have z2568 : aI (f2554 pN) (8 * pF19.toInt + 5).toNat = 0 := by rw [fm_A g2557 rN (by decide) rfl]; exact z2549
                    have z2569 : aI (f2554 pN) (8 * pF19.toInt + 6).toNat = 0 := by rw [fm_A g2557 rN (by decide) rfl]; exact z2550
                    clear z2544 z2545 z2546 z2547 z2548 z2549 z2550
                    have hF := FM.tr hF g2557 rfl
                    have hk2570 : (0 : Int32).toInt = 0 := rfl
                    obtain ⟨y2571, m2572⟩ : ∃ x : Int32, oI (f2554 h0) 13 = x := ⟨_, rfl⟩
                    have b2573 : (0 : Int) ≤ y2571.toInt ∧ y2571.toInt ≤ 400 := by rw [← m2572]; exact th_iv hW rh0 (by decide) (by decide) rfl
                    obtain ⟨y2574, m2575⟩ : ∃ x : Int32, oI (f2554 h0) 14 = x := ⟨_, rfl⟩
                    have b2576 : (0 : Int) ≤ y2574.toInt ∧ y2574.toInt ≤ 400 := by rw [← m2575]; exact th_iv hW rh0 (by decide) (by decide) rfl
                    obtain ⟨y2577, m2578⟩ : ∃ x : Int32, oI (f2554 h0) 15 = x := ⟨_, rfl⟩
                    have b2579 : (0 : Int) ≤ y2577.toInt ∧ y2577.toInt ≤ 3 := by rw [← m2578]; exact th_iv hW rh0 (by decide) (by decide) rfl
                    obtain ⟨y2580, m2581⟩ : ∃ x : Int32, oI (f2554 h0) 18 = x := ⟨_, rfl⟩
                    have b2582 : (0 : Int) ≤ y2580.toInt ∧ y2580.toInt ≤ 1 := by rw [← m2581]; exact th_iv hW rh0 (by decide) (by decide) rfl
                    obtain ⟨y2583, m2584⟩ : ∃ x : Int32, oI (f2554 h0) 21 = x := ⟨_, rfl⟩
                    have b2585 : (0 : Int) ≤ y2583.toInt ∧ y2583.toInt ≤ 400 := by rw [← m2584]; exact th_iv hW rh0 (by decide) (by decide) rfl
                    obtain ⟨y2586, m2587⟩ : ∃ x : Int32, oI (f2554 h0) 27 = x := ⟨_, rfl⟩
                    have b2588 : (0 : Int) ≤ y2586.toInt ∧ y2586.toInt ≤ 400 := by rw [← m2587]; exact th_iv hW rh0 (by decide) (by decide) rfl
                    obtain ⟨y2589, m2590⟩ : ∃ x : Int64, oJ (f2554 h0) 16 = x := ⟨_, rfl⟩
                    simp only [((fm_I g2557 rh0 rfl).trans ((fm_I g2538 rh0 rfl).trans ((fm_I g2513 rh0 rfl).trans ((fm_I g2491 rh0 rfl).trans m2467)))), ((fm_I g2538 rh0 rfl).trans ((fm_I g2513 rh0 rfl).trans ((fm_I g2491 rh0 rfl).trans m2467))), m2572, ((fm_I g2538 rh0 rfl).trans ((fm_I g2513 rh0 rfl).trans ((fm_I g2491 rh0 rfl).trans m2468))), m2575, ((fm_I g2538 rh0 rfl).trans ((fm_I g2513 rh0 rfl).trans ((fm_I g2491 rh0 rfl).trans m2469))), m2578, ((fm_I g2538 rh0 rfl).trans ((fm_I g2513 rh0 rfl).trans ((fm_I g2491 rh0 rfl).trans m2470))), m2581, ((fm_I g2538 rh0 rfl).trans ((fm_I g2513 rh0 rfl).trans ((fm_I g2491 rh0 rfl).trans m2472))), m2584, ((fm_I g2538 rh0 rfl).trans m2533), m2587, ((fm_I g2538 rh0 rfl).trans ((fm_I g2513 rh0 rfl).trans ((fm_I g2491 rh0 rfl).trans m2477))), m2590, ((fm_J g2538 rh0 rfl).trans ((fm_J g2513 rh0 rfl).trans ((fm_J g2491 rh0 rfl).trans m2471)))] at h2558
                    obtain ⟨q2591, q2592, q2593, q2594, q2595, q2596⟩ := h2558
                    clear q2174 q2175
                    have z2598 := h2559
                    rw [((fm_I g2538 rh0 rfl).trans m2533), m2584] at z2598
                    have z2597 : DJ f0 f2554 h0 pF21.toInt pF21.toInt y2583.toInt y2583.toInt y2583.toInt := dj_ex1 z2540 (by rw [((fm_I g2538 rh0 rfl).trans ((fm_I g2513 rh0 rfl).trans ((fm_I g2491 rh0 rfl).trans m2472)))]; omega) (by omega) z2598
                    refine lv_aload_n hx hb dX12_readClause_197 rfl (lv_at hl 3 rfl) ?_
                    refine fg_RX12_39 E hW rh0 dX12_readClause_198 (fun a2599 m2600 r2601 => ?_)
                    obtain rfl : pN = a2599 := (((fm_R g2557 rh0 rfl).trans ((fm_R g2538 rh0 rfl).trans m2528))).symm.trans m2600
                    refine lv_iload_n hx hb dX12_readClause_201 rfl (lv_at hl 1 rfl) ?_
                    refine lv_iconst (v := 4) hx hb dX12_readClause_202 (by decide) ?_
                    refine q_iadd (Y := 4) hx hb dX12_readClause_203 rfl rfl (by omega) (fun x2602 h2603 => ?_)
                    refine lv_aload_n hx hb dX12_readClause_204 rfl (lv_at hl 3 rfl) ?_
                    refine fg_RX12_229 E hW rh0 dX12_readClause_205 (fun y2604 m2605 b2606 => ?_)
                    obtain rfl : y2583 = y2604 := (m2584).symm.trans m2605
                    have hw2611 := hW.2.2.2
                    refine gs_840 E hW rN ⟨by omega, by omega⟩ dX12_readClause_208 (fun f2607 H locs e2608 n2609 g2610 hW => ?_)
                    have z2612 : DJ f0 f2607 h0 pF21.toInt pF21.toInt y2583.toInt y2583.toInt y2583.toInt := dj_keep z2597 hw2611 g2610 rh0 rfl (fun q => by rw [fm_I g2610 rh0 rfl]; exact q)
                    have hF := FM.tr hF g2610 rfl
                    have q2613 : x2602.toInt = 8 * pF19.toInt + 4 := by omega
                    have q2614 : 0 ≤ 8 * pF19.toInt := by omega
                    have z2615 : ∀ j : Nat, (j : Int) < 8 * pF19.toInt → aI (f2607 pN) j = aI (f0 pN) j := pre_st2 z2562 e2608 q2613 q2614 (by decide)
                    clear z2562
                    have z2616 : aI (f2607 pN) (8 * pF19.toInt + 0).toNat = x6 := ent_no2 z2563 e2608 q2613 q2614 (by decide)
                    have z2617 : aI (f2607 pN) (8 * pF19.toInt + 1).toNat = 0 := ent_no2 z2564 e2608 q2613 q2614 (by decide)
                    have z2618 : aI (f2607 pN) (8 * pF19.toInt + 2).toNat = 0 := ent_no2 z2565 e2608 q2613 q2614 (by decide)
                    have z2619 : aI (f2607 pN) (8 * pF19.toInt + 3).toNat = pF21 := ent_no2 z2566 e2608 q2613 q2614 (by decide)
                    have z2620 : aI (f2607 pN) (8 * pF19.toInt + 4).toNat = y2583 := ent_st2 e2608 q2613 q2614 (by decide)
                    have z2621 : aI (f2607 pN) (8 * pF19.toInt + 5).toNat = 0 := ent_no2 z2568 e2608 q2613 q2614 (by decide)
                    have z2622 : aI (f2607 pN) (8 * pF19.toInt + 6).toNat = 0 := ent_no2 z2569 e2608 q2613 q2614 (by decide)
                    clear q2613 q2614
                    clear z2563 z2564 z2565 z2566 z2567 z2568 z2569
                    refine lv_aload_n hx hb dX12_readClause_209 rfl (lv_at hl 3 rfl) ?_
                    refine fg_RX12_39 E hW rh0 dX12_readClause_210 (fun a2623 m2624 r2625 => ?_)
                    obtain rfl : pN = a2623 := (((fm_R g2610 rh0 rfl).trans m2600)).symm.trans m2624
                    refine lv_iload_n hx hb dX12_readClause_213 rfl (lv_at hl 1 rfl) ?_
                    refine lv_iconst (v := 5) hx hb dX12_readClause_214 (by decide) ?_
                    refine q_iadd (Y := 5) hx hb dX12_readClause_215 rfl rfl (by omega) (fun x2626 h2627 => ?_)
                    refine lv_aload_n hx hb dX12_readClause_216 rfl (lv_at hl 3 rfl) ?_
                    refine fg_RX12_229 E hW rh0 dX12_readClause_217 (fun y2628 m2629 b2630 => ?_)
                    obtain rfl : y2583 = y2628 := (((fm_I g2610 rh0 rfl).trans m2605)).symm.trans m2629
                    have hw2635 := hW.2.2.2
                    refine gs_840 E hW rN ⟨by omega, by omega⟩ dX12_readClause_220 (fun f2631 H locs e2632 n2633 g2634 hW => ?_)
                    have z2636 : DJ f0 f2631 h0 pF21.toInt pF21.toInt y2583.toInt y2583.toInt y2583.toInt := dj_keep z2612 hw2635 g2634 rh0 rfl (fun q => by rw [fm_I g2634 rh0 rfl]; exact q)
                    have hF := FM.tr hF g2634 rfl
                    have q2637 : x2626.toInt = 8 * pF19.toInt + 5 := by omega
                    have q2638 : 0 ≤ 8 * pF19.toInt := by omega
                    have z2639 : ∀ j : Nat, (j : Int) < 8 * pF19.toInt → aI (f2631 pN) j = aI (f0 pN) j := pre_st2 z2615 e2632 q2637 q2638 (by decide)
                    clear z2615
                    have z2640 : aI (f2631 pN) (8 * pF19.toInt + 0).toNat = x6 := ent_no2 z2616 e2632 q2637 q2638 (by decide)
                    have z2641 : aI (f2631 pN) (8 * pF19.toInt + 1).toNat = 0 := ent_no2 z2617 e2632 q2637 q2638 (by decide)
                    have z2642 : aI (f2631 pN) (8 * pF19.toInt + 2).toNat = 0 := ent_no2 z2618 e2632 q2637 q2638 (by decide)
                    have z2643 : aI (f2631 pN) (8 * pF19.toInt + 3).toNat = pF21 := ent_no2 z2619 e2632 q2637 q2638 (by decide)
                    have z2644 : aI (f2631 pN) (8 * pF19.toInt + 4).toNat = y2583 := ent_no2 z2620 e2632 q2637 q2638 (by decide)
                    have z2645 : aI (f2631 pN) (8 * pF19.toInt + 5).toNat = y2583 := ent_st2 e2632 q2637 q2638 (by decide)
                    have z2646 : aI (f2631 pN) (8 * pF19.toInt + 6).toNat = 0 := ent_no2 z2622 e2632 q2637 q2638 (by decide)
                    clear q2637 q2638
                    clear z2616 z2617 z2618 z2619 z2620 z2621 z2622
                    refine lv_aload_n hx hb dX12_readClause_221 rfl (lv_at hl 3 rfl) ?_
                    refine fg_RX12_193 E hW rh0 dX12_readClause_222 (fun y2647 m2648 b2649 => ?_)
                    obtain rfl : y2580 = y2647 := (((fm_I g2634 rh0 rfl).trans ((fm_I g2610 rh0 rfl).trans m2581))).symm.trans m2648
                    refine q_if_ne (tgt := 247) hx hb dX12_readClause_225 (by decide) rfl (fun c2650 => ?_) (fun c2650 => ?_)
                    · refine lv_aload_n hx hb dX12_readClause_247 rfl (lv_at hl 3 rfl) ?_
                      refine fg_RX12_39 E hW rh0 dX12_readClause_248 (fun a2651 m2652 r2653 => ?_)
                      obtain rfl : pN = a2651 := (((fm_R g2634 rh0 rfl).trans m2624)).symm.trans m2652
                      refine lv_iload_n hx hb dX12_readClause_251 rfl (lv_at hl 1 rfl) ?_
                      refine lv_bipush (v := 6) hx hb dX12_readClause_252 (by decide) ?_
                      refine q_iadd (Y := 6) hx hb dX12_readClause_254 rfl rfl (by omega) (fun x2654 h2655 => ?_)
                      refine lv_aload_n hx hb dX12_readClause_255 rfl (lv_at hl 3 rfl) ?_
                      refine fg_RX12_229 E hW rh0 dX12_readClause_256 (fun y2656 m2657 b2658 => ?_)
                      obtain rfl : y2583 = y2656 := (((fm_I g2634 rh0 rfl).trans m2629)).symm.trans m2657
                      have hw2663 := hW.2.2.2
                      refine gs_840 E hW rN ⟨by omega, by omega⟩ dX12_readClause_259 (fun f2659 H locs e2660 n2661 g2662 hW => ?_)
                      have m2664 : oR (f2659 h0) 2 = pR := ((fm_R g2662 rh0 rfl).trans ((fm_R g2634 rh0 rfl).trans ((fm_R g2610 rh0 rfl).trans ((fm_R g2557 rh0 rfl).trans ((fm_R g2538 rh0 rfl).trans ((fm_R g2513 rh0 rfl).trans ((fm_R g2491 rh0 rfl).trans m2466)))))))
                      have m2665 : oI (f2659 h0) 12 = pF12 := ((fm_I g2662 rh0 rfl).trans ((fm_I g2634 rh0 rfl).trans ((fm_I g2610 rh0 rfl).trans ((fm_I g2557 rh0 rfl).trans ((fm_I g2538 rh0 rfl).trans ((fm_I g2513 rh0 rfl).trans ((fm_I g2491 rh0 rfl).trans m2467)))))))
                      have z2666 : DJ f0 f2659 h0 pF21.toInt pF21.toInt y2583.toInt y2583.toInt y2583.toInt := dj_keep z2636 hw2663 g2662 rh0 rfl (fun q => by rw [fm_I g2662 rh0 rfl]; exact q)
                      have hF := FM.tr hF g2662 rfl
                      have q2667 : x2654.toInt = 8 * pF19.toInt + 6 := by omega
                      have q2668 : 0 ≤ 8 * pF19.toInt := by omega
                      have z2669 : ∀ j : Nat, (j : Int) < 8 * pF19.toInt → aI (f2659 pN) j = aI (f0 pN) j := pre_st2 z2639 e2660 q2667 q2668 (by decide)
                      clear z2639
                      have z2670 : aI (f2659 pN) (8 * pF19.toInt + 0).toNat = x6 := ent_no2 z2640 e2660 q2667 q2668 (by decide)
                      have z2671 : aI (f2659 pN) (8 * pF19.toInt + 1).toNat = 0 := ent_no2 z2641 e2660 q2667 q2668 (by decide)
                      have z2672 : aI (f2659 pN) (8 * pF19.toInt + 2).toNat = 0 := ent_no2 z2642 e2660 q2667 q2668 (by decide)
                      have z2673 : aI (f2659 pN) (8 * pF19.toInt + 3).toNat = pF21 := ent_no2 z2643 e2660 q2667 q2668 (by decide)
                      have z2674 : aI (f2659 pN) (8 * pF19.toInt + 4).toNat = y2583 := ent_no2 z2644 e2660 q2667 q2668 (by decide)
                      have z2675 : aI (f2659 pN) (8 * pF19.toInt + 5).toNat = y2583 := ent_no2 z2645 e2660 q2667 q2668 (by decide)
                      have z2676 : aI (f2659 pN) (8 * pF19.toInt + 6).toNat = y2583 := ent_st2 e2660 q2667 q2668 (by decide)
                      clear q2667 q2668
                      clear z2640 z2641 z2642 z2643 z2644 z2645 z2646
                      exact e_V E hW rfl ⟨rfl, hF, (by simp only [m2665, mF12, ((fm_I g2662 rh0 rfl).trans ((fm_I g2634 rh0 rfl).trans ((fm_I g2610 rh0 rfl).trans m2572))), mF13, ((fm_I g2662 rh0 rfl).trans ((fm_I g2634 rh0 rfl).trans ((fm_I g2610 rh0 rfl).trans m2575))), mF14, ((fm_I g2662 rh0 rfl).trans ((fm_I g2634 rh0 rfl).trans ((fm_I g2610 rh0 rfl).trans m2578))), mF15, ((fm_I g2662 rh0 rfl).trans m2648), mF18, ((fm_I g2662 rh0 rfl).trans m2657), mF21, ((fm_J g2662 rh0 rfl).trans ((fm_J g2634 rh0 rfl).trans ((fm_J g2610 rh0 rfl).trans m2590))), mW, and_true, true_and, true_or, or_true, false_or, or_false] <;> omega), (Or.inl (by rw [((fm_I g2662 rh0 rfl).trans m2648)]; omega))⟩ dX12_readClause_260
                    · refine lv_aload_n hx hb dX12_readClause_228 rfl (lv_at hl 3 rfl) ?_
                      refine lv_ldc2 (v := 294) hx hb hown (hts _ tw_1904) dX12_readClause_229 ?_
                      have hw2680 := hW.2.2.2
                      refine t_callV (As := [.long 294]) (rest := []) E hW (c_X12_isWord l G cI cJ cZ cD cR cT kp L f2631 hW.2.2.2 _ h0 294 rh0 (by decide)) rh0 (by decide) rfl wk_X12_isWord tw_1797 rfl ⟨Nat.le_of_ble_eq_true rfl, Nat.le_of_ble_eq_true rfl⟩ ⟨rfl, rfl⟩ hl.1 rfl (Nat.le_of_ble_eq_true rfl) dX12_readClause_232 ⟨Nat.le_of_ble_eq_true rfl, Nat.le_of_ble_eq_true rfl⟩ (fun v2677 f2678 H locs q2679 hW => ?_)
                      obtain ⟨⟨x2682, rfl, p2683⟩, g2681⟩ := q2679
                      simp only [((fm_I g2634 rh0 rfl).trans ((fm_I g2610 rh0 rfl).trans m2578)), ((fm_J g2634 rh0 rfl).trans ((fm_J g2610 rh0 rfl).trans m2590))] at p2683
                      have p2683 : (x2682.toInt = 1 ∧ y2577.toInt = 1 ∧ y2589.toInt = 294) ∨ x2682.toInt = 0 := p2683
                      have m2684 : oR (f2678 h0) 2 = pR := ((fm_R g2681 rh0 rfl).trans ((fm_R g2634 rh0 rfl).trans ((fm_R g2610 rh0 rfl).trans ((fm_R g2557 rh0 rfl).trans ((fm_R g2538 rh0 rfl).trans ((fm_R g2513 rh0 rfl).trans ((fm_R g2491 rh0 rfl).trans m2466)))))))
                      have m2685 : oI (f2678 h0) 12 = pF12 := ((fm_I g2681 rh0 rfl).trans ((fm_I g2634 rh0 rfl).trans ((fm_I g2610 rh0 rfl).trans ((fm_I g2557 rh0 rfl).trans ((fm_I g2538 rh0 rfl).trans ((fm_I g2513 rh0 rfl).trans ((fm_I g2491 rh0 rfl).trans m2467)))))))
                      have m2686 : aI (f2678 pN) (x2184 : Int32).toNatClampNeg = x6 := ((congrArg (fun z => aI z (x2184 : Int32).toNatClampNeg) (fm_A g2681 rN (by decide) rfl)).trans (show aI (f2631 pN) (x2184 : Int32).toNatClampNeg = x6 from by rw [e2632, up_n (tn_ne (by omega) (by omega) (by omega))]; exact (show aI (f2607 pN) (x2184 : Int32).toNatClampNeg = x6 from by rw [e2608, up_n (tn_ne (by omega) (by omega) (by omega))]; exact m2560)))
                      have m2687 : aI (f2678 pN) (x2530 : Int32).toNatClampNeg = pF21 := ((congrArg (fun z => aI z (x2530 : Int32).toNatClampNeg) (fm_A g2681 rN (by decide) rfl)).trans (show aI (f2631 pN) (x2530 : Int32).toNatClampNeg = pF21 from by rw [e2632, up_n (tn_ne (by omega) (by omega) (by omega))]; exact (show aI (f2607 pN) (x2530 : Int32).toNatClampNeg = pF21 from by rw [e2608, up_n (tn_ne (by omega) (by omega) (by omega))]; exact m2561)))
                      have m2688 : aI (f2678 pN) (x2602 : Int32).toNatClampNeg = y2583 := ((congrArg (fun z => aI z (x2602 : Int32).toNatClampNeg) (fm_A g2681 rN (by decide) rfl)).trans (show aI (f2631 pN) (x2602 : Int32).toNatClampNeg = y2583 from by rw [e2632, up_n (tn_ne (by omega) (by omega) (by omega))]; exact (show aI (f2607 pN) (x2602 : Int32).toNatClampNeg = y2583 from by rw [e2608]; exact up_s)))
                      have m2689 : aI (f2678 pN) (x2626 : Int32).toNatClampNeg = y2583 := ((congrArg (fun z => aI z (x2626 : Int32).toNatClampNeg) (fm_A g2681 rN (by decide) rfl)).trans (show aI (f2631 pN) (x2626 : Int32).toNatClampNeg = y2583 from by rw [e2632]; exact up_s))
                      have z2690 : DJ f0 f2678 h0 pF21.toInt pF21.toInt y2583.toInt y2583.toInt y2583.toInt := dj_keep z2636 hw2680 g2681 rh0 rfl (fun q => by rw [fm_I g2681 rh0 rfl]; exact q)
                      have z2691 : ∀ j : Nat, (j : Int) < 8 * pF19.toInt → aI (f2678 pN) j = aI (f0 pN) j := by rw [fm_A g2681 rN (by decide) rfl]; exact z2639
                      clear z2639
                      have z2692 : aI (f2678 pN) (8 * pF19.toInt + 0).toNat = x6 := by rw [fm_A g2681 rN (by decide) rfl]; exact z2640
                      have z2693 : aI (f2678 pN) (8 * pF19.toInt + 1).toNat = 0 := by rw [fm_A g2681 rN (by decide) rfl]; exact z2641
                      have z2694 : aI (f2678 pN) (8 * pF19.toInt + 2).toNat = 0 := by rw [fm_A g2681 rN (by decide) rfl]; exact z2642
                      have z2695 : aI (f2678 pN) (8 * pF19.toInt + 3).toNat = pF21 := by rw [fm_A g2681 rN (by decide) rfl]; exact z2643
                      have z2696 : aI (f2678 pN) (8 * pF19.toInt + 4).toNat = y2583 := by rw [fm_A g2681 rN (by decide) rfl]; exact z2644
                      have z2697 : aI (f2678 pN) (8 * pF19.toInt + 5).toNat = y2583 := by rw [fm_A g2681 rN (by decide) rfl]; exact z2645
                      have z2698 : aI (f2678 pN) (8 * pF19.toInt + 6).toNat = 0 := by rw [fm_A g2681 rN (by decide) rfl]; exact z2646
                      clear z2640 z2641 z2642 z2643 z2644 z2645 z2646
                      have hF := FM.tr hF g2681 rfl
                      refine q_if_eq (tgt := 247) hx hb dX12_readClause_235 (by decide) rfl (fun c2699 => ?_) (fun c2699 => ?_)
                      · clear p2683
                        refine lv_aload_n hx hb dX12_readClause_247 rfl (lv_at hl 3 rfl) ?_
                        refine fg_RX12_39 E hW rh0 dX12_readClause_248 (fun a2700 m2701 r2702 => ?_)
                        obtain rfl : pN = a2700 := (((fm_R g2681 rh0 rfl).trans ((fm_R g2634 rh0 rfl).trans m2624))).symm.trans m2701
                        refine lv_iload_n hx hb dX12_readClause_251 rfl (lv_at hl 1 rfl) ?_
                        refine lv_bipush (v := 6) hx hb dX12_readClause_252 (by decide) ?_
                        refine q_iadd (Y := 6) hx hb dX12_readClause_254 rfl rfl (by omega) (fun x2703 h2704 => ?_)
                        refine lv_aload_n hx hb dX12_readClause_255 rfl (lv_at hl 3 rfl) ?_
                        refine fg_RX12_229 E hW rh0 dX12_readClause_256 (fun y2705 m2706 b2707 => ?_)
                        obtain rfl : y2583 = y2705 := (((fm_I g2681 rh0 rfl).trans ((fm_I g2634 rh0 rfl).trans m2629))).symm.trans m2706
                        have hw2712 := hW.2.2.2
                        refine gs_840 E hW rN ⟨by omega, by omega⟩ dX12_readClause_259 (fun f2708 H locs e2709 n2710 g2711 hW => ?_)
                        have z2713 : DJ f0 f2708 h0 pF21.toInt pF21.toInt y2583.toInt y2583.toInt y2583.toInt := dj_keep z2690 hw2712 g2711 rh0 rfl (fun q => by rw [fm_I g2711 rh0 rfl]; exact q)
                        have hF := FM.tr hF g2711 rfl
                        have q2714 : x2703.toInt = 8 * pF19.toInt + 6 := by omega
                        have q2715 : 0 ≤ 8 * pF19.toInt := by omega
                        have z2716 : ∀ j : Nat, (j : Int) < 8 * pF19.toInt → aI (f2708 pN) j = aI (f0 pN) j := pre_st2 z2691 e2709 q2714 q2715 (by decide)
                        clear z2691
                        have z2717 : aI (f2708 pN) (8 * pF19.toInt + 0).toNat = x6 := ent_no2 z2692 e2709 q2714 q2715 (by decide)
                        have z2718 : aI (f2708 pN) (8 * pF19.toInt + 1).toNat = 0 := ent_no2 z2693 e2709 q2714 q2715 (by decide)
                        have z2719 : aI (f2708 pN) (8 * pF19.toInt + 2).toNat = 0 := ent_no2 z2694 e2709 q2714 q2715 (by decide)
                        have z2720 : aI (f2708 pN) (8 * pF19.toInt + 3).toNat = pF21 := ent_no2 z2695 e2709 q2714 q2715 (by decide)
                        have z2721 : aI (f2708 pN) (8 * pF19.toInt + 4).toNat = y2583 := ent_no2 z2696 e2709 q2714 q2715 (by decide)
                        have z2722 : aI (f2708 pN) (8 * pF19.toInt + 5).toNat = y2583 := ent_no2 z2697 e2709 q2714 q2715 (by decide)
                        have z2723 : aI (f2708 pN) (8 * pF19.toInt + 6).toNat = y2583 := ent_st2 e2709 q2714 q2715 (by decide)
                        clear q2714 q2715
                        clear z2692 z2693 z2694 z2695 z2696 z2697 z2698
                        exact e_V E hW rfl ⟨rfl, hF, (by simp only [((fm_I g2711 rh0 rfl).trans m2685), mF12, ((fm_I g2711 rh0 rfl).trans ((fm_I g2681 rh0 rfl).trans ((fm_I g2634 rh0 rfl).trans ((fm_I g2610 rh0 rfl).trans m2572)))), mF13, ((fm_I g2711 rh0 rfl).trans ((fm_I g2681 rh0 rfl).trans ((fm_I g2634 rh0 rfl).trans ((fm_I g2610 rh0 rfl).trans m2575)))), mF14, ((fm_I g2711 rh0 rfl).trans ((fm_I g2681 rh0 rfl).trans ((fm_I g2634 rh0 rfl).trans ((fm_I g2610 rh0 rfl).trans m2578)))), mF15, ((fm_I g2711 rh0 rfl).trans ((fm_I g2681 rh0 rfl).trans m2648)), mF18, ((fm_I g2711 rh0 rfl).trans m2706), mF21, ((fm_J g2711 rh0 rfl).trans ((fm_J g2681 rh0 rfl).trans ((fm_J g2634 rh0 rfl).trans ((fm_J g2610 rh0 rfl).trans m2590)))), mW, and_true, true_and, true_or, or_true, false_or, or_false] <;> omega), (by have hk0 : (0 : Int32).toInt = 0 := rfl; rw [((fm_I g2711 rh0 rfl).trans m2706), ((fm_I g2711 rh0 rfl).trans ((fm_I g2681 rh0 rfl).trans ((fm_I g2634 rh0 rfl).trans ((fm_I g2610 rh0 rfl).trans ((fm_I g2557 rh0 rfl).trans ((fm_I g2538 rh0 rfl).trans e2511))))))]; exact cl_end (nc := y2583.toInt) (hd := x6) (r1 := 0) (r2 := 0) (show CLs _ _ _ pF21.toInt pF19.toInt from hC) (by omega) (show DJ f0 f2708 h0 pF21.toInt (pF21 : Int32).toInt (y2583 : Int32).toInt (y2583 : Int32).toInt (y2583 : Int32).toInt from z2713) (fun j hj => by unfold vN; rw [((fm_R g2711 rh0 rfl).trans m2701), mN]; exact z2716 j hj) (by unfold vN; rw [((fm_R g2711 rh0 rfl).trans m2701)]; exact z2717) (by unfold vN; rw [((fm_R g2711 rh0 rfl).trans m2701)]; exact z2718) (by unfold vN; rw [((fm_R g2711 rh0 rfl).trans m2701)]; exact z2719) (by unfold vN; rw [((fm_R g2711 rh0 rfl).trans m2701)]; exact z2720) (by unfold vN; rw [((fm_R g2711 rh0 rfl).trans m2701)]; exact z2721) (by unfold vN; rw [((fm_R g2711 rh0 rfl).trans m2701)]; exact z2722) (by unfold vN; rw [((fm_R g2711 rh0 rfl).trans m2701)]; exact z2723) (by rw [((fm_I g2711 rh0 rfl).trans ((fm_I g2681 rh0 rfl).trans m2648))]; omega) (by omega) (by omega))⟩ dX12_readClause_260
                      · have q2724 : y2577.toInt = 1 ∧ y2589.toInt = 294 := by omega
                        clear p2683
                        refine lv_aload_n hx hb dX12_readClause_238 rfl (lv_at hl 3 rfl) ?_
                        have hw2728 := hW.2.2.2
                        refine t_callV (As := []) (rest := []) E hW (c_X12_next l G cI cJ cZ cD cR cT kp L f2678 hW.2.2.2 _ h0 rh0 (by simp only [m2685, ((fm_I g2681 rh0 rfl).trans ((fm_I g2634 rh0 rfl).trans ((fm_I g2610 rh0 rfl).trans m2575))), and_true, true_and, true_or, or_true, false_or, or_false] <;> omega)) rh0 (by decide) rfl wk_X12_next tw_1773 rfl ⟨Nat.le_of_ble_eq_true rfl, Nat.le_of_ble_eq_true rfl⟩ ⟨rfl, rfl⟩ hl.1 rfl (Nat.le_of_ble_eq_true rfl) dX12_readClause_239 ⟨Nat.le_of_ble_eq_true rfl, Nat.le_of_ble_eq_true rfl⟩ (fun v2725 f2726 H locs q2727 hW => ?_)
                        obtain ⟨rfl, g2729, h2730⟩ := q2727
                        have z2731 : DJ f0 f2726 h0 pF21.toInt pF21.toInt y2583.toInt y2583.toInt y2583.toInt := dj_keep z2690 hw2728 g2729 rh0 rfl (fun q => by rw [fm_I g2729 rh0 rfl]; exact q)
                        have z2732 : ∀ j : Nat, (j : Int) < 8 * pF19.toInt → aI (f2726 pN) j = aI (f0 pN) j := by rw [fm_A g2729 rN (by decide) rfl]; exact z2691
                        clear z2691
                        have z2733 : aI (f2726 pN) (8 * pF19.toInt + 0).toNat = x6 := by rw [fm_A g2729 rN (by decide) rfl]; exact z2692
                        have z2734 : aI (f2726 pN) (8 * pF19.toInt + 1).toNat = 0 := by rw [fm_A g2729 rN (by decide) rfl]; exact z2693
                        have z2735 : aI (f2726 pN) (8 * pF19.toInt + 2).toNat = 0 := by rw [fm_A g2729 rN (by decide) rfl]; exact z2694
                        have z2736 : aI (f2726 pN) (8 * pF19.toInt + 3).toNat = pF21 := by rw [fm_A g2729 rN (by decide) rfl]; exact z2695
                        have z2737 : aI (f2726 pN) (8 * pF19.toInt + 4).toNat = y2583 := by rw [fm_A g2729 rN (by decide) rfl]; exact z2696
                        have z2738 : aI (f2726 pN) (8 * pF19.toInt + 5).toNat = y2583 := by rw [fm_A g2729 rN (by decide) rfl]; exact z2697
                        have z2739 : aI (f2726 pN) (8 * pF19.toInt + 6).toNat = 0 := by rw [fm_A g2729 rN (by decide) rfl]; exact z2698
                        clear z2692 z2693 z2694 z2695 z2696 z2697 z2698
                        have hF := FM.tr hF g2729 rfl
                        obtain ⟨y2740, m2741⟩ : ∃ x : Int32, oI (f2726 h0) 13 = x := ⟨_, rfl⟩
                        have b2742 : (0 : Int) ≤ y2740.toInt ∧ y2740.toInt ≤ 400 := by rw [← m2741]; exact th_iv hW rh0 (by decide) (by decide) rfl
                        obtain ⟨y2743, m2744⟩ : ∃ x : Int32, oI (f2726 h0) 14 = x := ⟨_, rfl⟩
                        have b2745 : (0 : Int) ≤ y2743.toInt ∧ y2743.toInt ≤ 400 := by rw [← m2744]; exact th_iv hW rh0 (by decide) (by decide) rfl
                        obtain ⟨y2746, m2747⟩ : ∃ x : Int32, oI (f2726 h0) 15 = x := ⟨_, rfl⟩
                        have b2748 : (0 : Int) ≤ y2746.toInt ∧ y2746.toInt ≤ 3 := by rw [← m2747]; exact th_iv hW rh0 (by decide) (by decide) rfl
                        obtain ⟨y2749, m2750⟩ : ∃ x : Int64, oJ (f2726 h0) 16 = x := ⟨_, rfl⟩
                        simp only [((fm_I g2729 rh0 rfl).trans m2685), m2685, m2741, ((fm_I g2681 rh0 rfl).trans ((fm_I g2634 rh0 rfl).trans ((fm_I g2610 rh0 rfl).trans m2572))), m2744, ((fm_I g2681 rh0 rfl).trans ((fm_I g2634 rh0 rfl).trans ((fm_I g2610 rh0 rfl).trans m2575))), m2747, ((fm_I g2681 rh0 rfl).trans ((fm_I g2634 rh0 rfl).trans ((fm_I g2610 rh0 rfl).trans m2578))), m2750, ((fm_J g2681 rh0 rfl).trans ((fm_J g2634 rh0 rfl).trans ((fm_J g2610 rh0 rfl).trans m2590)))] at h2730
                        obtain ⟨q2751, q2752, q2753, q2754, q2755⟩ := h2730
                        clear q2594 q2595
                        refine lv_aload_n hx hb dX12_readClause_242 rfl (lv_at hl 3 rfl) ?_
                        refine lv_iconst (v := 1) hx hb dX12_readClause_243 (by decide) ?_
                        have hw2760 := hW.2.2.2
                        refine t_callV (As := [.int 1]) (rest := []) E hW (c_X12_readExpression l G cI cJ cZ cD cR cT kp L f2726 hW.2.2.2 _ h0 1 rh0 (by decide) (by have hkq2756 : (1 : Int32).toInt = 1 := rfl; simp only [((fm_I g2729 rh0 rfl).trans m2685), m2741, m2744, m2747, ((fm_I g2729 rh0 rfl).trans ((fm_I g2681 rh0 rfl).trans m2648)), ((fm_I g2729 rh0 rfl).trans ((fm_I g2681 rh0 rfl).trans ((fm_I g2634 rh0 rfl).trans m2629))), m2750, and_true, true_and, true_or, or_true, false_or, or_false] <;> omega)) rh0 (by decide) rfl wk_X12_readExpression tw_1819 rfl ⟨Nat.le_of_ble_eq_true rfl, Nat.le_of_ble_eq_true rfl⟩ ⟨rfl, rfl⟩ hl.1 rfl (Nat.le_of_ble_eq_true rfl) dX12_readClause_244 ⟨Nat.le_of_ble_eq_true rfl, Nat.le_of_ble_eq_true rfl⟩ (fun v2757 f2758 H locs q2759 hW => ?_)
                        obtain ⟨rfl, g2761, h2762, h2763⟩ := q2759
                        have m2764 : oI (f2758 h0) 19 = x2508 := ((fm_I g2761 rh0 rfl).trans ((fm_I g2729 rh0 rfl).trans ((fm_I g2681 rh0 rfl).trans ((fm_I g2634 rh0 rfl).trans ((fm_I g2610 rh0 rfl).trans ((fm_I g2557 rh0 rfl).trans ((fm_I g2538 rh0 rfl).trans e2511)))))))
                        have m2765 : aI (f2758 pN) (x2184 : Int32).toNatClampNeg = x6 := ((congrArg (fun z => aI z (x2184 : Int32).toNatClampNeg) (fm_A g2761 rN (by decide) rfl)).trans ((congrArg (fun z => aI z (x2184 : Int32).toNatClampNeg) (fm_A g2729 rN (by decide) rfl)).trans m2686))
                        have m2766 : aI (f2758 pN) (x2530 : Int32).toNatClampNeg = pF21 := ((congrArg (fun z => aI z (x2530 : Int32).toNatClampNeg) (fm_A g2761 rN (by decide) rfl)).trans ((congrArg (fun z => aI z (x2530 : Int32).toNatClampNeg) (fm_A g2729 rN (by decide) rfl)).trans m2687))
                        have m2767 : aI (f2758 pN) (x2602 : Int32).toNatClampNeg = y2583 := ((congrArg (fun z => aI z (x2602 : Int32).toNatClampNeg) (fm_A g2761 rN (by decide) rfl)).trans ((congrArg (fun z => aI z (x2602 : Int32).toNatClampNeg) (fm_A g2729 rN (by decide) rfl)).trans m2688))
                        have m2768 : aI (f2758 pN) (x2626 : Int32).toNatClampNeg = y2583 := ((congrArg (fun z => aI z (x2626 : Int32).toNatClampNeg) (fm_A g2761 rN (by decide) rfl)).trans ((congrArg (fun z => aI z (x2626 : Int32).toNatClampNeg) (fm_A g2729 rN (by decide) rfl)).trans m2689))
                        have z2769 : ∀ j : Nat, (j : Int) < 8 * pF19.toInt → aI (f2758 pN) j = aI (f0 pN) j := by rw [fm_A g2761 rN (by decide) rfl]; exact z2732
                        clear z2732
                        have z2770 : aI (f2758 pN) (8 * pF19.toInt + 0).toNat = x6 := by rw [fm_A g2761 rN (by decide) rfl]; exact z2733
                        have z2771 : aI (f2758 pN) (8 * pF19.toInt + 1).toNat = 0 := by rw [fm_A g2761 rN (by decide) rfl]; exact z2734
                        have z2772 : aI (f2758 pN) (8 * pF19.toInt + 2).toNat = 0 := by rw [fm_A g2761 rN (by decide) rfl]; exact z2735
                        have z2773 : aI (f2758 pN) (8 * pF19.toInt + 3).toNat = pF21 := by rw [fm_A g2761 rN (by decide) rfl]; exact z2736
                        have z2774 : aI (f2758 pN) (8 * pF19.toInt + 4).toNat = y2583 := by rw [fm_A g2761 rN (by decide) rfl]; exact z2737
                        have z2775 : aI (f2758 pN) (8 * pF19.toInt + 5).toNat = y2583 := by rw [fm_A g2761 rN (by decide) rfl]; exact z2738
                        have z2776 : aI (f2758 pN) (8 * pF19.toInt + 6).toNat = 0 := by rw [fm_A g2761 rN (by decide) rfl]; exact z2739
                        clear z2733 z2734 z2735 z2736 z2737 z2738 z2739
                        have hF := FM.tr hF g2761 rfl
                        have hk2777 : (1 : Int32).toInt = 1 := rfl
                        obtain ⟨y2778, m2779⟩ : ∃ x : Int32, oI (f2758 h0) 13 = x := ⟨_, rfl⟩
                        have b2780 : (0 : Int) ≤ y2778.toInt ∧ y2778.toInt ≤ 400 := by rw [← m2779]; exact th_iv hW rh0 (by decide) (by decide) rfl
                        obtain ⟨y2781, m2782⟩ : ∃ x : Int32, oI (f2758 h0) 14 = x := ⟨_, rfl⟩
                        have b2783 : (0 : Int) ≤ y2781.toInt ∧ y2781.toInt ≤ 400 := by rw [← m2782]; exact th_iv hW rh0 (by decide) (by decide) rfl
                        obtain ⟨y2784, m2785⟩ : ∃ x : Int32, oI (f2758 h0) 15 = x := ⟨_, rfl⟩
                        have b2786 : (0 : Int) ≤ y2784.toInt ∧ y2784.toInt ≤ 3 := by rw [← m2785]; exact th_iv hW rh0 (by decide) (by decide) rfl
                        obtain ⟨y2787, m2788⟩ : ∃ x : Int32, oI (f2758 h0) 18 = x := ⟨_, rfl⟩
                        have b2789 : (0 : Int) ≤ y2787.toInt ∧ y2787.toInt ≤ 1 := by rw [← m2788]; exact th_iv hW rh0 (by decide) (by decide) rfl
                        obtain ⟨y2790, m2791⟩ : ∃ x : Int32, oI (f2758 h0) 21 = x := ⟨_, rfl⟩
                        have b2792 : (0 : Int) ≤ y2790.toInt ∧ y2790.toInt ≤ 400 := by rw [← m2791]; exact th_iv hW rh0 (by decide) (by decide) rfl
                        obtain ⟨y2793, m2794⟩ : ∃ x : Int32, oI (f2758 h0) 27 = x := ⟨_, rfl⟩
                        have b2795 : (0 : Int) ≤ y2793.toInt ∧ y2793.toInt ≤ 400 := by rw [← m2794]; exact th_iv hW rh0 (by decide) (by decide) rfl
                        obtain ⟨y2796, m2797⟩ : ∃ x : Int64, oJ (f2758 h0) 16 = x := ⟨_, rfl⟩
                        simp only [((fm_I g2761 rh0 rfl).trans ((fm_I g2729 rh0 rfl).trans m2685)), ((fm_I g2729 rh0 rfl).trans m2685), m2779, m2741, m2782, m2744, m2785, m2747, m2788, ((fm_I g2729 rh0 rfl).trans ((fm_I g2681 rh0 rfl).trans m2648)), m2791, ((fm_I g2729 rh0 rfl).trans ((fm_I g2681 rh0 rfl).trans ((fm_I g2634 rh0 rfl).trans m2629))), m2794, ((fm_I g2729 rh0 rfl).trans ((fm_I g2681 rh0 rfl).trans ((fm_I g2634 rh0 rfl).trans ((fm_I g2610 rh0 rfl).trans m2587)))), m2797, m2750] at h2762
                        obtain ⟨q2798, q2799, q2800, q2801, q2802, q2803⟩ := h2762
                        clear q2753 q2754
                        have z2805 := h2763
                        rw [((fm_I g2729 rh0 rfl).trans ((fm_I g2681 rh0 rfl).trans ((fm_I g2634 rh0 rfl).trans m2629))), m2791] at z2805
                        have z2804 : DJ f0 f2758 h0 pF21.toInt pF21.toInt y2583.toInt y2583.toInt y2790.toInt := dj_ex2 z2731 (by rw [((fm_I g2729 rh0 rfl).trans ((fm_I g2681 rh0 rfl).trans m2648))]; omega) (by omega) (by omega) (by omega) z2805
                        refine lv_aload_n hx hb dX12_readClause_247 rfl (lv_at hl 3 rfl) ?_
                        refine fg_RX12_39 E hW rh0 dX12_readClause_248 (fun a2806 m2807 r2808 => ?_)
                        obtain rfl : pN = a2806 := (((fm_R g2761 rh0 rfl).trans ((fm_R g2729 rh0 rfl).trans ((fm_R g2681 rh0 rfl).trans ((fm_R g2634 rh0 rfl).trans m2624))))).symm.trans m2807
                        refine lv_iload_n hx hb dX12_readClause_251 rfl (lv_at hl 1 rfl) ?_
                        refine lv_bipush (v := 6) hx hb dX12_readClause_252 (by decide) ?_
                        refine q_iadd (Y := 6) hx hb dX12_readClause_254 rfl rfl (by omega) (fun x2809 h2810 => ?_)
                        refine lv_aload_n hx hb dX12_readClause_255 rfl (lv_at hl 3 rfl) ?_
                        refine fg_RX12_229 E hW rh0 dX12_readClause_256 (fun y2811 m2812 b2813 => ?_)
                        obtain rfl : y2790 = y2811 := (m2791).symm.trans m2812
                        have hw2818 := hW.2.2.2
                        refine gs_840 E hW rN ⟨by omega, by omega⟩ dX12_readClause_259 (fun f2814 H locs e2815 n2816 g2817 hW => ?_)
                        have z2819 : DJ f0 f2814 h0 pF21.toInt pF21.toInt y2583.toInt y2583.toInt y2790.toInt := dj_keep z2804 hw2818 g2817 rh0 rfl (fun q => by rw [fm_I g2817 rh0 rfl]; exact q)
                        have hF := FM.tr hF g2817 rfl
                        have q2820 : x2809.toInt = 8 * pF19.toInt + 6 := by omega
                        have q2821 : 0 ≤ 8 * pF19.toInt := by omega
                        have z2822 : ∀ j : Nat, (j : Int) < 8 * pF19.toInt → aI (f2814 pN) j = aI (f0 pN) j := pre_st2 z2769 e2815 q2820 q2821 (by decide)
                        clear z2769
                        have z2823 : aI (f2814 pN) (8 * pF19.toInt + 0).toNat = x6 := ent_no2 z2770 e2815 q2820 q2821 (by decide)
                        have z2824 : aI (f2814 pN) (8 * pF19.toInt + 1).toNat = 0 := ent_no2 z2771 e2815 q2820 q2821 (by decide)
                        have z2825 : aI (f2814 pN) (8 * pF19.toInt + 2).toNat = 0 := ent_no2 z2772 e2815 q2820 q2821 (by decide)
                        have z2826 : aI (f2814 pN) (8 * pF19.toInt + 3).toNat = pF21 := ent_no2 z2773 e2815 q2820 q2821 (by decide)
                        have z2827 : aI (f2814 pN) (8 * pF19.toInt + 4).toNat = y2583 := ent_no2 z2774 e2815 q2820 q2821 (by decide)
                        have z2828 : aI (f2814 pN) (8 * pF19.toInt + 5).toNat = y2583 := ent_no2 z2775 e2815 q2820 q2821 (by decide)
                        have z2829 : aI (f2814 pN) (8 * pF19.toInt + 6).toNat = y2790 := ent_st2 e2815 q2820 q2821 (by decide)
                        clear q2820 q2821
                        clear z2770 z2771 z2772 z2773 z2774 z2775 z2776
                        exact e_V E hW rfl ⟨rfl, hF, (by simp only [((fm_I g2817 rh0 rfl).trans ((fm_I g2761 rh0 rfl).trans ((fm_I g2729 rh0 rfl).trans m2685))), mF12, ((fm_I g2817 rh0 rfl).trans m2779), mF13, ((fm_I g2817 rh0 rfl).trans m2782), mF14, ((fm_I g2817 rh0 rfl).trans m2785), mF15, ((fm_I g2817 rh0 rfl).trans m2788), mF18, ((fm_I g2817 rh0 rfl).trans m2812), mF21, ((fm_J g2817 rh0 rfl).trans m2797), mW, and_true, true_and, true_or, or_true, false_or, or_false] <;> omega), (by have hk0 : (0 : Int32).toInt = 0 := rfl; rw [((fm_I g2817 rh0 rfl).trans m2812), ((fm_I g2817 rh0 rfl).trans m2764)]; exact cl_end (nc := y2790.toInt) (hd := x6) (r1 := 0) (r2 := 0) (show CLs _ _ _ pF21.toInt pF19.toInt from hC) (by omega) (show DJ f0 f2814 h0 pF21.toInt (pF21 : Int32).toInt (y2583 : Int32).toInt (y2583 : Int32).toInt (y2790 : Int32).toInt from z2819) (fun j hj => by unfold vN; rw [((fm_R g2817 rh0 rfl).trans m2807), mN]; exact z2822 j hj) (by unfold vN; rw [((fm_R g2817 rh0 rfl).trans m2807)]; exact z2823) (by unfold vN; rw [((fm_R g2817 rh0 rfl).trans m2807)]; exact z2824) (by unfold vN; rw [((fm_R g2817 rh0 rfl).trans m2807)]; exact z2825) (by unfold vN; rw [((fm_R g2817 rh0 rfl).trans m2807)]; exact z2826) (by unfold vN; rw [((fm_R g2817 rh0 rfl).trans m2807)]; exact z2827) (by unfold vN; rw [((fm_R g2817 rh0 rfl).trans m2807)]; exact z2828) (by unfold vN; rw [((fm_R g2817 rh0 rfl).trans m2807)]; exact z2829) (by rw [((fm_I g2817 rh0 rfl).trans m2788)]; omega) (by omega) (by omega))⟩ dX12_readClause_260
                  · refine lv_iload_n hx hb dX12_readClause_187 rfl (lv_at hl 2 rfl) ?_
                    refine lv_iconst (v := 3) hx hb dX12_readClause_188 (by decide) ?_
                    refine q_icmp_ne (Y := 3) (tgt := 197) hx hb dX12_readClause_189 (by decide) rfl rfl (fun c2830 => ?_) (fun c2830 => ?_)
                    · refine lv_aload_n hx hb dX12_readClause_197 rfl (lv_at hl 3 rfl) ?_
                      refine fg_RX12_39 E hW rh0 dX12_readClause_198 (fun a2831 m2832 r2833 => ?_)
                      obtain rfl : pN = a2831 := (((fm_R g2538 rh0 rfl).trans m2528)).symm.trans m2832
                      refine lv_iload_n hx hb dX12_readClause_201 rfl (lv_at hl 1 rfl) ?_
                      refine lv_iconst (v := 4) hx hb dX12_readClause_202 (by decide) ?_
                      refine q_iadd (Y := 4) hx hb dX12_readClause_203 rfl rfl (by omega) (fun x2834 h2835 => ?_)
                      refine lv_aload_n hx hb dX12_readClause_204 rfl (lv_at hl 3 rfl) ?_
                      refine fg_RX12_229 E hW rh0 dX12_readClause_205 (fun y2836 m2837 b2838 => ?_)
                      obtain rfl : pF21 = y2836 := (((fm_I g2538 rh0 rfl).trans m2533)).symm.trans m2837
                      have hw2843 := hW.2.2.2
                      refine gs_840 E hW rN ⟨by omega, by omega⟩ dX12_readClause_208 (fun f2839 H locs e2840 n2841 g2842 hW => ?_)
                      have z2844 : DJ f0 f2839 h0 pF21.toInt 0 0 0 0 := dj_keep z2540 hw2843 g2842 rh0 rfl (fun q => by rw [fm_I g2842 rh0 rfl]; exact q)
                      have hF := FM.tr hF g2842 rfl
                      have q2845 : x2834.toInt = 8 * pF19.toInt + 4 := by omega
                      have q2846 : 0 ≤ 8 * pF19.toInt := by omega
                      have z2847 : ∀ j : Nat, (j : Int) < 8 * pF19.toInt → aI (f2839 pN) j = aI (f0 pN) j := pre_st2 z2543 e2840 q2845 q2846 (by decide)
                      clear z2543
                      have z2848 : aI (f2839 pN) (8 * pF19.toInt + 0).toNat = x6 := ent_no2 z2544 e2840 q2845 q2846 (by decide)
                      have z2849 : aI (f2839 pN) (8 * pF19.toInt + 1).toNat = 0 := ent_no2 z2545 e2840 q2845 q2846 (by decide)
                      have z2850 : aI (f2839 pN) (8 * pF19.toInt + 2).toNat = 0 := ent_no2 z2546 e2840 q2845 q2846 (by decide)
                      have z2851 : aI (f2839 pN) (8 * pF19.toInt + 3).toNat = pF21 := ent_no2 z2547 e2840 q2845 q2846 (by decide)
                      have z2852 : aI (f2839 pN) (8 * pF19.toInt + 4).toNat = pF21 := ent_st2 e2840 q2845 q2846 (by decide)
                      have z2853 : aI (f2839 pN) (8 * pF19.toInt + 5).toNat = 0 := ent_no2 z2549 e2840 q2845 q2846 (by decide)
                      have z2854 : aI (f2839 pN) (8 * pF19.toInt + 6).toNat = 0 := ent_no2 z2550 e2840 q2845 q2846 (by decide)
                      clear q2845 q2846
                      clear z2544 z2545 z2546 z2547 z2548 z2549 z2550
                      refine lv_aload_n hx hb dX12_readClause_209 rfl (lv_at hl 3 rfl) ?_
                      refine fg_RX12_39 E hW rh0 dX12_readClause_210 (fun a2855 m2856 r2857 => ?_)
                      obtain rfl : pN = a2855 := (((fm_R g2842 rh0 rfl).trans m2832)).symm.trans m2856
                      refine lv_iload_n hx hb dX12_readClause_213 rfl (lv_at hl 1 rfl) ?_
                      refine lv_iconst (v := 5) hx hb dX12_readClause_214 (by decide) ?_
                      refine q_iadd (Y := 5) hx hb dX12_readClause_215 rfl rfl (by omega) (fun x2858 h2859 => ?_)
                      refine lv_aload_n hx hb dX12_readClause_216 rfl (lv_at hl 3 rfl) ?_
                      refine fg_RX12_229 E hW rh0 dX12_readClause_217 (fun y2860 m2861 b2862 => ?_)
                      obtain rfl : pF21 = y2860 := (((fm_I g2842 rh0 rfl).trans m2837)).symm.trans m2861
                      have hw2867 := hW.2.2.2
                      refine gs_840 E hW rN ⟨by omega, by omega⟩ dX12_readClause_220 (fun f2863 H locs e2864 n2865 g2866 hW => ?_)
                      have z2868 : DJ f0 f2863 h0 pF21.toInt 0 0 0 0 := dj_keep z2844 hw2867 g2866 rh0 rfl (fun q => by rw [fm_I g2866 rh0 rfl]; exact q)
                      have hF := FM.tr hF g2866 rfl
                      have q2869 : x2858.toInt = 8 * pF19.toInt + 5 := by omega
                      have q2870 : 0 ≤ 8 * pF19.toInt := by omega
                      have z2871 : ∀ j : Nat, (j : Int) < 8 * pF19.toInt → aI (f2863 pN) j = aI (f0 pN) j := pre_st2 z2847 e2864 q2869 q2870 (by decide)
                      clear z2847
                      have z2872 : aI (f2863 pN) (8 * pF19.toInt + 0).toNat = x6 := ent_no2 z2848 e2864 q2869 q2870 (by decide)
                      have z2873 : aI (f2863 pN) (8 * pF19.toInt + 1).toNat = 0 := ent_no2 z2849 e2864 q2869 q2870 (by decide)
                      have z2874 : aI (f2863 pN) (8 * pF19.toInt + 2).toNat = 0 := ent_no2 z2850 e2864 q2869 q2870 (by decide)
                      have z2875 : aI (f2863 pN) (8 * pF19.toInt + 3).toNat = pF21 := ent_no2 z2851 e2864 q2869 q2870 (by decide)
                      have z2876 : aI (f2863 pN) (8 * pF19.toInt + 4).toNat = pF21 := ent_no2 z2852 e2864 q2869 q2870 (by decide)
                      have z2877 : aI (f2863 pN) (8 * pF19.toInt + 5).toNat = pF21 := ent_st2 e2864 q2869 q2870 (by decide)
                      have z2878 : aI (f2863 pN) (8 * pF19.toInt + 6).toNat = 0 := ent_no2 z2854 e2864 q2869 q2870 (by decide)
                      clear q2869 q2870
                      clear z2848 z2849 z2850 z2851 z2852 z2853 z2854
                      refine lv_aload_n hx hb dX12_readClause_221 rfl (lv_at hl 3 rfl) ?_
                      refine fg_RX12_193 E hW rh0 dX12_readClause_222 (fun y2879 m2880 b2881 => ?_)
                      obtain rfl : y2166 = y2879 := (((fm_I g2866 rh0 rfl).trans ((fm_I g2842 rh0 rfl).trans ((fm_I g2538 rh0 rfl).trans ((fm_I g2513 rh0 rfl).trans ((fm_I g2491 rh0 rfl).trans m2472)))))).symm.trans m2880
                      refine q_if_ne (tgt := 247) hx hb dX12_readClause_225 (by decide) rfl (fun c2882 => ?_) (fun c2882 => ?_)
                      · exfalso; omega
                      · refine lv_aload_n hx hb dX12_readClause_228 rfl (lv_at hl 3 rfl) ?_
                        refine lv_ldc2 (v := 294) hx hb hown (hts _ tw_1904) dX12_readClause_229 ?_
                        have hw2886 := hW.2.2.2
                        refine t_callV (As := [.long 294]) (rest := []) E hW (c_X12_isWord l G cI cJ cZ cD cR cT kp L f2863 hW.2.2.2 _ h0 294 rh0 (by decide)) rh0 (by decide) rfl wk_X12_isWord tw_1797 rfl ⟨Nat.le_of_ble_eq_true rfl, Nat.le_of_ble_eq_true rfl⟩ ⟨rfl, rfl⟩ hl.1 rfl (Nat.le_of_ble_eq_true rfl) dX12_readClause_232 ⟨Nat.le_of_ble_eq_true rfl, Nat.le_of_ble_eq_true rfl⟩ (fun v2883 f2884 H locs q2885 hW => ?_)
                        obtain ⟨⟨x2888, rfl, p2889⟩, g2887⟩ := q2885
                        simp only [((fm_I g2866 rh0 rfl).trans ((fm_I g2842 rh0 rfl).trans ((fm_I g2538 rh0 rfl).trans ((fm_I g2513 rh0 rfl).trans ((fm_I g2491 rh0 rfl).trans m2470))))), ((fm_J g2866 rh0 rfl).trans ((fm_J g2842 rh0 rfl).trans ((fm_J g2538 rh0 rfl).trans ((fm_J g2513 rh0 rfl).trans ((fm_J g2491 rh0 rfl).trans m2471)))))] at p2889
                        have p2889 : (x2888.toInt = 1 ∧ y2163.toInt = 1 ∧ y2169.toInt = 294) ∨ x2888.toInt = 0 := p2889
                        have m2890 : aI (f2884 pN) (x2184 : Int32).toNatClampNeg = x6 := ((congrArg (fun z => aI z (x2184 : Int32).toNatClampNeg) (fm_A g2887 rN (by decide) rfl)).trans (show aI (f2863 pN) (x2184 : Int32).toNatClampNeg = x6 from by rw [e2864, up_n (tn_ne (by omega) (by omega) (by omega))]; exact (show aI (f2839 pN) (x2184 : Int32).toNatClampNeg = x6 from by rw [e2840, up_n (tn_ne (by omega) (by omega) (by omega))]; exact (show aI (f2535 pN) (x2184 : Int32).toNatClampNeg = x6 from by rw [e2536, up_n (tn_ne (by omega) (by omega) (by omega))]; exact m2515))))
                        have m2891 : aI (f2884 pN) (x2530 : Int32).toNatClampNeg = pF21 := ((congrArg (fun z => aI z (x2530 : Int32).toNatClampNeg) (fm_A g2887 rN (by decide) rfl)).trans (show aI (f2863 pN) (x2530 : Int32).toNatClampNeg = pF21 from by rw [e2864, up_n (tn_ne (by omega) (by omega) (by omega))]; exact (show aI (f2839 pN) (x2530 : Int32).toNatClampNeg = pF21 from by rw [e2840, up_n (tn_ne (by omega) (by omega) (by omega))]; exact (show aI (f2535 pN) (x2530 : Int32).toNatClampNeg = pF21 from by rw [e2536]; exact up_s))))
                        have m2892 : aI (f2884 pN) (x2834 : Int32).toNatClampNeg = pF21 := ((congrArg (fun z => aI z (x2834 : Int32).toNatClampNeg) (fm_A g2887 rN (by decide) rfl)).trans (show aI (f2863 pN) (x2834 : Int32).toNatClampNeg = pF21 from by rw [e2864, up_n (tn_ne (by omega) (by omega) (by omega))]; exact (show aI (f2839 pN) (x2834 : Int32).toNatClampNeg = pF21 from by rw [e2840]; exact up_s)))
                        have m2893 : aI (f2884 pN) (x2858 : Int32).toNatClampNeg = pF21 := ((congrArg (fun z => aI z (x2858 : Int32).toNatClampNeg) (fm_A g2887 rN (by decide) rfl)).trans (show aI (f2863 pN) (x2858 : Int32).toNatClampNeg = pF21 from by rw [e2864]; exact up_s))
                        have z2894 : DJ f0 f2884 h0 pF21.toInt 0 0 0 0 := dj_keep z2868 hw2886 g2887 rh0 rfl (fun q => by rw [fm_I g2887 rh0 rfl]; exact q)
                        have z2895 : ∀ j : Nat, (j : Int) < 8 * pF19.toInt → aI (f2884 pN) j = aI (f0 pN) j := by rw [fm_A g2887 rN (by decide) rfl]; exact z2871
                        clear z2871
                        have z2896 : aI (f2884 pN) (8 * pF19.toInt + 0).toNat = x6 := by rw [fm_A g2887 rN (by decide) rfl]; exact z2872
                        have z2897 : aI (f2884 pN) (8 * pF19.toInt + 1).toNat = 0 := by rw [fm_A g2887 rN (by decide) rfl]; exact z2873
                        have z2898 : aI (f2884 pN) (8 * pF19.toInt + 2).toNat = 0 := by rw [fm_A g2887 rN (by decide) rfl]; exact z2874
                        have z2899 : aI (f2884 pN) (8 * pF19.toInt + 3).toNat = pF21 := by rw [fm_A g2887 rN (by decide) rfl]; exact z2875
                        have z2900 : aI (f2884 pN) (8 * pF19.toInt + 4).toNat = pF21 := by rw [fm_A g2887 rN (by decide) rfl]; exact z2876
                        have z2901 : aI (f2884 pN) (8 * pF19.toInt + 5).toNat = pF21 := by rw [fm_A g2887 rN (by decide) rfl]; exact z2877
                        have z2902 : aI (f2884 pN) (8 * pF19.toInt + 6).toNat = 0 := by rw [fm_A g2887 rN (by decide) rfl]; exact z2878
                        clear z2872 z2873 z2874 z2875 z2876 z2877 z2878
                        have hF := FM.tr hF g2887 rfl
                        refine q_if_eq (tgt := 247) hx hb dX12_readClause_235 (by decide) rfl (fun c2903 => ?_) (fun c2903 => ?_)
                        · clear p2889
                          refine lv_aload_n hx hb dX12_readClause_247 rfl (lv_at hl 3 rfl) ?_
                          refine fg_RX12_39 E hW rh0 dX12_readClause_248 (fun a2904 m2905 r2906 => ?_)
                          obtain rfl : pN = a2904 := (((fm_R g2887 rh0 rfl).trans ((fm_R g2866 rh0 rfl).trans m2856))).symm.trans m2905
                          refine lv_iload_n hx hb dX12_readClause_251 rfl (lv_at hl 1 rfl) ?_
                          refine lv_bipush (v := 6) hx hb dX12_readClause_252 (by decide) ?_
                          refine q_iadd (Y := 6) hx hb dX12_readClause_254 rfl rfl (by omega) (fun x2907 h2908 => ?_)
                          refine lv_aload_n hx hb dX12_readClause_255 rfl (lv_at hl 3 rfl) ?_
                          refine fg_RX12_229 E hW rh0 dX12_readClause_256 (fun y2909 m2910 b2911 => ?_)
                          obtain rfl : pF21 = y2909 := (((fm_I g2887 rh0 rfl).trans ((fm_I g2866 rh0 rfl).trans m2861))).symm.trans m2910
                          have hw2916 := hW.2.2.2
                          refine gs_840 E hW rN ⟨by omega, by omega⟩ dX12_readClause_259 (fun f2912 H locs e2913 n2914 g2915 hW => ?_)
                          have m2917 : oR (f2912 h0) 2 = pR := ((fm_R g2915 rh0 rfl).trans ((fm_R g2887 rh0 rfl).trans ((fm_R g2866 rh0 rfl).trans ((fm_R g2842 rh0 rfl).trans ((fm_R g2538 rh0 rfl).trans ((fm_R g2513 rh0 rfl).trans ((fm_R g2491 rh0 rfl).trans m2466)))))))
                          have m2918 : oI (f2912 h0) 12 = pF12 := ((fm_I g2915 rh0 rfl).trans ((fm_I g2887 rh0 rfl).trans ((fm_I g2866 rh0 rfl).trans ((fm_I g2842 rh0 rfl).trans ((fm_I g2538 rh0 rfl).trans ((fm_I g2513 rh0 rfl).trans ((fm_I g2491 rh0 rfl).trans m2467)))))))
                          have m2919 : oI (f2912 h0) 13 = y2157 := ((fm_I g2915 rh0 rfl).trans ((fm_I g2887 rh0 rfl).trans ((fm_I g2866 rh0 rfl).trans ((fm_I g2842 rh0 rfl).trans ((fm_I g2538 rh0 rfl).trans ((fm_I g2513 rh0 rfl).trans ((fm_I g2491 rh0 rfl).trans m2468)))))))
                          have m2920 : oI (f2912 h0) 14 = y2160 := ((fm_I g2915 rh0 rfl).trans ((fm_I g2887 rh0 rfl).trans ((fm_I g2866 rh0 rfl).trans ((fm_I g2842 rh0 rfl).trans ((fm_I g2538 rh0 rfl).trans ((fm_I g2513 rh0 rfl).trans ((fm_I g2491 rh0 rfl).trans m2469)))))))
                          have m2921 : oI (f2912 h0) 15 = y2163 := ((fm_I g2915 rh0 rfl).trans ((fm_I g2887 rh0 rfl).trans ((fm_I g2866 rh0 rfl).trans ((fm_I g2842 rh0 rfl).trans ((fm_I g2538 rh0 rfl).trans ((fm_I g2513 rh0 rfl).trans ((fm_I g2491 rh0 rfl).trans m2470)))))))
                          have m2922 : oJ (f2912 h0) 16 = y2169 := ((fm_J g2915 rh0 rfl).trans ((fm_J g2887 rh0 rfl).trans ((fm_J g2866 rh0 rfl).trans ((fm_J g2842 rh0 rfl).trans ((fm_J g2538 rh0 rfl).trans ((fm_J g2513 rh0 rfl).trans ((fm_J g2491 rh0 rfl).trans m2471)))))))
                          have m2923 : oI (f2912 h0) 24 = pF24 := ((fm_I g2915 rh0 rfl).trans ((fm_I g2887 rh0 rfl).trans ((fm_I g2866 rh0 rfl).trans ((fm_I g2842 rh0 rfl).trans ((fm_I g2538 rh0 rfl).trans ((fm_I g2513 rh0 rfl).trans ((fm_I g2491 rh0 rfl).trans m2476)))))))
                          have m2924 : oI (f2912 h0) 27 = pF27 := ((fm_I g2915 rh0 rfl).trans ((fm_I g2887 rh0 rfl).trans ((fm_I g2866 rh0 rfl).trans ((fm_I g2842 rh0 rfl).trans ((fm_I g2538 rh0 rfl).trans ((fm_I g2513 rh0 rfl).trans ((fm_I g2491 rh0 rfl).trans m2477)))))))
                          have z2925 : DJ f0 f2912 h0 pF21.toInt 0 0 0 0 := dj_keep z2894 hw2916 g2915 rh0 rfl (fun q => by rw [fm_I g2915 rh0 rfl]; exact q)
                          have hF := FM.tr hF g2915 rfl
                          have q2926 : x2907.toInt = 8 * pF19.toInt + 6 := by omega
                          have q2927 : 0 ≤ 8 * pF19.toInt := by omega
                          have z2928 : ∀ j : Nat, (j : Int) < 8 * pF19.toInt → aI (f2912 pN) j = aI (f0 pN) j := pre_st2 z2895 e2913 q2926 q2927 (by decide)
                          clear z2895
                          have z2929 : aI (f2912 pN) (8 * pF19.toInt + 0).toNat = x6 := ent_no2 z2896 e2913 q2926 q2927 (by decide)
                          have z2930 : aI (f2912 pN) (8 * pF19.toInt + 1).toNat = 0 := ent_no2 z2897 e2913 q2926 q2927 (by decide)
                          have z2931 : aI (f2912 pN) (8 * pF19.toInt + 2).toNat = 0 := ent_no2 z2898 e2913 q2926 q2927 (by decide)
                          have z2932 : aI (f2912 pN) (8 * pF19.toInt + 3).toNat = pF21 := ent_no2 z2899 e2913 q2926 q2927 (by decide)
                          have z2933 : aI (f2912 pN) (8 * pF19.toInt + 4).toNat = pF21 := ent_no2 z2900 e2913 q2926 q2927 (by decide)
                          have z2934 : aI (f2912 pN) (8 * pF19.toInt + 5).toNat = pF21 := ent_no2 z2901 e2913 q2926 q2927 (by decide)
                          have z2935 : aI (f2912 pN) (8 * pF19.toInt + 6).toNat = pF21 := ent_st2 e2913 q2926 q2927 (by decide)
                          clear q2926 q2927
                          clear z2896 z2897 z2898 z2899 z2900 z2901 z2902
                          exact e_V E hW rfl ⟨rfl, hF, (by simp only [m2918, mF12, m2919, mF13, m2920, mF14, m2921, mF15, ((fm_I g2915 rh0 rfl).trans ((fm_I g2887 rh0 rfl).trans m2880)), mF18, ((fm_I g2915 rh0 rfl).trans m2910), mF21, m2922, mW, and_true, true_and, true_or, or_true, false_or, or_false] <;> omega), (by have hk0 : (0 : Int32).toInt = 0 := rfl; rw [((fm_I g2915 rh0 rfl).trans m2910), ((fm_I g2915 rh0 rfl).trans ((fm_I g2887 rh0 rfl).trans ((fm_I g2866 rh0 rfl).trans ((fm_I g2842 rh0 rfl).trans ((fm_I g2538 rh0 rfl).trans e2511)))))]; exact cl_end (nc := pF21.toInt) (hd := x6) (r1 := 0) (r2 := 0) (show CLs _ _ _ pF21.toInt pF19.toInt from hC) (by omega) (show DJ f0 f2912 h0 pF21.toInt (pF21 : Int32).toInt (pF21 : Int32).toInt (pF21 : Int32).toInt (pF21 : Int32).toInt from (dj_triv2 (dj_triv1 z2925))) (fun j hj => by unfold vN; rw [((fm_R g2915 rh0 rfl).trans m2905), mN]; exact z2928 j hj) (by unfold vN; rw [((fm_R g2915 rh0 rfl).trans m2905)]; exact z2929) (by unfold vN; rw [((fm_R g2915 rh0 rfl).trans m2905)]; exact z2930) (by unfold vN; rw [((fm_R g2915 rh0 rfl).trans m2905)]; exact z2931) (by unfold vN; rw [((fm_R g2915 rh0 rfl).trans m2905)]; exact z2932) (by unfold vN; rw [((fm_R g2915 rh0 rfl).trans m2905)]; exact z2933) (by unfold vN; rw [((fm_R g2915 rh0 rfl).trans m2905)]; exact z2934) (by unfold vN; rw [((fm_R g2915 rh0 rfl).trans m2905)]; exact z2935) (by rw [((fm_I g2915 rh0 rfl).trans ((fm_I g2887 rh0 rfl).trans m2880))]; omega) (by omega) (by omega))⟩ dX12_readClause_260
                        · have q2936 : y2163.toInt = 1 ∧ y2169.toInt = 294 := by omega
                          clear p2889
                          refine lv_aload_n hx hb dX12_readClause_238 rfl (lv_at hl 3 rfl) ?_
                          have hw2940 := hW.2.2.2
                          refine t_callV (As := []) (rest := []) E hW (c_X12_next l G cI cJ cZ cD cR cT kp L f2884 hW.2.2.2 _ h0 rh0 (by simp only [((fm_I g2887 rh0 rfl).trans ((fm_I g2866 rh0 rfl).trans ((fm_I g2842 rh0 rfl).trans ((fm_I g2538 rh0 rfl).trans ((fm_I g2513 rh0 rfl).trans ((fm_I g2491 rh0 rfl).trans m2467)))))), ((fm_I g2887 rh0 rfl).trans ((fm_I g2866 rh0 rfl).trans ((fm_I g2842 rh0 rfl).trans ((fm_I g2538 rh0 rfl).trans ((fm_I g2513 rh0 rfl).trans ((fm_I g2491 rh0 rfl).trans m2469)))))), and_true, true_and, true_or, or_true, false_or, or_false] <;> omega)) rh0 (by decide) rfl wk_X12_next tw_1773 rfl ⟨Nat.le_of_ble_eq_true rfl, Nat.le_of_ble_eq_true rfl⟩ ⟨rfl, rfl⟩ hl.1 rfl (Nat.le_of_ble_eq_true rfl) dX12_readClause_239 ⟨Nat.le_of_ble_eq_true rfl, Nat.le_of_ble_eq_true rfl⟩ (fun v2937 f2938 H locs q2939 hW => ?_)
                          obtain ⟨rfl, g2941, h2942⟩ := q2939
                          have m2943 : oR (f2938 h0) 2 = pR := ((fm_R g2941 rh0 rfl).trans ((fm_R g2887 rh0 rfl).trans ((fm_R g2866 rh0 rfl).trans ((fm_R g2842 rh0 rfl).trans ((fm_R g2538 rh0 rfl).trans ((fm_R g2513 rh0 rfl).trans ((fm_R g2491 rh0 rfl).trans m2466)))))))
                          have m2944 : oI (f2938 h0) 12 = pF12 := ((fm_I g2941 rh0 rfl).trans ((fm_I g2887 rh0 rfl).trans ((fm_I g2866 rh0 rfl).trans ((fm_I g2842 rh0 rfl).trans ((fm_I g2538 rh0 rfl).trans ((fm_I g2513 rh0 rfl).trans ((fm_I g2491 rh0 rfl).trans m2467)))))))
                          have m2945 : oI (f2938 h0) 24 = pF24 := ((fm_I g2941 rh0 rfl).trans ((fm_I g2887 rh0 rfl).trans ((fm_I g2866 rh0 rfl).trans ((fm_I g2842 rh0 rfl).trans ((fm_I g2538 rh0 rfl).trans ((fm_I g2513 rh0 rfl).trans ((fm_I g2491 rh0 rfl).trans m2476)))))))
                          have m2946 : oI (f2938 h0) 27 = pF27 := ((fm_I g2941 rh0 rfl).trans ((fm_I g2887 rh0 rfl).trans ((fm_I g2866 rh0 rfl).trans ((fm_I g2842 rh0 rfl).trans ((fm_I g2538 rh0 rfl).trans ((fm_I g2513 rh0 rfl).trans ((fm_I g2491 rh0 rfl).trans m2477)))))))
                          have z2947 : DJ f0 f2938 h0 pF21.toInt 0 0 0 0 := dj_keep z2894 hw2940 g2941 rh0 rfl (fun q => by rw [fm_I g2941 rh0 rfl]; exact q)
                          have z2948 : ∀ j : Nat, (j : Int) < 8 * pF19.toInt → aI (f2938 pN) j = aI (f0 pN) j := by rw [fm_A g2941 rN (by decide) rfl]; exact z2895
                          clear z2895
                          have z2949 : aI (f2938 pN) (8 * pF19.toInt + 0).toNat = x6 := by rw [fm_A g2941 rN (by decide) rfl]; exact z2896
                          have z2950 : aI (f2938 pN) (8 * pF19.toInt + 1).toNat = 0 := by rw [fm_A g2941 rN (by decide) rfl]; exact z2897
                          have z2951 : aI (f2938 pN) (8 * pF19.toInt + 2).toNat = 0 := by rw [fm_A g2941 rN (by decide) rfl]; exact z2898
                          have z2952 : aI (f2938 pN) (8 * pF19.toInt + 3).toNat = pF21 := by rw [fm_A g2941 rN (by decide) rfl]; exact z2899
                          have z2953 : aI (f2938 pN) (8 * pF19.toInt + 4).toNat = pF21 := by rw [fm_A g2941 rN (by decide) rfl]; exact z2900
                          have z2954 : aI (f2938 pN) (8 * pF19.toInt + 5).toNat = pF21 := by rw [fm_A g2941 rN (by decide) rfl]; exact z2901
                          have z2955 : aI (f2938 pN) (8 * pF19.toInt + 6).toNat = 0 := by rw [fm_A g2941 rN (by decide) rfl]; exact z2902
                          clear z2896 z2897 z2898 z2899 z2900 z2901 z2902
                          have hF := FM.tr hF g2941 rfl
                          obtain ⟨y2956, m2957⟩ : ∃ x : Int32, oI (f2938 h0) 13 = x := ⟨_, rfl⟩
                          have b2958 : (0 : Int) ≤ y2956.toInt ∧ y2956.toInt ≤ 400 := by rw [← m2957]; exact th_iv hW rh0 (by decide) (by decide) rfl
                          obtain ⟨y2959, m2960⟩ : ∃ x : Int32, oI (f2938 h0) 14 = x := ⟨_, rfl⟩
                          have b2961 : (0 : Int) ≤ y2959.toInt ∧ y2959.toInt ≤ 400 := by rw [← m2960]; exact th_iv hW rh0 (by decide) (by decide) rfl
                          obtain ⟨y2962, m2963⟩ : ∃ x : Int32, oI (f2938 h0) 15 = x := ⟨_, rfl⟩
                          have b2964 : (0 : Int) ≤ y2962.toInt ∧ y2962.toInt ≤ 3 := by rw [← m2963]; exact th_iv hW rh0 (by decide) (by decide) rfl
                          obtain ⟨y2965, m2966⟩ : ∃ x : Int64, oJ (f2938 h0) 16 = x := ⟨_, rfl⟩
                          simp only [m2944, ((fm_I g2887 rh0 rfl).trans ((fm_I g2866 rh0 rfl).trans ((fm_I g2842 rh0 rfl).trans ((fm_I g2538 rh0 rfl).trans ((fm_I g2513 rh0 rfl).trans ((fm_I g2491 rh0 rfl).trans m2467)))))), m2957, ((fm_I g2887 rh0 rfl).trans ((fm_I g2866 rh0 rfl).trans ((fm_I g2842 rh0 rfl).trans ((fm_I g2538 rh0 rfl).trans ((fm_I g2513 rh0 rfl).trans ((fm_I g2491 rh0 rfl).trans m2468)))))), m2960, ((fm_I g2887 rh0 rfl).trans ((fm_I g2866 rh0 rfl).trans ((fm_I g2842 rh0 rfl).trans ((fm_I g2538 rh0 rfl).trans ((fm_I g2513 rh0 rfl).trans ((fm_I g2491 rh0 rfl).trans m2469)))))), m2963, ((fm_I g2887 rh0 rfl).trans ((fm_I g2866 rh0 rfl).trans ((fm_I g2842 rh0 rfl).trans ((fm_I g2538 rh0 rfl).trans ((fm_I g2513 rh0 rfl).trans ((fm_I g2491 rh0 rfl).trans m2470)))))), m2966, ((fm_J g2887 rh0 rfl).trans ((fm_J g2866 rh0 rfl).trans ((fm_J g2842 rh0 rfl).trans ((fm_J g2538 rh0 rfl).trans ((fm_J g2513 rh0 rfl).trans ((fm_J g2491 rh0 rfl).trans m2471))))))] at h2942
                          obtain ⟨q2967, q2968, q2969, q2970, q2971⟩ := h2942
                          clear q2174 q2175
                          refine lv_aload_n hx hb dX12_readClause_242 rfl (lv_at hl 3 rfl) ?_
                          refine lv_iconst (v := 1) hx hb dX12_readClause_243 (by decide) ?_
                          have hw2976 := hW.2.2.2
                          refine t_callV (As := [.int 1]) (rest := []) E hW (c_X12_readExpression l G cI cJ cZ cD cR cT kp L f2938 hW.2.2.2 _ h0 1 rh0 (by decide) (by have hkq2972 : (1 : Int32).toInt = 1 := rfl; simp only [m2944, m2957, m2960, m2963, ((fm_I g2941 rh0 rfl).trans ((fm_I g2887 rh0 rfl).trans m2880)), ((fm_I g2941 rh0 rfl).trans ((fm_I g2887 rh0 rfl).trans ((fm_I g2866 rh0 rfl).trans m2861))), m2966, and_true, true_and, true_or, or_true, false_or, or_false] <;> omega)) rh0 (by decide) rfl wk_X12_readExpression tw_1819 rfl ⟨Nat.le_of_ble_eq_true rfl, Nat.le_of_ble_eq_true rfl⟩ ⟨rfl, rfl⟩ hl.1 rfl (Nat.le_of_ble_eq_true rfl) dX12_readClause_244 ⟨Nat.le_of_ble_eq_true rfl, Nat.le_of_ble_eq_true rfl⟩ (fun v2973 f2974 H locs q2975 hW => ?_)
                          obtain ⟨rfl, g2977, h2978, h2979⟩ := q2975
                          have m2980 : aI (f2974 pN) (x2184 : Int32).toNatClampNeg = x6 := ((congrArg (fun z => aI z (x2184 : Int32).toNatClampNeg) (fm_A g2977 rN (by decide) rfl)).trans ((congrArg (fun z => aI z (x2184 : Int32).toNatClampNeg) (fm_A g2941 rN (by decide) rfl)).trans m2890))
                          have m2981 : aI (f2974 pN) (x2530 : Int32).toNatClampNeg = pF21 := ((congrArg (fun z => aI z (x2530 : Int32).toNatClampNeg) (fm_A g2977 rN (by decide) rfl)).trans ((congrArg (fun z => aI z (x2530 : Int32).toNatClampNeg) (fm_A g2941 rN (by decide) rfl)).trans m2891))
                          have m2982 : aI (f2974 pN) (x2834 : Int32).toNatClampNeg = pF21 := ((congrArg (fun z => aI z (x2834 : Int32).toNatClampNeg) (fm_A g2977 rN (by decide) rfl)).trans ((congrArg (fun z => aI z (x2834 : Int32).toNatClampNeg) (fm_A g2941 rN (by decide) rfl)).trans m2892))
                          have m2983 : aI (f2974 pN) (x2858 : Int32).toNatClampNeg = pF21 := ((congrArg (fun z => aI z (x2858 : Int32).toNatClampNeg) (fm_A g2977 rN (by decide) rfl)).trans ((congrArg (fun z => aI z (x2858 : Int32).toNatClampNeg) (fm_A g2941 rN (by decide) rfl)).trans m2893))
                          have z2984 : ∀ j : Nat, (j : Int) < 8 * pF19.toInt → aI (f2974 pN) j = aI (f0 pN) j := by rw [fm_A g2977 rN (by decide) rfl]; exact z2948
                          clear z2948
                          have z2985 : aI (f2974 pN) (8 * pF19.toInt + 0).toNat = x6 := by rw [fm_A g2977 rN (by decide) rfl]; exact z2949
                          have z2986 : aI (f2974 pN) (8 * pF19.toInt + 1).toNat = 0 := by rw [fm_A g2977 rN (by decide) rfl]; exact z2950
                          have z2987 : aI (f2974 pN) (8 * pF19.toInt + 2).toNat = 0 := by rw [fm_A g2977 rN (by decide) rfl]; exact z2951
                          have z2988 : aI (f2974 pN) (8 * pF19.toInt + 3).toNat = pF21 := by rw [fm_A g2977 rN (by decide) rfl]; exact z2952
                          have z2989 : aI (f2974 pN) (8 * pF19.toInt + 4).toNat = pF21 := by rw [fm_A g2977 rN (by decide) rfl]; exact z2953
                          have z2990 : aI (f2974 pN) (8 * pF19.toInt + 5).toNat = pF21 := by rw [fm_A g2977 rN (by decide) rfl]; exact z2954
                          have z2991 : aI (f2974 pN) (8 * pF19.toInt + 6).toNat = 0 := by rw [fm_A g2977 rN (by decide) rfl]; exact z2955
                          clear z2949 z2950 z2951 z2952 z2953 z2954 z2955
                          have hF := FM.tr hF g2977 rfl
                          have hk2992 : (1 : Int32).toInt = 1 := rfl
                          obtain ⟨y2993, m2994⟩ : ∃ x : Int32, oI (f2974 h0) 13 = x := ⟨_, rfl⟩
                          have b2995 : (0 : Int) ≤ y2993.toInt ∧ y2993.toInt ≤ 400 := by rw [← m2994]; exact th_iv hW rh0 (by decide) (by decide) rfl
                          obtain ⟨y2996, m2997⟩ : ∃ x : Int32, oI (f2974 h0) 14 = x := ⟨_, rfl⟩
                          have b2998 : (0 : Int) ≤ y2996.toInt ∧ y2996.toInt ≤ 400 := by rw [← m2997]; exact th_iv hW rh0 (by decide) (by decide) rfl
                          obtain ⟨y2999, m3000⟩ : ∃ x : Int32, oI (f2974 h0) 15 = x := ⟨_, rfl⟩
                          have b3001 : (0 : Int) ≤ y2999.toInt ∧ y2999.toInt ≤ 3 := by rw [← m3000]; exact th_iv hW rh0 (by decide) (by decide) rfl
                          obtain ⟨y3002, m3003⟩ : ∃ x : Int32, oI (f2974 h0) 18 = x := ⟨_, rfl⟩
                          have b3004 : (0 : Int) ≤ y3002.toInt ∧ y3002.toInt ≤ 1 := by rw [← m3003]; exact th_iv hW rh0 (by decide) (by decide) rfl
                          obtain ⟨y3005, m3006⟩ : ∃ x : Int32, oI (f2974 h0) 21 = x := ⟨_, rfl⟩
                          have b3007 : (0 : Int) ≤ y3005.toInt ∧ y3005.toInt ≤ 400 := by rw [← m3006]; exact th_iv hW rh0 (by decide) (by decide) rfl
                          obtain ⟨y3008, m3009⟩ : ∃ x : Int32, oI (f2974 h0) 27 = x := ⟨_, rfl⟩
                          have b3010 : (0 : Int) ≤ y3008.toInt ∧ y3008.toInt ≤ 400 := by rw [← m3009]; exact th_iv hW rh0 (by decide) (by decide) rfl
                          obtain ⟨y3011, m3012⟩ : ∃ x : Int64, oJ (f2974 h0) 16 = x := ⟨_, rfl⟩
                          simp only [((fm_I g2977 rh0 rfl).trans m2944), m2944, m2994, m2957, m2997, m2960, m3000, m2963, m3003, ((fm_I g2941 rh0 rfl).trans ((fm_I g2887 rh0 rfl).trans m2880)), m3006, ((fm_I g2941 rh0 rfl).trans ((fm_I g2887 rh0 rfl).trans ((fm_I g2866 rh0 rfl).trans m2861))), m3009, m2946, m3012, m2966] at h2978
                          obtain ⟨q3013, q3014, q3015, q3016, q3017, q3018⟩ := h2978
                          clear q2969 q2970
                          have z3020 := h2979
                          rw [((fm_I g2941 rh0 rfl).trans ((fm_I g2887 rh0 rfl).trans ((fm_I g2866 rh0 rfl).trans m2861))), m3006] at z3020
                          have z3019 : DJ f0 f2974 h0 pF21.toInt 0 0 pF21.toInt y3005.toInt := dj_ex2 z2947 (by rw [((fm_I g2941 rh0 rfl).trans ((fm_I g2887 rh0 rfl).trans m2880))]; omega) (by omega) (by omega) (by omega) z3020
                          refine lv_aload_n hx hb dX12_readClause_247 rfl (lv_at hl 3 rfl) ?_
                          refine fg_RX12_39 E hW rh0 dX12_readClause_248 (fun a3021 m3022 r3023 => ?_)
                          obtain rfl : pN = a3021 := (((fm_R g2977 rh0 rfl).trans ((fm_R g2941 rh0 rfl).trans ((fm_R g2887 rh0 rfl).trans ((fm_R g2866 rh0 rfl).trans m2856))))).symm.trans m3022
                          refine lv_iload_n hx hb dX12_readClause_251 rfl (lv_at hl 1 rfl) ?_
                          refine lv_bipush (v := 6) hx hb dX12_readClause_252 (by decide) ?_
                          refine q_iadd (Y := 6) hx hb dX12_readClause_254 rfl rfl (by omega) (fun x3024 h3025 => ?_)
                          refine lv_aload_n hx hb dX12_readClause_255 rfl (lv_at hl 3 rfl) ?_
                          refine fg_RX12_229 E hW rh0 dX12_readClause_256 (fun y3026 m3027 b3028 => ?_)
                          obtain rfl : y3005 = y3026 := (m3006).symm.trans m3027
                          have hw3033 := hW.2.2.2
                          refine gs_840 E hW rN ⟨by omega, by omega⟩ dX12_readClause_259 (fun f3029 H locs e3030 n3031 g3032 hW => ?_)
                          have m3034 : oI (f3029 h0) 19 = x2508 := ((fm_I g3032 rh0 rfl).trans ((fm_I g2977 rh0 rfl).trans ((fm_I g2941 rh0 rfl).trans ((fm_I g2887 rh0 rfl).trans ((fm_I g2866 rh0 rfl).trans ((fm_I g2842 rh0 rfl).trans ((fm_I g2538 rh0 rfl).trans e2511)))))))
                          have z3035 : DJ f0 f3029 h0 pF21.toInt 0 0 pF21.toInt y3005.toInt := dj_keep z3019 hw3033 g3032 rh0 rfl (fun q => by rw [fm_I g3032 rh0 rfl]; exact q)
                          have hF := FM.tr hF g3032 rfl
                          have q3036 : x3024.toInt = 8 * pF19.toInt + 6 := by omega
                          have q3037 : 0 ≤ 8 * pF19.toInt := by omega
                          have z3038 : ∀ j : Nat, (j : Int) < 8 * pF19.toInt → aI (f3029 pN) j = aI (f0 pN) j := pre_st2 z2984 e3030 q3036 q3037 (by decide)
                          clear z2984
                          have z3039 : aI (f3029 pN) (8 * pF19.toInt + 0).toNat = x6 := ent_no2 z2985 e3030 q3036 q3037 (by decide)
                          have z3040 : aI (f3029 pN) (8 * pF19.toInt + 1).toNat = 0 := ent_no2 z2986 e3030 q3036 q3037 (by decide)
                          have z3041 : aI (f3029 pN) (8 * pF19.toInt + 2).toNat = 0 := ent_no2 z2987 e3030 q3036 q3037 (by decide)
                          have z3042 : aI (f3029 pN) (8 * pF19.toInt + 3).toNat = pF21 := ent_no2 z2988 e3030 q3036 q3037 (by decide)
                          have z3043 : aI (f3029 pN) (8 * pF19.toInt + 4).toNat = pF21 := ent_no2 z2989 e3030 q3036 q3037 (by decide)
                          have z3044 : aI (f3029 pN) (8 * pF19.toInt + 5).toNat = pF21 := ent_no2 z2990 e3030 q3036 q3037 (by decide)
                          have z3045 : aI (f3029 pN) (8 * pF19.toInt + 6).toNat = y3005 := ent_st2 e3030 q3036 q3037 (by decide)
                          clear q3036 q3037
                          clear z2985 z2986 z2987 z2988 z2989 z2990 z2991
                          exact e_V E hW rfl ⟨rfl, hF, (by simp only [((fm_I g3032 rh0 rfl).trans ((fm_I g2977 rh0 rfl).trans m2944)), mF12, ((fm_I g3032 rh0 rfl).trans m2994), mF13, ((fm_I g3032 rh0 rfl).trans m2997), mF14, ((fm_I g3032 rh0 rfl).trans m3000), mF15, ((fm_I g3032 rh0 rfl).trans m3003), mF18, ((fm_I g3032 rh0 rfl).trans m3027), mF21, ((fm_J g3032 rh0 rfl).trans m3012), mW, and_true, true_and, true_or, or_true, false_or, or_false] <;> omega), (by have hk0 : (0 : Int32).toInt = 0 := rfl; rw [((fm_I g3032 rh0 rfl).trans m3027), m3034]; exact cl_end (nc := y3005.toInt) (hd := x6) (r1 := 0) (r2 := 0) (show CLs _ _ _ pF21.toInt pF19.toInt from hC) (by omega) (show DJ f0 f3029 h0 pF21.toInt (pF21 : Int32).toInt (pF21 : Int32).toInt (pF21 : Int32).toInt (y3005 : Int32).toInt from (dj_triv1 z3035)) (fun j hj => by unfold vN; rw [((fm_R g3032 rh0 rfl).trans m3022), mN]; exact z3038 j hj) (by unfold vN; rw [((fm_R g3032 rh0 rfl).trans m3022)]; exact z3039) (by unfold vN; rw [((fm_R g3032 rh0 rfl).trans m3022)]; exact z3040) (by unfold vN; rw [((fm_R g3032 rh0 rfl).trans m3022)]; exact z3041) (by unfold vN; rw [((fm_R g3032 rh0 rfl).trans m3022)]; exact z3042) (by unfold vN; rw [((fm_R g3032 rh0 rfl).trans m3022)]; exact z3043) (by unfold vN; rw [((fm_R g3032 rh0 rfl).trans m3022)]; exact z3044) (by unfold vN; rw [((fm_R g3032 rh0 rfl).trans m3022)]; exact z3045) (by rw [((fm_I g3032 rh0 rfl).trans m3003)]; omega) (by omega) (by omega))⟩ dX12_readClause_260
                    · refine lv_aload_n hx hb dX12_readClause_192 rfl (lv_at hl 3 rfl) ?_
                      refine lv_iconst (v := 0) hx hb dX12_readClause_193 (by decide) ?_
                      have hw3050 := hW.2.2.2
                      refine t_callV (As := [.int 0]) (rest := []) E hW (c_X12_readExpression l G cI cJ cZ cD cR cT kp L f2535 hW.2.2.2 _ h0 0 rh0 (by decide) (by have hkq3046 : (0 : Int32).toInt = 0 := rfl; simp only [((fm_I g2538 rh0 rfl).trans ((fm_I g2513 rh0 rfl).trans ((fm_I g2491 rh0 rfl).trans m2467))), ((fm_I g2538 rh0 rfl).trans ((fm_I g2513 rh0 rfl).trans ((fm_I g2491 rh0 rfl).trans m2468))), ((fm_I g2538 rh0 rfl).trans ((fm_I g2513 rh0 rfl).trans ((fm_I g2491 rh0 rfl).trans m2469))), ((fm_I g2538 rh0 rfl).trans ((fm_I g2513 rh0 rfl).trans ((fm_I g2491 rh0 rfl).trans m2470))), ((fm_I g2538 rh0 rfl).trans ((fm_I g2513 rh0 rfl).trans ((fm_I g2491 rh0 rfl).trans m2472))), ((fm_I g2538 rh0 rfl).trans m2533), ((fm_J g2538 rh0 rfl).trans ((fm_J g2513 rh0 rfl).trans ((fm_J g2491 rh0 rfl).trans m2471))), and_true, true_and, true_or, or_true, false_or, or_false] <;> omega)) rh0 (by decide) rfl wk_X12_readExpression tw_1819 rfl ⟨Nat.le_of_ble_eq_true rfl, Nat.le_of_ble_eq_true rfl⟩ ⟨rfl, rfl⟩ hl.1 rfl (Nat.le_of_ble_eq_true rfl) dX12_readClause_194 ⟨Nat.le_of_ble_eq_true rfl, Nat.le_of_ble_eq_true rfl⟩ (fun v3047 f3048 H locs q3049 hW => ?_)
                      obtain ⟨rfl, g3051, h3052, h3053⟩ := q3049
                      have m3054 : aI (f3048 pN) (x2184 : Int32).toNatClampNeg = x6 := ((congrArg (fun z => aI z (x2184 : Int32).toNatClampNeg) (fm_A g3051 rN (by decide) rfl)).trans (show aI (f2535 pN) (x2184 : Int32).toNatClampNeg = x6 from by rw [e2536, up_n (tn_ne (by omega) (by omega) (by omega))]; exact m2515))
                      have m3055 : aI (f3048 pN) (x2530 : Int32).toNatClampNeg = pF21 := ((congrArg (fun z => aI z (x2530 : Int32).toNatClampNeg) (fm_A g3051 rN (by decide) rfl)).trans (show aI (f2535 pN) (x2530 : Int32).toNatClampNeg = pF21 from by rw [e2536]; exact up_s))
                      have z3056 : ∀ j : Nat, (j : Int) < 8 * pF19.toInt → aI (f3048 pN) j = aI (f0 pN) j := by rw [fm_A g3051 rN (by decide) rfl]; exact z2543
                      clear z2543
                      have z3057 : aI (f3048 pN) (8 * pF19.toInt + 0).toNat = x6 := by rw [fm_A g3051 rN (by decide) rfl]; exact z2544
                      have z3058 : aI (f3048 pN) (8 * pF19.toInt + 1).toNat = 0 := by rw [fm_A g3051 rN (by decide) rfl]; exact z2545
                      have z3059 : aI (f3048 pN) (8 * pF19.toInt + 2).toNat = 0 := by rw [fm_A g3051 rN (by decide) rfl]; exact z2546
                      have z3060 : aI (f3048 pN) (8 * pF19.toInt + 3).toNat = pF21 := by rw [fm_A g3051 rN (by decide) rfl]; exact z2547
                      have z3061 : aI (f3048 pN) (8 * pF19.toInt + 4).toNat = 0 := by rw [fm_A g3051 rN (by decide) rfl]; exact z2548
                      have z3062 : aI (f3048 pN) (8 * pF19.toInt + 5).toNat = 0 := by rw [fm_A g3051 rN (by decide) rfl]; exact z2549
                      have z3063 : aI (f3048 pN) (8 * pF19.toInt + 6).toNat = 0 := by rw [fm_A g3051 rN (by decide) rfl]; exact z2550
                      clear z2544 z2545 z2546 z2547 z2548 z2549 z2550
                      have hF := FM.tr hF g3051 rfl
                      have hk3064 : (0 : Int32).toInt = 0 := rfl
                      obtain ⟨y3065, m3066⟩ : ∃ x : Int32, oI (f3048 h0) 13 = x := ⟨_, rfl⟩
                      have b3067 : (0 : Int) ≤ y3065.toInt ∧ y3065.toInt ≤ 400 := by rw [← m3066]; exact th_iv hW rh0 (by decide) (by decide) rfl
                      obtain ⟨y3068, m3069⟩ : ∃ x : Int32, oI (f3048 h0) 14 = x := ⟨_, rfl⟩
                      have b3070 : (0 : Int) ≤ y3068.toInt ∧ y3068.toInt ≤ 400 := by rw [← m3069]; exact th_iv hW rh0 (by decide) (by decide) rfl
                      obtain ⟨y3071, m3072⟩ : ∃ x : Int32, oI (f3048 h0) 15 = x := ⟨_, rfl⟩
                      have b3073 : (0 : Int) ≤ y3071.toInt ∧ y3071.toInt ≤ 3 := by rw [← m3072]; exact th_iv hW rh0 (by decide) (by decide) rfl
                      obtain ⟨y3074, m3075⟩ : ∃ x : Int32, oI (f3048 h0) 18 = x := ⟨_, rfl⟩
                      have b3076 : (0 : Int) ≤ y3074.toInt ∧ y3074.toInt ≤ 1 := by rw [← m3075]; exact th_iv hW rh0 (by decide) (by decide) rfl
                      obtain ⟨y3077, m3078⟩ : ∃ x : Int32, oI (f3048 h0) 21 = x := ⟨_, rfl⟩
                      have b3079 : (0 : Int) ≤ y3077.toInt ∧ y3077.toInt ≤ 400 := by rw [← m3078]; exact th_iv hW rh0 (by decide) (by decide) rfl
                      obtain ⟨y3080, m3081⟩ : ∃ x : Int32, oI (f3048 h0) 27 = x := ⟨_, rfl⟩
                      have b3082 : (0 : Int) ≤ y3080.toInt ∧ y3080.toInt ≤ 400 := by rw [← m3081]; exact th_iv hW rh0 (by decide) (by decide) rfl
                      obtain ⟨y3083, m3084⟩ : ∃ x : Int64, oJ (f3048 h0) 16 = x := ⟨_, rfl⟩
                      simp only [((fm_I g3051 rh0 rfl).trans ((fm_I g2538 rh0 rfl).trans ((fm_I g2513 rh0 rfl).trans ((fm_I g2491 rh0 rfl).trans m2467)))), ((fm_I g2538 rh0 rfl).trans ((fm_I g2513 rh0 rfl).trans ((fm_I g2491 rh0 rfl).trans m2467))), m3066, ((fm_I g2538 rh0 rfl).trans ((fm_I g2513 rh0 rfl).trans ((fm_I g2491 rh0 rfl).trans m2468))), m3069, ((fm_I g2538 rh0 rfl).trans ((fm_I g2513 rh0 rfl).trans ((fm_I g2491 rh0 rfl).trans m2469))), m3072, ((fm_I g2538 rh0 rfl).trans ((fm_I g2513 rh0 rfl).trans ((fm_I g2491 rh0 rfl).trans m2470))), m3075, ((fm_I g2538 rh0 rfl).trans ((fm_I g2513 rh0 rfl).trans ((fm_I g2491 rh0 rfl).trans m2472))), m3078, ((fm_I g2538 rh0 rfl).trans m2533), m3081, ((fm_I g2538 rh0 rfl).trans ((fm_I g2513 rh0 rfl).trans ((fm_I g2491 rh0 rfl).trans m2477))), m3084, ((fm_J g2538 rh0 rfl).trans ((fm_J g2513 rh0 rfl).trans ((fm_J g2491 rh0 rfl).trans m2471)))] at h3052
                      obtain ⟨q3085, q3086, q3087, q3088, q3089, q3090⟩ := h3052
                      clear q2174 q2175
                      have z3092 := h3053
                      rw [((fm_I g2538 rh0 rfl).trans m2533), m3078] at z3092
                      have z3091 : DJ f0 f3048 h0 pF21.toInt pF21.toInt y3077.toInt y3077.toInt y3077.toInt := dj_ex1 z2540 (by rw [((fm_I g2538 rh0 rfl).trans ((fm_I g2513 rh0 rfl).trans ((fm_I g2491 rh0 rfl).trans m2472)))]; omega) (by omega) z3092
                      refine lv_aload_n hx hb dX12_readClause_197 rfl (lv_at hl 3 rfl) ?_
                      refine fg_RX12_39 E hW rh0 dX12_readClause_198 (fun a3093 m3094 r3095 => ?_)
                      obtain rfl : pN = a3093 := (((fm_R g3051 rh0 rfl).trans ((fm_R g2538 rh0 rfl).trans m2528))).symm.trans m3094
                      refine lv_iload_n hx hb dX12_readClause_201 rfl (lv_at hl 1 rfl) ?_
                      refine lv_iconst (v := 4) hx hb dX12_readClause_202 (by decide) ?_
                      refine q_iadd (Y := 4) hx hb dX12_readClause_203 rfl rfl (by omega) (fun x3096 h3097 => ?_)
                      refine lv_aload_n hx hb dX12_readClause_204 rfl (lv_at hl 3 rfl) ?_
                      refine fg_RX12_229 E hW rh0 dX12_readClause_205 (fun y3098 m3099 b3100 => ?_)
                      obtain rfl : y3077 = y3098 := (m3078).symm.trans m3099
                      have hw3105 := hW.2.2.2
                      refine gs_840 E hW rN ⟨by omega, by omega⟩ dX12_readClause_208 (fun f3101 H locs e3102 n3103 g3104 hW => ?_)
                      have z3106 : DJ f0 f3101 h0 pF21.toInt pF21.toInt y3077.toInt y3077.toInt y3077.toInt := dj_keep z3091 hw3105 g3104 rh0 rfl (fun q => by rw [fm_I g3104 rh0 rfl]; exact q)
                      have hF := FM.tr hF g3104 rfl
                      have q3107 : x3096.toInt = 8 * pF19.toInt + 4 := by omega
                      have q3108 : 0 ≤ 8 * pF19.toInt := by omega
                      have z3109 : ∀ j : Nat, (j : Int) < 8 * pF19.toInt → aI (f3101 pN) j = aI (f0 pN) j := pre_st2 z3056 e3102 q3107 q3108 (by decide)
                      clear z3056
                      have z3110 : aI (f3101 pN) (8 * pF19.toInt + 0).toNat = x6 := ent_no2 z3057 e3102 q3107 q3108 (by decide)
                      have z3111 : aI (f3101 pN) (8 * pF19.toInt + 1).toNat = 0 := ent_no2 z3058 e3102 q3107 q3108 (by decide)
                      have z3112 : aI (f3101 pN) (8 * pF19.toInt + 2).toNat = 0 := ent_no2 z3059 e3102 q3107 q3108 (by decide)
                      have z3113 : aI (f3101 pN) (8 * pF19.toInt + 3).toNat = pF21 := ent_no2 z3060 e3102 q3107 q3108 (by decide)
                      have z3114 : aI (f3101 pN) (8 * pF19.toInt + 4).toNat = y3077 := ent_st2 e3102 q3107 q3108 (by decide)
                      have z3115 : aI (f3101 pN) (8 * pF19.toInt + 5).toNat = 0 := ent_no2 z3062 e3102 q3107 q3108 (by decide)
                      have z3116 : aI (f3101 pN) (8 * pF19.toInt + 6).toNat = 0 := ent_no2 z3063 e3102 q3107 q3108 (by decide)
                      clear q3107 q3108
                      clear z3057 z3058 z3059 z3060 z3061 z3062 z3063
                      refine lv_aload_n hx hb dX12_readClause_209 rfl (lv_at hl 3 rfl) ?_
                      refine fg_RX12_39 E hW rh0 dX12_readClause_210 (fun a3117 m3118 r3119 => ?_)
                      obtain rfl : pN = a3117 := (((fm_R g3104 rh0 rfl).trans m3094)).symm.trans m3118
                      refine lv_iload_n hx hb dX12_readClause_213 rfl (lv_at hl 1 rfl) ?_
                      refine lv_iconst (v := 5) hx hb dX12_readClause_214 (by decide) ?_
                      refine q_iadd (Y := 5) hx hb dX12_readClause_215 rfl rfl (by omega) (fun x3120 h3121 => ?_)
                      refine lv_aload_n hx hb dX12_readClause_216 rfl (lv_at hl 3 rfl) ?_
                      refine fg_RX12_229 E hW rh0 dX12_readClause_217 (fun y3122 m3123 b3124 => ?_)
                      obtain rfl : y3077 = y3122 := (((fm_I g3104 rh0 rfl).trans m3099)).symm.trans m3123
                      have hw3129 := hW.2.2.2
                      refine gs_840 E hW rN ⟨by omega, by omega⟩ dX12_readClause_220 (fun f3125 H locs e3126 n3127 g3128 hW => ?_)
                      have z3130 : DJ f0 f3125 h0 pF21.toInt pF21.toInt y3077.toInt y3077.toInt y3077.toInt := dj_keep z3106 hw3129 g3128 rh0 rfl (fun q => by rw [fm_I g3128 rh0 rfl]; exact q)
                      have hF := FM.tr hF g3128 rfl
                      have q3131 : x3120.toInt = 8 * pF19.toInt + 5 := by omega
                      have q3132 : 0 ≤ 8 * pF19.toInt := by omega
                      have z3133 : ∀ j : Nat, (j : Int) < 8 * pF19.toInt → aI (f3125 pN) j = aI (f0 pN) j := pre_st2 z3109 e3126 q3131 q3132 (by decide)
                      clear z3109
                      have z3134 : aI (f3125 pN) (8 * pF19.toInt + 0).toNat = x6 := ent_no2 z3110 e3126 q3131 q3132 (by decide)
                      have z3135 : aI (f3125 pN) (8 * pF19.toInt + 1).toNat = 0 := ent_no2 z3111 e3126 q3131 q3132 (by decide)
                      have z3136 : aI (f3125 pN) (8 * pF19.toInt + 2).toNat = 0 := ent_no2 z3112 e3126 q3131 q3132 (by decide)
                      have z3137 : aI (f3125 pN) (8 * pF19.toInt + 3).toNat = pF21 := ent_no2 z3113 e3126 q3131 q3132 (by decide)
                      have z3138 : aI (f3125 pN) (8 * pF19.toInt + 4).toNat = y3077 := ent_no2 z3114 e3126 q3131 q3132 (by decide)
                      have z3139 : aI (f3125 pN) (8 * pF19.toInt + 5).toNat = y3077 := ent_st2 e3126 q3131 q3132 (by decide)
                      have z3140 : aI (f3125 pN) (8 * pF19.toInt + 6).toNat = 0 := ent_no2 z3116 e3126 q3131 q3132 (by decide)
                      clear q3131 q3132
                      clear z3110 z3111 z3112 z3113 z3114 z3115 z3116
                      refine lv_aload_n hx hb dX12_readClause_221 rfl (lv_at hl 3 rfl) ?_
                      refine fg_RX12_193 E hW rh0 dX12_readClause_222 (fun y3141 m3142 b3143 => ?_)
                      obtain rfl : y3074 = y3141 := (((fm_I g3128 rh0 rfl).trans ((fm_I g3104 rh0 rfl).trans m3075))).symm.trans m3142
                      refine q_if_ne (tgt := 247) hx hb dX12_readClause_225 (by decide) rfl (fun c3144 => ?_) (fun c3144 => ?_)
                      · refine lv_aload_n hx hb dX12_readClause_247 rfl (lv_at hl 3 rfl) ?_
                        refine fg_RX12_39 E hW rh0 dX12_readClause_248 (fun a3145 m3146 r3147 => ?_)
                        obtain rfl : pN = a3145 := (((fm_R g3128 rh0 rfl).trans m3118)).symm.trans m3146
                        refine lv_iload_n hx hb dX12_readClause_251 rfl (lv_at hl 1 rfl) ?_
                        refine lv_bipush (v := 6) hx hb dX12_readClause_252 (by decide) ?_
                        refine q_iadd (Y := 6) hx hb dX12_readClause_254 rfl rfl (by omega) (fun x3148 h3149 => ?_)
                        refine lv_aload_n hx hb dX12_readClause_255 rfl (lv_at hl 3 rfl) ?_
                        refine fg_RX12_229 E hW rh0 dX12_readClause_256 (fun y3150 m3151 b3152 => ?_)
                        obtain rfl : y3077 = y3150 := (((fm_I g3128 rh0 rfl).trans m3123)).symm.trans m3151
                        have hw3157 := hW.2.2.2
                        refine gs_840 E hW rN ⟨by omega, by omega⟩ dX12_readClause_259 (fun f3153 H locs e3154 n3155 g3156 hW => ?_)
                        have m3158 : oR (f3153 h0) 2 = pR := ((fm_R g3156 rh0 rfl).trans ((fm_R g3128 rh0 rfl).trans ((fm_R g3104 rh0 rfl).trans ((fm_R g3051 rh0 rfl).trans ((fm_R g2538 rh0 rfl).trans ((fm_R g2513 rh0 rfl).trans ((fm_R g2491 rh0 rfl).trans m2466)))))))
                        have m3159 : oI (f3153 h0) 12 = pF12 := ((fm_I g3156 rh0 rfl).trans ((fm_I g3128 rh0 rfl).trans ((fm_I g3104 rh0 rfl).trans ((fm_I g3051 rh0 rfl).trans ((fm_I g2538 rh0 rfl).trans ((fm_I g2513 rh0 rfl).trans ((fm_I g2491 rh0 rfl).trans m2467)))))))
                        have z3160 : DJ f0 f3153 h0 pF21.toInt pF21.toInt y3077.toInt y3077.toInt y3077.toInt := dj_keep z3130 hw3157 g3156 rh0 rfl (fun q => by rw [fm_I g3156 rh0 rfl]; exact q)
                        have hF := FM.tr hF g3156 rfl
                        have q3161 : x3148.toInt = 8 * pF19.toInt + 6 := by omega
                        have q3162 : 0 ≤ 8 * pF19.toInt := by omega
                        have z3163 : ∀ j : Nat, (j : Int) < 8 * pF19.toInt → aI (f3153 pN) j = aI (f0 pN) j := pre_st2 z3133 e3154 q3161 q3162 (by decide)
                        clear z3133
                        have z3164 : aI (f3153 pN) (8 * pF19.toInt + 0).toNat = x6 := ent_no2 z3134 e3154 q3161 q3162 (by decide)
                        have z3165 : aI (f3153 pN) (8 * pF19.toInt + 1).toNat = 0 := ent_no2 z3135 e3154 q3161 q3162 (by decide)
                        have z3166 : aI (f3153 pN) (8 * pF19.toInt + 2).toNat = 0 := ent_no2 z3136 e3154 q3161 q3162 (by decide)
                        have z3167 : aI (f3153 pN) (8 * pF19.toInt + 3).toNat = pF21 := ent_no2 z3137 e3154 q3161 q3162 (by decide)
                        have z3168 : aI (f3153 pN) (8 * pF19.toInt + 4).toNat = y3077 := ent_no2 z3138 e3154 q3161 q3162 (by decide)
                        have z3169 : aI (f3153 pN) (8 * pF19.toInt + 5).toNat = y3077 := ent_no2 z3139 e3154 q3161 q3162 (by decide)
                        have z3170 : aI (f3153 pN) (8 * pF19.toInt + 6).toNat = y3077 := ent_st2 e3154 q3161 q3162 (by decide)
                        clear q3161 q3162
                        clear z3134 z3135 z3136 z3137 z3138 z3139 z3140
                        exact e_V E hW rfl ⟨rfl, hF, (by simp only [m3159, mF12, ((fm_I g3156 rh0 rfl).trans ((fm_I g3128 rh0 rfl).trans ((fm_I g3104 rh0 rfl).trans m3066))), mF13, ((fm_I g3156 rh0 rfl).trans ((fm_I g3128 rh0 rfl).trans ((fm_I g3104 rh0 rfl).trans m3069))), mF14, ((fm_I g3156 rh0 rfl).trans ((fm_I g3128 rh0 rfl).trans ((fm_I g3104 rh0 rfl).trans m3072))), mF15, ((fm_I g3156 rh0 rfl).trans m3142), mF18, ((fm_I g3156 rh0 rfl).trans m3151), mF21, ((fm_J g3156 rh0 rfl).trans ((fm_J g3128 rh0 rfl).trans ((fm_J g3104 rh0 rfl).trans m3084))), mW, and_true, true_and, true_or, or_true, false_or, or_false] <;> omega), (Or.inl (by rw [((fm_I g3156 rh0 rfl).trans m3142)]; omega))⟩ dX12_readClause_260
                      · refine lv_aload_n hx hb dX12_readClause_228 rfl (lv_at hl 3 rfl) ?_
                        refine lv_ldc2 (v := 294) hx hb hown (hts _ tw_1904) dX12_readClause_229 ?_
                        have hw3174 := hW.2.2.2
                        refine t_callV (As := [.long 294]) (rest := []) E hW (c_X12_isWord l G cI cJ cZ cD cR cT kp L f3125 hW.2.2.2 _ h0 294 rh0 (by decide)) rh0 (by decide) rfl wk_X12_isWord tw_1797 rfl ⟨Nat.le_of_ble_eq_true rfl, Nat.le_of_ble_eq_true rfl⟩ ⟨rfl, rfl⟩ hl.1 rfl (Nat.le_of_ble_eq_true rfl) dX12_readClause_232 ⟨Nat.le_of_ble_eq_true rfl, Nat.le_of_ble_eq_true rfl⟩ (fun v3171 f3172 H locs q3173 hW => ?_)
                        obtain ⟨⟨x3176, rfl, p3177⟩, g3175⟩ := q3173
                        simp only [((fm_I g3128 rh0 rfl).trans ((fm_I g3104 rh0 rfl).trans m3072)), ((fm_J g3128 rh0 rfl).trans ((fm_J g3104 rh0 rfl).trans m3084))] at p3177
                        have p3177 : (x3176.toInt = 1 ∧ y3071.toInt = 1 ∧ y3083.toInt = 294) ∨ x3176.toInt = 0 := p3177
                        have m3178 : oR (f3172 h0) 2 = pR := ((fm_R g3175 rh0 rfl).trans ((fm_R g3128 rh0 rfl).trans ((fm_R g3104 rh0 rfl).trans ((fm_R g3051 rh0 rfl).trans ((fm_R g2538 rh0 rfl).trans ((fm_R g2513 rh0 rfl).trans ((fm_R g2491 rh0 rfl).trans m2466)))))))
                        have m3179 : oI (f3172 h0) 12 = pF12 := ((fm_I g3175 rh0 rfl).trans ((fm_I g3128 rh0 rfl).trans ((fm_I g3104 rh0 rfl).trans ((fm_I g3051 rh0 rfl).trans ((fm_I g2538 rh0 rfl).trans ((fm_I g2513 rh0 rfl).trans ((fm_I g2491 rh0 rfl).trans m2467)))))))
                        have m3180 : aI (f3172 pN) (x2184 : Int32).toNatClampNeg = x6 := ((congrArg (fun z => aI z (x2184 : Int32).toNatClampNeg) (fm_A g3175 rN (by decide) rfl)).trans (show aI (f3125 pN) (x2184 : Int32).toNatClampNeg = x6 from by rw [e3126, up_n (tn_ne (by omega) (by omega) (by omega))]; exact (show aI (f3101 pN) (x2184 : Int32).toNatClampNeg = x6 from by rw [e3102, up_n (tn_ne (by omega) (by omega) (by omega))]; exact m3054)))
                        have m3181 : aI (f3172 pN) (x2530 : Int32).toNatClampNeg = pF21 := ((congrArg (fun z => aI z (x2530 : Int32).toNatClampNeg) (fm_A g3175 rN (by decide) rfl)).trans (show aI (f3125 pN) (x2530 : Int32).toNatClampNeg = pF21 from by rw [e3126, up_n (tn_ne (by omega) (by omega) (by omega))]; exact (show aI (f3101 pN) (x2530 : Int32).toNatClampNeg = pF21 from by rw [e3102, up_n (tn_ne (by omega) (by omega) (by omega))]; exact m3055)))
                        have m3182 : aI (f3172 pN) (x3096 : Int32).toNatClampNeg = y3077 := ((congrArg (fun z => aI z (x3096 : Int32).toNatClampNeg) (fm_A g3175 rN (by decide) rfl)).trans (show aI (f3125 pN) (x3096 : Int32).toNatClampNeg = y3077 from by rw [e3126, up_n (tn_ne (by omega) (by omega) (by omega))]; exact (show aI (f3101 pN) (x3096 : Int32).toNatClampNeg = y3077 from by rw [e3102]; exact up_s)))
                        have m3183 : aI (f3172 pN) (x3120 : Int32).toNatClampNeg = y3077 := ((congrArg (fun z => aI z (x3120 : Int32).toNatClampNeg) (fm_A g3175 rN (by decide) rfl)).trans (show aI (f3125 pN) (x3120 : Int32).toNatClampNeg = y3077 from by rw [e3126]; exact up_s))
                        have z3184 : DJ f0 f3172 h0 pF21.toInt pF21.toInt y3077.toInt y3077.toInt y3077.toInt := dj_keep z3130 hw3174 g3175 rh0 rfl (fun q => by rw [fm_I g3175 rh0 rfl]; exact q)
                        have z3185 : ∀ j : Nat, (j : Int) < 8 * pF19.toInt → aI (f3172 pN) j = aI (f0 pN) j := by rw [fm_A g3175 rN (by decide) rfl]; exact z3133
                        clear z3133
                        have z3186 : aI (f3172 pN) (8 * pF19.toInt + 0).toNat = x6 := by rw [fm_A g3175 rN (by decide) rfl]; exact z3134
                        have z3187 : aI (f3172 pN) (8 * pF19.toInt + 1).toNat = 0 := by rw [fm_A g3175 rN (by decide) rfl]; exact z3135
                        have z3188 : aI (f3172 pN) (8 * pF19.toInt + 2).toNat = 0 := by rw [fm_A g3175 rN (by decide) rfl]; exact z3136
                        have z3189 : aI (f3172 pN) (8 * pF19.toInt + 3).toNat = pF21 := by rw [fm_A g3175 rN (by decide) rfl]; exact z3137
                        have z3190 : aI (f3172 pN) (8 * pF19.toInt + 4).toNat = y3077 := by rw [fm_A g3175 rN (by decide) rfl]; exact z3138
                        have z3191 : aI (f3172 pN) (8 * pF19.toInt + 5).toNat = y3077 := by rw [fm_A g3175 rN (by decide) rfl]; exact z3139
                        have z3192 : aI (f3172 pN) (8 * pF19.toInt + 6).toNat = 0 := by rw [fm_A g3175 rN (by decide) rfl]; exact z3140
                        clear z3134 z3135 z3136 z3137 z3138 z3139 z3140
                        have hF := FM.tr hF g3175 rfl
                        refine q_if_eq (tgt := 247) hx hb dX12_readClause_235 (by decide) rfl (fun c3193 => ?_) (fun c3193 => ?_)
                        · clear p3177
                          refine lv_aload_n hx hb dX12_readClause_247 rfl (lv_at hl 3 rfl) ?_
                          refine fg_RX12_39 E hW rh0 dX12_readClause_248 (fun a3194 m3195 r3196 => ?_)
                          obtain rfl : pN = a3194 := (((fm_R g3175 rh0 rfl).trans ((fm_R g3128 rh0 rfl).trans m3118))).symm.trans m3195
                          refine lv_iload_n hx hb dX12_readClause_251 rfl (lv_at hl 1 rfl) ?_
                          refine lv_bipush (v := 6) hx hb dX12_readClause_252 (by decide) ?_
                          refine q_iadd (Y := 6) hx hb dX12_readClause_254 rfl rfl (by omega) (fun x3197 h3198 => ?_)
                          refine lv_aload_n hx hb dX12_readClause_255 rfl (lv_at hl 3 rfl) ?_
                          refine fg_RX12_229 E hW rh0 dX12_readClause_256 (fun y3199 m3200 b3201 => ?_)
                          obtain rfl : y3077 = y3199 := (((fm_I g3175 rh0 rfl).trans ((fm_I g3128 rh0 rfl).trans m3123))).symm.trans m3200
                          have hw3206 := hW.2.2.2
                          refine gs_840 E hW rN ⟨by omega, by omega⟩ dX12_readClause_259 (fun f3202 H locs e3203 n3204 g3205 hW => ?_)
                          have z3207 : DJ f0 f3202 h0 pF21.toInt pF21.toInt y3077.toInt y3077.toInt y3077.toInt := dj_keep z3184 hw3206 g3205 rh0 rfl (fun q => by rw [fm_I g3205 rh0 rfl]; exact q)
                          have hF := FM.tr hF g3205 rfl
                          have q3208 : x3197.toInt = 8 * pF19.toInt + 6 := by omega
                          have q3209 : 0 ≤ 8 * pF19.toInt := by omega
                          have z3210 : ∀ j : Nat, (j : Int) < 8 * pF19.toInt → aI (f3202 pN) j = aI (f0 pN) j := pre_st2 z3185 e3203 q3208 q3209 (by decide)
                          clear z3185
                          have z3211 : aI (f3202 pN) (8 * pF19.toInt + 0).toNat = x6 := ent_no2 z3186 e3203 q3208 q3209 (by decide)
                          have z3212 : aI (f3202 pN) (8 * pF19.toInt + 1).toNat = 0 := ent_no2 z3187 e3203 q3208 q3209 (by decide)
                          have z3213 : aI (f3202 pN) (8 * pF19.toInt + 2).toNat = 0 := ent_no2 z3188 e3203 q3208 q3209 (by decide)
                          have z3214 : aI (f3202 pN) (8 * pF19.toInt + 3).toNat = pF21 := ent_no2 z3189 e3203 q3208 q3209 (by decide)
                          have z3215 : aI (f3202 pN) (8 * pF19.toInt + 4).toNat = y3077 := ent_no2 z3190 e3203 q3208 q3209 (by decide)
                          have z3216 : aI (f3202 pN) (8 * pF19.toInt + 5).toNat = y3077 := ent_no2 z3191 e3203 q3208 q3209 (by decide)
                          have z3217 : aI (f3202 pN) (8 * pF19.toInt + 6).toNat = y3077 := ent_st2 e3203 q3208 q3209 (by decide)
                          clear q3208 q3209
                          clear z3186 z3187 z3188 z3189 z3190 z3191 z3192
                          exact e_V E hW rfl ⟨rfl, hF, (by simp only [((fm_I g3205 rh0 rfl).trans m3179), mF12, ((fm_I g3205 rh0 rfl).trans ((fm_I g3175 rh0 rfl).trans ((fm_I g3128 rh0 rfl).trans ((fm_I g3104 rh0 rfl).trans m3066)))), mF13, ((fm_I g3205 rh0 rfl).trans ((fm_I g3175 rh0 rfl).trans ((fm_I g3128 rh0 rfl).trans ((fm_I g3104 rh0 rfl).trans m3069)))), mF14, ((fm_I g3205 rh0 rfl).trans ((fm_I g3175 rh0 rfl).trans ((fm_I g3128 rh0 rfl).trans ((fm_I g3104 rh0 rfl).trans m3072)))), mF15, ((fm_I g3205 rh0 rfl).trans ((fm_I g3175 rh0 rfl).trans m3142)), mF18, ((fm_I g3205 rh0 rfl).trans m3200), mF21, ((fm_J g3205 rh0 rfl).trans ((fm_J g3175 rh0 rfl).trans ((fm_J g3128 rh0 rfl).trans ((fm_J g3104 rh0 rfl).trans m3084)))), mW, and_true, true_and, true_or, or_true, false_or, or_false] <;> omega), (by have hk0 : (0 : Int32).toInt = 0 := rfl; rw [((fm_I g3205 rh0 rfl).trans m3200), ((fm_I g3205 rh0 rfl).trans ((fm_I g3175 rh0 rfl).trans ((fm_I g3128 rh0 rfl).trans ((fm_I g3104 rh0 rfl).trans ((fm_I g3051 rh0 rfl).trans ((fm_I g2538 rh0 rfl).trans e2511))))))]; exact cl_end (nc := y3077.toInt) (hd := x6) (r1 := 0) (r2 := 0) (show CLs _ _ _ pF21.toInt pF19.toInt from hC) (by omega) (show DJ f0 f3202 h0 pF21.toInt (pF21 : Int32).toInt (y3077 : Int32).toInt (y3077 : Int32).toInt (y3077 : Int32).toInt from z3207) (fun j hj => by unfold vN; rw [((fm_R g3205 rh0 rfl).trans m3195), mN]; exact z3210 j hj) (by unfold vN; rw [((fm_R g3205 rh0 rfl).trans m3195)]; exact z3211) (by unfold vN; rw [((fm_R g3205 rh0 rfl).trans m3195)]; exact z3212) (by unfold vN; rw [((fm_R g3205 rh0 rfl).trans m3195)]; exact z3213) (by unfold vN; rw [((fm_R g3205 rh0 rfl).trans m3195)]; exact z3214) (by unfold vN; rw [((fm_R g3205 rh0 rfl).trans m3195)]; exact z3215) (by unfold vN; rw [((fm_R g3205 rh0 rfl).trans m3195)]; exact z3216) (by unfold vN; rw [((fm_R g3205 rh0 rfl).trans m3195)]; exact z3217) (by rw [((fm_I g3205 rh0 rfl).trans ((fm_I g3175 rh0 rfl).trans m3142))]; omega) (by omega) (by omega))⟩ dX12_readClause_260
                        · have q3218 : y3071.toInt = 1 ∧ y3083.toInt = 294 := by omega
                          clear p3177
                          refine lv_aload_n hx hb dX12_readClause_238 rfl (lv_at hl 3 rfl) ?_
                          have hw3222 := hW.2.2.2
                          refine t_callV (As := []) (rest := []) E hW (c_X12_next l G cI cJ cZ cD cR cT kp L f3172 hW.2.2.2 _ h0 rh0 (by simp only [m3179, ((fm_I g3175 rh0 rfl).trans ((fm_I g3128 rh0 rfl).trans ((fm_I g3104 rh0 rfl).trans m3069))), and_true, true_and, true_or, or_true, false_or, or_false] <;> omega)) rh0 (by decide) rfl wk_X12_next tw_1773 rfl ⟨Nat.le_of_ble_eq_true rfl, Nat.le_of_ble_eq_true rfl⟩ ⟨rfl, rfl⟩ hl.1 rfl (Nat.le_of_ble_eq_true rfl) dX12_readClause_239 ⟨Nat.le_of_ble_eq_true rfl, Nat.le_of_ble_eq_true rfl⟩ (fun v3219 f3220 H locs q3221 hW => ?_)
                          obtain ⟨rfl, g3223, h3224⟩ := q3221
                          have z3225 : DJ f0 f3220 h0 pF21.toInt pF21.toInt y3077.toInt y3077.toInt y3077.toInt := dj_keep z3184 hw3222 g3223 rh0 rfl (fun q => by rw [fm_I g3223 rh0 rfl]; exact q)
                          have z3226 : ∀ j : Nat, (j : Int) < 8 * pF19.toInt → aI (f3220 pN) j = aI (f0 pN) j := by rw [fm_A g3223 rN (by decide) rfl]; exact z3185
                          clear z3185
                          have z3227 : aI (f3220 pN) (8 * pF19.toInt + 0).toNat = x6 := by rw [fm_A g3223 rN (by decide) rfl]; exact z3186
                          have z3228 : aI (f3220 pN) (8 * pF19.toInt + 1).toNat = 0 := by rw [fm_A g3223 rN (by decide) rfl]; exact z3187
                          have z3229 : aI (f3220 pN) (8 * pF19.toInt + 2).toNat = 0 := by rw [fm_A g3223 rN (by decide) rfl]; exact z3188
                          have z3230 : aI (f3220 pN) (8 * pF19.toInt + 3).toNat = pF21 := by rw [fm_A g3223 rN (by decide) rfl]; exact z3189
                          have z3231 : aI (f3220 pN) (8 * pF19.toInt + 4).toNat = y3077 := by rw [fm_A g3223 rN (by decide) rfl]; exact z3190
                          have z3232 : aI (f3220 pN) (8 * pF19.toInt + 5).toNat = y3077 := by rw [fm_A g3223 rN (by decide) rfl]; exact z3191
                          have z3233 : aI (f3220 pN) (8 * pF19.toInt + 6).toNat = 0 := by rw [fm_A g3223 rN (by decide) rfl]; exact z3192
                          clear z3186 z3187 z3188 z3189 z3190 z3191 z3192
                          have hF := FM.tr hF g3223 rfl
                          obtain ⟨y3234, m3235⟩ : ∃ x : Int32, oI (f3220 h0) 13 = x := ⟨_, rfl⟩
                          have b3236 : (0 : Int) ≤ y3234.toInt ∧ y3234.toInt ≤ 400 := by rw [← m3235]; exact th_iv hW rh0 (by decide) (by decide) rfl
                          obtain ⟨y3237, m3238⟩ : ∃ x : Int32, oI (f3220 h0) 14 = x := ⟨_, rfl⟩
                          have b3239 : (0 : Int) ≤ y3237.toInt ∧ y3237.toInt ≤ 400 := by rw [← m3238]; exact th_iv hW rh0 (by decide) (by decide) rfl
                          obtain ⟨y3240, m3241⟩ : ∃ x : Int32, oI (f3220 h0) 15 = x := ⟨_, rfl⟩
                          have b3242 : (0 : Int) ≤ y3240.toInt ∧ y3240.toInt ≤ 3 := by rw [← m3241]; exact th_iv hW rh0 (by decide) (by decide) rfl
                          obtain ⟨y3243, m3244⟩ : ∃ x : Int64, oJ (f3220 h0) 16 = x := ⟨_, rfl⟩
                          simp only [((fm_I g3223 rh0 rfl).trans m3179), m3179, m3235, ((fm_I g3175 rh0 rfl).trans ((fm_I g3128 rh0 rfl).trans ((fm_I g3104 rh0 rfl).trans m3066))), m3238, ((fm_I g3175 rh0 rfl).trans ((fm_I g3128 rh0 rfl).trans ((fm_I g3104 rh0 rfl).trans m3069))), m3241, ((fm_I g3175 rh0 rfl).trans ((fm_I g3128 rh0 rfl).trans ((fm_I g3104 rh0 rfl).trans m3072))), m3244, ((fm_J g3175 rh0 rfl).trans ((fm_J g3128 rh0 rfl).trans ((fm_J g3104 rh0 rfl).trans m3084)))] at h3224
                          obtain ⟨q3245, q3246, q3247, q3248, q3249⟩ := h3224
                          clear q3088 q3089
                          refine lv_aload_n hx hb dX12_readClause_242 rfl (lv_at hl 3 rfl) ?_
                          refine lv_iconst (v := 1) hx hb dX12_readClause_243 (by decide) ?_
                          have hw3254 := hW.2.2.2
                          refine t_callV (As := [.int 1]) (rest := []) E hW (c_X12_readExpression l G cI cJ cZ cD cR cT kp L f3220 hW.2.2.2 _ h0 1 rh0 (by decide) (by have hkq3250 : (1 : Int32).toInt = 1 := rfl; simp only [((fm_I g3223 rh0 rfl).trans m3179), m3235, m3238, m3241, ((fm_I g3223 rh0 rfl).trans ((fm_I g3175 rh0 rfl).trans m3142)), ((fm_I g3223 rh0 rfl).trans ((fm_I g3175 rh0 rfl).trans ((fm_I g3128 rh0 rfl).trans m3123))), m3244, and_true, true_and, true_or, or_true, false_or, or_false] <;> omega)) rh0 (by decide) rfl wk_X12_readExpression tw_1819 rfl ⟨Nat.le_of_ble_eq_true rfl, Nat.le_of_ble_eq_true rfl⟩ ⟨rfl, rfl⟩ hl.1 rfl (Nat.le_of_ble_eq_true rfl) dX12_readClause_244 ⟨Nat.le_of_ble_eq_true rfl, Nat.le_of_ble_eq_true rfl⟩ (fun v3251 f3252 H locs q3253 hW => ?_)
                          obtain ⟨rfl, g3255, h3256, h3257⟩ := q3253
                          have m3258 : oI (f3252 h0) 19 = x2508 := ((fm_I g3255 rh0 rfl).trans ((fm_I g3223 rh0 rfl).trans ((fm_I g3175 rh0 rfl).trans ((fm_I g3128 rh0 rfl).trans ((fm_I g3104 rh0 rfl).trans ((fm_I g3051 rh0 rfl).trans ((fm_I g2538 rh0 rfl).trans e2511)))))))
                          have m3259 : aI (f3252 pN) (x2184 : Int32).toNatClampNeg = x6 := ((congrArg (fun z => aI z (x2184 : Int32).toNatClampNeg) (fm_A g3255 rN (by decide) rfl)).trans ((congrArg (fun z => aI z (x2184 : Int32).toNatClampNeg) (fm_A g3223 rN (by decide) rfl)).trans m3180))
                          have m3260 : aI (f3252 pN) (x2530 : Int32).toNatClampNeg = pF21 := ((congrArg (fun z => aI z (x2530 : Int32).toNatClampNeg) (fm_A g3255 rN (by decide) rfl)).trans ((congrArg (fun z => aI z (x2530 : Int32).toNatClampNeg) (fm_A g3223 rN (by decide) rfl)).trans m3181))
                          have m3261 : aI (f3252 pN) (x3096 : Int32).toNatClampNeg = y3077 := ((congrArg (fun z => aI z (x3096 : Int32).toNatClampNeg) (fm_A g3255 rN (by decide) rfl)).trans ((congrArg (fun z => aI z (x3096 : Int32).toNatClampNeg) (fm_A g3223 rN (by decide) rfl)).trans m3182))
                          have m3262 : aI (f3252 pN) (x3120 : Int32).toNatClampNeg = y3077 := ((congrArg (fun z => aI z (x3120 : Int32).toNatClampNeg) (fm_A g3255 rN (by decide) rfl)).trans ((congrArg (fun z => aI z (x3120 : Int32).toNatClampNeg) (fm_A g3223 rN (by decide) rfl)).trans m3183))
                          have z3263 : ∀ j : Nat, (j : Int) < 8 * pF19.toInt → aI (f3252 pN) j = aI (f0 pN) j := by rw [fm_A g3255 rN (by decide) rfl]; exact z3226
                          clear z3226
                          have z3264 : aI (f3252 pN) (8 * pF19.toInt + 0).toNat = x6 := by rw [fm_A g3255 rN (by decide) rfl]; exact z3227
                          have z3265 : aI (f3252 pN) (8 * pF19.toInt + 1).toNat = 0 := by rw [fm_A g3255 rN (by decide) rfl]; exact z3228
                          have z3266 : aI (f3252 pN) (8 * pF19.toInt + 2).toNat = 0 := by rw [fm_A g3255 rN (by decide) rfl]; exact z3229
                          have z3267 : aI (f3252 pN) (8 * pF19.toInt + 3).toNat = pF21 := by rw [fm_A g3255 rN (by decide) rfl]; exact z3230
                          have z3268 : aI (f3252 pN) (8 * pF19.toInt + 4).toNat = y3077 := by rw [fm_A g3255 rN (by decide) rfl]; exact z3231
                          have z3269 : aI (f3252 pN) (8 * pF19.toInt + 5).toNat = y3077 := by rw [fm_A g3255 rN (by decide) rfl]; exact z3232
                          have z3270 : aI (f3252 pN) (8 * pF19.toInt + 6).toNat = 0 := by rw [fm_A g3255 rN (by decide) rfl]; exact z3233
                          clear z3227 z3228 z3229 z3230 z3231 z3232 z3233
                          have hF := FM.tr hF g3255 rfl
                          have hk3271 : (1 : Int32).toInt = 1 := rfl
                          obtain ⟨y3272, m3273⟩ : ∃ x : Int32, oI (f3252 h0) 13 = x := ⟨_, rfl⟩
                          have b3274 : (0 : Int) ≤ y3272.toInt ∧ y3272.toInt ≤ 400 := by rw [← m3273]; exact th_iv hW rh0 (by decide) (by decide) rfl
                          obtain ⟨y3275, m3276⟩ : ∃ x : Int32, oI (f3252 h0) 14 = x := ⟨_, rfl⟩
                          have b3277 : (0 : Int) ≤ y3275.toInt ∧ y3275.toInt ≤ 400 := by rw [← m3276]; exact th_iv hW rh0 (by decide) (by decide) rfl
                          obtain ⟨y3278, m3279⟩ : ∃ x : Int32, oI (f3252 h0) 15 = x := ⟨_, rfl⟩
                          have b3280 : (0 : Int) ≤ y3278.toInt ∧ y3278.toInt ≤ 3 := by rw [← m3279]; exact th_iv hW rh0 (by decide) (by decide) rfl
                          obtain ⟨y3281, m3282⟩ : ∃ x : Int32, oI (f3252 h0) 18 = x := ⟨_, rfl⟩
                          have b3283 : (0 : Int) ≤ y3281.toInt ∧ y3281.toInt ≤ 1 := by rw [← m3282]; exact th_iv hW rh0 (by decide) (by decide) rfl
                          obtain ⟨y3284, m3285⟩ : ∃ x : Int32, oI (f3252 h0) 21 = x := ⟨_, rfl⟩
                          have b3286 : (0 : Int) ≤ y3284.toInt ∧ y3284.toInt ≤ 400 := by rw [← m3285]; exact th_iv hW rh0 (by decide) (by decide) rfl
                          obtain ⟨y3287, m3288⟩ : ∃ x : Int32, oI (f3252 h0) 27 = x := ⟨_, rfl⟩
                          have b3289 : (0 : Int) ≤ y3287.toInt ∧ y3287.toInt ≤ 400 := by rw [← m3288]; exact th_iv hW rh0 (by decide) (by decide) rfl
                          obtain ⟨y3290, m3291⟩ : ∃ x : Int64, oJ (f3252 h0) 16 = x := ⟨_, rfl⟩
                          simp only [((fm_I g3255 rh0 rfl).trans ((fm_I g3223 rh0 rfl).trans m3179)), ((fm_I g3223 rh0 rfl).trans m3179), m3273, m3235, m3276, m3238, m3279, m3241, m3282, ((fm_I g3223 rh0 rfl).trans ((fm_I g3175 rh0 rfl).trans m3142)), m3285, ((fm_I g3223 rh0 rfl).trans ((fm_I g3175 rh0 rfl).trans ((fm_I g3128 rh0 rfl).trans m3123))), m3288, ((fm_I g3223 rh0 rfl).trans ((fm_I g3175 rh0 rfl).trans ((fm_I g3128 rh0 rfl).trans ((fm_I g3104 rh0 rfl).trans m3081)))), m3291, m3244] at h3256
                          obtain ⟨q3292, q3293, q3294, q3295, q3296, q3297⟩ := h3256
                          clear q3247 q3248
                          have z3299 := h3257
                          rw [((fm_I g3223 rh0 rfl).trans ((fm_I g3175 rh0 rfl).trans ((fm_I g3128 rh0 rfl).trans m3123))), m3285] at z3299
                          have z3298 : DJ f0 f3252 h0 pF21.toInt pF21.toInt y3077.toInt y3077.toInt y3284.toInt := dj_ex2 z3225 (by rw [((fm_I g3223 rh0 rfl).trans ((fm_I g3175 rh0 rfl).trans m3142))]; omega) (by omega) (by omega) (by omega) z3299
                          refine lv_aload_n hx hb dX12_readClause_247 rfl (lv_at hl 3 rfl) ?_
                          refine fg_RX12_39 E hW rh0 dX12_readClause_248 (fun a3300 m3301 r3302 => ?_)
                          obtain rfl : pN = a3300 := (((fm_R g3255 rh0 rfl).trans ((fm_R g3223 rh0 rfl).trans ((fm_R g3175 rh0 rfl).trans ((fm_R g3128 rh0 rfl).trans m3118))))).symm.trans m3301
                          refine lv_iload_n hx hb dX12_readClause_251 rfl (lv_at hl 1 rfl) ?_
                          refine lv_bipush (v := 6) hx hb dX12_readClause_252 (by decide) ?_
                          refine q_iadd (Y := 6) hx hb dX12_readClause_254 rfl rfl (by omega) (fun x3303 h3304 => ?_)
                          refine lv_aload_n hx hb dX12_readClause_255 rfl (lv_at hl 3 rfl) ?_
                          refine fg_RX12_229 E hW rh0 dX12_readClause_256 (fun y3305 m3306 b3307 => ?_)
                          obtain rfl : y3284 = y3305 := (m3285).symm.trans m3306
                          have hw3312 := hW.2.2.2
                          refine gs_840 E hW rN ⟨by omega, by omega⟩ dX12_readClause_259 (fun f3308 H locs e3309 n3310 g3311 hW => ?_)
                          have z3313 : DJ f0 f3308 h0 pF21.toInt pF21.toInt y3077.toInt y3077.toInt y3284.toInt := dj_keep z3298 hw3312 g3311 rh0 rfl (fun q => by rw [fm_I g3311 rh0 rfl]; exact q)
                          have hF := FM.tr hF g3311 rfl
                          have q3314 : x3303.toInt = 8 * pF19.toInt + 6 := by omega
                          have q3315 : 0 ≤ 8 * pF19.toInt := by omega
                          have z3316 : ∀ j : Nat, (j : Int) < 8 * pF19.toInt → aI (f3308 pN) j = aI (f0 pN) j := pre_st2 z3263 e3309 q3314 q3315 (by decide)
                          clear z3263
                          have z3317 : aI (f3308 pN) (8 * pF19.toInt + 0).toNat = x6 := ent_no2 z3264 e3309 q3314 q3315 (by decide)
                          have z3318 : aI (f3308 pN) (8 * pF19.toInt + 1).toNat = 0 := ent_no2 z3265 e3309 q3314 q3315 (by decide)
                          have z3319 : aI (f3308 pN) (8 * pF19.toInt + 2).toNat = 0 := ent_no2 z3266 e3309 q3314 q3315 (by decide)
                          have z3320 : aI (f3308 pN) (8 * pF19.toInt + 3).toNat = pF21 := ent_no2 z3267 e3309 q3314 q3315 (by decide)
                          have z3321 : aI (f3308 pN) (8 * pF19.toInt + 4).toNat = y3077 := ent_no2 z3268 e3309 q3314 q3315 (by decide)
                          have z3322 : aI (f3308 pN) (8 * pF19.toInt + 5).toNat = y3077 := ent_no2 z3269 e3309 q3314 q3315 (by decide)
                          have z3323 : aI (f3308 pN) (8 * pF19.toInt + 6).toNat = y3284 := ent_st2 e3309 q3314 q3315 (by decide)
                          clear q3314 q3315
                          clear z3264 z3265 z3266 z3267 z3268 z3269 z3270
                          exact e_V E hW rfl ⟨rfl, hF, (by simp only [((fm_I g3311 rh0 rfl).trans ((fm_I g3255 rh0 rfl).trans ((fm_I g3223 rh0 rfl).trans m3179))), mF12, ((fm_I g3311 rh0 rfl).trans m3273), mF13, ((fm_I g3311 rh0 rfl).trans m3276), mF14, ((fm_I g3311 rh0 rfl).trans m3279), mF15, ((fm_I g3311 rh0 rfl).trans m3282), mF18, ((fm_I g3311 rh0 rfl).trans m3306), mF21, ((fm_J g3311 rh0 rfl).trans m3291), mW, and_true, true_and, true_or, or_true, false_or, or_false] <;> omega), (by have hk0 : (0 : Int32).toInt = 0 := rfl; rw [((fm_I g3311 rh0 rfl).trans m3306), ((fm_I g3311 rh0 rfl).trans m3258)]; exact cl_end (nc := y3284.toInt) (hd := x6) (r1 := 0) (r2 := 0) (show CLs _ _ _ pF21.toInt pF19.toInt from hC) (by omega) (show DJ f0 f3308 h0 pF21.toInt (pF21 : Int32).toInt (y3077 : Int32).toInt (y3077 : Int32).toInt (y3284 : Int32).toInt from z3313) (fun j hj => by unfold vN; rw [((fm_R g3311 rh0 rfl).trans m3301), mN]; exact z3316 j hj) (by unfold vN; rw [((fm_R g3311 rh0 rfl).trans m3301)]; exact z3317) (by unfold vN; rw [((fm_R g3311 rh0 rfl).trans m3301)]; exact z3318) (by unfold vN; rw [((fm_R g3311 rh0 rfl).trans m3301)]; exact z3319) (by unfold vN; rw [((fm_R g3311 rh0 rfl).trans m3301)]; exact z3320) (by unfold vN; rw [((fm_R g3311 rh0 rfl).trans m3301)]; exact z3321) (by unfold vN; rw [((fm_R g3311 rh0 rfl).trans m3301)]; exact z3322) (by unfold vN; rw [((fm_R g3311 rh0 rfl).trans m3301)]; exact z3323) (by rw [((fm_I g3311 rh0 rfl).trans m3282)]; omega) (by omega) (by omega))⟩ dX12_readClause_260
                · refine lv_aload_n hx hb dX12_readClause_137 rfl (lv_at hl 3 rfl) ?_
                  refine fg_RX12_39 E hW rh0 dX12_readClause_138 (fun a3324 m3325 r3326 => ?_)
                  obtain rfl : pN = a3324 := (((fm_R g2513 rh0 rfl).trans ((fm_R g2491 rh0 rfl).trans m2486))).symm.trans m3325
                  refine lv_iload_n hx hb dX12_readClause_141 rfl (lv_at hl 1 rfl) ?_
                  refine lv_iconst (v := 1) hx hb dX12_readClause_142 (by decide) ?_
                  refine q_iadd (Y := 1) hx hb dX12_readClause_143 rfl rfl (by omega) (fun x3327 h3328 => ?_)
                  refine lv_aload_n hx hb dX12_readClause_144 rfl (lv_at hl 3 rfl) ?_
                  refine lv_lconst (v := 0) hx hb dX12_readClause_145 (by decide) ?_
                  refine lv_ldc2 (v := 3) hx hb hown (hts _ tw_1817) dX12_readClause_146 ?_
                  have hw3334 := hW.2.2.2
                  refine t_callV (As := [.long 0, .long 3]) (rest := [.int x3327, .ref pN]) E hW (c_X12_number l G cI cJ cZ cD cR cT kp L f2510 hW.2.2.2 _ h0 0 3 rh0 (by decide) (by decide) (by have hkq3329 : (0 : Int64).toInt = 0 := rfl; have hkq3330 : (3 : Int64).toInt = 3 := rfl; simp only [((fm_I g2513 rh0 rfl).trans ((fm_I g2491 rh0 rfl).trans m2467)), ((fm_I g2513 rh0 rfl).trans ((fm_I g2491 rh0 rfl).trans m2468)), ((fm_I g2513 rh0 rfl).trans ((fm_I g2491 rh0 rfl).trans m2469)), ((fm_I g2513 rh0 rfl).trans ((fm_I g2491 rh0 rfl).trans m2470)), ((fm_J g2513 rh0 rfl).trans ((fm_J g2491 rh0 rfl).trans m2471)), and_true, true_and, true_or, or_true, false_or, or_false] <;> omega)) rh0 (by decide) rfl wk_X12_number tw_1811 rfl ⟨Nat.le_of_ble_eq_true rfl, Nat.le_of_ble_eq_true rfl⟩ ⟨rfl, rfl⟩ hl.1 rfl (Nat.le_of_ble_eq_true rfl) dX12_readClause_149 ⟨Nat.le_of_ble_eq_true rfl, Nat.le_of_ble_eq_true rfl⟩ (fun v3331 f3332 H locs q3333 hW => ?_)
                  obtain ⟨⟨x3337, rfl, p3338⟩, g3335, h3336⟩ := q3333
                  clear p3338
                  have z3340 : ∀ j : Nat, (j : Int) < 8 * pF19.toInt → aI (f3332 pN) j = aI (f0 pN) j := by rw [fm_A g3335 rN (by decide) rfl]; exact z2517
                  clear z2517
                  have z3341 : aI (f3332 pN) (8 * pF19.toInt + 0).toNat = x6 := by rw [fm_A g3335 rN (by decide) rfl]; exact z2518
                  have z3342 : aI (f3332 pN) (8 * pF19.toInt + 1).toNat = 0 := by rw [fm_A g3335 rN (by decide) rfl]; exact z2519
                  have z3343 : aI (f3332 pN) (8 * pF19.toInt + 2).toNat = 0 := by rw [fm_A g3335 rN (by decide) rfl]; exact z2520
                  have z3344 : aI (f3332 pN) (8 * pF19.toInt + 3).toNat = 0 := by rw [fm_A g3335 rN (by decide) rfl]; exact z2521
                  have z3345 : aI (f3332 pN) (8 * pF19.toInt + 4).toNat = 0 := by rw [fm_A g3335 rN (by decide) rfl]; exact z2522
                  have z3346 : aI (f3332 pN) (8 * pF19.toInt + 5).toNat = 0 := by rw [fm_A g3335 rN (by decide) rfl]; exact z2523
                  have z3347 : aI (f3332 pN) (8 * pF19.toInt + 6).toNat = 0 := by rw [fm_A g3335 rN (by decide) rfl]; exact z2524
                  clear z2518 z2519 z2520 z2521 z2522 z2523 z2524
                  have hF := FM.tr hF g3335 rfl
                  have h3336 := h3336 _ rfl
                  have hk3348 : (0 : Int64).toInt = 0 := rfl
                  have hk3349 : (3 : Int64).toInt = 3 := rfl
                  obtain ⟨y3350, m3351⟩ : ∃ x : Int32, oI (f3332 h0) 13 = x := ⟨_, rfl⟩
                  have b3352 : (0 : Int) ≤ y3350.toInt ∧ y3350.toInt ≤ 400 := by rw [← m3351]; exact th_iv hW rh0 (by decide) (by decide) rfl
                  obtain ⟨y3353, m3354⟩ : ∃ x : Int32, oI (f3332 h0) 14 = x := ⟨_, rfl⟩
                  have b3355 : (0 : Int) ≤ y3353.toInt ∧ y3353.toInt ≤ 400 := by rw [← m3354]; exact th_iv hW rh0 (by decide) (by decide) rfl
                  obtain ⟨y3356, m3357⟩ : ∃ x : Int32, oI (f3332 h0) 15 = x := ⟨_, rfl⟩
                  have b3358 : (0 : Int) ≤ y3356.toInt ∧ y3356.toInt ≤ 3 := by rw [← m3357]; exact th_iv hW rh0 (by decide) (by decide) rfl
                  obtain ⟨y3359, m3360⟩ : ∃ x : Int32, oI (f3332 h0) 18 = x := ⟨_, rfl⟩
                  have b3361 : (0 : Int) ≤ y3359.toInt ∧ y3359.toInt ≤ 1 := by rw [← m3360]; exact th_iv hW rh0 (by decide) (by decide) rfl
                  obtain ⟨y3362, m3363⟩ : ∃ x : Int64, oJ (f3332 h0) 16 = x := ⟨_, rfl⟩
                  simp only [((fm_I g3335 rh0 rfl).trans ((fm_I g2513 rh0 rfl).trans ((fm_I g2491 rh0 rfl).trans m2467))), ((fm_I g2513 rh0 rfl).trans ((fm_I g2491 rh0 rfl).trans m2467)), m3351, ((fm_I g2513 rh0 rfl).trans ((fm_I g2491 rh0 rfl).trans m2468)), m3354, ((fm_I g2513 rh0 rfl).trans ((fm_I g2491 rh0 rfl).trans m2469)), m3357, ((fm_I g2513 rh0 rfl).trans ((fm_I g2491 rh0 rfl).trans m2470)), m3360, ((fm_I g2513 rh0 rfl).trans ((fm_I g2491 rh0 rfl).trans m2472)), m3363, ((fm_J g2513 rh0 rfl).trans ((fm_J g2491 rh0 rfl).trans m2471))] at h3336
                  have z3364 : DJ f0 f3332 h0 pF21.toInt 0 0 0 0 := dj_keep z2516 hw3334 g3335 rh0 rfl (fun q => by rw [((fm_I g2513 rh0 rfl).trans ((fm_I g2491 rh0 rfl).trans m2472))] at q; rw [m3360]; omega)
                  obtain ⟨q3365, q3366, q3367, q3368, q3369⟩ := h3336
                  clear q2174 q2175
                  have hw3374 := hW.2.2.2
                  refine gs_840 E hW rN ⟨by omega, by omega⟩ dX12_readClause_152 (fun f3370 H locs e3371 n3372 g3373 hW => ?_)
                  have z3375 : DJ f0 f3370 h0 pF21.toInt 0 0 0 0 := dj_keep z3364 hw3374 g3373 rh0 rfl (fun q => by rw [fm_I g3373 rh0 rfl]; exact q)
                  have hF := FM.tr hF g3373 rfl
                  have q3376 : x3327.toInt = 8 * pF19.toInt + 1 := by omega
                  have q3377 : 0 ≤ 8 * pF19.toInt := by omega
                  have z3378 : ∀ j : Nat, (j : Int) < 8 * pF19.toInt → aI (f3370 pN) j = aI (f0 pN) j := pre_st2 z3340 e3371 q3376 q3377 (by decide)
                  clear z3340
                  have z3379 : aI (f3370 pN) (8 * pF19.toInt + 0).toNat = x6 := ent_no2 z3341 e3371 q3376 q3377 (by decide)
                  have z3380 : aI (f3370 pN) (8 * pF19.toInt + 1).toNat = x3337 := ent_st2 e3371 q3376 q3377 (by decide)
                  have z3381 : aI (f3370 pN) (8 * pF19.toInt + 2).toNat = 0 := ent_no2 z3343 e3371 q3376 q3377 (by decide)
                  have z3382 : aI (f3370 pN) (8 * pF19.toInt + 3).toNat = 0 := ent_no2 z3344 e3371 q3376 q3377 (by decide)
                  have z3383 : aI (f3370 pN) (8 * pF19.toInt + 4).toNat = 0 := ent_no2 z3345 e3371 q3376 q3377 (by decide)
                  have z3384 : aI (f3370 pN) (8 * pF19.toInt + 5).toNat = 0 := ent_no2 z3346 e3371 q3376 q3377 (by decide)
                  have z3385 : aI (f3370 pN) (8 * pF19.toInt + 6).toNat = 0 := ent_no2 z3347 e3371 q3376 q3377 (by decide)
                  clear q3376 q3377
                  clear z3341 z3342 z3343 z3344 z3345 z3346 z3347
                  refine lv_aload_n hx hb dX12_readClause_153 rfl (lv_at hl 3 rfl) ?_
                  refine fg_RX12_39 E hW rh0 dX12_readClause_154 (fun a3386 m3387 r3388 => ?_)
                  obtain rfl : pN = a3386 := (((fm_R g3373 rh0 rfl).trans ((fm_R g3335 rh0 rfl).trans m3325))).symm.trans m3387
                  refine lv_iload_n hx hb dX12_readClause_157 rfl (lv_at hl 1 rfl) ?_
                  refine lv_iconst (v := 2) hx hb dX12_readClause_158 (by decide) ?_
                  refine q_iadd (Y := 2) hx hb dX12_readClause_159 rfl rfl (by omega) (fun x3389 h3390 => ?_)
                  refine lv_aload_n hx hb dX12_readClause_160 rfl (lv_at hl 3 rfl) ?_
                  refine lv_lconst (v := 1) hx hb dX12_readClause_161 (by decide) ?_
                  refine lv_ldc2 (v := 52) hx hb hown (hts _ tw_1818) dX12_readClause_162 ?_
                  have hw3396 := hW.2.2.2
                  refine t_callV (As := [.long 1, .long 52]) (rest := [.int x3389, .ref pN]) E hW (c_X12_number l G cI cJ cZ cD cR cT kp L f3370 hW.2.2.2 _ h0 1 52 rh0 (by decide) (by decide) (by have hkq3391 : (1 : Int64).toInt = 1 := rfl; have hkq3392 : (52 : Int64).toInt = 52 := rfl; simp only [((fm_I g3373 rh0 rfl).trans ((fm_I g3335 rh0 rfl).trans ((fm_I g2513 rh0 rfl).trans ((fm_I g2491 rh0 rfl).trans m2467)))), ((fm_I g3373 rh0 rfl).trans m3351), ((fm_I g3373 rh0 rfl).trans m3354), ((fm_I g3373 rh0 rfl).trans m3357), ((fm_J g3373 rh0 rfl).trans m3363), and_true, true_and, true_or, or_true, false_or, or_false] <;> omega)) rh0 (by decide) rfl wk_X12_number tw_1811 rfl ⟨Nat.le_of_ble_eq_true rfl, Nat.le_of_ble_eq_true rfl⟩ ⟨rfl, rfl⟩ hl.1 rfl (Nat.le_of_ble_eq_true rfl) dX12_readClause_165 ⟨Nat.le_of_ble_eq_true rfl, Nat.le_of_ble_eq_true rfl⟩ (fun v3393 f3394 H locs q3395 hW => ?_)
                  obtain ⟨⟨x3399, rfl, p3400⟩, g3397, h3398⟩ := q3395
                  clear p3400
                  have m3401 : aI (f3394 pN) (x2184 : Int32).toNatClampNeg = x6 := ((congrArg (fun z => aI z (x2184 : Int32).toNatClampNeg) (fm_A g3397 rN (by decide) rfl)).trans (show aI (f3370 pN) (x2184 : Int32).toNatClampNeg = x6 from by rw [e3371, up_n (tn_ne (by omega) (by omega) (by omega))]; exact ((congrArg (fun z => aI z (x2184 : Int32).toNatClampNeg) (fm_A g3335 rN (by decide) rfl)).trans m2515)))
                  have m3402 : aI (f3394 pN) (x3327 : Int32).toNatClampNeg = x3337 := ((congrArg (fun z => aI z (x3327 : Int32).toNatClampNeg) (fm_A g3397 rN (by decide) rfl)).trans (show aI (f3370 pN) (x3327 : Int32).toNatClampNeg = x3337 from by rw [e3371]; exact up_s))
                  have z3404 : ∀ j : Nat, (j : Int) < 8 * pF19.toInt → aI (f3394 pN) j = aI (f0 pN) j := by rw [fm_A g3397 rN (by decide) rfl]; exact z3378
                  clear z3378
                  have z3405 : aI (f3394 pN) (8 * pF19.toInt + 0).toNat = x6 := by rw [fm_A g3397 rN (by decide) rfl]; exact z3379
                  have z3406 : aI (f3394 pN) (8 * pF19.toInt + 1).toNat = x3337 := by rw [fm_A g3397 rN (by decide) rfl]; exact z3380
                  have z3407 : aI (f3394 pN) (8 * pF19.toInt + 2).toNat = 0 := by rw [fm_A g3397 rN (by decide) rfl]; exact z3381
                  have z3408 : aI (f3394 pN) (8 * pF19.toInt + 3).toNat = 0 := by rw [fm_A g3397 rN (by decide) rfl]; exact z3382
                  have z3409 : aI (f3394 pN) (8 * pF19.toInt + 4).toNat = 0 := by rw [fm_A g3397 rN (by decide) rfl]; exact z3383
                  have z3410 : aI (f3394 pN) (8 * pF19.toInt + 5).toNat = 0 := by rw [fm_A g3397 rN (by decide) rfl]; exact z3384
                  have z3411 : aI (f3394 pN) (8 * pF19.toInt + 6).toNat = 0 := by rw [fm_A g3397 rN (by decide) rfl]; exact z3385
                  clear z3379 z3380 z3381 z3382 z3383 z3384 z3385
                  have hF := FM.tr hF g3397 rfl
                  have h3398 := h3398 _ rfl
                  have hk3412 : (1 : Int64).toInt = 1 := rfl
                  have hk3413 : (52 : Int64).toInt = 52 := rfl
                  obtain ⟨y3414, m3415⟩ : ∃ x : Int32, oI (f3394 h0) 13 = x := ⟨_, rfl⟩
                  have b3416 : (0 : Int) ≤ y3414.toInt ∧ y3414.toInt ≤ 400 := by rw [← m3415]; exact th_iv hW rh0 (by decide) (by decide) rfl
                  obtain ⟨y3417, m3418⟩ : ∃ x : Int32, oI (f3394 h0) 14 = x := ⟨_, rfl⟩
                  have b3419 : (0 : Int) ≤ y3417.toInt ∧ y3417.toInt ≤ 400 := by rw [← m3418]; exact th_iv hW rh0 (by decide) (by decide) rfl
                  obtain ⟨y3420, m3421⟩ : ∃ x : Int32, oI (f3394 h0) 15 = x := ⟨_, rfl⟩
                  have b3422 : (0 : Int) ≤ y3420.toInt ∧ y3420.toInt ≤ 3 := by rw [← m3421]; exact th_iv hW rh0 (by decide) (by decide) rfl
                  obtain ⟨y3423, m3424⟩ : ∃ x : Int32, oI (f3394 h0) 18 = x := ⟨_, rfl⟩
                  have b3425 : (0 : Int) ≤ y3423.toInt ∧ y3423.toInt ≤ 1 := by rw [← m3424]; exact th_iv hW rh0 (by decide) (by decide) rfl
                  obtain ⟨y3426, m3427⟩ : ∃ x : Int64, oJ (f3394 h0) 16 = x := ⟨_, rfl⟩
                  simp only [((fm_I g3397 rh0 rfl).trans ((fm_I g3373 rh0 rfl).trans ((fm_I g3335 rh0 rfl).trans ((fm_I g2513 rh0 rfl).trans ((fm_I g2491 rh0 rfl).trans m2467))))), ((fm_I g3373 rh0 rfl).trans ((fm_I g3335 rh0 rfl).trans ((fm_I g2513 rh0 rfl).trans ((fm_I g2491 rh0 rfl).trans m2467)))), m3415, ((fm_I g3373 rh0 rfl).trans m3351), m3418, ((fm_I g3373 rh0 rfl).trans m3354), m3421, ((fm_I g3373 rh0 rfl).trans m3357), m3424, ((fm_I g3373 rh0 rfl).trans m3360), m3427, ((fm_J g3373 rh0 rfl).trans m3363)] at h3398
                  have z3428 : DJ f0 f3394 h0 pF21.toInt 0 0 0 0 := dj_keep z3375 hw3396 g3397 rh0 rfl (fun q => by rw [((fm_I g3373 rh0 rfl).trans m3360)] at q; rw [m3424]; omega)
                  obtain ⟨q3429, q3430, q3431, q3432, q3433⟩ := h3398
                  clear q3367 q3368
                  have hw3438 := hW.2.2.2
                  refine gs_840 E hW rN ⟨by omega, by omega⟩ dX12_readClause_168 (fun f3434 H locs e3435 n3436 g3437 hW => ?_)
                  have z3439 : DJ f0 f3434 h0 pF21.toInt 0 0 0 0 := dj_keep z3428 hw3438 g3437 rh0 rfl (fun q => by rw [fm_I g3437 rh0 rfl]; exact q)
                  have hF := FM.tr hF g3437 rfl
                  have q3440 : x3389.toInt = 8 * pF19.toInt + 2 := by omega
                  have q3441 : 0 ≤ 8 * pF19.toInt := by omega
                  have z3442 : ∀ j : Nat, (j : Int) < 8 * pF19.toInt → aI (f3434 pN) j = aI (f0 pN) j := pre_st2 z3404 e3435 q3440 q3441 (by decide)
                  clear z3404
                  have z3443 : aI (f3434 pN) (8 * pF19.toInt + 0).toNat = x6 := ent_no2 z3405 e3435 q3440 q3441 (by decide)
                  have z3444 : aI (f3434 pN) (8 * pF19.toInt + 1).toNat = x3337 := ent_no2 z3406 e3435 q3440 q3441 (by decide)
                  have z3445 : aI (f3434 pN) (8 * pF19.toInt + 2).toNat = x3399 := ent_st2 e3435 q3440 q3441 (by decide)
                  have z3446 : aI (f3434 pN) (8 * pF19.toInt + 3).toNat = 0 := ent_no2 z3408 e3435 q3440 q3441 (by decide)
                  have z3447 : aI (f3434 pN) (8 * pF19.toInt + 4).toNat = 0 := ent_no2 z3409 e3435 q3440 q3441 (by decide)
                  have z3448 : aI (f3434 pN) (8 * pF19.toInt + 5).toNat = 0 := ent_no2 z3410 e3435 q3440 q3441 (by decide)
                  have z3449 : aI (f3434 pN) (8 * pF19.toInt + 6).toNat = 0 := ent_no2 z3411 e3435 q3440 q3441 (by decide)
                  clear q3440 q3441
                  clear z3405 z3406 z3407 z3408 z3409 z3410 z3411
                  exact e_V E hW rfl ⟨rfl, hF, (by simp only [((fm_I g3437 rh0 rfl).trans ((fm_I g3397 rh0 rfl).trans ((fm_I g3373 rh0 rfl).trans ((fm_I g3335 rh0 rfl).trans ((fm_I g2513 rh0 rfl).trans ((fm_I g2491 rh0 rfl).trans m2467)))))), mF12, ((fm_I g3437 rh0 rfl).trans m3415), mF13, ((fm_I g3437 rh0 rfl).trans m3418), mF14, ((fm_I g3437 rh0 rfl).trans m3421), mF15, ((fm_I g3437 rh0 rfl).trans m3424), mF18, ((fm_I g3437 rh0 rfl).trans ((fm_I g3397 rh0 rfl).trans ((fm_I g3373 rh0 rfl).trans ((fm_I g3335 rh0 rfl).trans ((fm_I g2513 rh0 rfl).trans ((fm_I g2491 rh0 rfl).trans m2475)))))), mF21, ((fm_J g3437 rh0 rfl).trans m3427), mW, and_true, true_and, true_or, or_true, false_or, or_false] <;> omega), (by have hk0 : (0 : Int32).toInt = 0 := rfl; rw [((fm_I g3437 rh0 rfl).trans ((fm_I g3397 rh0 rfl).trans ((fm_I g3373 rh0 rfl).trans ((fm_I g3335 rh0 rfl).trans ((fm_I g2513 rh0 rfl).trans ((fm_I g2491 rh0 rfl).trans m2475)))))), ((fm_I g3437 rh0 rfl).trans ((fm_I g3397 rh0 rfl).trans ((fm_I g3373 rh0 rfl).trans ((fm_I g3335 rh0 rfl).trans e2511))))]; exact cl_end (nc := pF21.toInt) (hd := x6) (r1 := x3337) (r2 := x3399) (show CLs _ _ _ pF21.toInt pF19.toInt from hC) (by omega) (show DJ f0 f3434 h0 pF21.toInt (0 : Int32).toInt (0 : Int32).toInt (0 : Int32).toInt (0 : Int32).toInt from z3439) (fun j hj => by unfold vN; rw [((fm_R g3437 rh0 rfl).trans ((fm_R g3397 rh0 rfl).trans m3387)), mN]; exact z3442 j hj) (by unfold vN; rw [((fm_R g3437 rh0 rfl).trans ((fm_R g3397 rh0 rfl).trans m3387))]; exact z3443) (by unfold vN; rw [((fm_R g3437 rh0 rfl).trans ((fm_R g3397 rh0 rfl).trans m3387))]; exact z3444) (by unfold vN; rw [((fm_R g3437 rh0 rfl).trans ((fm_R g3397 rh0 rfl).trans m3387))]; exact z3445) (by unfold vN; rw [((fm_R g3437 rh0 rfl).trans ((fm_R g3397 rh0 rfl).trans m3387))]; exact z3446) (by unfold vN; rw [((fm_R g3437 rh0 rfl).trans ((fm_R g3397 rh0 rfl).trans m3387))]; exact z3447) (by unfold vN; rw [((fm_R g3437 rh0 rfl).trans ((fm_R g3397 rh0 rfl).trans m3387))]; exact z3448) (by unfold vN; rw [((fm_R g3437 rh0 rfl).trans ((fm_R g3397 rh0 rfl).trans m3387))]; exact z3449) (by rw [((fm_I g3437 rh0 rfl).trans m3424)]; omega) (by omega) (by omega))⟩ dX12_readClause_169
              · refine lv_aload_n hx hb dX12_readClause_88 rfl (lv_at hl 3 rfl) ?_
                refine fg_RX12_39 E hW rh0 dX12_readClause_89 (fun a3450 m3451 r3452 => ?_)
                obtain rfl : pN = a3450 := (((fm_R g2513 rh0 rfl).trans ((fm_R g2491 rh0 rfl).trans m2486))).symm.trans m3451
                refine lv_iload_n hx hb dX12_readClause_92 rfl (lv_at hl 1 rfl) ?_
                refine lv_iconst (v := 1) hx hb dX12_readClause_93 (by decide) ?_
                refine q_iadd (Y := 1) hx hb dX12_readClause_94 rfl rfl (by omega) (fun x3453 h3454 => ?_)
                refine lv_aload_n hx hb dX12_readClause_95 rfl (lv_at hl 3 rfl) ?_
                refine lv_lconst (v := 0) hx hb dX12_readClause_96 (by decide) ?_
                refine lv_ldc2 (v := 19) hx hb hown (hts _ tw_1569) dX12_readClause_97 ?_
                have hw3460 := hW.2.2.2
                refine t_callV (As := [.long 0, .long 19]) (rest := [.int x3453, .ref pN]) E hW (c_X12_number l G cI cJ cZ cD cR cT kp L f2510 hW.2.2.2 _ h0 0 19 rh0 (by decide) (by decide) (by have hkq3455 : (0 : Int64).toInt = 0 := rfl; have hkq3456 : (19 : Int64).toInt = 19 := rfl; simp only [((fm_I g2513 rh0 rfl).trans ((fm_I g2491 rh0 rfl).trans m2467)), ((fm_I g2513 rh0 rfl).trans ((fm_I g2491 rh0 rfl).trans m2468)), ((fm_I g2513 rh0 rfl).trans ((fm_I g2491 rh0 rfl).trans m2469)), ((fm_I g2513 rh0 rfl).trans ((fm_I g2491 rh0 rfl).trans m2470)), ((fm_J g2513 rh0 rfl).trans ((fm_J g2491 rh0 rfl).trans m2471)), and_true, true_and, true_or, or_true, false_or, or_false] <;> omega)) rh0 (by decide) rfl wk_X12_number tw_1811 rfl ⟨Nat.le_of_ble_eq_true rfl, Nat.le_of_ble_eq_true rfl⟩ ⟨rfl, rfl⟩ hl.1 rfl (Nat.le_of_ble_eq_true rfl) dX12_readClause_100 ⟨Nat.le_of_ble_eq_true rfl, Nat.le_of_ble_eq_true rfl⟩ (fun v3457 f3458 H locs q3459 hW => ?_)
                obtain ⟨⟨x3463, rfl, p3464⟩, g3461, h3462⟩ := q3459
                clear p3464
                have z3466 : ∀ j : Nat, (j : Int) < 8 * pF19.toInt → aI (f3458 pN) j = aI (f0 pN) j := by rw [fm_A g3461 rN (by decide) rfl]; exact z2517
                clear z2517
                have z3467 : aI (f3458 pN) (8 * pF19.toInt + 0).toNat = x6 := by rw [fm_A g3461 rN (by decide) rfl]; exact z2518
                have z3468 : aI (f3458 pN) (8 * pF19.toInt + 1).toNat = 0 := by rw [fm_A g3461 rN (by decide) rfl]; exact z2519
                have z3469 : aI (f3458 pN) (8 * pF19.toInt + 2).toNat = 0 := by rw [fm_A g3461 rN (by decide) rfl]; exact z2520
                have z3470 : aI (f3458 pN) (8 * pF19.toInt + 3).toNat = 0 := by rw [fm_A g3461 rN (by decide) rfl]; exact z2521
                have z3471 : aI (f3458 pN) (8 * pF19.toInt + 4).toNat = 0 := by rw [fm_A g3461 rN (by decide) rfl]; exact z2522
                have z3472 : aI (f3458 pN) (8 * pF19.toInt + 5).toNat = 0 := by rw [fm_A g3461 rN (by decide) rfl]; exact z2523
                have z3473 : aI (f3458 pN) (8 * pF19.toInt + 6).toNat = 0 := by rw [fm_A g3461 rN (by decide) rfl]; exact z2524
                clear z2518 z2519 z2520 z2521 z2522 z2523 z2524
                have hF := FM.tr hF g3461 rfl
                have h3462 := h3462 _ rfl
                have hk3474 : (0 : Int64).toInt = 0 := rfl
                have hk3475 : (19 : Int64).toInt = 19 := rfl
                obtain ⟨y3476, m3477⟩ : ∃ x : Int32, oI (f3458 h0) 13 = x := ⟨_, rfl⟩
                have b3478 : (0 : Int) ≤ y3476.toInt ∧ y3476.toInt ≤ 400 := by rw [← m3477]; exact th_iv hW rh0 (by decide) (by decide) rfl
                obtain ⟨y3479, m3480⟩ : ∃ x : Int32, oI (f3458 h0) 14 = x := ⟨_, rfl⟩
                have b3481 : (0 : Int) ≤ y3479.toInt ∧ y3479.toInt ≤ 400 := by rw [← m3480]; exact th_iv hW rh0 (by decide) (by decide) rfl
                obtain ⟨y3482, m3483⟩ : ∃ x : Int32, oI (f3458 h0) 15 = x := ⟨_, rfl⟩
                have b3484 : (0 : Int) ≤ y3482.toInt ∧ y3482.toInt ≤ 3 := by rw [← m3483]; exact th_iv hW rh0 (by decide) (by decide) rfl
                obtain ⟨y3485, m3486⟩ : ∃ x : Int32, oI (f3458 h0) 18 = x := ⟨_, rfl⟩
                have b3487 : (0 : Int) ≤ y3485.toInt ∧ y3485.toInt ≤ 1 := by rw [← m3486]; exact th_iv hW rh0 (by decide) (by decide) rfl
                obtain ⟨y3488, m3489⟩ : ∃ x : Int64, oJ (f3458 h0) 16 = x := ⟨_, rfl⟩
                simp only [((fm_I g3461 rh0 rfl).trans ((fm_I g2513 rh0 rfl).trans ((fm_I g2491 rh0 rfl).trans m2467))), ((fm_I g2513 rh0 rfl).trans ((fm_I g2491 rh0 rfl).trans m2467)), m3477, ((fm_I g2513 rh0 rfl).trans ((fm_I g2491 rh0 rfl).trans m2468)), m3480, ((fm_I g2513 rh0 rfl).trans ((fm_I g2491 rh0 rfl).trans m2469)), m3483, ((fm_I g2513 rh0 rfl).trans ((fm_I g2491 rh0 rfl).trans m2470)), m3486, ((fm_I g2513 rh0 rfl).trans ((fm_I g2491 rh0 rfl).trans m2472)), m3489, ((fm_J g2513 rh0 rfl).trans ((fm_J g2491 rh0 rfl).trans m2471))] at h3462
                have z3490 : DJ f0 f3458 h0 pF21.toInt 0 0 0 0 := dj_keep z2516 hw3460 g3461 rh0 rfl (fun q => by rw [((fm_I g2513 rh0 rfl).trans ((fm_I g2491 rh0 rfl).trans m2472))] at q; rw [m3486]; omega)
                obtain ⟨q3491, q3492, q3493, q3494, q3495⟩ := h3462
                clear q2174 q2175
                have hw3500 := hW.2.2.2
                refine gs_840 E hW rN ⟨by omega, by omega⟩ dX12_readClause_103 (fun f3496 H locs e3497 n3498 g3499 hW => ?_)
                have z3501 : DJ f0 f3496 h0 pF21.toInt 0 0 0 0 := dj_keep z3490 hw3500 g3499 rh0 rfl (fun q => by rw [fm_I g3499 rh0 rfl]; exact q)
                have hF := FM.tr hF g3499 rfl
                have q3502 : x3453.toInt = 8 * pF19.toInt + 1 := by omega
                have q3503 : 0 ≤ 8 * pF19.toInt := by omega
                have z3504 : ∀ j : Nat, (j : Int) < 8 * pF19.toInt → aI (f3496 pN) j = aI (f0 pN) j := pre_st2 z3466 e3497 q3502 q3503 (by decide)
                clear z3466
                have z3505 : aI (f3496 pN) (8 * pF19.toInt + 0).toNat = x6 := ent_no2 z3467 e3497 q3502 q3503 (by decide)
                have z3506 : aI (f3496 pN) (8 * pF19.toInt + 1).toNat = x3463 := ent_st2 e3497 q3502 q3503 (by decide)
                have z3507 : aI (f3496 pN) (8 * pF19.toInt + 2).toNat = 0 := ent_no2 z3469 e3497 q3502 q3503 (by decide)
                have z3508 : aI (f3496 pN) (8 * pF19.toInt + 3).toNat = 0 := ent_no2 z3470 e3497 q3502 q3503 (by decide)
                have z3509 : aI (f3496 pN) (8 * pF19.toInt + 4).toNat = 0 := ent_no2 z3471 e3497 q3502 q3503 (by decide)
                have z3510 : aI (f3496 pN) (8 * pF19.toInt + 5).toNat = 0 := ent_no2 z3472 e3497 q3502 q3503 (by decide)
                have z3511 : aI (f3496 pN) (8 * pF19.toInt + 6).toNat = 0 := ent_no2 z3473 e3497 q3502 q3503 (by decide)
                clear q3502 q3503
                clear z3467 z3468 z3469 z3470 z3471 z3472 z3473
                refine lv_aload_n hx hb dX12_readClause_104 rfl (lv_at hl 3 rfl) ?_
                refine lv_aload_n hx hb dX12_readClause_105 rfl (lv_at hl 3 rfl) ?_
                refine lv_ldc2 (v := 113301093) hx hb hown (hts _ tw_1815) dX12_readClause_106 ?_
                have hw3515 := hW.2.2.2
                refine t_callV (As := [.long 113301093]) (rest := [.ref h0]) E hW (c_X12_isWord l G cI cJ cZ cD cR cT kp L f3496 hW.2.2.2 _ h0 113301093 rh0 (by decide)) rh0 (by decide) rfl wk_X12_isWord tw_1797 rfl ⟨Nat.le_of_ble_eq_true rfl, Nat.le_of_ble_eq_true rfl⟩ ⟨rfl, rfl⟩ hl.1 rfl (Nat.le_of_ble_eq_true rfl) dX12_readClause_109 ⟨Nat.le_of_ble_eq_true rfl, Nat.le_of_ble_eq_true rfl⟩ (fun v3512 f3513 H locs q3514 hW => ?_)
                obtain ⟨⟨x3517, rfl, p3518⟩, g3516⟩ := q3514
                simp only [((fm_I g3499 rh0 rfl).trans m3483), ((fm_J g3499 rh0 rfl).trans m3489)] at p3518
                have p3518 : (x3517.toInt = 1 ∧ y3482.toInt = 1 ∧ y3488.toInt = 113301093) ∨ x3517.toInt = 0 := p3518
                have m3519 : aI (f3513 pN) (x2184 : Int32).toNatClampNeg = x6 := ((congrArg (fun z => aI z (x2184 : Int32).toNatClampNeg) (fm_A g3516 rN (by decide) rfl)).trans (show aI (f3496 pN) (x2184 : Int32).toNatClampNeg = x6 from by rw [e3497, up_n (tn_ne (by omega) (by omega) (by omega))]; exact ((congrArg (fun z => aI z (x2184 : Int32).toNatClampNeg) (fm_A g3461 rN (by decide) rfl)).trans m2515)))
                have m3520 : aI (f3513 pN) (x3453 : Int32).toNatClampNeg = x3463 := ((congrArg (fun z => aI z (x3453 : Int32).toNatClampNeg) (fm_A g3516 rN (by decide) rfl)).trans (show aI (f3496 pN) (x3453 : Int32).toNatClampNeg = x3463 from by rw [e3497]; exact up_s))
                have z3521 : DJ f0 f3513 h0 pF21.toInt 0 0 0 0 := dj_keep z3501 hw3515 g3516 rh0 rfl (fun q => by rw [fm_I g3516 rh0 rfl]; exact q)
                have z3522 : ∀ j : Nat, (j : Int) < 8 * pF19.toInt → aI (f3513 pN) j = aI (f0 pN) j := by rw [fm_A g3516 rN (by decide) rfl]; exact z3504
                clear z3504
                have z3523 : aI (f3513 pN) (8 * pF19.toInt + 0).toNat = x6 := by rw [fm_A g3516 rN (by decide) rfl]; exact z3505
                have z3524 : aI (f3513 pN) (8 * pF19.toInt + 1).toNat = x3463 := by rw [fm_A g3516 rN (by decide) rfl]; exact z3506
                have z3525 : aI (f3513 pN) (8 * pF19.toInt + 2).toNat = 0 := by rw [fm_A g3516 rN (by decide) rfl]; exact z3507
                have z3526 : aI (f3513 pN) (8 * pF19.toInt + 3).toNat = 0 := by rw [fm_A g3516 rN (by decide) rfl]; exact z3508
                have z3527 : aI (f3513 pN) (8 * pF19.toInt + 4).toNat = 0 := by rw [fm_A g3516 rN (by decide) rfl]; exact z3509
                have z3528 : aI (f3513 pN) (8 * pF19.toInt + 5).toNat = 0 := by rw [fm_A g3516 rN (by decide) rfl]; exact z3510
                have z3529 : aI (f3513 pN) (8 * pF19.toInt + 6).toNat = 0 := by rw [fm_A g3516 rN (by decide) rfl]; exact z3511
                clear z3505 z3506 z3507 z3508 z3509 z3510 z3511
                have hF := FM.tr hF g3516 rfl
                have hw3533 := hW.2.2.2
                refine t_callV (As := [.int x3517]) (rest := []) E hW (c_X12_must l G cI cJ cZ cD cR cT kp L f3513 hW.2.2.2 _ h0 x3517 rh0 (by omega) (by simp only [((fm_I g3516 rh0 rfl).trans ((fm_I g3499 rh0 rfl).trans ((fm_I g3461 rh0 rfl).trans ((fm_I g2513 rh0 rfl).trans ((fm_I g2491 rh0 rfl).trans m2467))))), ((fm_I g3516 rh0 rfl).trans ((fm_I g3499 rh0 rfl).trans m3477)), ((fm_I g3516 rh0 rfl).trans ((fm_I g3499 rh0 rfl).trans m3480)), ((fm_I g3516 rh0 rfl).trans ((fm_I g3499 rh0 rfl).trans m3483)), ((fm_J g3516 rh0 rfl).trans ((fm_J g3499 rh0 rfl).trans m3489)), and_true, true_and, true_or, or_true, false_or, or_false] <;> omega)) rh0 (by decide) rfl wk_X12_must tw_1807 rfl ⟨Nat.le_of_ble_eq_true rfl, Nat.le_of_ble_eq_true rfl⟩ ⟨rfl, rfl⟩ hl.1 rfl (Nat.le_of_ble_eq_true rfl) dX12_readClause_112 ⟨Nat.le_of_ble_eq_true rfl, Nat.le_of_ble_eq_true rfl⟩ (fun v3530 f3531 H locs q3532 hW => ?_)
                obtain ⟨rfl, g3534, h3535⟩ := q3532
                have z3537 : ∀ j : Nat, (j : Int) < 8 * pF19.toInt → aI (f3531 pN) j = aI (f0 pN) j := by rw [fm_A g3534 rN (by decide) rfl]; exact z3522
                clear z3522
                have z3538 : aI (f3531 pN) (8 * pF19.toInt + 0).toNat = x6 := by rw [fm_A g3534 rN (by decide) rfl]; exact z3523
                have z3539 : aI (f3531 pN) (8 * pF19.toInt + 1).toNat = x3463 := by rw [fm_A g3534 rN (by decide) rfl]; exact z3524
                have z3540 : aI (f3531 pN) (8 * pF19.toInt + 2).toNat = 0 := by rw [fm_A g3534 rN (by decide) rfl]; exact z3525
                have z3541 : aI (f3531 pN) (8 * pF19.toInt + 3).toNat = 0 := by rw [fm_A g3534 rN (by decide) rfl]; exact z3526
                have z3542 : aI (f3531 pN) (8 * pF19.toInt + 4).toNat = 0 := by rw [fm_A g3534 rN (by decide) rfl]; exact z3527
                have z3543 : aI (f3531 pN) (8 * pF19.toInt + 5).toNat = 0 := by rw [fm_A g3534 rN (by decide) rfl]; exact z3528
                have z3544 : aI (f3531 pN) (8 * pF19.toInt + 6).toNat = 0 := by rw [fm_A g3534 rN (by decide) rfl]; exact z3529
                clear z3523 z3524 z3525 z3526 z3527 z3528 z3529
                have hF := FM.tr hF g3534 rfl
                obtain ⟨y3545, m3546⟩ : ∃ x : Int32, oI (f3531 h0) 13 = x := ⟨_, rfl⟩
                have b3547 : (0 : Int) ≤ y3545.toInt ∧ y3545.toInt ≤ 400 := by rw [← m3546]; exact th_iv hW rh0 (by decide) (by decide) rfl
                obtain ⟨y3548, m3549⟩ : ∃ x : Int32, oI (f3531 h0) 14 = x := ⟨_, rfl⟩
                have b3550 : (0 : Int) ≤ y3548.toInt ∧ y3548.toInt ≤ 400 := by rw [← m3549]; exact th_iv hW rh0 (by decide) (by decide) rfl
                obtain ⟨y3551, m3552⟩ : ∃ x : Int32, oI (f3531 h0) 15 = x := ⟨_, rfl⟩
                have b3553 : (0 : Int) ≤ y3551.toInt ∧ y3551.toInt ≤ 3 := by rw [← m3552]; exact th_iv hW rh0 (by decide) (by decide) rfl
                obtain ⟨y3554, m3555⟩ : ∃ x : Int32, oI (f3531 h0) 18 = x := ⟨_, rfl⟩
                have b3556 : (0 : Int) ≤ y3554.toInt ∧ y3554.toInt ≤ 1 := by rw [← m3555]; exact th_iv hW rh0 (by decide) (by decide) rfl
                obtain ⟨y3557, m3558⟩ : ∃ x : Int64, oJ (f3531 h0) 16 = x := ⟨_, rfl⟩
                simp only [((fm_I g3534 rh0 rfl).trans ((fm_I g3516 rh0 rfl).trans ((fm_I g3499 rh0 rfl).trans ((fm_I g3461 rh0 rfl).trans ((fm_I g2513 rh0 rfl).trans ((fm_I g2491 rh0 rfl).trans m2467)))))), ((fm_I g3516 rh0 rfl).trans ((fm_I g3499 rh0 rfl).trans ((fm_I g3461 rh0 rfl).trans ((fm_I g2513 rh0 rfl).trans ((fm_I g2491 rh0 rfl).trans m2467))))), m3546, ((fm_I g3516 rh0 rfl).trans ((fm_I g3499 rh0 rfl).trans m3477)), m3549, ((fm_I g3516 rh0 rfl).trans ((fm_I g3499 rh0 rfl).trans m3480)), m3552, ((fm_I g3516 rh0 rfl).trans ((fm_I g3499 rh0 rfl).trans m3483)), m3555, ((fm_I g3516 rh0 rfl).trans ((fm_I g3499 rh0 rfl).trans m3486)), m3558, ((fm_J g3516 rh0 rfl).trans ((fm_J g3499 rh0 rfl).trans m3489))] at h3535
                have z3559 : DJ f0 f3531 h0 pF21.toInt 0 0 0 0 := dj_keep z3521 hw3533 g3534 rh0 rfl (fun q => by rw [((fm_I g3516 rh0 rfl).trans ((fm_I g3499 rh0 rfl).trans m3486))] at q; rw [m3555]; omega)
                obtain ⟨q3560, q3561, q3562, q3563, q3564⟩ := h3535
                clear q3493 q3494
                refine lv_aload_n hx hb dX12_readClause_115 rfl (lv_at hl 3 rfl) ?_
                refine fg_RX12_39 E hW rh0 dX12_readClause_116 (fun a3565 m3566 r3567 => ?_)
                obtain rfl : pN = a3565 := (((fm_R g3534 rh0 rfl).trans ((fm_R g3516 rh0 rfl).trans ((fm_R g3499 rh0 rfl).trans ((fm_R g3461 rh0 rfl).trans m3451))))).symm.trans m3566
                refine lv_iload_n hx hb dX12_readClause_119 rfl (lv_at hl 1 rfl) ?_
                refine lv_iconst (v := 2) hx hb dX12_readClause_120 (by decide) ?_
                refine q_iadd (Y := 2) hx hb dX12_readClause_121 rfl rfl (by omega) (fun x3568 h3569 => ?_)
                refine lv_aload_n hx hb dX12_readClause_122 rfl (lv_at hl 3 rfl) ?_
                refine lv_lconst (v := 0) hx hb dX12_readClause_123 (by decide) ?_
                refine lv_ldc2 (v := 11) hx hb hown (hts _ tw_1816) dX12_readClause_124 ?_
                have hw3575 := hW.2.2.2
                refine t_callV (As := [.long 0, .long 11]) (rest := [.int x3568, .ref pN]) E hW (c_X12_number l G cI cJ cZ cD cR cT kp L f3531 hW.2.2.2 _ h0 0 11 rh0 (by decide) (by decide) (by have hkq3570 : (0 : Int64).toInt = 0 := rfl; have hkq3571 : (11 : Int64).toInt = 11 := rfl; simp only [((fm_I g3534 rh0 rfl).trans ((fm_I g3516 rh0 rfl).trans ((fm_I g3499 rh0 rfl).trans ((fm_I g3461 rh0 rfl).trans ((fm_I g2513 rh0 rfl).trans ((fm_I g2491 rh0 rfl).trans m2467)))))), m3546, m3549, m3552, m3558, and_true, true_and, true_or, or_true, false_or, or_false] <;> omega)) rh0 (by decide) rfl wk_X12_number tw_1811 rfl ⟨Nat.le_of_ble_eq_true rfl, Nat.le_of_ble_eq_true rfl⟩ ⟨rfl, rfl⟩ hl.1 rfl (Nat.le_of_ble_eq_true rfl) dX12_readClause_127 ⟨Nat.le_of_ble_eq_true rfl, Nat.le_of_ble_eq_true rfl⟩ (fun v3572 f3573 H locs q3574 hW => ?_)
                obtain ⟨⟨x3578, rfl, p3579⟩, g3576, h3577⟩ := q3574
                clear p3579
                have m3580 : oR (f3573 h0) 2 = pR := ((fm_R g3576 rh0 rfl).trans ((fm_R g3534 rh0 rfl).trans ((fm_R g3516 rh0 rfl).trans ((fm_R g3499 rh0 rfl).trans ((fm_R g3461 rh0 rfl).trans ((fm_R g2513 rh0 rfl).trans ((fm_R g2491 rh0 rfl).trans m2466)))))))
                have m3581 : oI (f3573 h0) 12 = pF12 := ((fm_I g3576 rh0 rfl).trans ((fm_I g3534 rh0 rfl).trans ((fm_I g3516 rh0 rfl).trans ((fm_I g3499 rh0 rfl).trans ((fm_I g3461 rh0 rfl).trans ((fm_I g2513 rh0 rfl).trans ((fm_I g2491 rh0 rfl).trans m2467)))))))
                have m3582 : oI (f3573 h0) 21 = pF21 := ((fm_I g3576 rh0 rfl).trans ((fm_I g3534 rh0 rfl).trans ((fm_I g3516 rh0 rfl).trans ((fm_I g3499 rh0 rfl).trans ((fm_I g3461 rh0 rfl).trans ((fm_I g2513 rh0 rfl).trans ((fm_I g2491 rh0 rfl).trans m2475)))))))
                have m3583 : oI (f3573 h0) 24 = pF24 := ((fm_I g3576 rh0 rfl).trans ((fm_I g3534 rh0 rfl).trans ((fm_I g3516 rh0 rfl).trans ((fm_I g3499 rh0 rfl).trans ((fm_I g3461 rh0 rfl).trans ((fm_I g2513 rh0 rfl).trans ((fm_I g2491 rh0 rfl).trans m2476)))))))
                have m3584 : oI (f3573 h0) 27 = pF27 := ((fm_I g3576 rh0 rfl).trans ((fm_I g3534 rh0 rfl).trans ((fm_I g3516 rh0 rfl).trans ((fm_I g3499 rh0 rfl).trans ((fm_I g3461 rh0 rfl).trans ((fm_I g2513 rh0 rfl).trans ((fm_I g2491 rh0 rfl).trans m2477)))))))
                have m3585 : aI (f3573 pN) (x2184 : Int32).toNatClampNeg = x6 := ((congrArg (fun z => aI z (x2184 : Int32).toNatClampNeg) (fm_A g3576 rN (by decide) rfl)).trans ((congrArg (fun z => aI z (x2184 : Int32).toNatClampNeg) (fm_A g3534 rN (by decide) rfl)).trans m3519))
                have m3586 : aI (f3573 pN) (x3453 : Int32).toNatClampNeg = x3463 := ((congrArg (fun z => aI z (x3453 : Int32).toNatClampNeg) (fm_A g3576 rN (by decide) rfl)).trans ((congrArg (fun z => aI z (x3453 : Int32).toNatClampNeg) (fm_A g3534 rN (by decide) rfl)).trans m3520))
                have z3588 : ∀ j : Nat, (j : Int) < 8 * pF19.toInt → aI (f3573 pN) j = aI (f0 pN) j := by rw [fm_A g3576 rN (by decide) rfl]; exact z3537
                clear z3537
                have z3589 : aI (f3573 pN) (8 * pF19.toInt + 0).toNat = x6 := by rw [fm_A g3576 rN (by decide) rfl]; exact z3538
                have z3590 : aI (f3573 pN) (8 * pF19.toInt + 1).toNat = x3463 := by rw [fm_A g3576 rN (by decide) rfl]; exact z3539
                have z3591 : aI (f3573 pN) (8 * pF19.toInt + 2).toNat = 0 := by rw [fm_A g3576 rN (by decide) rfl]; exact z3540
                have z3592 : aI (f3573 pN) (8 * pF19.toInt + 3).toNat = 0 := by rw [fm_A g3576 rN (by decide) rfl]; exact z3541
                have z3593 : aI (f3573 pN) (8 * pF19.toInt + 4).toNat = 0 := by rw [fm_A g3576 rN (by decide) rfl]; exact z3542
                have z3594 : aI (f3573 pN) (8 * pF19.toInt + 5).toNat = 0 := by rw [fm_A g3576 rN (by decide) rfl]; exact z3543
                have z3595 : aI (f3573 pN) (8 * pF19.toInt + 6).toNat = 0 := by rw [fm_A g3576 rN (by decide) rfl]; exact z3544
                clear z3538 z3539 z3540 z3541 z3542 z3543 z3544
                have hF := FM.tr hF g3576 rfl
                have h3577 := h3577 _ rfl
                have hk3596 : (0 : Int64).toInt = 0 := rfl
                have hk3597 : (11 : Int64).toInt = 11 := rfl
                obtain ⟨y3598, m3599⟩ : ∃ x : Int32, oI (f3573 h0) 13 = x := ⟨_, rfl⟩
                have b3600 : (0 : Int) ≤ y3598.toInt ∧ y3598.toInt ≤ 400 := by rw [← m3599]; exact th_iv hW rh0 (by decide) (by decide) rfl
                obtain ⟨y3601, m3602⟩ : ∃ x : Int32, oI (f3573 h0) 14 = x := ⟨_, rfl⟩
                have b3603 : (0 : Int) ≤ y3601.toInt ∧ y3601.toInt ≤ 400 := by rw [← m3602]; exact th_iv hW rh0 (by decide) (by decide) rfl
                obtain ⟨y3604, m3605⟩ : ∃ x : Int32, oI (f3573 h0) 15 = x := ⟨_, rfl⟩
                have b3606 : (0 : Int) ≤ y3604.toInt ∧ y3604.toInt ≤ 3 := by rw [← m3605]; exact th_iv hW rh0 (by decide) (by decide) rfl
                obtain ⟨y3607, m3608⟩ : ∃ x : Int32, oI (f3573 h0) 18 = x := ⟨_, rfl⟩
                have b3609 : (0 : Int) ≤ y3607.toInt ∧ y3607.toInt ≤ 1 := by rw [← m3608]; exact th_iv hW rh0 (by decide) (by decide) rfl
                obtain ⟨y3610, m3611⟩ : ∃ x : Int64, oJ (f3573 h0) 16 = x := ⟨_, rfl⟩
                simp only [m3581, ((fm_I g3534 rh0 rfl).trans ((fm_I g3516 rh0 rfl).trans ((fm_I g3499 rh0 rfl).trans ((fm_I g3461 rh0 rfl).trans ((fm_I g2513 rh0 rfl).trans ((fm_I g2491 rh0 rfl).trans m2467)))))), m3599, m3546, m3602, m3549, m3605, m3552, m3608, m3555, m3611, m3558] at h3577
                have z3612 : DJ f0 f3573 h0 pF21.toInt 0 0 0 0 := dj_keep z3559 hw3575 g3576 rh0 rfl (fun q => by rw [m3555] at q; rw [m3608]; omega)
                obtain ⟨q3613, q3614, q3615, q3616, q3617⟩ := h3577
                clear q3562 q3563
                have hw3622 := hW.2.2.2
                refine gs_840 E hW rN ⟨by omega, by omega⟩ dX12_readClause_130 (fun f3618 H locs e3619 n3620 g3621 hW => ?_)
                have z3623 : DJ f0 f3618 h0 pF21.toInt 0 0 0 0 := dj_keep z3612 hw3622 g3621 rh0 rfl (fun q => by rw [fm_I g3621 rh0 rfl]; exact q)
                have hF := FM.tr hF g3621 rfl
                have q3624 : x3568.toInt = 8 * pF19.toInt + 2 := by omega
                have q3625 : 0 ≤ 8 * pF19.toInt := by omega
                have z3626 : ∀ j : Nat, (j : Int) < 8 * pF19.toInt → aI (f3618 pN) j = aI (f0 pN) j := pre_st2 z3588 e3619 q3624 q3625 (by decide)
                clear z3588
                have z3627 : aI (f3618 pN) (8 * pF19.toInt + 0).toNat = x6 := ent_no2 z3589 e3619 q3624 q3625 (by decide)
                have z3628 : aI (f3618 pN) (8 * pF19.toInt + 1).toNat = x3463 := ent_no2 z3590 e3619 q3624 q3625 (by decide)
                have z3629 : aI (f3618 pN) (8 * pF19.toInt + 2).toNat = x3578 := ent_st2 e3619 q3624 q3625 (by decide)
                have z3630 : aI (f3618 pN) (8 * pF19.toInt + 3).toNat = 0 := ent_no2 z3592 e3619 q3624 q3625 (by decide)
                have z3631 : aI (f3618 pN) (8 * pF19.toInt + 4).toNat = 0 := ent_no2 z3593 e3619 q3624 q3625 (by decide)
                have z3632 : aI (f3618 pN) (8 * pF19.toInt + 5).toNat = 0 := ent_no2 z3594 e3619 q3624 q3625 (by decide)
                have z3633 : aI (f3618 pN) (8 * pF19.toInt + 6).toNat = 0 := ent_no2 z3595 e3619 q3624 q3625 (by decide)
                clear q3624 q3625
                clear z3589 z3590 z3591 z3592 z3593 z3594 z3595
                exact e_V E hW rfl ⟨rfl, hF, (by simp only [((fm_I g3621 rh0 rfl).trans m3581), mF12, ((fm_I g3621 rh0 rfl).trans m3599), mF13, ((fm_I g3621 rh0 rfl).trans m3602), mF14, ((fm_I g3621 rh0 rfl).trans m3605), mF15, ((fm_I g3621 rh0 rfl).trans m3608), mF18, ((fm_I g3621 rh0 rfl).trans m3582), mF21, ((fm_J g3621 rh0 rfl).trans m3611), mW, and_true, true_and, true_or, or_true, false_or, or_false] <;> omega), (by have hk0 : (0 : Int32).toInt = 0 := rfl; rw [((fm_I g3621 rh0 rfl).trans m3582), ((fm_I g3621 rh0 rfl).trans ((fm_I g3576 rh0 rfl).trans ((fm_I g3534 rh0 rfl).trans ((fm_I g3516 rh0 rfl).trans ((fm_I g3499 rh0 rfl).trans ((fm_I g3461 rh0 rfl).trans e2511))))))]; exact cl_end (nc := pF21.toInt) (hd := x6) (r1 := x3463) (r2 := x3578) (show CLs _ _ _ pF21.toInt pF19.toInt from hC) (by omega) (show DJ f0 f3618 h0 pF21.toInt (0 : Int32).toInt (0 : Int32).toInt (0 : Int32).toInt (0 : Int32).toInt from z3623) (fun j hj => by unfold vN; rw [((fm_R g3621 rh0 rfl).trans ((fm_R g3576 rh0 rfl).trans m3566)), mN]; exact z3626 j hj) (by unfold vN; rw [((fm_R g3621 rh0 rfl).trans ((fm_R g3576 rh0 rfl).trans m3566))]; exact z3627) (by unfold vN; rw [((fm_R g3621 rh0 rfl).trans ((fm_R g3576 rh0 rfl).trans m3566))]; exact z3628) (by unfold vN; rw [((fm_R g3621 rh0 rfl).trans ((fm_R g3576 rh0 rfl).trans m3566))]; exact z3629) (by unfold vN; rw [((fm_R g3621 rh0 rfl).trans ((fm_R g3576 rh0 rfl).trans m3566))]; exact z3630) (by unfold vN; rw [((fm_R g3621 rh0 rfl).trans ((fm_R g3576 rh0 rfl).trans m3566))]; exact z3631) (by unfold vN; rw [((fm_R g3621 rh0 rfl).trans ((fm_R g3576 rh0 rfl).trans m3566))]; exact z3632) (by unfold vN; rw [((fm_R g3621 rh0 rfl).trans ((fm_R g3576 rh0 rfl).trans m3566))]; exact z3633) (by rw [((fm_I g3621 rh0 rfl).trans m3608)]; omega) (by omega) (by omega))⟩ dX12_readClause_131
            · refine lv_aload_n hx hb dX12_readClause_52 rfl (lv_at hl 3 rfl) ?_
              refine fg_RX12_39 E hW rh0 dX12_readClause_53 (fun a3634 m3635 r3636 => ?_)
              obtain rfl : pN = a3634 := (m2474).symm.trans m3635
              refine lv_iload_n hx hb dX12_readClause_56 rfl (lv_at hl 1 rfl) ?_
              refine lv_iload_n hx hb dX12_readClause_57 rfl (lv_at hl 0 rfl) ?_
              refine q_iadd hx hb dX12_readClause_58 rfl rfl (by omega) (fun x3637 h3638 => ?_)
              refine lv_iconst (v := 0) hx hb dX12_readClause_59 (by decide) ?_
              have hw3643 := hW.2.2.2
              refine gs_840 E hW rN ⟨by omega, by omega⟩ dX12_readClause_60 (fun f3639 H locs e3640 n3641 g3642 hW => ?_)
              have z3644 : DJ f0 f3639 h0 pF21.toInt 0 0 0 0 := dj_keep v2482 hw3643 g3642 rh0 rfl (fun q => by rw [fm_I g3642 rh0 rfl]; exact q)
              have hF := FM.tr hF g3642 rfl
              refine q_iinc hx hb dX12_readClause_61 hl (k := 0) rfl rfl rfl (by omega) (by decide) (fun i3645 ls h3646 hl => ?_)
              have hl : lv_has ls 4 [(3, .int i3645), (2, .int x2184), (1, .int x6), (0, .ref h0)] := hl
              refine lv_goto (tgt := 46) hx hb dX12_readClause_64 (by decide) ?_
              exact ih46 f3639 i3645 ((fm_R g3642 rh0 rfl).trans m2466) ((fm_I g3642 rh0 rfl).trans m2467) ((fm_I g3642 rh0 rfl).trans m2468) ((fm_I g3642 rh0 rfl).trans m2469) ((fm_I g3642 rh0 rfl).trans m2470) ((fm_J g3642 rh0 rfl).trans m2471) ((fm_I g3642 rh0 rfl).trans m2472) ((fm_I g3642 rh0 rfl).trans m2473) ((fm_R g3642 rh0 rfl).trans m3635) ((fm_I g3642 rh0 rfl).trans m2475) ((fm_I g3642 rh0 rfl).trans m2476) ((fm_I g3642 rh0 rfl).trans m2477) (by omega) (zr_st v2480 e3640 (by decide) (by omega) (by omega) (by omega)) (pre_st v2481 e3640 (by omega)) z3644 (by omega) _ _ _ hW hF (lv_sub hl [0, 1, 2, 3] rfl)
        have hk3647 : (0 : Int32).toInt = 0 := rfl
        exact L2483 9 f2150 0 ((fm_R g2153 rh0 rfl).trans ((fm_R g5 rh0 rfl).trans mR)) ((fm_I g2153 rh0 rfl).trans ((fm_I g5 rh0 rfl).trans mF12)) m2158 m2161 m2164 m2170 m2178 m2182 ((fm_R g2153 rh0 rfl).trans ((fm_R g5 rh0 rfl).trans mN)) ((fm_I g2153 rh0 rfl).trans ((fm_I g5 rh0 rfl).trans mF21)) ((fm_I g2153 rh0 rfl).trans ((fm_I g5 rh0 rfl).trans mF24)) ((fm_I g2153 rh0 rfl).trans ((fm_I g5 rh0 rfl).trans mF27)) (by decide) (by have hk : (0 : Int32).toInt = 0 := rfl; rw [hk]; exact zr_0) (fun j _ => by rw [((congrArg aI (fm_A g2153 rN (by decide) rfl)).trans ((congrArg aI (fm_A g5 rN (by decide) rfl)).trans rfl))]) z2171 (by omega) _ _ _ hW hF (lv_sub hl [0, 1, 2, 3] rfl)
      · exact e_V E hW rfl ⟨rfl, hF, (by simp only [((fm_I g2153 rh0 rfl).trans ((fm_I g5 rh0 rfl).trans mF12)), mF12, m2158, mF13, m2161, mF14, m2164, mF15, m2178, mF18, ((fm_I g2153 rh0 rfl).trans ((fm_I g5 rh0 rfl).trans mF21)), mF21, m2170, mW, and_true, true_and, true_or, or_true, false_or, or_false] <;> omega), (Or.inl (by rw [m2178]; omega))⟩ dX12_readClause_35
