/-! the model: a new one -/
theorem s_M_init {Γ : zG} {l : Launch} (hl : l.stackTraces = false) {d : Nat} (hd : 2 ≤ d) {h : zH} {a : Nat} (h0 : h a = some (.inr (8, [.null, .null, .null, .int (nI 0), .null, .int (nI 0), .int (nI 0), .int (nI 0), .int (nI 0), .null, .int (nI 0), .null, .int (nI 0), .null, .null, .null, .int (nI 0), .int (nI 0), .int (nI 0), .int (nI 0), .int (nI 0)]))) : zC Γ l d mM_init [.ref a] h (a + 1) 9 3650 (fun o h2 n2 => o = .inl none ∧ n2 = a + 10 ∧ zfr a 10 h h2 ∧ h2 a = some (zMo a (nI 0) (nI 0) (zer none) (zer none) (nI 0) (nI 0) (nI 0) (nI 0) (nI 0) (nI 0) (nI 0) (nI 0)) ∧ h2 (a + 1) = some (zAr 0 246 zg0) ∧ h2 (a + 2) = some (zAr 0 246 (fun _ => 0)) ∧ h2 (a + 3) = some (zAr 0 246 (fun _ => 0)) ∧ h2 (a + 4) = some (zAr 0 1968 (fun _ => 0)) ∧ h2 (a + 5) = some (zAr 0 60 (fun _ => 0)) ∧ h2 (a + 6) = some (zAr 0 600 (fun _ => 0)) ∧ h2 (a + 7) = some (zAr 1 56 zLt) ∧ h2 (a + 8) = some (zAr 0 11 zBg) ∧ h2 (a + 9) = some (zAr 0 183 (fun _ => 0))) := by
  refine zC_of (ls := [some (.ref a)]) hl (by decide +kernel) rfl (Nat.le_of_ble_eq_true rfl) rfl ?_
  refine zs_aload_n (pc := 0) dM_init_0 rfl ?_
  refine zs_objInit (pc := 1) dM_init_1 kM_1 (Nat.le_of_ble_eq_true rfl) ?_
  refine zs_aload_n (pc := 4) dM_init_4 rfl ?_
  refine zs_sipush (pc := 5) dM_init_5 (zi_s 246 (by decide)) ?_
  refine zs_newa (pc := 8) (kd := 0) (N := 246) (a0 := (246, .inl (fun i => nI ((fun _ => 0) i)))) dM_init_8 (by decide) rfl (by decide) (zt1 (i := 84) rfl) (fun cA => rfl) (by decide) (by decide) (by decide) (by omega) (by omega) ?_
  refine zs_putF (pc := 10) (fs2 := [_, _, _, _, _, _, _, _, _, _, _, _, _, _, _, _, _, _, _, _, _]) dM_init_10 rfl fM_9 ⟨_, _, rfl⟩ (by first | exact zu_s | exact h0 | (rw [zu_n (by omega)]; first | exact zu_s | exact h0)) (by rfl) (by rfl) (by exact Nat.le_of_ble_eq_true rfl) (by rfl) ?_
  refine zs_aload_n (pc := 13) dM_init_13 rfl ?_
  refine zs_sipush (pc := 14) dM_init_14 (zi_s 246 (by decide)) ?_
  refine zs_newa (pc := 17) (kd := 0) (N := 246) (a0 := (246, .inl (fun i => nI ((fun _ => 0) i)))) dM_init_17 (by decide) rfl (by decide) (zt1 (i := 84) rfl) (fun cA => rfl) (by decide) (by decide) (by decide) (by omega) (by omega) ?_
  refine zs_putF (pc := 19) (fs2 := [_, _, _, _, _, _, _, _, _, _, _, _, _, _, _, _, _, _, _, _, _]) dM_init_19 rfl fM_13 ⟨_, _, rfl⟩ (by first | exact zu_s | exact h0 | (rw [zu_n (by omega)]; first | exact zu_s | exact h0)) (by rfl) (by rfl) (by exact Nat.le_of_ble_eq_true rfl) (by rfl) ?_
  rw [zu_cm (a := a) (b := a + 1 + 1) (by omega), zu_zu]
  refine zs_aload_n (pc := 22) dM_init_22 rfl ?_
  refine zs_sipush (pc := 23) dM_init_23 (zi_s 246 (by decide)) ?_
  refine zs_newa (pc := 26) (kd := 0) (N := 246) (a0 := (246, .inl (fun i => nI ((fun _ => 0) i)))) dM_init_26 (by decide) rfl (by decide) (zt1 (i := 84) rfl) (fun cA => rfl) (by decide) (by decide) (by decide) (by omega) (by omega) ?_
  refine zs_putF (pc := 28) (fs2 := [_, _, _, _, _, _, _, _, _, _, _, _, _, _, _, _, _, _, _, _, _]) dM_init_28 rfl fM_16 ⟨_, _, rfl⟩ (by first | exact zu_s | exact h0 | (rw [zu_n (by omega)]; first | exact zu_s | exact h0)) (by rfl) (by rfl) (by exact Nat.le_of_ble_eq_true rfl) (by rfl) ?_
  rw [zu_cm (a := a) (b := a + 1 + 1 + 1) (by omega), zu_zu]
  refine zs_aload_n (pc := 31) dM_init_31 rfl ?_
  refine zs_sipush (pc := 32) dM_init_32 (zi_s 1968 (by decide)) ?_
  refine zs_newa (pc := 35) (kd := 0) (N := 1968) (a0 := (1968, .inl (fun i => nI ((fun _ => 0) i)))) dM_init_35 (by decide) rfl (by decide) (zt1 (i := 84) rfl) (fun cA => rfl) (by decide) (by decide) (by decide) (by omega) (by omega) ?_
  refine zs_putF (pc := 37) (fs2 := [_, _, _, _, _, _, _, _, _, _, _, _, _, _, _, _, _, _, _, _, _]) dM_init_37 rfl fM_19 ⟨_, _, rfl⟩ (by first | exact zu_s | exact h0 | (rw [zu_n (by omega)]; first | exact zu_s | exact h0)) (by rfl) (by rfl) (by exact Nat.le_of_ble_eq_true rfl) (by rfl) ?_
  rw [zu_cm (a := a) (b := a + 1 + 1 + 1 + 1) (by omega), zu_zu]
  refine zs_aload_n (pc := 40) dM_init_40 rfl ?_
  refine zs_iconst (pc := 41) dM_init_41 zi_m1 ?_
  refine zs_putU (pc := 42) (fs2 := [_, _, _, _, _, _, _, _, _, _, _, _, _, _, _, _, _, _, _, _, _]) dM_init_42 fM_22 (by rfl) (by rfl) (by exact Nat.le_of_ble_eq_true rfl) (by rfl) ?_
  refine zs_aload_n (pc := 45) dM_init_45 rfl ?_
  refine zs_iconst (pc := 46) dM_init_46 zi_m1 ?_
  refine zs_putU (pc := 47) (fs2 := [_, _, _, _, _, _, _, _, _, _, _, _, _, _, _, _, _, _, _, _, _]) dM_init_47 fM_26 (by rfl) (by rfl) (by exact Nat.le_of_ble_eq_true rfl) (by rfl) ?_
  refine zs_aload_n (pc := 50) dM_init_50 rfl ?_
  refine zs_bipush (pc := 51) dM_init_51 (zi_b 60 (by decide)) ?_
  refine zs_newa (pc := 53) (kd := 0) (N := 60) (a0 := (60, .inl (fun i => nI ((fun _ => 0) i)))) dM_init_53 (by decide) rfl (by decide) (zt1 (i := 84) rfl) (fun cA => rfl) (by decide) (by decide) (by decide) (by omega) (by omega) ?_
  refine zs_putF (pc := 55) (fs2 := [_, _, _, _, _, _, _, _, _, _, _, _, _, _, _, _, _, _, _, _, _]) dM_init_55 rfl fM_29 ⟨_, _, rfl⟩ (by first | exact zu_s | exact h0 | (rw [zu_n (by omega)]; first | exact zu_s | exact h0)) (by rfl) (by rfl) (by exact Nat.le_of_ble_eq_true rfl) (by rfl) ?_
  rw [zu_cm (a := a) (b := a + 1 + 1 + 1 + 1 + 1) (by omega), zu_zu]
  refine zs_aload_n (pc := 58) dM_init_58 rfl ?_
  refine zs_sipush (pc := 59) dM_init_59 (zi_s 600 (by decide)) ?_
  refine zs_newa (pc := 62) (kd := 0) (N := 600) (a0 := (600, .inl (fun i => nI ((fun _ => 0) i)))) dM_init_62 (by decide) rfl (by decide) (zt1 (i := 84) rfl) (fun cA => rfl) (by decide) (by decide) (by decide) (by omega) (by omega) ?_
  refine zs_putF (pc := 64) (fs2 := [_, _, _, _, _, _, _, _, _, _, _, _, _, _, _, _, _, _, _, _, _]) dM_init_64 rfl fM_32 ⟨_, _, rfl⟩ (by first | exact zu_s | exact h0 | (rw [zu_n (by omega)]; first | exact zu_s | exact h0)) (by rfl) (by rfl) (by exact Nat.le_of_ble_eq_true rfl) (by rfl) ?_
  rw [zu_cm (a := a) (b := a + 1 + 1 + 1 + 1 + 1 + 1) (by omega), zu_zu]
  refine zs_aload_n (pc := 67) dM_init_67 rfl ?_
  refine zs_bipush (pc := 68) dM_init_68 (zi_b 56 (by decide)) ?_
  refine zs_newa (pc := 70) (kd := 1) (N := 56) (a0 := (56, .inl (fun i => nI ((fun _ => 0) i)))) dM_init_70 (by decide) rfl (by decide) (zt1 (i := 212) rfl) (fun cA => rfl) (by decide) (by decide) (by decide) (by omega) (by omega) ?_
  refine zs_dup (pc := 72) dM_init_72 rfl ?_
  refine zs_iconst (pc := 73) dM_init_73 zi_0 ?_
  refine zs_bipush (pc := 74) dM_init_74 (zi_b 101 (by decide)) ?_
  refine zn_castU (pc := 76) dM_init_76 (by decide) (by first | decide | assumption) (by decide) ?_
  refine zs_dup (pc := 77) dM_init_77 rfl ?_
  refine zs_iconst (pc := 78) dM_init_78 zi_1 ?_
  refine zs_bipush (pc := 79) dM_init_79 (zi_b 110 (by decide)) ?_
  refine zn_castU (pc := 81) dM_init_81 (by decide) (by first | decide | assumption) (by decide) ?_
  refine zs_dup (pc := 82) dM_init_82 rfl ?_
  refine zs_iconst (pc := 83) dM_init_83 zi_2 ?_
  refine zs_bipush (pc := 84) dM_init_84 (zi_b 116 (by decide)) ?_
  refine zn_castU (pc := 86) dM_init_86 (by decide) (by first | decide | assumption) (by decide) ?_
  refine zs_dup (pc := 87) dM_init_87 rfl ?_
  refine zs_iconst (pc := 88) dM_init_88 zi_3 ?_
  refine zs_bipush (pc := 89) dM_init_89 (zi_b 114 (by decide)) ?_
  refine zn_castU (pc := 91) dM_init_91 (by decide) (by first | decide | assumption) (by decide) ?_
  refine zs_dup (pc := 92) dM_init_92 rfl ?_
  refine zs_iconst (pc := 93) dM_init_93 zi_4 ?_
  refine zs_bipush (pc := 94) dM_init_94 (zi_b 121 (by decide)) ?_
  refine zn_castU (pc := 96) dM_init_96 (by decide) (by first | decide | assumption) (by decide) ?_
  refine zs_dup (pc := 97) dM_init_97 rfl ?_
  refine zs_iconst (pc := 98) dM_init_98 zi_5 ?_
  refine zs_bipush (pc := 99) dM_init_99 (zi_b 32 (by decide)) ?_
  refine zn_castU (pc := 101) dM_init_101 (by decide) (by first | decide | assumption) (by decide) ?_
  refine zs_dup (pc := 102) dM_init_102 rfl ?_
  refine zs_bipush (pc := 103) dM_init_103 (zi_b 6 (by decide)) ?_
  refine zs_bipush (pc := 105) dM_init_105 (zi_b 99 (by decide)) ?_
  refine zn_castU (pc := 107) dM_init_107 (by decide) (by first | decide | assumption) (by decide) ?_
  refine zs_dup (pc := 108) dM_init_108 rfl ?_
  refine zs_bipush (pc := 109) dM_init_109 (zi_b 7 (by decide)) ?_
  refine zs_bipush (pc := 111) dM_init_111 (zi_b 111 (by decide)) ?_
  refine zn_castU (pc := 113) dM_init_113 (by decide) (by first | decide | assumption) (by decide) ?_
  refine zs_dup (pc := 114) dM_init_114 rfl ?_
  refine zs_bipush (pc := 115) dM_init_115 (zi_b 8 (by decide)) ?_
  refine zs_bipush (pc := 117) dM_init_117 (zi_b 100 (by decide)) ?_
  refine zn_castU (pc := 119) dM_init_119 (by decide) (by first | decide | assumption) (by decide) ?_
  refine zs_dup (pc := 120) dM_init_120 rfl ?_
  refine zs_bipush (pc := 121) dM_init_121 (zi_b 9 (by decide)) ?_
  refine zs_bipush (pc := 123) dM_init_123 (zi_b 101 (by decide)) ?_
  refine zn_castU (pc := 125) dM_init_125 (by decide) (by first | decide | assumption) (by decide) ?_
  refine zs_dup (pc := 126) dM_init_126 rfl ?_
  refine zs_bipush (pc := 127) dM_init_127 (zi_b 10 (by decide)) ?_
  refine zs_bipush (pc := 129) dM_init_129 (zi_b 32 (by decide)) ?_
  refine zn_castU (pc := 131) dM_init_131 (by decide) (by first | decide | assumption) (by decide) ?_
  refine zs_dup (pc := 132) dM_init_132 rfl ?_
  refine zs_bipush (pc := 133) dM_init_133 (zi_b 11 (by decide)) ?_
  refine zs_bipush (pc := 135) dM_init_135 (zi_b 117 (by decide)) ?_
  refine zn_castU (pc := 137) dM_init_137 (by decide) (by first | decide | assumption) (by decide) ?_
  refine zs_dup (pc := 138) dM_init_138 rfl ?_
  refine zs_bipush (pc := 139) dM_init_139 (zi_b 12 (by decide)) ?_
  refine zs_bipush (pc := 141) dM_init_141 (zi_b 110 (by decide)) ?_
  refine zn_castU (pc := 143) dM_init_143 (by decide) (by first | decide | assumption) (by decide) ?_
  refine zs_dup (pc := 144) dM_init_144 rfl ?_
  refine zs_bipush (pc := 145) dM_init_145 (zi_b 13 (by decide)) ?_
  refine zs_bipush (pc := 147) dM_init_147 (zi_b 99 (by decide)) ?_
  refine zn_castU (pc := 149) dM_init_149 (by decide) (by first | decide | assumption) (by decide) ?_
  refine zs_dup (pc := 150) dM_init_150 rfl ?_
  refine zs_bipush (pc := 151) dM_init_151 (zi_b 14 (by decide)) ?_
  refine zs_bipush (pc := 153) dM_init_153 (zi_b 111 (by decide)) ?_
  refine zn_castU (pc := 155) dM_init_155 (by decide) (by first | decide | assumption) (by decide) ?_
  refine zs_dup (pc := 156) dM_init_156 rfl ?_
  refine zs_bipush (pc := 157) dM_init_157 (zi_b 15 (by decide)) ?_
  refine zs_bipush (pc := 159) dM_init_159 (zi_b 100 (by decide)) ?_
  refine zn_castU (pc := 161) dM_init_161 (by decide) (by first | decide | assumption) (by decide) ?_
  refine zs_dup (pc := 162) dM_init_162 rfl ?_
  refine zs_bipush (pc := 163) dM_init_163 (zi_b 16 (by decide)) ?_
  refine zs_bipush (pc := 165) dM_init_165 (zi_b 101 (by decide)) ?_
  refine zn_castU (pc := 167) dM_init_167 (by decide) (by first | decide | assumption) (by decide) ?_
  refine zs_dup (pc := 168) dM_init_168 rfl ?_
  refine zs_bipush (pc := 169) dM_init_169 (zi_b 17 (by decide)) ?_
  refine zs_bipush (pc := 171) dM_init_171 (zi_b 32 (by decide)) ?_
  refine zn_castU (pc := 173) dM_init_173 (by decide) (by first | decide | assumption) (by decide) ?_
  refine zs_dup (pc := 174) dM_init_174 rfl ?_
  refine zs_bipush (pc := 175) dM_init_175 (zi_b 18 (by decide)) ?_
  refine zs_bipush (pc := 177) dM_init_177 (zi_b 100 (by decide)) ?_
  refine zn_castU (pc := 179) dM_init_179 (by decide) (by first | decide | assumption) (by decide) ?_
  refine zs_dup (pc := 180) dM_init_180 rfl ?_
  refine zs_bipush (pc := 181) dM_init_181 (zi_b 19 (by decide)) ?_
  refine zs_bipush (pc := 183) dM_init_183 (zi_b 114 (by decide)) ?_
  refine zn_castU (pc := 185) dM_init_185 (by decide) (by first | decide | assumption) (by decide) ?_
  refine zs_dup (pc := 186) dM_init_186 rfl ?_
  refine zs_bipush (pc := 187) dM_init_187 (zi_b 20 (by decide)) ?_
  refine zs_bipush (pc := 189) dM_init_189 (zi_b 111 (by decide)) ?_
  refine zn_castU (pc := 191) dM_init_191 (by decide) (by first | decide | assumption) (by decide) ?_
  refine zs_dup (pc := 192) dM_init_192 rfl ?_
  refine zs_bipush (pc := 193) dM_init_193 (zi_b 21 (by decide)) ?_
  refine zs_bipush (pc := 195) dM_init_195 (zi_b 112 (by decide)) ?_
  refine zn_castU (pc := 197) dM_init_197 (by decide) (by first | decide | assumption) (by decide) ?_
  refine zs_dup (pc := 198) dM_init_198 rfl ?_
  refine zs_bipush (pc := 199) dM_init_199 (zi_b 22 (by decide)) ?_
  refine zs_bipush (pc := 201) dM_init_201 (zi_b 32 (by decide)) ?_
  refine zn_castU (pc := 203) dM_init_203 (by decide) (by first | decide | assumption) (by decide) ?_
  refine zs_dup (pc := 204) dM_init_204 rfl ?_
  refine zs_bipush (pc := 205) dM_init_205 (zi_b 23 (by decide)) ?_
  refine zs_bipush (pc := 207) dM_init_207 (zi_b 116 (by decide)) ?_
  refine zn_castU (pc := 209) dM_init_209 (by decide) (by first | decide | assumption) (by decide) ?_
  refine zs_dup (pc := 210) dM_init_210 rfl ?_
  refine zs_bipush (pc := 211) dM_init_211 (zi_b 24 (by decide)) ?_
  refine zs_bipush (pc := 213) dM_init_213 (zi_b 111 (by decide)) ?_
  refine zn_castU (pc := 215) dM_init_215 (by decide) (by first | decide | assumption) (by decide) ?_
  refine zs_dup (pc := 216) dM_init_216 rfl ?_
  refine zs_bipush (pc := 217) dM_init_217 (zi_b 25 (by decide)) ?_
  refine zs_bipush (pc := 219) dM_init_219 (zi_b 117 (by decide)) ?_
  refine zn_castU (pc := 221) dM_init_221 (by decide) (by first | decide | assumption) (by decide) ?_
  refine zs_dup (pc := 222) dM_init_222 rfl ?_
  refine zs_bipush (pc := 223) dM_init_223 (zi_b 26 (by decide)) ?_
  refine zs_bipush (pc := 225) dM_init_225 (zi_b 99 (by decide)) ?_
  refine zn_castU (pc := 227) dM_init_227 (by decide) (by first | decide | assumption) (by decide) ?_
  refine zs_dup (pc := 228) dM_init_228 rfl ?_
  refine zs_bipush (pc := 229) dM_init_229 (zi_b 27 (by decide)) ?_
  refine zs_bipush (pc := 231) dM_init_231 (zi_b 104 (by decide)) ?_
  refine zn_castU (pc := 233) dM_init_233 (by decide) (by first | decide | assumption) (by decide) ?_
  refine zs_dup (pc := 234) dM_init_234 rfl ?_
  refine zs_bipush (pc := 235) dM_init_235 (zi_b 28 (by decide)) ?_
  refine zs_bipush (pc := 237) dM_init_237 (zi_b 32 (by decide)) ?_
  refine zn_castU (pc := 239) dM_init_239 (by decide) (by first | decide | assumption) (by decide) ?_
  refine zs_dup (pc := 240) dM_init_240 rfl ?_
  refine zs_bipush (pc := 241) dM_init_241 (zi_b 29 (by decide)) ?_
  refine zs_bipush (pc := 243) dM_init_243 (zi_b 109 (by decide)) ?_
  refine zn_castU (pc := 245) dM_init_245 (by decide) (by first | decide | assumption) (by decide) ?_
  refine zs_dup (pc := 246) dM_init_246 rfl ?_
  refine zs_bipush (pc := 247) dM_init_247 (zi_b 30 (by decide)) ?_
  refine zs_bipush (pc := 249) dM_init_249 (zi_b 101 (by decide)) ?_
  refine zn_castU (pc := 251) dM_init_251 (by decide) (by first | decide | assumption) (by decide) ?_
  refine zs_dup (pc := 252) dM_init_252 rfl ?_
  refine zs_bipush (pc := 253) dM_init_253 (zi_b 31 (by decide)) ?_
  refine zs_bipush (pc := 255) dM_init_255 (zi_b 114 (by decide)) ?_
  refine zn_castU (pc := 257) dM_init_257 (by decide) (by first | decide | assumption) (by decide) ?_
  refine zs_dup (pc := 258) dM_init_258 rfl ?_
  refine zs_bipush (pc := 259) dM_init_259 (zi_b 32 (by decide)) ?_
  refine zs_bipush (pc := 261) dM_init_261 (zi_b 103 (by decide)) ?_
  refine zn_castU (pc := 263) dM_init_263 (by decide) (by first | decide | assumption) (by decide) ?_
  refine zs_dup (pc := 264) dM_init_264 rfl ?_
  refine zs_bipush (pc := 265) dM_init_265 (zi_b 33 (by decide)) ?_
  refine zs_bipush (pc := 267) dM_init_267 (zi_b 101 (by decide)) ?_
  refine zn_castU (pc := 269) dM_init_269 (by decide) (by first | decide | assumption) (by decide) ?_
  refine zs_dup (pc := 270) dM_init_270 rfl ?_
  refine zs_bipush (pc := 271) dM_init_271 (zi_b 34 (by decide)) ?_
  refine zs_bipush (pc := 273) dM_init_273 (zi_b 32 (by decide)) ?_
  refine zn_castU (pc := 275) dM_init_275 (by decide) (by first | decide | assumption) (by decide) ?_
  refine zs_dup (pc := 276) dM_init_276 rfl ?_
  refine zs_bipush (pc := 277) dM_init_277 (zi_b 35 (by decide)) ?_
  refine zs_bipush (pc := 279) dM_init_279 (zi_b 115 (by decide)) ?_
  refine zn_castU (pc := 281) dM_init_281 (by decide) (by first | decide | assumption) (by decide) ?_
  refine zs_dup (pc := 282) dM_init_282 rfl ?_
  refine zs_bipush (pc := 283) dM_init_283 (zi_b 36 (by decide)) ?_
  refine zs_bipush (pc := 285) dM_init_285 (zi_b 101 (by decide)) ?_
  refine zn_castU (pc := 287) dM_init_287 (by decide) (by first | decide | assumption) (by decide) ?_
  refine zs_dup (pc := 288) dM_init_288 rfl ?_
  refine zs_bipush (pc := 289) dM_init_289 (zi_b 37 (by decide)) ?_
  refine zs_bipush (pc := 291) dM_init_291 (zi_b 103 (by decide)) ?_
  refine zn_castU (pc := 293) dM_init_293 (by decide) (by first | decide | assumption) (by decide) ?_
  refine zs_dup (pc := 294) dM_init_294 rfl ?_
  refine zs_bipush (pc := 295) dM_init_295 (zi_b 38 (by decide)) ?_
  refine zs_bipush (pc := 297) dM_init_297 (zi_b 109 (by decide)) ?_
  refine zn_castU (pc := 299) dM_init_299 (by decide) (by first | decide | assumption) (by decide) ?_
  refine zs_dup (pc := 300) dM_init_300 rfl ?_
  refine zs_bipush (pc := 301) dM_init_301 (zi_b 39 (by decide)) ?_
  refine zs_bipush (pc := 303) dM_init_303 (zi_b 101 (by decide)) ?_
  refine zn_castU (pc := 305) dM_init_305 (by decide) (by first | decide | assumption) (by decide) ?_
  refine zs_dup (pc := 306) dM_init_306 rfl ?_
  refine zs_bipush (pc := 307) dM_init_307 (zi_b 40 (by decide)) ?_
  refine zs_bipush (pc := 309) dM_init_309 (zi_b 110 (by decide)) ?_
  refine zn_castU (pc := 311) dM_init_311 (by decide) (by first | decide | assumption) (by decide) ?_
  refine zs_dup (pc := 312) dM_init_312 rfl ?_
  refine zs_bipush (pc := 313) dM_init_313 (zi_b 41 (by decide)) ?_
  refine zs_bipush (pc := 315) dM_init_315 (zi_b 116 (by decide)) ?_
  refine zn_castU (pc := 317) dM_init_317 (by decide) (by first | decide | assumption) (by decide) ?_
  refine zs_dup (pc := 318) dM_init_318 rfl ?_
  refine zs_bipush (pc := 319) dM_init_319 (zi_b 42 (by decide)) ?_
  refine zs_bipush (pc := 321) dM_init_321 (zi_b 106 (by decide)) ?_
  refine zn_castU (pc := 323) dM_init_323 (by decide) (by first | decide | assumption) (by decide) ?_
  refine zs_dup (pc := 324) dM_init_324 rfl ?_
  refine zs_bipush (pc := 325) dM_init_325 (zi_b 43 (by decide)) ?_
  refine zs_bipush (pc := 327) dM_init_327 (zi_b 111 (by decide)) ?_
  refine zn_castU (pc := 329) dM_init_329 (by decide) (by first | decide | assumption) (by decide) ?_
  refine zs_dup (pc := 330) dM_init_330 rfl ?_
  refine zs_bipush (pc := 331) dM_init_331 (zi_b 44 (by decide)) ?_
  refine zs_bipush (pc := 333) dM_init_333 (zi_b 105 (by decide)) ?_
  refine zn_castU (pc := 335) dM_init_335 (by decide) (by first | decide | assumption) (by decide) ?_
  refine zs_dup (pc := 336) dM_init_336 rfl ?_
  refine zs_bipush (pc := 337) dM_init_337 (zi_b 45 (by decide)) ?_
  refine zs_bipush (pc := 339) dM_init_339 (zi_b 110 (by decide)) ?_
  refine zn_castU (pc := 341) dM_init_341 (by decide) (by first | decide | assumption) (by decide) ?_
  refine zs_dup (pc := 342) dM_init_342 rfl ?_
  refine zs_bipush (pc := 343) dM_init_343 (zi_b 46 (by decide)) ?_
  refine zs_bipush (pc := 345) dM_init_345 (zi_b 32 (by decide)) ?_
  refine zn_castU (pc := 347) dM_init_347 (by decide) (by first | decide | assumption) (by decide) ?_
  refine zs_dup (pc := 348) dM_init_348 rfl ?_
  refine zs_bipush (pc := 349) dM_init_349 (zi_b 47 (by decide)) ?_
  refine zs_bipush (pc := 351) dM_init_351 (zi_b 102 (by decide)) ?_
  refine zn_castU (pc := 353) dM_init_353 (by decide) (by first | decide | assumption) (by decide) ?_
  refine zs_dup (pc := 354) dM_init_354 rfl ?_
  refine zs_bipush (pc := 355) dM_init_355 (zi_b 48 (by decide)) ?_
  refine zs_bipush (pc := 357) dM_init_357 (zi_b 105 (by decide)) ?_
  refine zn_castU (pc := 359) dM_init_359 (by decide) (by first | decide | assumption) (by decide) ?_
  refine zs_dup (pc := 360) dM_init_360 rfl ?_
  refine zs_bipush (pc := 361) dM_init_361 (zi_b 49 (by decide)) ?_
  refine zs_bipush (pc := 363) dM_init_363 (zi_b 110 (by decide)) ?_
  refine zn_castU (pc := 365) dM_init_365 (by decide) (by first | decide | assumption) (by decide) ?_
  refine zs_dup (pc := 366) dM_init_366 rfl ?_
  refine zs_bipush (pc := 367) dM_init_367 (zi_b 50 (by decide)) ?_
  refine zs_bipush (pc := 369) dM_init_369 (zi_b 100 (by decide)) ?_
  refine zn_castU (pc := 371) dM_init_371 (by decide) (by first | decide | assumption) (by decide) ?_
  refine zs_dup (pc := 372) dM_init_372 rfl ?_
  refine zs_bipush (pc := 373) dM_init_373 (zi_b 51 (by decide)) ?_
  refine zs_bipush (pc := 375) dM_init_375 (zi_b 100 (by decide)) ?_
  refine zn_castU (pc := 377) dM_init_377 (by decide) (by first | decide | assumption) (by decide) ?_
  refine zs_dup (pc := 378) dM_init_378 rfl ?_
  refine zs_bipush (pc := 379) dM_init_379 (zi_b 52 (by decide)) ?_
  refine zs_bipush (pc := 381) dM_init_381 (zi_b 97 (by decide)) ?_
  refine zn_castU (pc := 383) dM_init_383 (by decide) (by first | decide | assumption) (by decide) ?_
  refine zs_dup (pc := 384) dM_init_384 rfl ?_
  refine zs_bipush (pc := 385) dM_init_385 (zi_b 53 (by decide)) ?_
  refine zs_bipush (pc := 387) dM_init_387 (zi_b 121 (by decide)) ?_
  refine zn_castU (pc := 389) dM_init_389 (by decide) (by first | decide | assumption) (by decide) ?_
  refine zs_dup (pc := 390) dM_init_390 rfl ?_
  refine zs_bipush (pc := 391) dM_init_391 (zi_b 54 (by decide)) ?_
  refine zs_bipush (pc := 393) dM_init_393 (zi_b 115 (by decide)) ?_
  refine zn_castU (pc := 395) dM_init_395 (by decide) (by first | decide | assumption) (by decide) ?_
  refine zs_dup (pc := 396) dM_init_396 rfl ?_
  refine zs_bipush (pc := 397) dM_init_397 (zi_b 55 (by decide)) ?_
  refine zs_bipush (pc := 399) dM_init_399 (zi_b 32 (by decide)) ?_
  refine zn_castU (pc := 401) dM_init_401 (by decide) (by first | decide | assumption) (by decide) ?_
  refine zs_extn zLt zu_s (by decide +kernel) ?_
  rw [zu_zu]
  refine zs_putF (pc := 402) (fs2 := [_, _, _, _, _, _, _, _, _, _, _, _, _, _, _, _, _, _, _, _, _]) dM_init_402 rfl fM_35 ⟨_, _, rfl⟩ (by first | exact zu_s | exact h0 | (rw [zu_n (by omega)]; first | exact zu_s | exact h0)) (by rfl) (by rfl) (by exact Nat.le_of_ble_eq_true rfl) (by rfl) ?_
  rw [zu_cm (a := a) (b := a + 1 + 1 + 1 + 1 + 1 + 1 + 1) (by omega), zu_zu]
  refine zs_aload_n (pc := 405) dM_init_405 rfl ?_
  refine zs_bipush (pc := 406) dM_init_406 (zi_b 11 (by decide)) ?_
  refine zs_newa (pc := 408) (kd := 0) (N := 11) (a0 := (11, .inl (fun i => nI ((fun _ => 0) i)))) dM_init_408 (by decide) rfl (by decide) (zt1 (i := 84) rfl) (fun cA => rfl) (by decide) (by decide) (by decide) (by omega) (by omega) ?_
  refine zs_dup (pc := 410) dM_init_410 rfl ?_
  refine zs_iconst (pc := 411) dM_init_411 zi_0 ?_
  refine zs_iconst (pc := 412) dM_init_412 zi_0 ?_
  refine zn_iastU (pc := 413) dM_init_413 (by decide) (by first | decide | assumption) ?_
  refine zs_dup (pc := 414) dM_init_414 rfl ?_
  refine zs_iconst (pc := 415) dM_init_415 zi_1 ?_
  refine zs_bipush (pc := 416) dM_init_416 (zi_b 6 (by decide)) ?_
  refine zn_iastU (pc := 418) dM_init_418 (by decide) (by first | decide | assumption) ?_
  refine zs_dup (pc := 419) dM_init_419 rfl ?_
  refine zs_iconst (pc := 420) dM_init_420 zi_2 ?_
  refine zs_bipush (pc := 421) dM_init_421 (zi_b 11 (by decide)) ?_
  refine zn_iastU (pc := 423) dM_init_423 (by decide) (by first | decide | assumption) ?_
  refine zs_dup (pc := 424) dM_init_424 rfl ?_
  refine zs_iconst (pc := 425) dM_init_425 zi_3 ?_
  refine zs_bipush (pc := 426) dM_init_426 (zi_b 18 (by decide)) ?_
  refine zn_iastU (pc := 428) dM_init_428 (by decide) (by first | decide | assumption) ?_
  refine zs_dup (pc := 429) dM_init_429 rfl ?_
  refine zs_iconst (pc := 430) dM_init_430 zi_4 ?_
  refine zs_bipush (pc := 431) dM_init_431 (zi_b 23 (by decide)) ?_
  refine zn_iastU (pc := 433) dM_init_433 (by decide) (by first | decide | assumption) ?_
  refine zs_dup (pc := 434) dM_init_434 rfl ?_
  refine zs_iconst (pc := 435) dM_init_435 zi_5 ?_
  refine zs_bipush (pc := 436) dM_init_436 (zi_b 29 (by decide)) ?_
  refine zn_iastU (pc := 438) dM_init_438 (by decide) (by first | decide | assumption) ?_
  refine zs_dup (pc := 439) dM_init_439 rfl ?_
  refine zs_bipush (pc := 440) dM_init_440 (zi_b 6 (by decide)) ?_
  refine zs_bipush (pc := 442) dM_init_442 (zi_b 35 (by decide)) ?_
  refine zn_iastU (pc := 444) dM_init_444 (by decide) (by first | decide | assumption) ?_
  refine zs_dup (pc := 445) dM_init_445 rfl ?_
  refine zs_bipush (pc := 446) dM_init_446 (zi_b 7 (by decide)) ?_
  refine zs_bipush (pc := 448) dM_init_448 (zi_b 42 (by decide)) ?_
  refine zn_iastU (pc := 450) dM_init_450 (by decide) (by first | decide | assumption) ?_
  refine zs_dup (pc := 451) dM_init_451 rfl ?_
  refine zs_bipush (pc := 452) dM_init_452 (zi_b 8 (by decide)) ?_
  refine zs_bipush (pc := 454) dM_init_454 (zi_b 47 (by decide)) ?_
  refine zn_iastU (pc := 456) dM_init_456 (by decide) (by first | decide | assumption) ?_
  refine zs_dup (pc := 457) dM_init_457 rfl ?_
  refine zs_bipush (pc := 458) dM_init_458 (zi_b 9 (by decide)) ?_
  refine zs_bipush (pc := 460) dM_init_460 (zi_b 51 (by decide)) ?_
  refine zn_iastU (pc := 462) dM_init_462 (by decide) (by first | decide | assumption) ?_
  refine zs_dup (pc := 463) dM_init_463 rfl ?_
  refine zs_bipush (pc := 464) dM_init_464 (zi_b 10 (by decide)) ?_
  refine zs_bipush (pc := 466) dM_init_466 (zi_b 56 (by decide)) ?_
  refine zn_iastU (pc := 468) dM_init_468 (by decide) (by first | decide | assumption) ?_
  refine zs_extn zBg zu_s (by decide +kernel) ?_
  rw [zu_zu]
  refine zs_putF (pc := 469) (fs2 := [_, _, _, _, _, _, _, _, _, _, _, _, _, _, _, _, _, _, _, _, _]) dM_init_469 rfl fM_39 ⟨_, _, rfl⟩ (by first | exact zu_s | exact h0 | (rw [zu_n (by omega)]; first | exact zu_s | exact h0)) (by rfl) (by rfl) (by exact Nat.le_of_ble_eq_true rfl) (by rfl) ?_
  rw [zu_cm (a := a) (b := a + 1 + 1 + 1 + 1 + 1 + 1 + 1 + 1) (by omega), zu_zu]
  refine zs_aload_n (pc := 472) dM_init_472 rfl ?_
  refine zs_sipush (pc := 473) dM_init_473 (zi_s 183 (by decide)) ?_
  refine zs_newa (pc := 476) (kd := 0) (N := 183) (a0 := (183, .inl (fun i => nI ((fun _ => 0) i)))) dM_init_476 (by decide) rfl (by decide) (zt1 (i := 84) rfl) (fun cA => rfl) (by decide) (by decide) (by decide) (by omega) (by omega) ?_
  refine zs_putF (pc := 478) (fs2 := [_, _, _, _, _, _, _, _, _, _, _, _, _, _, _, _, _, _, _, _, _]) dM_init_478 rfl fM_42 ⟨_, _, rfl⟩ (by first | exact zu_s | exact h0 | (rw [zu_n (by omega)]; first | exact zu_s | exact h0)) (by rfl) (by rfl) (by exact Nat.le_of_ble_eq_true rfl) (by rfl) ?_
  rw [zu_cm (a := a) (b := a + 1 + 1 + 1 + 1 + 1 + 1 + 1 + 1 + 1) (by omega), zu_zu]
  refine zs_aload_n (pc := 481) dM_init_481 rfl ?_
  refine zs_get (pc := 482) dM_init_482 fM_9 (by first | exact zu_s | (rw [zu_n (by omega), zu_n (by omega), zu_n (by omega), zu_n (by omega), zu_n (by omega), zu_n (by omega), zu_n (by omega), zu_n (by omega), zu_n (by omega)]; exact zu_s)) (by rfl) ?_
  refine zs_iconst (pc := 485) dM_init_485 zi_2 ?_
  refine zs_iconst (pc := 486) dM_init_486 zi_1 ?_
  refine zn_iast (pc := 487) dM_init_487 (by first | exact zu_s | (rw [zu_n (by omega), zu_n (by omega), zu_n (by omega), zu_n (by omega), zu_n (by omega), zu_n (by omega), zu_n (by omega), zu_n (by omega), zu_n (by omega)]; exact zu_s)) (by decide) (by first | decide | assumption) ?_
  refine zs_extn (a := a + 1) zg0 zu_s (fun q hq => ?_) ?_
  · unfold zup zg0; split <;> rfl
  rw [zu_zu]
  exact zs_vret (pc := 488) dM_init_488 rfl (by omega) (by omega) (⟨rfl, rfl, fun q hq => by rw [zu_n (by omega), zu_n (by omega), zu_n (by omega), zu_n (by omega), zu_n (by omega), zu_n (by omega), zu_n (by omega), zu_n (by omega), zu_n (by omega), zu_n (by omega), zu_n (by omega)], by rw [zu_n (by omega)]; exact zu_s, zu_s, by rw [zu_n (by omega), zu_n (by omega), zu_n (by omega), zu_n (by omega), zu_n (by omega), zu_n (by omega), zu_n (by omega), zu_n (by omega), zu_n (by omega)]; exact zu_s, by rw [zu_n (by omega), zu_n (by omega), zu_n (by omega), zu_n (by omega), zu_n (by omega), zu_n (by omega), zu_n (by omega), zu_n (by omega)]; exact zu_s, by rw [zu_n (by omega), zu_n (by omega), zu_n (by omega), zu_n (by omega), zu_n (by omega), zu_n (by omega), zu_n (by omega)]; exact zu_s, by rw [zu_n (by omega), zu_n (by omega), zu_n (by omega), zu_n (by omega), zu_n (by omega), zu_n (by omega)]; exact zu_s, by rw [zu_n (by omega), zu_n (by omega), zu_n (by omega), zu_n (by omega), zu_n (by omega)]; exact zu_s, by rw [zu_n (by omega), zu_n (by omega), zu_n (by omega), zu_n (by omega)]; exact zu_s, by rw [zu_n (by omega), zu_n (by omega), zu_n (by omega)]; exact zu_s, by rw [zu_n (by omega), zu_n (by omega)]; exact zu_s⟩)

