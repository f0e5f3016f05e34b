/-! the law: its cases, its loop -/
def RMm (k cc kc ks : Nat) : Prop := cc ≤ k ∧ kc ≤ 62 + 5 * k ∧ ((cc < 10 ∧ ks ≤ 42616 + 700 * k) ∨ (10 ≤ cc ∧ ks ≤ 49616 + 14404 * (k - 10)))
theorem RMm.room {k cc kc ks mc1 ms1 : Nat} (h : RMm k cc kc ks) (hk : k < 512) (h1 : mc1 ≤ 5) (h2 : ms1 ≤ 14404) : kc + mc1 ≤ 600000 ∧ ks + ms1 ≤ 7302250 := by
  obtain ⟨a1, a2, a3⟩ := h
  constructor
  · omega
  · rcases a3 with ⟨-, a3⟩ | ⟨a4, a3⟩ <;> omega
theorem RMm.step {k cc cc' kc ks mc1 ms1 : Nat} (h : RMm k cc kc ks) (h1 : mc1 ≤ 5) (h2 : ms1 ≤ 14404) (h3 : cc < 10 → ms1 ≤ 700) (h4 : cc' = cc ∨ cc' = cc + 1) : RMm (k + 1) cc' (kc + mc1) (ks + ms1) := by
  obtain ⟨a1, a2, a3⟩ := h
  refine ⟨by omega, by omega, ?_⟩
  rcases a3 with ⟨a4, a3⟩ | ⟨a4, a3⟩
  · have := h3 a4
    by_cases h10 : cc' < 10
    · exact Or.inl ⟨h10, by omega⟩
    · exact Or.inr ⟨by omega, by omega⟩
  · exact Or.inr ⟨by omega, by omega⟩
section LW
variable {G : GT} {b L : Nat} {xs : Nat → Int32} {k cc i kc ks q8 a0 : Nat} {w : va_W}
abbrev LV (b q8 a0 i : Nat) : List (Nat × Value) := [(0, .ref b), (1, .ref q8), (2, .ref a0), (3, .int (nI i))]
theorem law_feed (hL : L ≤ 3072) (hi : i + 6 ≤ L) (hk : k < 512) (hS : STt G k cc q8 a0 w) (hr : RMm k cc kc ks) (kk : ∀ (w' : va_W) (cc' kc' ks' : Nat), STt G (k + 1) cc' q8 a0 w' → RMm (k + 1) cc' kc' ks' → LJ G b L xs 865 (LV b q8 a0 i) [] w' kc' ks') : LJ G b L xs 140 (LV b q8 a0 i) [] w kc ks := by
  obtain ⟨d1, mc1, ms1, f1, fs, b1, b2, b3, b4, he, hM, hstep⟩ := st_feed (G := G) (cc := cc) (a := xs (i + 1)) (b := xs (i + 2)) (c := xs (i + 3)) (d := xs (i + 4)) (e := xs (i + 5))  q8 a0 w hS
  obtain ⟨g1, g2⟩ := hr.room hk b2 b3
  refine l_aload_n (n := 141) dL_law_140 rfl rfl ?_
  refine l_aload_n (n := 142) dL_law_141 rfl rfl ?_
  refine l_iload_n (n := 143) dL_law_142 rfl rfl ?_
  refine l_iconst (n := 144) (1) dL_law_143 rfl (by decide) ?_
  refine l_iadd (n := 145) dL_law_144 rfl ?_
  refine l_sld (n := 146) (i + 1) dL_law_145 rfl (nI_add i 1) (by omega) hL ?_
  refine l_aload_n (n := 147) dL_law_146 rfl rfl ?_
  refine l_iload_n (n := 148) dL_law_147 rfl rfl ?_
  refine l_iconst (n := 149) (2) dL_law_148 rfl (by decide) ?_
  refine l_iadd (n := 150) dL_law_149 rfl ?_
  refine l_sld (n := 151) (i + 2) dL_law_150 rfl (nI_add i 2) (by omega) hL ?_
  refine l_aload_n (n := 152) dL_law_151 rfl rfl ?_
  refine l_iload_n (n := 153) dL_law_152 rfl rfl ?_
  refine l_iconst (n := 154) (3) dL_law_153 rfl (by decide) ?_
  refine l_iadd (n := 155) dL_law_154 rfl ?_
  refine l_sld (n := 156) (i + 3) dL_law_155 rfl (nI_add i 3) (by omega) hL ?_
  refine l_aload_n (n := 157) dL_law_156 rfl rfl ?_
  refine l_iload_n (n := 158) dL_law_157 rfl rfl ?_
  refine l_iconst (n := 159) (4) dL_law_158 rfl (by decide) ?_
  refine l_iadd (n := 160) dL_law_159 rfl ?_
  refine l_sld (n := 161) (i + 4) dL_law_160 rfl (nI_add i 4) (by omega) hL ?_
  refine l_aload_n (n := 162) dL_law_161 rfl rfl ?_
  refine l_iload_n (n := 163) dL_law_162 rfl rfl ?_
  refine l_iconst (n := 164) (5) dL_law_163 rfl (by decide) ?_
  refine l_iadd (n := 165) dL_law_164 rfl ?_
  refine l_sld (n := 166) (i + 5) dL_law_165 rfl (nI_add i 5) (by omega) hL ?_
  refine l_callVi (n := 169) (Y1 := Y_X10_feed) 8 dL_law_166 m_L_13 cy_X10_feed ci_X10_feed hM rfl rfl rfl he rfl b1 g1 g2 (Nat.le_of_ble_eq_true rfl) (fun v1 w1 hf1 => ?_)
  obtain ⟨w1', d2, f2, gs, hp, c1, he2, hM2, hstep2⟩ := hstep v1 w1 hf1
  refine l_perm w1' hp ?_
  refine l_aload_n (n := 170) dL_law_169 rfl rfl ?_
  refine l_aload_n (n := 171) dL_law_170 rfl rfl ?_
  refine l_iload_n (n := 172) dL_law_171 rfl rfl ?_
  refine l_iconst (n := 173) (1) dL_law_172 rfl (by decide) ?_
  refine l_iadd (n := 174) dL_law_173 rfl ?_
  refine l_sld (n := 175) (i + 1) dL_law_174 rfl (nI_add i 1) (by omega) hL ?_
  refine l_aload_n (n := 176) dL_law_175 rfl rfl ?_
  refine l_iload_n (n := 177) dL_law_176 rfl rfl ?_
  refine l_iconst (n := 178) (2) dL_law_177 rfl (by decide) ?_
  refine l_iadd (n := 179) dL_law_178 rfl ?_
  refine l_sld (n := 180) (i + 2) dL_law_179 rfl (nI_add i 2) (by omega) hL ?_
  refine l_aload_n (n := 181) dL_law_180 rfl rfl ?_
  refine l_iload_n (n := 182) dL_law_181 rfl rfl ?_
  refine l_iconst (n := 183) (3) dL_law_182 rfl (by decide) ?_
  refine l_iadd (n := 184) dL_law_183 rfl ?_
  refine l_sld (n := 185) (i + 3) dL_law_184 rfl (nI_add i 3) (by omega) hL ?_
  refine l_aload_n (n := 186) dL_law_185 rfl rfl ?_
  refine l_iload_n (n := 187) dL_law_186 rfl rfl ?_
  refine l_iconst (n := 188) (4) dL_law_187 rfl (by decide) ?_
  refine l_iadd (n := 189) dL_law_188 rfl ?_
  refine l_sld (n := 190) (i + 4) dL_law_189 rfl (nI_add i 4) (by omega) hL ?_
  refine l_aload_n (n := 191) dL_law_190 rfl rfl ?_
  refine l_iload_n (n := 192) dL_law_191 rfl rfl ?_
  refine l_iconst (n := 193) (5) dL_law_192 rfl (by decide) ?_
  refine l_iadd (n := 194) dL_law_193 rfl ?_
  refine l_sld (n := 195) (i + 5) dL_law_194 rfl (nI_add i 5) (by omega) hL ?_
  refine l_callVi (n := 198) (Y1 := Y_X11_feed) 0 dL_law_195 m_L_17 cy_X11_feed ci_X11_feed hM2 rfl rfl rfl he2 rfl c1 g1 g2 (Nat.le_of_ble_eq_true rfl) (fun v2 w2 hf2 => ?_)
  obtain ⟨ev, w2', hp2, hS'⟩ := hstep2 v2 w2 hf2
  refine l_icmp_eq (n := 201) 865 dL_law_198 (by decide) rfl (fun _ => ?_) (fun c => absurd ev c)
  refine l_perm w2' hp2 ?_
  exact kk w2' _ _ _ hS' (hr.step b2 b3 b4 (Or.inl rfl))
theorem law_end (hL : L ≤ 3072) (hi : i + 6 ≤ L) (hk : k < 512) (hS : STt G k cc q8 a0 w) (hr : RMm k cc kc ks) (kk : ∀ (w' : va_W) (cc' kc' ks' : Nat), STt G (k + 1) cc' q8 a0 w' → RMm (k + 1) cc' kc' ks' → LJ G b L xs 865 (LV b q8 a0 i) [] w' kc' ks') : LJ G b L xs 203 (LV b q8 a0 i) [] w kc ks := by
  obtain ⟨d1, mc1, ms1, f1, fs, b1, b2, b3, b4, he, hM, hstep⟩ := st_end (G := G) (cc := cc) (n := xs (i + 1))  q8 a0 w hS
  obtain ⟨g1, g2⟩ := hr.room hk b2 b3
  refine l_aload_n (n := 204) dL_law_203 rfl rfl ?_
  refine l_aload_n (n := 205) dL_law_204 rfl rfl ?_
  refine l_iload_n (n := 206) dL_law_205 rfl rfl ?_
  refine l_iconst (n := 207) (1) dL_law_206 rfl (by decide) ?_
  refine l_iadd (n := 208) dL_law_207 rfl ?_
  refine l_sld (n := 209) (i + 1) dL_law_208 rfl (nI_add i 1) (by omega) hL ?_
  refine l_callVi (n := 212) (Y1 := Y_X10_end) 8 dL_law_209 m_L_18 cy_X10_end ci_X10_end hM rfl rfl rfl he rfl b1 g1 g2 (Nat.le_of_ble_eq_true rfl) (fun v1 w1 hf1 => ?_)
  obtain ⟨w1', d2, f2, gs, hp, c1, he2, hM2, hstep2⟩ := hstep v1 w1 hf1
  refine l_perm w1' hp ?_
  refine l_aload_n (n := 213) dL_law_212 rfl rfl ?_
  refine l_aload_n (n := 214) dL_law_213 rfl rfl ?_
  refine l_iload_n (n := 215) dL_law_214 rfl rfl ?_
  refine l_iconst (n := 216) (1) dL_law_215 rfl (by decide) ?_
  refine l_iadd (n := 217) dL_law_216 rfl ?_
  refine l_sld (n := 218) (i + 1) dL_law_217 rfl (nI_add i 1) (by omega) hL ?_
  refine l_callVi (n := 221) (Y1 := Y_X11_end) 0 dL_law_218 m_L_22 cy_X11_end ci_X11_end hM2 rfl rfl rfl he2 rfl c1 g1 g2 (Nat.le_of_ble_eq_true rfl) (fun v2 w2 hf2 => ?_)
  obtain ⟨ev, w2', hp2, hS'⟩ := hstep2 v2 w2 hf2
  refine l_icmp_eq (n := 224) 865 dL_law_221 (by decide) rfl (fun _ => ?_) (fun c => absurd ev c)
  refine l_perm w2' hp2 ?_
  exact kk w2' _ _ _ hS' (hr.step b2 b3 b4 (Or.inl rfl))
theorem law_script (hL : L ≤ 3072) (hi : i + 6 ≤ L) (hk : k < 512) (hS : STt G k cc q8 a0 w) (hr : RMm k cc kc ks) (kk : ∀ (w' : va_W) (cc' kc' ks' : Nat), STt G (k + 1) cc' q8 a0 w' → RMm (k + 1) cc' kc' ks' → LJ G b L xs 865 (LV b q8 a0 i) [] w' kc' ks') : LJ G b L xs 226 (LV b q8 a0 i) [] w kc ks := by
  obtain ⟨d1, mc1, ms1, f1, fs, b1, b2, b3, b4, he, hM, hstep⟩ := st_script (G := G) (cc := cc) (x := xs (i + 1)) (s := xs (i + 2))  q8 a0 w hS
  obtain ⟨g1, g2⟩ := hr.room hk b2 b3
  refine l_aload_n (n := 227) dL_law_226 rfl rfl ?_
  refine l_aload_n (n := 228) dL_law_227 rfl rfl ?_
  refine l_iload_n (n := 229) dL_law_228 rfl rfl ?_
  refine l_iconst (n := 230) (1) dL_law_229 rfl (by decide) ?_
  refine l_iadd (n := 231) dL_law_230 rfl ?_
  refine l_sld (n := 232) (i + 1) dL_law_231 rfl (nI_add i 1) (by omega) hL ?_
  refine l_aload_n (n := 233) dL_law_232 rfl rfl ?_
  refine l_iload_n (n := 234) dL_law_233 rfl rfl ?_
  refine l_iconst (n := 235) (2) dL_law_234 rfl (by decide) ?_
  refine l_iadd (n := 236) dL_law_235 rfl ?_
  refine l_sld (n := 237) (i + 2) dL_law_236 rfl (nI_add i 2) (by omega) hL ?_
  refine l_callVi (n := 240) (Y1 := Y_X10_script) 8 dL_law_237 m_L_23 cy_X10_script ci_X10_script hM rfl rfl rfl he rfl b1 g1 g2 (Nat.le_of_ble_eq_true rfl) (fun v1 w1 hf1 => ?_)
  obtain ⟨w1', d2, f2, gs, hp, c1, he2, hM2, hstep2⟩ := hstep v1 w1 hf1
  refine l_perm w1' hp ?_
  refine l_aload_n (n := 241) dL_law_240 rfl rfl ?_
  refine l_aload_n (n := 242) dL_law_241 rfl rfl ?_
  refine l_iload_n (n := 243) dL_law_242 rfl rfl ?_
  refine l_iconst (n := 244) (1) dL_law_243 rfl (by decide) ?_
  refine l_iadd (n := 245) dL_law_244 rfl ?_
  refine l_sld (n := 246) (i + 1) dL_law_245 rfl (nI_add i 1) (by omega) hL ?_
  refine l_aload_n (n := 247) dL_law_246 rfl rfl ?_
  refine l_iload_n (n := 248) dL_law_247 rfl rfl ?_
  refine l_iconst (n := 249) (2) dL_law_248 rfl (by decide) ?_
  refine l_iadd (n := 250) dL_law_249 rfl ?_
  refine l_sld (n := 251) (i + 2) dL_law_250 rfl (nI_add i 2) (by omega) hL ?_
  refine l_callVi (n := 254) (Y1 := Y_X11_script) 0 dL_law_251 m_L_27 cy_X11_script ci_X11_script hM2 rfl rfl rfl he2 rfl c1 g1 g2 (Nat.le_of_ble_eq_true rfl) (fun v2 w2 hf2 => ?_)
  obtain ⟨ev, w2', hp2, hS'⟩ := hstep2 v2 w2 hf2
  refine l_icmp_eq (n := 257) 865 dL_law_254 (by decide) rfl (fun _ => ?_) (fun c => absurd ev c)
  refine l_perm w2' hp2 ?_
  exact kk w2' _ _ _ hS' (hr.step b2 b3 b4 (Or.inl rfl))
theorem law_seen (hL : L ≤ 3072) (hi : i + 6 ≤ L) (hk : k < 512) (hS : STt G k cc q8 a0 w) (hr : RMm k cc kc ks) (kk : ∀ (w' : va_W) (cc' kc' ks' : Nat), STt G (k + 1) cc' q8 a0 w' → RMm (k + 1) cc' kc' ks' → LJ G b L xs 865 (LV b q8 a0 i) [] w' kc' ks') : LJ G b L xs 259 (LV b q8 a0 i) [] w kc ks := by
  obtain ⟨d1, mc1, ms1, f1, fs, b1, b2, b3, b4, he, hM, hstep⟩ := st_seen (G := G) (cc := cc) (x := xs (i + 1)) (s := xs (i + 2)) hk q8 a0 w hS
  obtain ⟨g1, g2⟩ := hr.room hk b2 b3
  refine l_aload_n (n := 260) dL_law_259 rfl rfl ?_
  refine l_aload_n (n := 261) dL_law_260 rfl rfl ?_
  refine l_iload_n (n := 262) dL_law_261 rfl rfl ?_
  refine l_iconst (n := 263) (1) dL_law_262 rfl (by decide) ?_
  refine l_iadd (n := 264) dL_law_263 rfl ?_
  refine l_sld (n := 265) (i + 1) dL_law_264 rfl (nI_add i 1) (by omega) hL ?_
  refine l_aload_n (n := 266) dL_law_265 rfl rfl ?_
  refine l_iload_n (n := 267) dL_law_266 rfl rfl ?_
  refine l_iconst (n := 268) (2) dL_law_267 rfl (by decide) ?_
  refine l_iadd (n := 269) dL_law_268 rfl ?_
  refine l_sld (n := 270) (i + 2) dL_law_269 rfl (nI_add i 2) (by omega) hL ?_
  refine l_callVi (n := 273) (Y1 := Y_X10_seen) 8 dL_law_270 m_L_28 cy_X10_seen ci_X10_seen hM rfl rfl rfl he rfl b1 g1 g2 (Nat.le_of_ble_eq_true rfl) (fun v1 w1 hf1 => ?_)
  obtain ⟨w1', d2, f2, gs, hp, c1, he2, hM2, hstep2⟩ := hstep v1 w1 hf1
  refine l_perm w1' hp ?_
  refine l_aload_n (n := 274) dL_law_273 rfl rfl ?_
  refine l_aload_n (n := 275) dL_law_274 rfl rfl ?_
  refine l_iload_n (n := 276) dL_law_275 rfl rfl ?_
  refine l_iconst (n := 277) (1) dL_law_276 rfl (by decide) ?_
  refine l_iadd (n := 278) dL_law_277 rfl ?_
  refine l_sld (n := 279) (i + 1) dL_law_278 rfl (nI_add i 1) (by omega) hL ?_
  refine l_aload_n (n := 280) dL_law_279 rfl rfl ?_
  refine l_iload_n (n := 281) dL_law_280 rfl rfl ?_
  refine l_iconst (n := 282) (2) dL_law_281 rfl (by decide) ?_
  refine l_iadd (n := 283) dL_law_282 rfl ?_
  refine l_sld (n := 284) (i + 2) dL_law_283 rfl (nI_add i 2) (by omega) hL ?_
  refine l_callVi (n := 287) (Y1 := Y_X11_seen) 0 dL_law_284 m_L_31 cy_X11_seen ci_X11_seen hM2 rfl rfl rfl he2 rfl c1 g1 g2 (Nat.le_of_ble_eq_true rfl) (fun v2 w2 hf2 => ?_)
  obtain ⟨ev, w2', hp2, hS'⟩ := hstep2 v2 w2 hf2
  refine l_icmp_eq (n := 290) 865 dL_law_287 (by decide) rfl (fun _ => ?_) (fun c => absurd ev c)
  refine l_perm w2' hp2 ?_
  exact kk w2' _ _ _ hS' (hr.step b2 b3 b4 (Or.inl rfl))
theorem law_confuse (hL : L ≤ 3072) (hi : i + 6 ≤ L) (hk : k < 512) (hS : STt G k cc q8 a0 w) (hr : RMm k cc kc ks) (kk : ∀ (w' : va_W) (cc' kc' ks' : Nat), STt G (k + 1) cc' q8 a0 w' → RMm (k + 1) cc' kc' ks' → LJ G b L xs 865 (LV b q8 a0 i) [] w' kc' ks') : LJ G b L xs 292 (LV b q8 a0 i) [] w kc ks := by
  obtain ⟨d1, mc1, ms1, f1, fs, b1, b2, b3, b4, he, hM, hstep⟩ := st_confuse (G := G) (cc := cc) (p := xs (i + 1)) (q := xs (i + 2)) (c := xs (i + 3)) hk q8 a0 w hS
  obtain ⟨g1, g2⟩ := hr.room hk b2 b3
  refine l_aload_n (n := 293) dL_law_292 rfl rfl ?_
  refine l_aload_n (n := 294) dL_law_293 rfl rfl ?_
  refine l_iload_n (n := 295) dL_law_294 rfl rfl ?_
  refine l_iconst (n := 296) (1) dL_law_295 rfl (by decide) ?_
  refine l_iadd (n := 297) dL_law_296 rfl ?_
  refine l_sld (n := 298) (i + 1) dL_law_297 rfl (nI_add i 1) (by omega) hL ?_
  refine l_aload_n (n := 299) dL_law_298 rfl rfl ?_
  refine l_iload_n (n := 300) dL_law_299 rfl rfl ?_
  refine l_iconst (n := 301) (2) dL_law_300 rfl (by decide) ?_
  refine l_iadd (n := 302) dL_law_301 rfl ?_
  refine l_sld (n := 303) (i + 2) dL_law_302 rfl (nI_add i 2) (by omega) hL ?_
  refine l_aload_n (n := 304) dL_law_303 rfl rfl ?_
  refine l_iload_n (n := 305) dL_law_304 rfl rfl ?_
  refine l_iconst (n := 306) (3) dL_law_305 rfl (by decide) ?_
  refine l_iadd (n := 307) dL_law_306 rfl ?_
  refine l_sld (n := 308) (i + 3) dL_law_307 rfl (nI_add i 3) (by omega) hL ?_
  refine l_callVi (n := 311) (Y1 := Y_X10_confuse) 8 dL_law_308 m_L_32 cy_X10_confuse ci_X10_confuse hM rfl rfl rfl he rfl b1 g1 g2 (Nat.le_of_ble_eq_true rfl) (fun v1 w1 hf1 => ?_)
  obtain ⟨w1', d2, f2, gs, hp, c1, he2, hM2, hstep2⟩ := hstep v1 w1 hf1
  refine l_perm w1' hp ?_
  refine l_aload_n (n := 312) dL_law_311 rfl rfl ?_
  refine l_aload_n (n := 313) dL_law_312 rfl rfl ?_
  refine l_iload_n (n := 314) dL_law_313 rfl rfl ?_
  refine l_iconst (n := 315) (1) dL_law_314 rfl (by decide) ?_
  refine l_iadd (n := 316) dL_law_315 rfl ?_
  refine l_sld (n := 317) (i + 1) dL_law_316 rfl (nI_add i 1) (by omega) hL ?_
  refine l_aload_n (n := 318) dL_law_317 rfl rfl ?_
  refine l_iload_n (n := 319) dL_law_318 rfl rfl ?_
  refine l_iconst (n := 320) (2) dL_law_319 rfl (by decide) ?_
  refine l_iadd (n := 321) dL_law_320 rfl ?_
  refine l_sld (n := 322) (i + 2) dL_law_321 rfl (nI_add i 2) (by omega) hL ?_
  refine l_aload_n (n := 323) dL_law_322 rfl rfl ?_
  refine l_iload_n (n := 324) dL_law_323 rfl rfl ?_
  refine l_iconst (n := 325) (3) dL_law_324 rfl (by decide) ?_
  refine l_iadd (n := 326) dL_law_325 rfl ?_
  refine l_sld (n := 327) (i + 3) dL_law_326 rfl (nI_add i 3) (by omega) hL ?_
  refine l_callVi (n := 330) (Y1 := Y_X11_confuse) 0 dL_law_327 m_L_36 cy_X11_confuse ci_X11_confuse hM2 rfl rfl rfl he2 rfl c1 g1 g2 (Nat.le_of_ble_eq_true rfl) (fun v2 w2 hf2 => ?_)
  obtain ⟨ev, w2', hp2, hS'⟩ := hstep2 v2 w2 hf2
  refine l_icmp_eq (n := 333) 865 dL_law_330 (by decide) rfl (fun _ => ?_) (fun c => absurd ev c)
  refine l_perm w2' hp2 ?_
  exact kk w2' _ _ _ hS' (hr.step b2 b3 b4 (Or.inr rfl))
theorem law_chain (hL : L ≤ 3072) (hi : i + 6 ≤ L) (hk : k < 512) (hS : STt G k cc q8 a0 w) (hr : RMm k cc kc ks) (kk : ∀ (w' : va_W) (cc' kc' ks' : Nat), STt G (k + 1) cc' q8 a0 w' → RMm (k + 1) cc' kc' ks' → LJ G b L xs 865 (LV b q8 a0 i) [] w' kc' ks') : LJ G b L xs 335 (LV b q8 a0 i) [] w kc ks := by
  obtain ⟨d1, mc1, ms1, f1, fs, b1, b2, b3, b4, he, hM, hstep⟩ := st_chain (G := G) (cc := cc) (p := xs (i + 1)) (q := xs (i + 2))  q8 a0 w hS
  obtain ⟨g1, g2⟩ := hr.room hk b2 b3
  refine l_aload_n (n := 336) dL_law_335 rfl rfl ?_
  refine l_aload_n (n := 337) dL_law_336 rfl rfl ?_
  refine l_iload_n (n := 338) dL_law_337 rfl rfl ?_
  refine l_iconst (n := 339) (1) dL_law_338 rfl (by decide) ?_
  refine l_iadd (n := 340) dL_law_339 rfl ?_
  refine l_sld (n := 341) (i + 1) dL_law_340 rfl (nI_add i 1) (by omega) hL ?_
  refine l_aload_n (n := 342) dL_law_341 rfl rfl ?_
  refine l_iload_n (n := 343) dL_law_342 rfl rfl ?_
  refine l_iconst (n := 344) (2) dL_law_343 rfl (by decide) ?_
  refine l_iadd (n := 345) dL_law_344 rfl ?_
  refine l_sld (n := 346) (i + 2) dL_law_345 rfl (nI_add i 2) (by omega) hL ?_
  refine l_callVi (n := 349) (Y1 := Y_X10_chain) 8 dL_law_346 m_L_37 cy_X10_chain ci_X10_chain hM rfl rfl rfl he rfl b1 g1 g2 (Nat.le_of_ble_eq_true rfl) (fun v1 w1 hf1 => ?_)
  obtain ⟨w1', d2, f2, gs, hp, c1, he2, hM2, hstep2⟩ := hstep v1 w1 hf1
  refine l_perm w1' hp ?_
  refine l_aload_n (n := 350) dL_law_349 rfl rfl ?_
  refine l_aload_n (n := 351) dL_law_350 rfl rfl ?_
  refine l_iload_n (n := 352) dL_law_351 rfl rfl ?_
  refine l_iconst (n := 353) (1) dL_law_352 rfl (by decide) ?_
  refine l_iadd (n := 354) dL_law_353 rfl ?_
  refine l_sld (n := 355) (i + 1) dL_law_354 rfl (nI_add i 1) (by omega) hL ?_
  refine l_aload_n (n := 356) dL_law_355 rfl rfl ?_
  refine l_iload_n (n := 357) dL_law_356 rfl rfl ?_
  refine l_iconst (n := 358) (2) dL_law_357 rfl (by decide) ?_
  refine l_iadd (n := 359) dL_law_358 rfl ?_
  refine l_sld (n := 360) (i + 2) dL_law_359 rfl (nI_add i 2) (by omega) hL ?_
  refine l_callVi (n := 363) (Y1 := Y_X11_chain) 0 dL_law_360 m_L_40 cy_X11_chain ci_X11_chain hM2 rfl rfl rfl he2 rfl c1 g1 g2 (Nat.le_of_ble_eq_true rfl) (fun v2 w2 hf2 => ?_)
  obtain ⟨ev, w2', hp2, hS'⟩ := hstep2 v2 w2 hf2
  refine l_icmp_eq (n := 366) 865 dL_law_363 (by decide) rfl (fun _ => ?_) (fun c => absurd ev c)
  refine l_perm w2' hp2 ?_
  exact kk w2' _ _ _ hS' (hr.step b2 b3 b4 (Or.inl rfl))
theorem law_allow (hL : L ≤ 3072) (hi : i + 6 ≤ L) (hk : k < 512) (hS : STt G k cc q8 a0 w) (hr : RMm k cc kc ks) (kk : ∀ (w' : va_W) (cc' kc' ks' : Nat), STt G (k + 1) cc' q8 a0 w' → RMm (k + 1) cc' kc' ks' → LJ G b L xs 865 (LV b q8 a0 i) [] w' kc' ks') : LJ G b L xs 368 (LV b q8 a0 i) [] w kc ks := by
  obtain ⟨d1, mc1, ms1, f1, fs, b1, b2, b3, b4, he, hM, hstep⟩ := st_allow (G := G) (cc := cc) (s := xs (i + 1))  q8 a0 w hS
  obtain ⟨g1, g2⟩ := hr.room hk b2 b3
  refine l_aload_n (n := 369) dL_law_368 rfl rfl ?_
  refine l_aload_n (n := 370) dL_law_369 rfl rfl ?_
  refine l_iload_n (n := 371) dL_law_370 rfl rfl ?_
  refine l_iconst (n := 372) (1) dL_law_371 rfl (by decide) ?_
  refine l_iadd (n := 373) dL_law_372 rfl ?_
  refine l_sld (n := 374) (i + 1) dL_law_373 rfl (nI_add i 1) (by omega) hL ?_
  refine l_callVi (n := 377) (Y1 := Y_X10_allow) 8 dL_law_374 m_L_41 cy_X10_allow ci_X10_allow hM rfl rfl rfl he rfl b1 g1 g2 (Nat.le_of_ble_eq_true rfl) (fun v1 w1 hf1 => ?_)
  obtain ⟨w1', d2, f2, gs, hp, c1, he2, hM2, hstep2⟩ := hstep v1 w1 hf1
  refine l_perm w1' hp ?_
  refine l_aload_n (n := 378) dL_law_377 rfl rfl ?_
  refine l_aload_n (n := 379) dL_law_378 rfl rfl ?_
  refine l_iload_n (n := 380) dL_law_379 rfl rfl ?_
  refine l_iconst (n := 381) (1) dL_law_380 rfl (by decide) ?_
  refine l_iadd (n := 382) dL_law_381 rfl ?_
  refine l_sld (n := 383) (i + 1) dL_law_382 rfl (nI_add i 1) (by omega) hL ?_
  refine l_callVi (n := 386) (Y1 := Y_X11_allow) 0 dL_law_383 m_L_44 cy_X11_allow ci_X11_allow hM2 rfl rfl rfl he2 rfl c1 g1 g2 (Nat.le_of_ble_eq_true rfl) (fun v2 w2 hf2 => ?_)
  obtain ⟨ev, w2', hp2, hS'⟩ := hstep2 v2 w2 hf2
  refine l_icmp_eq (n := 389) 865 dL_law_386 (by decide) rfl (fun _ => ?_) (fun c => absurd ev c)
  refine l_perm w2' hp2 ?_
  exact kk w2' _ _ _ hS' (hr.step b2 b3 b4 (Or.inl rfl))
theorem law_name (hL : L ≤ 3072) (hi : i + 6 ≤ L) (hk : k < 512) (hS : STt G k cc q8 a0 w) (hr : RMm k cc kc ks) (kk : ∀ (w' : va_W) (cc' kc' ks' : Nat), STt G (k + 1) cc' q8 a0 w' → RMm (k + 1) cc' kc' ks' → LJ G b L xs 865 (LV b q8 a0 i) [] w' kc' ks') : LJ G b L xs 391 (LV b q8 a0 i) [] w kc ks := by
  obtain ⟨d1, mc1, ms1, f1, fs, b1, b2, b3, b4, he, hM, hstep⟩ := st_name (G := G) (cc := cc)   q8 a0 w hS
  obtain ⟨g1, g2⟩ := hr.room hk b2 b3
  refine l_aload_n (n := 392) dL_law_391 rfl rfl ?_
  refine l_callVi (n := 395) (Y1 := Y_X10_name) 8 dL_law_392 m_L_45 cy_X10_name ci_X10_name hM rfl rfl rfl he rfl b1 g1 g2 (Nat.le_of_ble_eq_true rfl) (fun v1 w1 hf1 => ?_)
  obtain ⟨w1', d2, f2, gs, hp, c1, he2, hM2, hstep2⟩ := hstep v1 w1 hf1
  refine l_perm w1' hp ?_
  refine l_aload_n (n := 396) dL_law_395 rfl rfl ?_
  refine l_callVi (n := 399) (Y1 := Y_X11_name) 0 dL_law_396 m_L_49 cy_X11_name ci_X11_name hM2 rfl rfl rfl he2 rfl c1 g1 g2 (Nat.le_of_ble_eq_true rfl) (fun v2 w2 hf2 => ?_)
  obtain ⟨ev, w2', hp2, hS'⟩ := hstep2 v2 w2 hf2
  refine l_icmp_eq (n := 402) 865 dL_law_399 (by decide) rfl (fun _ => ?_) (fun c => absurd ev c)
  refine l_perm w2' hp2 ?_
  exact kk w2' _ _ _ hS' (hr.step b2 b3 b4 (Or.inl rfl))
theorem law_fault (hL : L ≤ 3072) (hi : i + 6 ≤ L) (hk : k < 512) (hS : STt G k cc q8 a0 w) (hr : RMm k cc kc ks) (kk : ∀ (w' : va_W) (cc' kc' ks' : Nat), STt G (k + 1) cc' q8 a0 w' → RMm (k + 1) cc' kc' ks' → LJ G b L xs 865 (LV b q8 a0 i) [] w' kc' ks') : LJ G b L xs 404 (LV b q8 a0 i) [] w kc ks := by
  obtain ⟨d1, mc1, ms1, f1, fs, b1, b2, b3, b4, he, hM, hstep⟩ := st_fault (G := G) (cc := cc) (w := xs (i + 1))  q8 a0 w hS
  obtain ⟨g1, g2⟩ := hr.room hk b2 b3
  refine l_aload_n (n := 405) dL_law_404 rfl rfl ?_
  refine l_aload_n (n := 406) dL_law_405 rfl rfl ?_
  refine l_iload_n (n := 407) dL_law_406 rfl rfl ?_
  refine l_iconst (n := 408) (1) dL_law_407 rfl (by decide) ?_
  refine l_iadd (n := 409) dL_law_408 rfl ?_
  refine l_sld (n := 410) (i + 1) dL_law_409 rfl (nI_add i 1) (by omega) hL ?_
  refine l_callVi (n := 413) (Y1 := Y_X10_fault) 8 dL_law_410 m_L_50 cy_X10_fault ci_X10_fault hM rfl rfl rfl he rfl b1 g1 g2 (Nat.le_of_ble_eq_true rfl) (fun v1 w1 hf1 => ?_)
  obtain ⟨w1', d2, f2, gs, hp, c1, he2, hM2, hstep2⟩ := hstep v1 w1 hf1
  refine l_perm w1' hp ?_
  refine l_aload_n (n := 414) dL_law_413 rfl rfl ?_
  refine l_aload_n (n := 415) dL_law_414 rfl rfl ?_
  refine l_iload_n (n := 416) dL_law_415 rfl rfl ?_
  refine l_iconst (n := 417) (1) dL_law_416 rfl (by decide) ?_
  refine l_iadd (n := 418) dL_law_417 rfl ?_
  refine l_sld (n := 419) (i + 1) dL_law_418 rfl (nI_add i 1) (by omega) hL ?_
  refine l_callVi (n := 422) (Y1 := Y_X11_fault) 0 dL_law_419 m_L_53 cy_X11_fault ci_X11_fault hM2 rfl rfl rfl he2 rfl c1 g1 g2 (Nat.le_of_ble_eq_true rfl) (fun v2 w2 hf2 => ?_)
  obtain ⟨ev, w2', hp2, hS'⟩ := hstep2 v2 w2 hf2
  refine l_icmp_eq (n := 425) 865 dL_law_422 (by decide) rfl (fun _ => ?_) (fun c => absurd ev c)
  refine l_perm w2' hp2 ?_
  exact kk w2' _ _ _ hS' (hr.step b2 b3 b4 (Or.inl rfl))
theorem law_about (hL : L ≤ 3072) (hi : i + 6 ≤ L) (hk : k < 512) (hS : STt G k cc q8 a0 w) (hr : RMm k cc kc ks) (kk : ∀ (w' : va_W) (cc' kc' ks' : Nat), STt G (k + 1) cc' q8 a0 w' → RMm (k + 1) cc' kc' ks' → LJ G b L xs 865 (LV b q8 a0 i) [] w' kc' ks') : LJ G b L xs 427 (LV b q8 a0 i) [] w kc ks := by
  obtain ⟨d1, mc1, ms1, f1, fs, b1, b2, b3, b4, he, hM, hstep⟩ := st_about (G := G) (cc := cc) (w := xs (i + 1))  q8 a0 w hS
  obtain ⟨g1, g2⟩ := hr.room hk b2 b3
  refine l_aload_n (n := 428) dL_law_427 rfl rfl ?_
  refine l_aload_n (n := 429) dL_law_428 rfl rfl ?_
  refine l_iload_n (n := 430) dL_law_429 rfl rfl ?_
  refine l_iconst (n := 431) (1) dL_law_430 rfl (by decide) ?_
  refine l_iadd (n := 432) dL_law_431 rfl ?_
  refine l_sld (n := 433) (i + 1) dL_law_432 rfl (nI_add i 1) (by omega) hL ?_
  refine l_callVi (n := 436) (Y1 := Y_X10_about) 8 dL_law_433 m_L_54 cy_X10_about ci_X10_about hM rfl rfl rfl he rfl b1 g1 g2 (Nat.le_of_ble_eq_true rfl) (fun v1 w1 hf1 => ?_)
  obtain ⟨w1', d2, f2, gs, hp, c1, he2, hM2, hstep2⟩ := hstep v1 w1 hf1
  refine l_perm w1' hp ?_
  refine l_aload_n (n := 437) dL_law_436 rfl rfl ?_
  refine l_aload_n (n := 438) dL_law_437 rfl rfl ?_
  refine l_iload_n (n := 439) dL_law_438 rfl rfl ?_
  refine l_iconst (n := 440) (1) dL_law_439 rfl (by decide) ?_
  refine l_iadd (n := 441) dL_law_440 rfl ?_
  refine l_sld (n := 442) (i + 1) dL_law_441 rfl (nI_add i 1) (by omega) hL ?_
  refine l_callVi (n := 445) (Y1 := Y_X11_about) 0 dL_law_442 m_L_57 cy_X11_about ci_X11_about hM2 rfl rfl rfl he2 rfl c1 g1 g2 (Nat.le_of_ble_eq_true rfl) (fun v2 w2 hf2 => ?_)
  obtain ⟨ev, w2', hp2, hS'⟩ := hstep2 v2 w2 hf2
  refine l_icmp_eq (n := 448) 865 dL_law_445 (by decide) rfl (fun _ => ?_) (fun c => absurd ev c)
  refine l_perm w2' hp2 ?_
  exact kk w2' _ _ _ hS' (hr.step b2 b3 b4 (Or.inl rfl))
theorem law_rule (hL : L ≤ 3072) (hi : i + 6 ≤ L) (hk : k < 512) (hS : STt G k cc q8 a0 w) (hr : RMm k cc kc ks) (kk : ∀ (w' : va_W) (cc' kc' ks' : Nat), STt G (k + 1) cc' q8 a0 w' → RMm (k + 1) cc' kc' ks' → LJ G b L xs 865 (LV b q8 a0 i) [] w' kc' ks') : LJ G b L xs 450 (LV b q8 a0 i) [] w kc ks := by
  refine l_aload_n (n := 451) dL_law_450 rfl rfl ?_
  refine l_aload_n (n := 452) dL_law_451 rfl rfl ?_
  refine l_iload_n (n := 453) dL_law_452 rfl rfl ?_
  refine l_iconst (n := 454) (1) dL_law_453 rfl (by decide) ?_
  refine l_iadd (n := 455) dL_law_454 rfl ?_
  refine l_sld (n := 456) (i + 1) dL_law_455 rfl (nI_add i 1) (by omega) hL ?_
  refine l_aload_n (n := 457) dL_law_456 rfl rfl ?_
  refine l_iload_n (n := 458) dL_law_457 rfl rfl ?_
  refine l_iconst (n := 459) (2) dL_law_458 rfl (by decide) ?_
  refine l_iadd (n := 460) dL_law_459 rfl ?_
  refine l_sld (n := 461) (i + 2) dL_law_460 rfl (nI_add i 2) (by omega) hL ?_
  refine l_aload_n (n := 462) dL_law_461 rfl rfl ?_
  refine l_iload_n (n := 463) dL_law_462 rfl rfl ?_
  refine l_iconst (n := 464) (3) dL_law_463 rfl (by decide) ?_
  refine l_iadd (n := 465) dL_law_464 rfl ?_
  refine l_sld (n := 466) (i + 3) dL_law_465 rfl (nI_add i 3) (by omega) hL ?_
  refine l_aload_n (n := 467) dL_law_466 rfl rfl ?_
  refine l_iload_n (n := 468) dL_law_467 rfl rfl ?_
  refine l_iconst (n := 469) (4) dL_law_468 rfl (by decide) ?_
  refine l_iadd (n := 470) dL_law_469 rfl ?_
  refine l_sld (n := 471) (i + 4) dL_law_470 rfl (nI_add i 4) (by omega) hL ?_
  refine l_if_eq (n := 474) 478 dL_law_471 (by decide) rfl (fun c8 => ?_) (fun c8 => ?_)
  · skip
    obtain ⟨d1, mc1, ms1, f1, fs, b1, b2, b3, b4, he, hM, hstep⟩ := st_rule (G := G) (cc := cc) (q := xs (i + 1)) (a := xs (i + 2)) (b := xs (i + 3))  (s := 0) (Or.inl rfl) q8 a0 w hS
    obtain ⟨g1, g2⟩ := hr.room hk b2 b3
    refine l_iconst (n := 479) (0) dL_law_478 rfl (by decide) ?_
    refine l_callVi (n := 482) (Y1 := Y_X10_rule) 8 dL_law_479 m_L_58 cy_X10_rule ci_X10_rule hM rfl rfl rfl he rfl b1 g1 g2 (Nat.le_of_ble_eq_true rfl) (fun v1 w1 hf1 => ?_)
    obtain ⟨w1', d2, f2, gs, hp, c1, he2, hM2, hstep2⟩ := hstep v1 w1 hf1
    refine l_perm w1' hp ?_
    refine l_aload_n (n := 483) dL_law_482 rfl rfl ?_
    refine l_aload_n (n := 484) dL_law_483 rfl rfl ?_
    refine l_iload_n (n := 485) dL_law_484 rfl rfl ?_
    refine l_iconst (n := 486) (1) dL_law_485 rfl (by decide) ?_
    refine l_iadd (n := 487) dL_law_486 rfl ?_
    refine l_sld (n := 488) (i + 1) dL_law_487 rfl (nI_add i 1) (by omega) hL ?_
    refine l_aload_n (n := 489) dL_law_488 rfl rfl ?_
    refine l_iload_n (n := 490) dL_law_489 rfl rfl ?_
    refine l_iconst (n := 491) (2) dL_law_490 rfl (by decide) ?_
    refine l_iadd (n := 492) dL_law_491 rfl ?_
    refine l_sld (n := 493) (i + 2) dL_law_492 rfl (nI_add i 2) (by omega) hL ?_
    refine l_aload_n (n := 494) dL_law_493 rfl rfl ?_
    refine l_iload_n (n := 495) dL_law_494 rfl rfl ?_
    refine l_iconst (n := 496) (3) dL_law_495 rfl (by decide) ?_
    refine l_iadd (n := 497) dL_law_496 rfl ?_
    refine l_sld (n := 498) (i + 3) dL_law_497 rfl (nI_add i 3) (by omega) hL ?_
    refine l_aload_n (n := 499) dL_law_498 rfl rfl ?_
    refine l_iload_n (n := 500) dL_law_499 rfl rfl ?_
    refine l_iconst (n := 501) (4) dL_law_500 rfl (by decide) ?_
    refine l_iadd (n := 502) dL_law_501 rfl ?_
    refine l_sld (n := 503) (i + 4) dL_law_502 rfl (nI_add i 4) (by omega) hL ?_
    refine l_if_eq (n := 506) 510 dL_law_503 (by decide) rfl (fun c9 => ?_) (fun c9 => ?_)
    · refine l_iconst (n := 511) (0) dL_law_510 rfl (by decide) ?_
      refine l_callVi (n := 514) (Y1 := Y_X11_rule) 0 dL_law_511 m_L_62 cy_X11_rule ci_X11_rule hM2 rfl rfl rfl he2 rfl c1 g1 g2 (Nat.le_of_ble_eq_true rfl) (fun v2 w2 hf2 => ?_)
      obtain ⟨ev, w2', hp2, hS'⟩ := hstep2 v2 w2 hf2
      refine l_icmp_eq (n := 517) 865 dL_law_514 (by decide) rfl (fun _ => ?_) (fun c => absurd ev c)
      refine l_perm w2' hp2 ?_
      exact kk w2' _ _ _ hS' (hr.step b2 b3 b4 (Or.inl rfl))
    · exact absurd c8 c9
  · skip
    obtain ⟨d1, mc1, ms1, f1, fs, b1, b2, b3, b4, he, hM, hstep⟩ := st_rule (G := G) (cc := cc) (q := xs (i + 1)) (a := xs (i + 2)) (b := xs (i + 3))  (s := 1) (Or.inr rfl) q8 a0 w hS
    obtain ⟨g1, g2⟩ := hr.room hk b2 b3
    refine l_iconst (n := 475) (1) dL_law_474 rfl (by decide) ?_
    refine l_goto 479 dL_law_475 (by decide) ?_
    refine l_callVi (n := 482) (Y1 := Y_X10_rule) 8 dL_law_479 m_L_58 cy_X10_rule ci_X10_rule hM rfl rfl rfl he rfl b1 g1 g2 (Nat.le_of_ble_eq_true rfl) (fun v1 w1 hf1 => ?_)
    obtain ⟨w1', d2, f2, gs, hp, c1, he2, hM2, hstep2⟩ := hstep v1 w1 hf1
    refine l_perm w1' hp ?_
    refine l_aload_n (n := 483) dL_law_482 rfl rfl ?_
    refine l_aload_n (n := 484) dL_law_483 rfl rfl ?_
    refine l_iload_n (n := 485) dL_law_484 rfl rfl ?_
    refine l_iconst (n := 486) (1) dL_law_485 rfl (by decide) ?_
    refine l_iadd (n := 487) dL_law_486 rfl ?_
    refine l_sld (n := 488) (i + 1) dL_law_487 rfl (nI_add i 1) (by omega) hL ?_
    refine l_aload_n (n := 489) dL_law_488 rfl rfl ?_
    refine l_iload_n (n := 490) dL_law_489 rfl rfl ?_
    refine l_iconst (n := 491) (2) dL_law_490 rfl (by decide) ?_
    refine l_iadd (n := 492) dL_law_491 rfl ?_
    refine l_sld (n := 493) (i + 2) dL_law_492 rfl (nI_add i 2) (by omega) hL ?_
    refine l_aload_n (n := 494) dL_law_493 rfl rfl ?_
    refine l_iload_n (n := 495) dL_law_494 rfl rfl ?_
    refine l_iconst (n := 496) (3) dL_law_495 rfl (by decide) ?_
    refine l_iadd (n := 497) dL_law_496 rfl ?_
    refine l_sld (n := 498) (i + 3) dL_law_497 rfl (nI_add i 3) (by omega) hL ?_
    refine l_aload_n (n := 499) dL_law_498 rfl rfl ?_
    refine l_iload_n (n := 500) dL_law_499 rfl rfl ?_
    refine l_iconst (n := 501) (4) dL_law_500 rfl (by decide) ?_
    refine l_iadd (n := 502) dL_law_501 rfl ?_
    refine l_sld (n := 503) (i + 4) dL_law_502 rfl (nI_add i 4) (by omega) hL ?_
    refine l_if_eq (n := 506) 510 dL_law_503 (by decide) rfl (fun c9 => ?_) (fun c9 => ?_)
    · exact absurd c9 c8
    · refine l_iconst (n := 507) (1) dL_law_506 rfl (by decide) ?_
      refine l_goto 511 dL_law_507 (by decide) ?_
      refine l_callVi (n := 514) (Y1 := Y_X11_rule) 0 dL_law_511 m_L_62 cy_X11_rule ci_X11_rule hM2 rfl rfl rfl he2 rfl c1 g1 g2 (Nat.le_of_ble_eq_true rfl) (fun v2 w2 hf2 => ?_)
      obtain ⟨ev, w2', hp2, hS'⟩ := hstep2 v2 w2 hf2
      refine l_icmp_eq (n := 517) 865 dL_law_514 (by decide) rfl (fun _ => ?_) (fun c => absurd ev c)
      refine l_perm w2' hp2 ?_
      exact kk w2' _ _ _ hS' (hr.step b2 b3 b4 (Or.inl rfl))
theorem law_ask (hL : L ≤ 3072) (hi : i + 6 ≤ L) (hk : k < 512) (hS : STt G k cc q8 a0 w) (hr : RMm k cc kc ks) (kk : ∀ (w' : va_W) (cc' kc' ks' : Nat), STt G (k + 1) cc' q8 a0 w' → RMm (k + 1) cc' kc' ks' → LJ G b L xs 865 (LV b q8 a0 i) [] w' kc' ks') : LJ G b L xs 519 (LV b q8 a0 i) [] w kc ks := by
  obtain ⟨d1, mc1, ms1, f1, fs, b1, b2, b3, b4, he, hM, hstep⟩ := st_ask (G := G) (cc := cc) (q := xs (i + 1)) (ow := xs (i + 2))  q8 a0 w hS
  obtain ⟨g1, g2⟩ := hr.room hk b2 b3
  refine l_aload_n (n := 520) dL_law_519 rfl rfl ?_
  refine l_aload_n (n := 521) dL_law_520 rfl rfl ?_
  refine l_iload_n (n := 522) dL_law_521 rfl rfl ?_
  refine l_iconst (n := 523) (1) dL_law_522 rfl (by decide) ?_
  refine l_iadd (n := 524) dL_law_523 rfl ?_
  refine l_sld (n := 525) (i + 1) dL_law_524 rfl (nI_add i 1) (by omega) hL ?_
  refine l_aload_n (n := 526) dL_law_525 rfl rfl ?_
  refine l_iload_n (n := 527) dL_law_526 rfl rfl ?_
  refine l_iconst (n := 528) (2) dL_law_527 rfl (by decide) ?_
  refine l_iadd (n := 529) dL_law_528 rfl ?_
  refine l_sld (n := 530) (i + 2) dL_law_529 rfl (nI_add i 2) (by omega) hL ?_
  refine l_callVi (n := 533) (Y1 := Y_X10_ask) 8 dL_law_530 m_L_63 cy_X10_ask ci_X10_ask hM rfl rfl rfl he rfl b1 g1 g2 (Nat.le_of_ble_eq_true rfl) (fun v1 w1 hf1 => ?_)
  obtain ⟨w1', d2, f2, gs, hp, c1, he2, hM2, hstep2⟩ := hstep v1 w1 hf1
  refine l_perm w1' hp ?_
  refine l_aload_n (n := 534) dL_law_533 rfl rfl ?_
  refine l_aload_n (n := 535) dL_law_534 rfl rfl ?_
  refine l_iload_n (n := 536) dL_law_535 rfl rfl ?_
  refine l_iconst (n := 537) (1) dL_law_536 rfl (by decide) ?_
  refine l_iadd (n := 538) dL_law_537 rfl ?_
  refine l_sld (n := 539) (i + 1) dL_law_538 rfl (nI_add i 1) (by omega) hL ?_
  refine l_aload_n (n := 540) dL_law_539 rfl rfl ?_
  refine l_iload_n (n := 541) dL_law_540 rfl rfl ?_
  refine l_iconst (n := 542) (2) dL_law_541 rfl (by decide) ?_
  refine l_iadd (n := 543) dL_law_542 rfl ?_
  refine l_sld (n := 544) (i + 2) dL_law_543 rfl (nI_add i 2) (by omega) hL ?_
  refine l_callVi (n := 547) (Y1 := Y_X11_ask) 0 dL_law_544 m_L_66 cy_X11_ask ci_X11_ask hM2 rfl rfl rfl he2 rfl c1 g1 g2 (Nat.le_of_ble_eq_true rfl) (fun v2 w2 hf2 => ?_)
  obtain ⟨ev, w2', hp2, hS'⟩ := hstep2 v2 w2 hf2
  refine l_icmp_eq (n := 550) 865 dL_law_547 (by decide) rfl (fun _ => ?_) (fun c => absurd ev c)
  refine l_perm w2' hp2 ?_
  exact kk w2' _ _ _ hS' (hr.step b2 b3 b4 (Or.inl rfl))
theorem law_enter (hL : L ≤ 3072) (hi : i + 6 ≤ L) (hk : k < 512) (hS : STt G k cc q8 a0 w) (hr : RMm k cc kc ks) (kk : ∀ (w' : va_W) (cc' kc' ks' : Nat), STt G (k + 1) cc' q8 a0 w' → RMm (k + 1) cc' kc' ks' → LJ G b L xs 865 (LV b q8 a0 i) [] w' kc' ks') : LJ G b L xs 552 (LV b q8 a0 i) [] w kc ks := by
  obtain ⟨d1, mc1, ms1, f1, fs, b1, b2, b3, b4, he, hM, hstep⟩ := st_enter (G := G) (cc := cc) (q := xs (i + 1)) (ow := xs (i + 2))  q8 a0 w hS
  obtain ⟨g1, g2⟩ := hr.room hk b2 b3
  refine l_aload_n (n := 553) dL_law_552 rfl rfl ?_
  refine l_aload_n (n := 554) dL_law_553 rfl rfl ?_
  refine l_iload_n (n := 555) dL_law_554 rfl rfl ?_
  refine l_iconst (n := 556) (1) dL_law_555 rfl (by decide) ?_
  refine l_iadd (n := 557) dL_law_556 rfl ?_
  refine l_sld (n := 558) (i + 1) dL_law_557 rfl (nI_add i 1) (by omega) hL ?_
  refine l_aload_n (n := 559) dL_law_558 rfl rfl ?_
  refine l_iload_n (n := 560) dL_law_559 rfl rfl ?_
  refine l_iconst (n := 561) (2) dL_law_560 rfl (by decide) ?_
  refine l_iadd (n := 562) dL_law_561 rfl ?_
  refine l_sld (n := 563) (i + 2) dL_law_562 rfl (nI_add i 2) (by omega) hL ?_
  refine l_callVi (n := 566) (Y1 := Y_X10_enter) 8 dL_law_563 m_L_67 cy_X10_enter ci_X10_enter hM rfl rfl rfl he rfl b1 g1 g2 (Nat.le_of_ble_eq_true rfl) (fun v1 w1 hf1 => ?_)
  obtain ⟨w1', d2, f2, gs, hp, c1, he2, hM2, hstep2⟩ := hstep v1 w1 hf1
  refine l_perm w1' hp ?_
  refine l_aload_n (n := 567) dL_law_566 rfl rfl ?_
  refine l_aload_n (n := 568) dL_law_567 rfl rfl ?_
  refine l_iload_n (n := 569) dL_law_568 rfl rfl ?_
  refine l_iconst (n := 570) (1) dL_law_569 rfl (by decide) ?_
  refine l_iadd (n := 571) dL_law_570 rfl ?_
  refine l_sld (n := 572) (i + 1) dL_law_571 rfl (nI_add i 1) (by omega) hL ?_
  refine l_aload_n (n := 573) dL_law_572 rfl rfl ?_
  refine l_iload_n (n := 574) dL_law_573 rfl rfl ?_
  refine l_iconst (n := 575) (2) dL_law_574 rfl (by decide) ?_
  refine l_iadd (n := 576) dL_law_575 rfl ?_
  refine l_sld (n := 577) (i + 2) dL_law_576 rfl (nI_add i 2) (by omega) hL ?_
  refine l_callVi (n := 580) (Y1 := Y_X11_enter) 0 dL_law_577 m_L_70 cy_X11_enter ci_X11_enter hM2 rfl rfl rfl he2 rfl c1 g1 g2 (Nat.le_of_ble_eq_true rfl) (fun v2 w2 hf2 => ?_)
  obtain ⟨ev, w2', hp2, hS'⟩ := hstep2 v2 w2 hf2
  refine l_icmp_eq (n := 583) 865 dL_law_580 (by decide) rfl (fun _ => ?_) (fun c => absurd ev c)
  refine l_perm w2' hp2 ?_
  exact kk w2' _ _ _ hS' (hr.step b2 b3 b4 (Or.inl rfl))
theorem law_strike (hL : L ≤ 3072) (hi : i + 6 ≤ L) (hk : k < 512) (hS : STt G k cc q8 a0 w) (hr : RMm k cc kc ks) (kk : ∀ (w' : va_W) (cc' kc' ks' : Nat), STt G (k + 1) cc' q8 a0 w' → RMm (k + 1) cc' kc' ks' → LJ G b L xs 865 (LV b q8 a0 i) [] w' kc' ks') : LJ G b L xs 585 (LV b q8 a0 i) [] w kc ks := by
  obtain ⟨d1, mc1, ms1, f1, fs, b1, b2, b3, b4, he, hM, hstep⟩ := st_strike (G := G) (cc := cc) (e := xs (i + 1))  q8 a0 w hS
  obtain ⟨g1, g2⟩ := hr.room hk b2 b3
  refine l_aload_n (n := 586) dL_law_585 rfl rfl ?_
  refine l_aload_n (n := 587) dL_law_586 rfl rfl ?_
  refine l_iload_n (n := 588) dL_law_587 rfl rfl ?_
  refine l_iconst (n := 589) (1) dL_law_588 rfl (by decide) ?_
  refine l_iadd (n := 590) dL_law_589 rfl ?_
  refine l_sld (n := 591) (i + 1) dL_law_590 rfl (nI_add i 1) (by omega) hL ?_
  refine l_callVi (n := 594) (Y1 := Y_X10_strike) 8 dL_law_591 m_L_71 cy_X10_strike ci_X10_strike hM rfl rfl rfl he rfl b1 g1 g2 (Nat.le_of_ble_eq_true rfl) (fun v1 w1 hf1 => ?_)
  obtain ⟨w1', d2, f2, gs, hp, c1, he2, hM2, hstep2⟩ := hstep v1 w1 hf1
  refine l_perm w1' hp ?_
  refine l_aload_n (n := 595) dL_law_594 rfl rfl ?_
  refine l_aload_n (n := 596) dL_law_595 rfl rfl ?_
  refine l_iload_n (n := 597) dL_law_596 rfl rfl ?_
  refine l_iconst (n := 598) (1) dL_law_597 rfl (by decide) ?_
  refine l_iadd (n := 599) dL_law_598 rfl ?_
  refine l_sld (n := 600) (i + 1) dL_law_599 rfl (nI_add i 1) (by omega) hL ?_
  refine l_callVi (n := 603) (Y1 := Y_X11_strike) 0 dL_law_600 m_L_74 cy_X11_strike ci_X11_strike hM2 rfl rfl rfl he2 rfl c1 g1 g2 (Nat.le_of_ble_eq_true rfl) (fun v2 w2 hf2 => ?_)
  obtain ⟨ev, w2', hp2, hS'⟩ := hstep2 v2 w2 hf2
  refine l_icmp_eq (n := 606) 865 dL_law_603 (by decide) rfl (fun _ => ?_) (fun c => absurd ev c)
  refine l_perm w2' hp2 ?_
  exact kk w2' _ _ _ hS' (hr.step b2 b3 b4 (Or.inl rfl))
theorem law_entry (hL : L ≤ 3072) (hi : i + 6 ≤ L) (hk : k < 512) (hS : STt G k cc q8 a0 w) (hr : RMm k cc kc ks) (kk : ∀ (w' : va_W) (cc' kc' ks' : Nat), STt G (k + 1) cc' q8 a0 w' → RMm (k + 1) cc' kc' ks' → LJ G b L xs 865 (LV b q8 a0 i) [] w' kc' ks') : LJ G b L xs 608 (LV b q8 a0 i) [] w kc ks := by
  obtain ⟨d1, mc1, ms1, f1, fs, b1, b2, b3, b4, he, hM, hstep⟩ := st_entry (G := G) (cc := cc) (e := xs (i + 1)) (w := xs (i + 2))  q8 a0 w hS
  obtain ⟨g1, g2⟩ := hr.room hk b2 b3
  refine l_aload_n (n := 609) dL_law_608 rfl rfl ?_
  refine l_aload_n (n := 610) dL_law_609 rfl rfl ?_
  refine l_iload_n (n := 611) dL_law_610 rfl rfl ?_
  refine l_iconst (n := 612) (1) dL_law_611 rfl (by decide) ?_
  refine l_iadd (n := 613) dL_law_612 rfl ?_
  refine l_sld (n := 614) (i + 1) dL_law_613 rfl (nI_add i 1) (by omega) hL ?_
  refine l_aload_n (n := 615) dL_law_614 rfl rfl ?_
  refine l_iload_n (n := 616) dL_law_615 rfl rfl ?_
  refine l_iconst (n := 617) (2) dL_law_616 rfl (by decide) ?_
  refine l_iadd (n := 618) dL_law_617 rfl ?_
  refine l_sld (n := 619) (i + 2) dL_law_618 rfl (nI_add i 2) (by omega) hL ?_
  refine l_callVi (n := 622) (Y1 := Y_X10_entry) 8 dL_law_619 m_L_75 cy_X10_entry ci_X10_entry hM rfl rfl rfl he rfl b1 g1 g2 (Nat.le_of_ble_eq_true rfl) (fun v1 w1 hf1 => ?_)
  obtain ⟨w1', d2, f2, gs, hp, c1, he2, hM2, hstep2⟩ := hstep v1 w1 hf1
  refine l_perm w1' hp ?_
  refine l_aload_n (n := 623) dL_law_622 rfl rfl ?_
  refine l_aload_n (n := 624) dL_law_623 rfl rfl ?_
  refine l_iload_n (n := 625) dL_law_624 rfl rfl ?_
  refine l_iconst (n := 626) (1) dL_law_625 rfl (by decide) ?_
  refine l_iadd (n := 627) dL_law_626 rfl ?_
  refine l_sld (n := 628) (i + 1) dL_law_627 rfl (nI_add i 1) (by omega) hL ?_
  refine l_aload_n (n := 629) dL_law_628 rfl rfl ?_
  refine l_iload_n (n := 630) dL_law_629 rfl rfl ?_
  refine l_iconst (n := 631) (2) dL_law_630 rfl (by decide) ?_
  refine l_iadd (n := 632) dL_law_631 rfl ?_
  refine l_sld (n := 633) (i + 2) dL_law_632 rfl (nI_add i 2) (by omega) hL ?_
  refine l_callVi (n := 636) (Y1 := Y_X11_entry) 0 dL_law_633 m_L_78 cy_X11_entry ci_X11_entry hM2 rfl rfl rfl he2 rfl c1 g1 g2 (Nat.le_of_ble_eq_true rfl) (fun v2 w2 hf2 => ?_)
  obtain ⟨ev, w2', hp2, hS'⟩ := hstep2 v2 w2 hf2
  refine l_icmp_eq (n := 639) 865 dL_law_636 (by decide) rfl (fun _ => ?_) (fun c => absurd ev c)
  refine l_perm w2' hp2 ?_
  exact kk w2' _ _ _ hS' (hr.step b2 b3 b4 (Or.inl rfl))
theorem law_far (hL : L ≤ 3072) (hi : i + 6 ≤ L) (hk : k < 512) (hS : STt G k cc q8 a0 w) (hr : RMm k cc kc ks) (kk : ∀ (w' : va_W) (cc' kc' ks' : Nat), STt G (k + 1) cc' q8 a0 w' → RMm (k + 1) cc' kc' ks' → LJ G b L xs 865 (LV b q8 a0 i) [] w' kc' ks') : LJ G b L xs 641 (LV b q8 a0 i) [] w kc ks := by
  obtain ⟨d1, mc1, ms1, f1, fs, b1, b2, b3, b4, he, hM, hstep⟩ := st_far (G := G) (cc := cc) (e := xs (i + 1))  q8 a0 w hS
  obtain ⟨g1, g2⟩ := hr.room hk b2 b3
  refine l_aload_n (n := 642) dL_law_641 rfl rfl ?_
  refine l_aload_n (n := 643) dL_law_642 rfl rfl ?_
  refine l_iload_n (n := 644) dL_law_643 rfl rfl ?_
  refine l_iconst (n := 645) (1) dL_law_644 rfl (by decide) ?_
  refine l_iadd (n := 646) dL_law_645 rfl ?_
  refine l_sld (n := 647) (i + 1) dL_law_646 rfl (nI_add i 1) (by omega) hL ?_
  refine l_callVi (n := 650) (Y1 := Y_X10_far) 8 dL_law_647 m_L_79 cy_X10_far ci_X10_far hM rfl rfl rfl he rfl b1 g1 g2 (Nat.le_of_ble_eq_true rfl) (fun v1 w1 hf1 => ?_)
  obtain ⟨w1', d2, f2, gs, hp, c1, he2, hM2, hstep2⟩ := hstep v1 w1 hf1
  refine l_perm w1' hp ?_
  refine l_aload_n (n := 651) dL_law_650 rfl rfl ?_
  refine l_aload_n (n := 652) dL_law_651 rfl rfl ?_
  refine l_iload_n (n := 653) dL_law_652 rfl rfl ?_
  refine l_iconst (n := 654) (1) dL_law_653 rfl (by decide) ?_
  refine l_iadd (n := 655) dL_law_654 rfl ?_
  refine l_sld (n := 656) (i + 1) dL_law_655 rfl (nI_add i 1) (by omega) hL ?_
  refine l_callVi (n := 659) (Y1 := Y_X11_far) 0 dL_law_656 m_L_82 cy_X11_far ci_X11_far hM2 rfl rfl rfl he2 rfl c1 g1 g2 (Nat.le_of_ble_eq_true rfl) (fun v2 w2 hf2 => ?_)
  obtain ⟨ev, w2', hp2, hS'⟩ := hstep2 v2 w2 hf2
  refine l_icmp_eq (n := 662) 865 dL_law_659 (by decide) rfl (fun _ => ?_) (fun c => absurd ev c)
  refine l_perm w2' hp2 ?_
  exact kk w2' _ _ _ hS' (hr.step b2 b3 b4 (Or.inl rfl))
theorem law_near (hL : L ≤ 3072) (hi : i + 6 ≤ L) (hk : k < 512) (hS : STt G k cc q8 a0 w) (hr : RMm k cc kc ks) (kk : ∀ (w' : va_W) (cc' kc' ks' : Nat), STt G (k + 1) cc' q8 a0 w' → RMm (k + 1) cc' kc' ks' → LJ G b L xs 865 (LV b q8 a0 i) [] w' kc' ks') : LJ G b L xs 664 (LV b q8 a0 i) [] w kc ks := by
  obtain ⟨d1, mc1, ms1, f1, fs, b1, b2, b3, b4, he, hM, hstep⟩ := st_near (G := G) (cc := cc) (q := xs (i + 1)) (lim := xs (i + 2))  q8 a0 w hS
  obtain ⟨g1, g2⟩ := hr.room hk b2 b3
  refine l_aload_n (n := 665) dL_law_664 rfl rfl ?_
  refine l_aload_n (n := 666) dL_law_665 rfl rfl ?_
  refine l_iload_n (n := 667) dL_law_666 rfl rfl ?_
  refine l_iconst (n := 668) (1) dL_law_667 rfl (by decide) ?_
  refine l_iadd (n := 669) dL_law_668 rfl ?_
  refine l_sld (n := 670) (i + 1) dL_law_669 rfl (nI_add i 1) (by omega) hL ?_
  refine l_aload_n (n := 671) dL_law_670 rfl rfl ?_
  refine l_iload_n (n := 672) dL_law_671 rfl rfl ?_
  refine l_iconst (n := 673) (2) dL_law_672 rfl (by decide) ?_
  refine l_iadd (n := 674) dL_law_673 rfl ?_
  refine l_sld (n := 675) (i + 2) dL_law_674 rfl (nI_add i 2) (by omega) hL ?_
  refine l_callVi (n := 678) (Y1 := Y_X10_near) 8 dL_law_675 m_L_83 cy_X10_near ci_X10_near hM rfl rfl rfl he rfl b1 g1 g2 (Nat.le_of_ble_eq_true rfl) (fun v1 w1 hf1 => ?_)
  obtain ⟨w1', d2, f2, gs, hp, c1, he2, hM2, hstep2⟩ := hstep v1 w1 hf1
  refine l_perm w1' hp ?_
  refine l_aload_n (n := 679) dL_law_678 rfl rfl ?_
  refine l_aload_n (n := 680) dL_law_679 rfl rfl ?_
  refine l_iload_n (n := 681) dL_law_680 rfl rfl ?_
  refine l_iconst (n := 682) (1) dL_law_681 rfl (by decide) ?_
  refine l_iadd (n := 683) dL_law_682 rfl ?_
  refine l_sld (n := 684) (i + 1) dL_law_683 rfl (nI_add i 1) (by omega) hL ?_
  refine l_aload_n (n := 685) dL_law_684 rfl rfl ?_
  refine l_iload_n (n := 686) dL_law_685 rfl rfl ?_
  refine l_iconst (n := 687) (2) dL_law_686 rfl (by decide) ?_
  refine l_iadd (n := 688) dL_law_687 rfl ?_
  refine l_sld (n := 689) (i + 2) dL_law_688 rfl (nI_add i 2) (by omega) hL ?_
  refine l_callVi (n := 692) (Y1 := Y_X11_near) 0 dL_law_689 m_L_86 cy_X11_near ci_X11_near hM2 rfl rfl rfl he2 rfl c1 g1 g2 (Nat.le_of_ble_eq_true rfl) (fun v2 w2 hf2 => ?_)
  obtain ⟨ev, w2', hp2, hS'⟩ := hstep2 v2 w2 hf2
  refine l_icmp_eq (n := 695) 865 dL_law_692 (by decide) rfl (fun _ => ?_) (fun c => absurd ev c)
  refine l_perm w2' hp2 ?_
  exact kk w2' _ _ _ hS' (hr.step b2 b3 b4 (Or.inl rfl))
theorem law_nearest (hL : L ≤ 3072) (hi : i + 6 ≤ L) (hk : k < 512) (hS : STt G k cc q8 a0 w) (hr : RMm k cc kc ks) (kk : ∀ (w' : va_W) (cc' kc' ks' : Nat), STt G (k + 1) cc' q8 a0 w' → RMm (k + 1) cc' kc' ks' → LJ G b L xs 865 (LV b q8 a0 i) [] w' kc' ks') : LJ G b L xs 697 (LV b q8 a0 i) [] w kc ks := by
  obtain ⟨d1, mc1, ms1, f1, fs, b1, b2, b3, b4, he, hM, hstep⟩ := st_nearest (G := G) (cc := cc) (i := xs (i + 1)) (w := xs (i + 2))  q8 a0 w hS
  obtain ⟨g1, g2⟩ := hr.room hk b2 b3
  refine l_aload_n (n := 698) dL_law_697 rfl rfl ?_
  refine l_aload_n (n := 699) dL_law_698 rfl rfl ?_
  refine l_iload_n (n := 700) dL_law_699 rfl rfl ?_
  refine l_iconst (n := 701) (1) dL_law_700 rfl (by decide) ?_
  refine l_iadd (n := 702) dL_law_701 rfl ?_
  refine l_sld (n := 703) (i + 1) dL_law_702 rfl (nI_add i 1) (by omega) hL ?_
  refine l_aload_n (n := 704) dL_law_703 rfl rfl ?_
  refine l_iload_n (n := 705) dL_law_704 rfl rfl ?_
  refine l_iconst (n := 706) (2) dL_law_705 rfl (by decide) ?_
  refine l_iadd (n := 707) dL_law_706 rfl ?_
  refine l_sld (n := 708) (i + 2) dL_law_707 rfl (nI_add i 2) (by omega) hL ?_
  refine l_callVi (n := 711) (Y1 := Y_X10_nearest) 8 dL_law_708 m_L_87 cy_X10_nearest ci_X10_nearest hM rfl rfl rfl he rfl b1 g1 g2 (Nat.le_of_ble_eq_true rfl) (fun v1 w1 hf1 => ?_)
  obtain ⟨w1', d2, f2, gs, hp, c1, he2, hM2, hstep2⟩ := hstep v1 w1 hf1
  refine l_perm w1' hp ?_
  refine l_aload_n (n := 712) dL_law_711 rfl rfl ?_
  refine l_aload_n (n := 713) dL_law_712 rfl rfl ?_
  refine l_iload_n (n := 714) dL_law_713 rfl rfl ?_
  refine l_iconst (n := 715) (1) dL_law_714 rfl (by decide) ?_
  refine l_iadd (n := 716) dL_law_715 rfl ?_
  refine l_sld (n := 717) (i + 1) dL_law_716 rfl (nI_add i 1) (by omega) hL ?_
  refine l_aload_n (n := 718) dL_law_717 rfl rfl ?_
  refine l_iload_n (n := 719) dL_law_718 rfl rfl ?_
  refine l_iconst (n := 720) (2) dL_law_719 rfl (by decide) ?_
  refine l_iadd (n := 721) dL_law_720 rfl ?_
  refine l_sld (n := 722) (i + 2) dL_law_721 rfl (nI_add i 2) (by omega) hL ?_
  refine l_callVi (n := 725) (Y1 := Y_X11_nearest) 0 dL_law_722 m_L_90 cy_X11_nearest ci_X11_nearest hM2 rfl rfl rfl he2 rfl c1 g1 g2 (Nat.le_of_ble_eq_true rfl) (fun v2 w2 hf2 => ?_)
  obtain ⟨ev, w2', hp2, hS'⟩ := hstep2 v2 w2 hf2
  refine l_icmp_eq (n := 728) 865 dL_law_725 (by decide) rfl (fun _ => ?_) (fun c => absurd ev c)
  refine l_perm w2' hp2 ?_
  exact kk w2' _ _ _ hS' (hr.step b2 b3 b4 (Or.inl rfl))
theorem law_ways (hL : L ≤ 3072) (hi : i + 6 ≤ L) (hk : k < 512) (hS : STt G k cc q8 a0 w) (hr : RMm k cc kc ks) (kk : ∀ (w' : va_W) (cc' kc' ks' : Nat), STt G (k + 1) cc' q8 a0 w' → RMm (k + 1) cc' kc' ks' → LJ G b L xs 865 (LV b q8 a0 i) [] w' kc' ks') : LJ G b L xs 730 (LV b q8 a0 i) [] w kc ks := by
  obtain ⟨d1, mc1, ms1, f1, fs, b1, b2, b3, b4, he, hM, hstep⟩ := st_ways (G := G) (cc := cc) (e := xs (i + 1))  q8 a0 w hS
  obtain ⟨g1, g2⟩ := hr.room hk b2 b3
  refine l_aload_n (n := 731) dL_law_730 rfl rfl ?_
  refine l_aload_n (n := 732) dL_law_731 rfl rfl ?_
  refine l_iload_n (n := 733) dL_law_732 rfl rfl ?_
  refine l_iconst (n := 734) (1) dL_law_733 rfl (by decide) ?_
  refine l_iadd (n := 735) dL_law_734 rfl ?_
  refine l_sld (n := 736) (i + 1) dL_law_735 rfl (nI_add i 1) (by omega) hL ?_
  refine l_callVi (n := 739) (Y1 := Y_X10_ways) 8 dL_law_736 m_L_91 cy_X10_ways ci_X10_ways hM rfl rfl rfl he rfl b1 g1 g2 (Nat.le_of_ble_eq_true rfl) (fun v1 w1 hf1 => ?_)
  obtain ⟨w1', d2, f2, gs, hp, c1, he2, hM2, hstep2⟩ := hstep v1 w1 hf1
  refine l_perm w1' hp ?_
  refine l_aload_n (n := 740) dL_law_739 rfl rfl ?_
  refine l_aload_n (n := 741) dL_law_740 rfl rfl ?_
  refine l_iload_n (n := 742) dL_law_741 rfl rfl ?_
  refine l_iconst (n := 743) (1) dL_law_742 rfl (by decide) ?_
  refine l_iadd (n := 744) dL_law_743 rfl ?_
  refine l_sld (n := 745) (i + 1) dL_law_744 rfl (nI_add i 1) (by omega) hL ?_
  refine l_callVi (n := 748) (Y1 := Y_X11_ways) 0 dL_law_745 m_L_94 cy_X11_ways ci_X11_ways hM2 rfl rfl rfl he2 rfl c1 g1 g2 (Nat.le_of_ble_eq_true rfl) (fun v2 w2 hf2 => ?_)
  obtain ⟨ev, w2', hp2, hS'⟩ := hstep2 v2 w2 hf2
  refine l_icmp_eq (n := 751) 865 dL_law_748 (by decide) rfl (fun _ => ?_) (fun c => absurd ev c)
  refine l_perm w2' hp2 ?_
  exact kk w2' _ _ _ hS' (hr.step b2 b3 b4 (Or.inl rfl))
theorem law_way (hL : L ≤ 3072) (hi : i + 6 ≤ L) (hk : k < 512) (hS : STt G k cc q8 a0 w) (hr : RMm k cc kc ks) (kk : ∀ (w' : va_W) (cc' kc' ks' : Nat), STt G (k + 1) cc' q8 a0 w' → RMm (k + 1) cc' kc' ks' → LJ G b L xs 865 (LV b q8 a0 i) [] w' kc' ks') : LJ G b L xs 753 (LV b q8 a0 i) [] w kc ks := by
  obtain ⟨d1, mc1, ms1, f1, fs, b1, b2, b3, b4, he, hM, hstep⟩ := st_way (G := G) (cc := cc) (i := xs (i + 1)) (w := xs (i + 2))  q8 a0 w hS
  obtain ⟨g1, g2⟩ := hr.room hk b2 b3
  refine l_aload_n (n := 754) dL_law_753 rfl rfl ?_
  refine l_aload_n (n := 755) dL_law_754 rfl rfl ?_
  refine l_iload_n (n := 756) dL_law_755 rfl rfl ?_
  refine l_iconst (n := 757) (1) dL_law_756 rfl (by decide) ?_
  refine l_iadd (n := 758) dL_law_757 rfl ?_
  refine l_sld (n := 759) (i + 1) dL_law_758 rfl (nI_add i 1) (by omega) hL ?_
  refine l_aload_n (n := 760) dL_law_759 rfl rfl ?_
  refine l_iload_n (n := 761) dL_law_760 rfl rfl ?_
  refine l_iconst (n := 762) (2) dL_law_761 rfl (by decide) ?_
  refine l_iadd (n := 763) dL_law_762 rfl ?_
  refine l_sld (n := 764) (i + 2) dL_law_763 rfl (nI_add i 2) (by omega) hL ?_
  refine l_callVi (n := 767) (Y1 := Y_X10_way) 8 dL_law_764 m_L_95 cy_X10_way ci_X10_way hM rfl rfl rfl he rfl b1 g1 g2 (Nat.le_of_ble_eq_true rfl) (fun v1 w1 hf1 => ?_)
  obtain ⟨w1', d2, f2, gs, hp, c1, he2, hM2, hstep2⟩ := hstep v1 w1 hf1
  refine l_perm w1' hp ?_
  refine l_aload_n (n := 768) dL_law_767 rfl rfl ?_
  refine l_aload_n (n := 769) dL_law_768 rfl rfl ?_
  refine l_iload_n (n := 770) dL_law_769 rfl rfl ?_
  refine l_iconst (n := 771) (1) dL_law_770 rfl (by decide) ?_
  refine l_iadd (n := 772) dL_law_771 rfl ?_
  refine l_sld (n := 773) (i + 1) dL_law_772 rfl (nI_add i 1) (by omega) hL ?_
  refine l_aload_n (n := 774) dL_law_773 rfl rfl ?_
  refine l_iload_n (n := 775) dL_law_774 rfl rfl ?_
  refine l_iconst (n := 776) (2) dL_law_775 rfl (by decide) ?_
  refine l_iadd (n := 777) dL_law_776 rfl ?_
  refine l_sld (n := 778) (i + 2) dL_law_777 rfl (nI_add i 2) (by omega) hL ?_
  refine l_callVi (n := 781) (Y1 := Y_X11_way) 0 dL_law_778 m_L_98 cy_X11_way ci_X11_way hM2 rfl rfl rfl he2 rfl c1 g1 g2 (Nat.le_of_ble_eq_true rfl) (fun v2 w2 hf2 => ?_)
  obtain ⟨ev, w2', hp2, hS'⟩ := hstep2 v2 w2 hf2
  refine l_icmp_eq (n := 784) 865 dL_law_781 (by decide) rfl (fun _ => ?_) (fun c => absurd ev c)
  refine l_perm w2' hp2 ?_
  exact kk w2' _ _ _ hS' (hr.step b2 b3 b4 (Or.inl rfl))
theorem law_likes (hL : L ≤ 3072) (hi : i + 6 ≤ L) (hk : k < 512) (hS : STt G k cc q8 a0 w) (hr : RMm k cc kc ks) (kk : ∀ (w' : va_W) (cc' kc' ks' : Nat), STt G (k + 1) cc' q8 a0 w' → RMm (k + 1) cc' kc' ks' → LJ G b L xs 865 (LV b q8 a0 i) [] w' kc' ks') : LJ G b L xs 786 (LV b q8 a0 i) [] w kc ks := by
  obtain ⟨d1, mc1, ms1, f1, fs, b1, b2, b3, b4, he, hM, hstep⟩ := st_likes (G := G) (cc := cc) (q := xs (i + 1))  q8 a0 w hS
  obtain ⟨g1, g2⟩ := hr.room hk b2 b3
  refine l_aload_n (n := 787) dL_law_786 rfl rfl ?_
  refine l_aload_n (n := 788) dL_law_787 rfl rfl ?_
  refine l_iload_n (n := 789) dL_law_788 rfl rfl ?_
  refine l_iconst (n := 790) (1) dL_law_789 rfl (by decide) ?_
  refine l_iadd (n := 791) dL_law_790 rfl ?_
  refine l_sld (n := 792) (i + 1) dL_law_791 rfl (nI_add i 1) (by omega) hL ?_
  refine l_callVi (n := 795) (Y1 := Y_X10_likes) 8 dL_law_792 m_L_99 cy_X10_likes ci_X10_likes hM rfl rfl rfl he rfl b1 g1 g2 (Nat.le_of_ble_eq_true rfl) (fun v1 w1 hf1 => ?_)
  obtain ⟨w1', d2, f2, gs, hp, c1, he2, hM2, hstep2⟩ := hstep v1 w1 hf1
  refine l_perm w1' hp ?_
  refine l_aload_n (n := 796) dL_law_795 rfl rfl ?_
  refine l_aload_n (n := 797) dL_law_796 rfl rfl ?_
  refine l_iload_n (n := 798) dL_law_797 rfl rfl ?_
  refine l_iconst (n := 799) (1) dL_law_798 rfl (by decide) ?_
  refine l_iadd (n := 800) dL_law_799 rfl ?_
  refine l_sld (n := 801) (i + 1) dL_law_800 rfl (nI_add i 1) (by omega) hL ?_
  refine l_callVi (n := 804) (Y1 := Y_X11_likes) 0 dL_law_801 m_L_102 cy_X11_likes ci_X11_likes hM2 rfl rfl rfl he2 rfl c1 g1 g2 (Nat.le_of_ble_eq_true rfl) (fun v2 w2 hf2 => ?_)
  obtain ⟨ev, w2', hp2, hS'⟩ := hstep2 v2 w2 hf2
  refine l_icmp_eq (n := 807) 865 dL_law_804 (by decide) rfl (fun _ => ?_) (fun c => absurd ev c)
  refine l_perm w2' hp2 ?_
  exact kk w2' _ _ _ hS' (hr.step b2 b3 b4 (Or.inl rfl))
theorem law_like (hL : L ≤ 3072) (hi : i + 6 ≤ L) (hk : k < 512) (hS : STt G k cc q8 a0 w) (hr : RMm k cc kc ks) (kk : ∀ (w' : va_W) (cc' kc' ks' : Nat), STt G (k + 1) cc' q8 a0 w' → RMm (k + 1) cc' kc' ks' → LJ G b L xs 865 (LV b q8 a0 i) [] w' kc' ks') : LJ G b L xs 809 (LV b q8 a0 i) [] w kc ks := by
  obtain ⟨d1, mc1, ms1, f1, fs, b1, b2, b3, b4, he, hM, hstep⟩ := st_like (G := G) (cc := cc) (i := xs (i + 1)) (w := xs (i + 2))  q8 a0 w hS
  obtain ⟨g1, g2⟩ := hr.room hk b2 b3
  refine l_aload_n (n := 810) dL_law_809 rfl rfl ?_
  refine l_aload_n (n := 811) dL_law_810 rfl rfl ?_
  refine l_iload_n (n := 812) dL_law_811 rfl rfl ?_
  refine l_iconst (n := 813) (1) dL_law_812 rfl (by decide) ?_
  refine l_iadd (n := 814) dL_law_813 rfl ?_
  refine l_sld (n := 815) (i + 1) dL_law_814 rfl (nI_add i 1) (by omega) hL ?_
  refine l_aload_n (n := 816) dL_law_815 rfl rfl ?_
  refine l_iload_n (n := 817) dL_law_816 rfl rfl ?_
  refine l_iconst (n := 818) (2) dL_law_817 rfl (by decide) ?_
  refine l_iadd (n := 819) dL_law_818 rfl ?_
  refine l_sld (n := 820) (i + 2) dL_law_819 rfl (nI_add i 2) (by omega) hL ?_
  refine l_callVi (n := 823) (Y1 := Y_X10_like) 8 dL_law_820 m_L_103 cy_X10_like ci_X10_like hM rfl rfl rfl he rfl b1 g1 g2 (Nat.le_of_ble_eq_true rfl) (fun v1 w1 hf1 => ?_)
  obtain ⟨w1', d2, f2, gs, hp, c1, he2, hM2, hstep2⟩ := hstep v1 w1 hf1
  refine l_perm w1' hp ?_
  refine l_aload_n (n := 824) dL_law_823 rfl rfl ?_
  refine l_aload_n (n := 825) dL_law_824 rfl rfl ?_
  refine l_iload_n (n := 826) dL_law_825 rfl rfl ?_
  refine l_iconst (n := 827) (1) dL_law_826 rfl (by decide) ?_
  refine l_iadd (n := 828) dL_law_827 rfl ?_
  refine l_sld (n := 829) (i + 1) dL_law_828 rfl (nI_add i 1) (by omega) hL ?_
  refine l_aload_n (n := 830) dL_law_829 rfl rfl ?_
  refine l_iload_n (n := 831) dL_law_830 rfl rfl ?_
  refine l_iconst (n := 832) (2) dL_law_831 rfl (by decide) ?_
  refine l_iadd (n := 833) dL_law_832 rfl ?_
  refine l_sld (n := 834) (i + 2) dL_law_833 rfl (nI_add i 2) (by omega) hL ?_
  refine l_callVi (n := 837) (Y1 := Y_X11_like) 0 dL_law_834 m_L_106 cy_X11_like ci_X11_like hM2 rfl rfl rfl he2 rfl c1 g1 g2 (Nat.le_of_ble_eq_true rfl) (fun v2 w2 hf2 => ?_)
  obtain ⟨ev, w2', hp2, hS'⟩ := hstep2 v2 w2 hf2
  refine l_icmp_eq (n := 840) 865 dL_law_837 (by decide) rfl (fun _ => ?_) (fun c => absurd ev c)
  refine l_perm w2' hp2 ?_
  exact kk w2' _ _ _ hS' (hr.step b2 b3 b4 (Or.inl rfl))
theorem law_count (hL : L ≤ 3072) (hi : i + 6 ≤ L) (hk : k < 512) (hS : STt G k cc q8 a0 w) (hr : RMm k cc kc ks) (kk : ∀ (w' : va_W) (cc' kc' ks' : Nat), STt G (k + 1) cc' q8 a0 w' → RMm (k + 1) cc' kc' ks' → LJ G b L xs 865 (LV b q8 a0 i) [] w' kc' ks') : LJ G b L xs 842 (LV b q8 a0 i) [] w kc ks := by
  obtain ⟨d1, mc1, ms1, f1, fs, b1, b2, b3, b4, he, hM, hstep⟩ := st_count (G := G) (cc := cc) (w := xs (i + 1))  q8 a0 w hS
  obtain ⟨g1, g2⟩ := hr.room hk b2 b3
  refine l_aload_n (n := 843) dL_law_842 rfl rfl ?_
  refine l_aload_n (n := 844) dL_law_843 rfl rfl ?_
  refine l_iload_n (n := 845) dL_law_844 rfl rfl ?_
  refine l_iconst (n := 846) (1) dL_law_845 rfl (by decide) ?_
  refine l_iadd (n := 847) dL_law_846 rfl ?_
  refine l_sld (n := 848) (i + 1) dL_law_847 rfl (nI_add i 1) (by omega) hL ?_
  refine l_callVi (n := 851) (Y1 := Y_X10_count) 8 dL_law_848 m_L_107 cy_X10_count ci_X10_count hM rfl rfl rfl he rfl b1 g1 g2 (Nat.le_of_ble_eq_true rfl) (fun v1 w1 hf1 => ?_)
  obtain ⟨w1', d2, f2, gs, hp, c1, he2, hM2, hstep2⟩ := hstep v1 w1 hf1
  refine l_perm w1' hp ?_
  refine l_aload_n (n := 852) dL_law_851 rfl rfl ?_
  refine l_aload_n (n := 853) dL_law_852 rfl rfl ?_
  refine l_iload_n (n := 854) dL_law_853 rfl rfl ?_
  refine l_iconst (n := 855) (1) dL_law_854 rfl (by decide) ?_
  refine l_iadd (n := 856) dL_law_855 rfl ?_
  refine l_sld (n := 857) (i + 1) dL_law_856 rfl (nI_add i 1) (by omega) hL ?_
  refine l_callVi (n := 860) (Y1 := Y_X11_count) 0 dL_law_857 m_L_110 cy_X11_count ci_X11_count hM2 rfl rfl rfl he2 rfl c1 g1 g2 (Nat.le_of_ble_eq_true rfl) (fun v2 w2 hf2 => ?_)
  obtain ⟨ev, w2', hp2, hS'⟩ := hstep2 v2 w2 hf2
  refine l_icmp_eq (n := 863) 865 dL_law_860 (by decide) rfl (fun _ => ?_) (fun c => absurd ev c)
  refine l_perm w2' hp2 ?_
  exact kk w2' _ _ _ hS' (hr.step b2 b3 b4 (Or.inl rfl))
theorem STt.up (h : STt G k cc q8 a0 w) : STt G (k + 1) cc q8 a0 w := by
  obtain ⟨Q, N, Z, F, nm, Ef, T, E, A, M, ZR, R, el, et, rf, rw, rs, ns, e1, e2, h0, e3, hS⟩ := h
  exact ⟨Q, N, Z, F, nm, Ef, T, E, A, M, ZR, R, el, et, rf, rw, rs, ns, e1, e2, h0, e3, hS.1.up, hS.2.1, hS.2.2⟩
theorem lim6 {L i : Nat} (hL : L ≤ 3072) (hi : i ≤ 4000) : nI L - 6 < nI i ↔ L < i + 6 := by
  have h1 : (nI L - nI 6).toInt = (L : Int) - (6 : Nat) := pk_sub_toInt (by omega) (by omega)
  have h2 := nI_toInt (show i < 2 ^ 31 by omega)
  have h3 : (nI L - 6).toInt = (L : Int) - (6 : Nat) := h1
  rw [Int32.lt_iff_toInt_lt, h3, h2]
  omega
theorem law_loop (hL : L ≤ 3072) : ∀ (n k cc kc ks : Nat) (w : va_W), L < 6 * k + 6 + 6 * n → 6 * k ≤ L → STt G k cc q8 a0 w → RMm k cc kc ks → LJ G b L xs 18 (LV b q8 a0 (6 * k)) [] w kc ks := by
  have exitL : ∀ (k cc kc ks i : Nat) (w : va_W), k ≤ 512 → RMm k cc kc ks → LJ G b L xs 871 (LV b q8 a0 i) [] w kc ks := by
    intro k cc kc ks i w hk hr
    refine l_iconst (n := 872) (1) dL_law_871 rfl (by decide) ?_
    obtain ⟨a1, a2, a3⟩ := hr
    refine l_ret dL_law_872 (by omega) ?_
    rcases a3 with ⟨-, a3⟩ | ⟨a4, a3⟩ <;> omega
  intro n
  induction n with
  | zero =>
    intro k cc kc ks w hn hle hS hr
    refine l_iload_n (n := 19) dL_law_18 rfl rfl ?_
    refine l_aload_n (n := 20) dL_law_19 rfl rfl ?_
    refine l_slen (n := 21) dL_law_20 rfl ?_
    refine l_bipush (n := 23) (6) dL_law_21 rfl (by decide) ?_
    refine l_isub (n := 24) dL_law_23 rfl ?_
    refine l_icmp_gt (n := 27) 871 dL_law_24 (by decide) rfl (fun c => ?_) (fun c => ?_)
    · exact exitL k cc kc ks _ w (by omega) hr
    · exact absurd ((lim6 hL (by omega)).mpr (by omega)) c
  | succ n ih =>
    intro k cc kc ks w hn hle hS hr
    have ih := ih (k + 1)
    refine l_iload_n (n := 19) dL_law_18 rfl rfl ?_
    refine l_aload_n (n := 20) dL_law_19 rfl rfl ?_
    refine l_slen (n := 21) dL_law_20 rfl ?_
    refine l_bipush (n := 23) (6) dL_law_21 rfl (by decide) ?_
    refine l_isub (n := 24) dL_law_23 rfl ?_
    refine l_icmp_gt (n := 27) 871 dL_law_24 (by decide) rfl (fun c => ?_) (fun c => ?_)
    · exact exitL k cc kc ks _ w (by omega) hr
    · have hi : 6 * k + 6 ≤ L := Nat.le_of_not_lt (fun q => c ((lim6 hL (by omega)).mpr q))
      have hk : k < 512 := by omega
      have kk : ∀ (w' : va_W) (cc' kc' ks' : Nat), STt G (k + 1) cc' q8 a0 w' → RMm (k + 1) cc' kc' ks' → LJ G b L xs 865 (LV b q8 a0 (6 * k)) [] w' kc' ks' := by
        intro w' cc' kc' ks' hS' hr'
        refine l_iinc (n := 868) (nI (6 * (k + 1))) dL_law_865 rfl rfl (by rw [show Int32.ofInt 6 = nI 6 from by decide, nI_add]; rfl) (by decide) ?_
        refine l_goto 18 dL_law_868 (by decide) ?_
        exact ih cc' kc' ks' w' (by omega) (by omega) hS' hr'
      refine l_aload_n (n := 28) dL_law_27 rfl rfl ?_
      refine l_iload_n (n := 29) dL_law_28 rfl rfl ?_
      refine l_sld (n := 30) (6 * k) dL_law_29 rfl rfl (by omega) hL ?_
      refine l_bipush (n := 32) (31) dL_law_30 rfl (by decide) ?_
      refine l_iand (n := 33) dL_law_32 rfl ?_
      obtain ⟨j, hj, ej⟩ := pk_andE (xs (6 * k)) (m := 31) 5 (by decide)
      refine l_top (nI j) ej ?_
      have hj : j < 32 := hj
      clear ej
      match j, hj with
      | 0, _ => exact l_tableIn 140 dL_law_33 (by decide) (by decide) (off := 107) (by decide) (by decide) (law_feed hL hi hk hS hr kk)
      | 1, _ => exact l_tableIn 203 dL_law_33 (by decide) (by decide) (off := 170) (by decide) (by decide) (law_end hL hi hk hS hr kk)
      | 2, _ => exact l_tableIn 226 dL_law_33 (by decide) (by decide) (off := 193) (by decide) (by decide) (law_script hL hi hk hS hr kk)
      | 3, _ => exact l_tableIn 259 dL_law_33 (by decide) (by decide) (off := 226) (by decide) (by decide) (law_seen hL hi hk hS hr kk)
      | 4, _ => exact l_tableIn 292 dL_law_33 (by decide) (by decide) (off := 259) (by decide) (by decide) (law_confuse hL hi hk hS hr kk)
      | 5, _ => exact l_tableIn 335 dL_law_33 (by decide) (by decide) (off := 302) (by decide) (by decide) (law_chain hL hi hk hS hr kk)
      | 6, _ => exact l_tableIn 368 dL_law_33 (by decide) (by decide) (off := 335) (by decide) (by decide) (law_allow hL hi hk hS hr kk)
      | 7, _ => exact l_tableIn 391 dL_law_33 (by decide) (by decide) (off := 358) (by decide) (by decide) (law_name hL hi hk hS hr kk)
      | 8, _ => exact l_tableIn 404 dL_law_33 (by decide) (by decide) (off := 371) (by decide) (by decide) (law_fault hL hi hk hS hr kk)
      | 9, _ => exact l_tableIn 427 dL_law_33 (by decide) (by decide) (off := 394) (by decide) (by decide) (law_about hL hi hk hS hr kk)
      | 10, _ => exact l_tableIn 450 dL_law_33 (by decide) (by decide) (off := 417) (by decide) (by decide) (law_rule hL hi hk hS hr kk)
      | 11, _ => exact l_tableIn 519 dL_law_33 (by decide) (by decide) (off := 486) (by decide) (by decide) (law_ask hL hi hk hS hr kk)
      | 12, _ => exact l_tableIn 552 dL_law_33 (by decide) (by decide) (off := 519) (by decide) (by decide) (law_enter hL hi hk hS hr kk)
      | 13, _ => exact l_tableIn 585 dL_law_33 (by decide) (by decide) (off := 552) (by decide) (by decide) (law_strike hL hi hk hS hr kk)
      | 14, _ => exact l_tableIn 608 dL_law_33 (by decide) (by decide) (off := 575) (by decide) (by decide) (law_entry hL hi hk hS hr kk)
      | 15, _ => exact l_tableIn 641 dL_law_33 (by decide) (by decide) (off := 608) (by decide) (by decide) (law_far hL hi hk hS hr kk)
      | 16, _ => exact l_tableIn 664 dL_law_33 (by decide) (by decide) (off := 631) (by decide) (by decide) (law_near hL hi hk hS hr kk)
      | 17, _ => exact l_tableIn 697 dL_law_33 (by decide) (by decide) (off := 664) (by decide) (by decide) (law_nearest hL hi hk hS hr kk)
      | 18, _ => exact l_tableIn 730 dL_law_33 (by decide) (by decide) (off := 697) (by decide) (by decide) (law_ways hL hi hk hS hr kk)
      | 19, _ => exact l_tableIn 753 dL_law_33 (by decide) (by decide) (off := 720) (by decide) (by decide) (law_way hL hi hk hS hr kk)
      | 20, _ => exact l_tableIn 786 dL_law_33 (by decide) (by decide) (off := 753) (by decide) (by decide) (law_likes hL hi hk hS hr kk)
      | 21, _ => exact l_tableIn 809 dL_law_33 (by decide) (by decide) (off := 776) (by decide) (by decide) (law_like hL hi hk hS hr kk)
      | 22, _ => exact l_tableIn 842 dL_law_33 (by decide) (by decide) (off := 809) (by decide) (by decide) (law_count hL hi hk hS hr kk)
      | j + 23, hj =>
        refine l_tableOut 865 dL_law_33 (Or.inr ?_) (by decide) ?_
        · rw [nI_toInt (by omega)]; omega
        · exact kk w cc kc ks hS.up (hr.step (mc1 := 0) (ms1 := 0) (by omega) (by omega) (fun _ => by omega) (Or.inl rfl))
end LW
