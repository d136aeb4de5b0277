theorem dM_reply_0 : decode cM_reply 0 = .ok (.aload_n 0, 1) := by decide +kernel
theorem dM_reply_1 : decode cM_reply 1 = .ok (.iconst 0, 1) := by decide +kernel
theorem dM_reply_2 : decode cM_reply 2 = .ok (.putfield 68, 3) := by decide +kernel
theorem dM_reply_5 : decode cM_reply 5 = .ok (.aload_n 0, 1) := by decide +kernel
theorem dM_reply_6 : decode cM_reply 6 = .ok (.getfield 80, 3) := by decide +kernel
theorem dM_reply_9 : decode cM_reply 9 = .ok (.istore 5, 2) := by decide +kernel
theorem dM_reply_11 : decode cM_reply 11 = .ok (.aload_n 0, 1) := by decide +kernel
theorem dM_reply_12 : decode cM_reply 12 = .ok (.iconst 0, 1) := by decide +kernel
theorem dM_reply_13 : decode cM_reply 13 = .ok (.putfield 80, 3) := by decide +kernel
theorem dM_reply_16 : decode cM_reply 16 = .ok (.iload_n 1, 1) := by decide +kernel
theorem dM_reply_17 : decode cM_reply 17 = .ok (.invokestatic 115, 3) := by decide +kernel
theorem dM_reply_20 : decode cM_reply 20 = .ok (.ifCond .ne 17, 3) := by decide +kernel
theorem dM_reply_23 : decode cM_reply 23 = .ok (.aload_n 0, 1) := by decide +kernel
theorem dM_reply_24 : decode cM_reply 24 = .ok (.iconst 1, 1) := by decide +kernel
theorem dM_reply_25 : decode cM_reply 25 = .ok (.invokevirtual 76, 3) := by decide +kernel
theorem dM_reply_28 : decode cM_reply 28 = .ok (.ifCond .le 7, 3) := by decide +kernel
theorem dM_reply_31 : decode cM_reply 31 = .ok (.iconst 1, 1) := by decide +kernel
theorem dM_reply_32 : decode cM_reply 32 = .ok (.goto 4, 3) := by decide +kernel
theorem dM_reply_35 : decode cM_reply 35 = .ok (.iconst 0, 1) := by decide +kernel
theorem dM_reply_36 : decode cM_reply 36 = .ok (.ireturn, 1) := by decide +kernel
theorem dM_reply_37 : decode cM_reply 37 = .ok (.iload_n 3, 1) := by decide +kernel
theorem dM_reply_38 : decode cM_reply 38 = .ok (.ifCond .ne 30, 3) := by decide +kernel
theorem dM_reply_41 : decode cM_reply 41 = .ok (.iload 4, 2) := by decide +kernel
theorem dM_reply_43 : decode cM_reply 43 = .ok (.iconst 1, 1) := by decide +kernel
theorem dM_reply_44 : decode cM_reply 44 = .ok (.ldc 129, 2) := by decide +kernel
theorem dM_reply_46 : decode cM_reply 46 = .ok (.invokestatic 72, 3) := by decide +kernel
theorem dM_reply_49 : decode cM_reply 49 = .ok (.ifCond .eq 15, 3) := by decide +kernel
theorem dM_reply_52 : decode cM_reply 52 = .ok (.iload 5, 2) := by decide +kernel
theorem dM_reply_54 : decode cM_reply 54 = .ok (.sipush 134, 3) := by decide +kernel
theorem dM_reply_57 : decode cM_reply 57 = .ok (.if_icmp .gt 7, 3) := by decide +kernel
theorem dM_reply_60 : decode cM_reply 60 = .ok (.iconst 1, 1) := by decide +kernel
theorem dM_reply_61 : decode cM_reply 61 = .ok (.goto 50, 3) := by decide +kernel
theorem dM_reply_64 : decode cM_reply 64 = .ok (.iconst 0, 1) := by decide +kernel
theorem dM_reply_65 : decode cM_reply 65 = .ok (.goto 46, 3) := by decide +kernel
theorem dM_reply_68 : decode cM_reply 68 = .ok (.iload 5, 2) := by decide +kernel
theorem dM_reply_70 : decode cM_reply 70 = .ok (.ifCond .ne 40, 3) := by decide +kernel
theorem dM_reply_73 : decode cM_reply 73 = .ok (.iload_n 3, 1) := by decide +kernel
theorem dM_reply_74 : decode cM_reply 74 = .ok (.iconst 1, 1) := by decide +kernel
theorem dM_reply_75 : decode cM_reply 75 = .ok (.if_icmp .ne 17, 3) := by decide +kernel
theorem dM_reply_78 : decode cM_reply 78 = .ok (.iload 4, 2) := by decide +kernel
theorem dM_reply_80 : decode cM_reply 80 = .ok (.iconst (-1), 1) := by decide +kernel
theorem dM_reply_81 : decode cM_reply 81 = .ok (.bipush 6, 2) := by decide +kernel
theorem dM_reply_83 : decode cM_reply 83 = .ok (.invokestatic 72, 3) := by decide +kernel
theorem dM_reply_86 : decode cM_reply 86 = .ok (.ifCond .eq 24, 3) := by decide +kernel
theorem dM_reply_89 : decode cM_reply 89 = .ok (.goto 17, 3) := by decide +kernel
theorem dM_reply_92 : decode cM_reply 92 = .ok (.iload_n 3, 1) := by decide +kernel
theorem dM_reply_93 : decode cM_reply 93 = .ok (.iconst 2, 1) := by decide +kernel
theorem dM_reply_94 : decode cM_reply 94 = .ok (.iconst 3, 1) := by decide +kernel
theorem dM_reply_95 : decode cM_reply 95 = .ok (.invokestatic 72, 3) := by decide +kernel
theorem dM_reply_98 : decode cM_reply 98 = .ok (.ifCond .eq 12, 3) := by decide +kernel
theorem dM_reply_101 : decode cM_reply 101 = .ok (.iload 4, 2) := by decide +kernel
theorem dM_reply_103 : decode cM_reply 103 = .ok (.ifCond .ne 7, 3) := by decide +kernel
theorem dM_reply_106 : decode cM_reply 106 = .ok (.iconst 1, 1) := by decide +kernel
theorem dM_reply_107 : decode cM_reply 107 = .ok (.goto 4, 3) := by decide +kernel
theorem dM_reply_110 : decode cM_reply 110 = .ok (.iconst 0, 1) := by decide +kernel
theorem dM_reply_111 : decode cM_reply 111 = .ok (.istore 6, 2) := by decide +kernel
theorem dM_reply_113 : decode cM_reply 113 = .ok (.iload 6, 2) := by decide +kernel
theorem dM_reply_115 : decode cM_reply 115 = .ok (.ifCond .ne 17, 3) := by decide +kernel
theorem dM_reply_118 : decode cM_reply 118 = .ok (.aload_n 0, 1) := by decide +kernel
theorem dM_reply_119 : decode cM_reply 119 = .ok (.iconst 2, 1) := by decide +kernel
theorem dM_reply_120 : decode cM_reply 120 = .ok (.invokevirtual 76, 3) := by decide +kernel
theorem dM_reply_123 : decode cM_reply 123 = .ok (.ifCond .le 7, 3) := by decide +kernel
theorem dM_reply_126 : decode cM_reply 126 = .ok (.iconst 1, 1) := by decide +kernel
theorem dM_reply_127 : decode cM_reply 127 = .ok (.goto 4, 3) := by decide +kernel
theorem dM_reply_130 : decode cM_reply 130 = .ok (.iconst 0, 1) := by decide +kernel
theorem dM_reply_131 : decode cM_reply 131 = .ok (.ireturn, 1) := by decide +kernel
theorem dM_reply_132 : decode cM_reply 132 = .ok (.aload_n 0, 1) := by decide +kernel
theorem dM_reply_133 : decode cM_reply 133 = .ok (.getfield 13, 3) := by decide +kernel
theorem dM_reply_136 : decode cM_reply 136 = .ok (.iload_n 1, 1) := by decide +kernel
theorem dM_reply_137 : decode cM_reply 137 = .ok (.baload, 1) := by decide +kernel
theorem dM_reply_138 : decode cM_reply 138 = .ok (.ifCond .eq 13, 3) := by decide +kernel
theorem dM_reply_141 : decode cM_reply 141 = .ok (.iload_n 2, 1) := by decide +kernel
theorem dM_reply_142 : decode cM_reply 142 = .ok (.aload_n 0, 1) := by decide +kernel
theorem dM_reply_143 : decode cM_reply 143 = .ok (.getfield 26, 3) := by decide +kernel
theorem dM_reply_146 : decode cM_reply 146 = .ok (.iload_n 1, 1) := by decide +kernel
theorem dM_reply_147 : decode cM_reply 147 = .ok (.iaload, 1) := by decide +kernel
theorem dM_reply_148 : decode cM_reply 148 = .ok (.if_icmp .eq 5, 3) := by decide +kernel
theorem dM_reply_151 : decode cM_reply 151 = .ok (.iconst 0, 1) := by decide +kernel
theorem dM_reply_152 : decode cM_reply 152 = .ok (.ireturn, 1) := by decide +kernel
theorem dM_reply_153 : decode cM_reply 153 = .ok (.iload_n 3, 1) := by decide +kernel
theorem dM_reply_154 : decode cM_reply 154 = .ok (.ifCond .ne 35, 3) := by decide +kernel
theorem dM_reply_157 : decode cM_reply 157 = .ok (.aload_n 0, 1) := by decide +kernel
theorem dM_reply_158 : decode cM_reply 158 = .ok (.getfield 32, 3) := by decide +kernel
theorem dM_reply_161 : decode cM_reply 161 = .ok (.iload_n 1, 1) := by decide +kernel
theorem dM_reply_162 : decode cM_reply 162 = .ok (.baload, 1) := by decide +kernel
theorem dM_reply_163 : decode cM_reply 163 = .ok (.ifCond .eq 26, 3) := by decide +kernel
theorem dM_reply_166 : decode cM_reply 166 = .ok (.aload_n 0, 1) := by decide +kernel
theorem dM_reply_167 : decode cM_reply 167 = .ok (.getfield 20, 3) := by decide +kernel
theorem dM_reply_170 : decode cM_reply 170 = .ok (.iload_n 1, 1) := by decide +kernel
theorem dM_reply_171 : decode cM_reply 171 = .ok (.iload 4, 2) := by decide +kernel
theorem dM_reply_173 : decode cM_reply 173 = .ok (.iastore, 1) := by decide +kernel
theorem dM_reply_174 : decode cM_reply 174 = .ok (.aload_n 0, 1) := by decide +kernel
theorem dM_reply_175 : decode cM_reply 175 = .ok (.getfield 23, 3) := by decide +kernel
theorem dM_reply_178 : decode cM_reply 178 = .ok (.iload_n 1, 1) := by decide +kernel
theorem dM_reply_179 : decode cM_reply 179 = .ok (.iconst 0, 1) := by decide +kernel
theorem dM_reply_180 : decode cM_reply 180 = .ok (.iastore, 1) := by decide +kernel
theorem dM_reply_181 : decode cM_reply 181 = .ok (.aload_n 0, 1) := by decide +kernel
theorem dM_reply_182 : decode cM_reply 182 = .ok (.iload_n 1, 1) := by decide +kernel
theorem dM_reply_183 : decode cM_reply 183 = .ok (.invokevirtual 126, 3) := by decide +kernel
theorem dM_reply_186 : decode cM_reply 186 = .ok (.goto 150, 3) := by decide +kernel
theorem dM_reply_189 : decode cM_reply 189 = .ok (.iload_n 3, 1) := by decide +kernel
theorem dM_reply_190 : decode cM_reply 190 = .ok (.ifCond .ne 58, 3) := by decide +kernel
theorem dM_reply_193 : decode cM_reply 193 = .ok (.iconst 0, 1) := by decide +kernel
theorem dM_reply_194 : decode cM_reply 194 = .ok (.istore 7, 2) := by decide +kernel
theorem dM_reply_196 : decode cM_reply 196 = .ok (.iload 7, 2) := by decide +kernel
theorem dM_reply_198 : decode cM_reply 198 = .ok (.iload 5, 2) := by decide +kernel
theorem dM_reply_200 : decode cM_reply 200 = .ok (.if_icmp .ge 29, 3) := by decide +kernel
theorem dM_reply_203 : decode cM_reply 203 = .ok (.aload_n 0, 1) := by decide +kernel
theorem dM_reply_204 : decode cM_reply 204 = .ok (.getfield 59, 3) := by decide +kernel
theorem dM_reply_207 : decode cM_reply 207 = .ok (.sipush 134, 3) := by decide +kernel
theorem dM_reply_210 : decode cM_reply 210 = .ok (.iload_n 1, 1) := by decide +kernel
theorem dM_reply_211 : decode cM_reply 211 = .ok (.imul, 1) := by decide +kernel
theorem dM_reply_212 : decode cM_reply 212 = .ok (.iload 7, 2) := by decide +kernel
theorem dM_reply_214 : decode cM_reply 214 = .ok (.iadd, 1) := by decide +kernel
theorem dM_reply_215 : decode cM_reply 215 = .ok (.aload_n 0, 1) := by decide +kernel
theorem dM_reply_216 : decode cM_reply 216 = .ok (.getfield 7, 3) := by decide +kernel
theorem dM_reply_219 : decode cM_reply 219 = .ok (.iload 7, 2) := by decide +kernel
theorem dM_reply_221 : decode cM_reply 221 = .ok (.iaload, 1) := by decide +kernel
theorem dM_reply_222 : decode cM_reply 222 = .ok (.iastore, 1) := by decide +kernel
theorem dM_reply_223 : decode cM_reply 223 = .ok (.iinc 7 1, 3) := by decide +kernel
theorem dM_reply_226 : decode cM_reply 226 = .ok (.goto (-30), 3) := by decide +kernel
theorem dM_reply_229 : decode cM_reply 229 = .ok (.aload_n 0, 1) := by decide +kernel
theorem dM_reply_230 : decode cM_reply 230 = .ok (.getfield 56, 3) := by decide +kernel
theorem dM_reply_233 : decode cM_reply 233 = .ok (.iload_n 1, 1) := by decide +kernel
theorem dM_reply_234 : decode cM_reply 234 = .ok (.iload 5, 2) := by decide +kernel
theorem dM_reply_236 : decode cM_reply 236 = .ok (.iastore, 1) := by decide +kernel
theorem dM_reply_237 : decode cM_reply 237 = .ok (.aload_n 0, 1) := by decide +kernel
theorem dM_reply_238 : decode cM_reply 238 = .ok (.iload_n 1, 1) := by decide +kernel
theorem dM_reply_239 : decode cM_reply 239 = .ok (.iconst 1, 1) := by decide +kernel
theorem dM_reply_240 : decode cM_reply 240 = .ok (.iload 4, 2) := by decide +kernel
theorem dM_reply_242 : decode cM_reply 242 = .ok (.invokevirtual 98, 3) := by decide +kernel
theorem dM_reply_245 : decode cM_reply 245 = .ok (.goto 91, 3) := by decide +kernel
theorem dM_reply_248 : decode cM_reply 248 = .ok (.iload_n 3, 1) := by decide +kernel
theorem dM_reply_249 : decode cM_reply 249 = .ok (.iconst 1, 1) := by decide +kernel
theorem dM_reply_250 : decode cM_reply 250 = .ok (.if_icmp .ne 24, 3) := by decide +kernel
theorem dM_reply_253 : decode cM_reply 253 = .ok (.iload 4, 2) := by decide +kernel
theorem dM_reply_255 : decode cM_reply 255 = .ok (.ifCond .lt 19, 3) := by decide +kernel
theorem dM_reply_258 : decode cM_reply 258 = .ok (.aload_n 0, 1) := by decide +kernel
theorem dM_reply_259 : decode cM_reply 259 = .ok (.getfield 17, 3) := by decide +kernel
theorem dM_reply_262 : decode cM_reply 262 = .ok (.iload_n 1, 1) := by decide +kernel
theorem dM_reply_263 : decode cM_reply 263 = .ok (.iload 4, 2) := by decide +kernel
theorem dM_reply_265 : decode cM_reply 265 = .ok (.iastore, 1) := by decide +kernel
theorem dM_reply_266 : decode cM_reply 266 = .ok (.aload_n 0, 1) := by decide +kernel
theorem dM_reply_267 : decode cM_reply 267 = .ok (.iload_n 1, 1) := by decide +kernel
theorem dM_reply_268 : decode cM_reply 268 = .ok (.invokevirtual 112, 3) := by decide +kernel
theorem dM_reply_271 : decode cM_reply 271 = .ok (.goto 65, 3) := by decide +kernel
theorem dM_reply_274 : decode cM_reply 274 = .ok (.iload_n 3, 1) := by decide +kernel
theorem dM_reply_275 : decode cM_reply 275 = .ok (.iconst 1, 1) := by decide +kernel
theorem dM_reply_276 : decode cM_reply 276 = .ok (.if_icmp .ne 30, 3) := by decide +kernel
theorem dM_reply_279 : decode cM_reply 279 = .ok (.aload_n 0, 1) := by decide +kernel
theorem dM_reply_280 : decode cM_reply 280 = .ok (.getfield 17, 3) := by decide +kernel
theorem dM_reply_283 : decode cM_reply 283 = .ok (.iload_n 1, 1) := by decide +kernel
theorem dM_reply_284 : decode cM_reply 284 = .ok (.aload_n 0, 1) := by decide +kernel
theorem dM_reply_285 : decode cM_reply 285 = .ok (.getfield 17, 3) := by decide +kernel
theorem dM_reply_288 : decode cM_reply 288 = .ok (.iload_n 1, 1) := by decide +kernel
theorem dM_reply_289 : decode cM_reply 289 = .ok (.iaload, 1) := by decide +kernel
theorem dM_reply_290 : decode cM_reply 290 = .ok (.iconst 1, 1) := by decide +kernel
theorem dM_reply_291 : decode cM_reply 291 = .ok (.iadd, 1) := by decide +kernel
theorem dM_reply_292 : decode cM_reply 292 = .ok (.bipush 7, 2) := by decide +kernel
theorem dM_reply_294 : decode cM_reply 294 = .ok (.irem, 1) := by decide +kernel
theorem dM_reply_295 : decode cM_reply 295 = .ok (.iastore, 1) := by decide +kernel
theorem dM_reply_296 : decode cM_reply 296 = .ok (.aload_n 0, 1) := by decide +kernel
theorem dM_reply_297 : decode cM_reply 297 = .ok (.iload_n 1, 1) := by decide +kernel
theorem dM_reply_298 : decode cM_reply 298 = .ok (.iconst 5, 1) := by decide +kernel
theorem dM_reply_299 : decode cM_reply 299 = .ok (.iconst 0, 1) := by decide +kernel
theorem dM_reply_300 : decode cM_reply 300 = .ok (.invokevirtual 108, 3) := by decide +kernel
theorem dM_reply_303 : decode cM_reply 303 = .ok (.goto 33, 3) := by decide +kernel
theorem dM_reply_306 : decode cM_reply 306 = .ok (.iload_n 3, 1) := by decide +kernel
theorem dM_reply_307 : decode cM_reply 307 = .ok (.iconst 2, 1) := by decide +kernel
theorem dM_reply_308 : decode cM_reply 308 = .ok (.if_icmp .ne 20, 3) := by decide +kernel
theorem dM_reply_311 : decode cM_reply 311 = .ok (.aload_n 0, 1) := by decide +kernel
theorem dM_reply_312 : decode cM_reply 312 = .ok (.getfield 20, 3) := by decide +kernel
theorem dM_reply_315 : decode cM_reply 315 = .ok (.iload_n 1, 1) := by decide +kernel
theorem dM_reply_316 : decode cM_reply 316 = .ok (.iconst (-1), 1) := by decide +kernel
theorem dM_reply_317 : decode cM_reply 317 = .ok (.iastore, 1) := by decide +kernel
theorem dM_reply_318 : decode cM_reply 318 = .ok (.aload_n 0, 1) := by decide +kernel
theorem dM_reply_319 : decode cM_reply 319 = .ok (.iload_n 1, 1) := by decide +kernel
theorem dM_reply_320 : decode cM_reply 320 = .ok (.iconst 2, 1) := by decide +kernel
theorem dM_reply_321 : decode cM_reply 321 = .ok (.iconst (-1), 1) := by decide +kernel
theorem dM_reply_322 : decode cM_reply 322 = .ok (.invokevirtual 98, 3) := by decide +kernel
theorem dM_reply_325 : decode cM_reply 325 = .ok (.goto 11, 3) := by decide +kernel
theorem dM_reply_328 : decode cM_reply 328 = .ok (.aload_n 0, 1) := by decide +kernel
theorem dM_reply_329 : decode cM_reply 329 = .ok (.iload_n 1, 1) := by decide +kernel
theorem dM_reply_330 : decode cM_reply 330 = .ok (.bipush 20, 2) := by decide +kernel
theorem dM_reply_332 : decode cM_reply 332 = .ok (.iconst 0, 1) := by decide +kernel
theorem dM_reply_333 : decode cM_reply 333 = .ok (.invokevirtual 108, 3) := by decide +kernel
theorem dM_reply_336 : decode cM_reply 336 = .ok (.iconst 1, 1) := by decide +kernel
theorem dM_reply_337 : decode cM_reply 337 = .ok (.ireturn, 1) := by decide +kernel
def wpl_m_reply_L196 : Nat → (Int32 → Sm → Prop) → Sm → Int32 → Int32 → Int32 → Int32 → Int32 → Int32 → Int32 → Prop
  | 0, _, _, _, _, _, _, _, _, _ => False
  | n + 1, post, σ, x1, x2, x3, x4, x5, x6, x7 => (((x5 ≤ x7) → (vp_in x1 8 ∧ wp_m_told (fun s73 => post 1 s73) (vA 15 (upd (mA σ 15) (x1).toNatClampNeg x5) σ) x1 1 x4)) ∧ (¬ (x5 ≤ x7) → (vp_in x7 240 ∧ (vp_in ((134 * x1) + x7) 1072 ∧ wpl_m_reply_L196 n post (vA 16 (upd (mA σ 16) ((134 * x1) + x7).toNatClampNeg ((mA σ 0) (x7).toNatClampNeg)) σ) x1 x2 x3 x4 x5 x6 (x7 + 1)))))
set_option maxHeartbeats 4000000 in
set_option maxRecDepth 100000 in
theorem l_m_reply_L196 {p : Program} {l : Launch} {e : Env} {s : State} {m : MethodId} {args : Array Value} {below : List Frame} {meth : Method} {c : Code} {D : va_G} {ca : Nat → ClassId} {ad : Nat → Nat → Nat} {A : Nat → Prop}  {post : Int32 → Sm → Prop} (hx : p.tables.exec = Jvm.exec) (hb : c.code = cM_reply) (hr : meth.sig.returnType = (some .boolean)) (hml : c.maxLocals = 8) (hts : ∀ w ∈ tbG, w.before args s = true) (hown : s.vm.findClass RM = some m.cls) (hlocks : meth.locks = false) (hA : ∀ q : Nat, s.heap.size ≤ q → A q) (hK : va_K D clX (tyM9 ca) s) (hE : eM A s) : ∀ (n : Nat) (σ : Sm) (x1 : Int32) (x2 : Int32) (x3 : Int32) (x4 : Int32) (x5 : Int32) (x6 : Int32) (x7 : Int32), wpl_m_reply_L196 n post σ x1 x2 x3 x4 x5 x6 x7 → ∀ (H : Heap) (locs : List Loc), va_P D clX (wM ca ad σ) H → va_D A (wM ca ad σ) → va_S A s.heap H locs → ∀ ls : Array Slot, lv_has ls 8 [(0, .ref (ad 0 0)), (1, .int x1), (2, .int x2), (3, .int x3), (4, .int x4), (5, .int x5), (6, .int x6), (7, .int x7)] → W p l e (headSpec wsM_reply ({ frames := 5, cells := 0, slots := 0, locals := 110 })).room s m args below meth c H locs 0 0 (MQ below (va_Qi post (atM D ca ad A) A) args s 0 0 A) (F0 m 196 ls []) := by
  intro n
  induction n with
  | zero => intro σ x1 x2 x3 x4 x5 x6 x7 hw; exact hw.elim
  | succ n ih =>
    intro σ x1 x2 x3 x4 x5 x6 x7 hw H locs hP hD hS ls hl
    refine lv_iload hx hb dM_reply_196 (lv_at hl 7 rfl) ?_
    refine lv_iload hx hb dM_reply_198 (lv_at hl 5 rfl) ?_
    refine lv_icmp_ge (tgt := 229) hx hb dM_reply_200 (by decide) (fun c71 => ?_) (fun c71 => ?_)
    · have hw := hw.1 c71
      refine lv_aload_n hx hb dM_reply_229 rfl (lv_at hl 0 rfl) ?_
      refine va_get (D := D) (ci := 5) (v := .ref (ad 16 0)) (C := RM) (T := TM) (N := 26) hx hb hts inM hown hK hP 0 gM_0 rfl 22 (by decide) (hts _ tw_613) (fun _ h9 => h9) rfl dM_reply_230 ?_
      refine lv_iload_n hx hb dM_reply_233 rfl (lv_at hl 1 rfl) ?_
      refine lv_iload hx hb dM_reply_234 (lv_at hl 5 rfl) ?_
      obtain ⟨hin72, hw⟩ := hw
      refine va_iast hx hb hK hP hD hS 16 0 gM_16 rfl hin72 dM_reply_236 (fun H locs hP hD hS => ?_)
      rw [sM_16] at hP hD
      refine lv_aload_n hx hb dM_reply_237 rfl (lv_at hl 0 rfl) ?_
      refine lv_iload_n hx hb dM_reply_238 rfl (lv_at hl 1 rfl) ?_
      refine lv_iconst (v := 1) hx hb dM_reply_239 (by decide) ?_
      refine lv_iload hx hb dM_reply_240 (lv_at hl 4 rfl) ?_
      have hFc := px_free hD hS hA
      refine va_callv (va_runV (As := [.int x1, .int 1, .int x4]) (rest := []) ⟨hx, hb, hml, hown, hts⟩ (c_m_told l D ca ad (vA 15 (upd (mA σ 15) (x1).toNatClampNeg x5) σ) x1 1 x4 _ _ hw) (cwV 3 hts (gV tw_709 tw_711 tp_22 tw_7 tw_712) rfl rfl rfl (by decide +kernel) ⟨Nat.le_of_ble_eq_true rfl, Nat.le_of_ble_eq_true rfl⟩) ⟨pm_blind, (px_recv hK hP gM_0 rfl), fun U hU hW => pm_pre hP hK hD hE hS hFc hU hW⟩ rfl rfl hl.1 rfl (lv_room (Nat.le_of_ble_eq_true rfl)) dM_reply_242 ⟨Nat.le_of_ble_eq_true rfl, Nat.le_of_ble_eq_true rfl⟩) hS (fun q _ h => hFc q h) hFc (fun s73 t H locs ht hvm hw hB _ _ hS => ?_)
      obtain ⟨hP, -, hD⟩ := hB
      rw [ht] at hP
      have hD := hD.weaken (fun _ _ _ h9 => hFc _ h9)
      refine lv_goto (tgt := 336) hx hb dM_reply_245 (by decide) ?_
      refine lv_iconst (v := 1) hx hb dM_reply_336 (by decide) ?_
      exact W.zret (ty := .boolean) (v := 1) hx hb hr (by decide) (fun t ht hW => ⟨⟨1, s73, rfl, hw, by rw [ht]; exact hP, va_K.moved hW.alike hK, hD⟩, hS.F ht⟩) hS.2.2 dM_reply_337
    · have hw := hw.2 c71
      refine lv_aload_n hx hb dM_reply_203 rfl (lv_at hl 0 rfl) ?_
      refine va_get (D := D) (ci := 5) (v := .ref (ad 17 0)) (C := RM) (T := TM) (N := 26) hx hb hts inM hown hK hP 0 gM_0 rfl 23 (by decide) (hts _ tw_614) (fun _ h9 => h9) rfl dM_reply_204 ?_
      refine lv_sipush (v := 134) hx hb dM_reply_207 (by decide) ?_
      refine lv_iload_n hx hb dM_reply_210 rfl (lv_at hl 1 rfl) ?_
      refine lv_imul hx hb dM_reply_211 ?_
      refine lv_iload hx hb dM_reply_212 (lv_at hl 7 rfl) ?_
      refine lv_iadd hx hb dM_reply_214 ?_
      refine lv_aload_n hx hb dM_reply_215 rfl (lv_at hl 0 rfl) ?_
      refine va_get (D := D) (ci := 5) (v := .ref (ad 1 0)) (C := RM) (T := TM) (N := 26) hx hb hts inM hown hK hP 0 gM_0 rfl 7 (by decide) (hts _ tw_598) (fun _ h9 => h9) rfl dM_reply_216 ?_
      refine lv_iload hx hb dM_reply_219 (lv_at hl 7 rfl) ?_
      obtain ⟨hin75, hw⟩ := hw
      refine va_iald hx hb hK hP 1 0 gM_1 rfl hin75 dM_reply_221 ?_
      obtain ⟨hin76, hw⟩ := hw
      refine va_iast hx hb hK hP hD hS 17 0 gM_17 rfl hin76 dM_reply_222 (fun H locs hP hD hS => ?_)
      rw [sM_17] at hP hD
      refine lv_iinc (v := x7 + 1) (lv' := [(7, .int (x7 + 1)), (0, .ref (ad 0 0)), (1, .int x1), (2, .int x2), (3, .int x3), (4, .int x4), (5, .int x5), (6, .int x6)]) hx hb dM_reply_223 hl (k := 7) rfl rfl (by decide) rfl (fun ls hl => ?_)
      refine lv_goto (tgt := 196) hx hb dM_reply_226 (by decide) ?_
      exact ih (vA 16 (upd (mA σ 16) ((134 * x1) + x7).toNatClampNeg ((mA σ 0) (x7).toNatClampNeg)) σ) x1 x2 x3 x4 x5 x6 (x7 + 1) hw _ _ hP hD hS ls (lv_sub hl [1, 2, 3, 4, 5, 6, 7, 0] rfl)
def wp_m_reply (post : Int32 → Sm → Prop) (σ : Sm) (a0 : Int32) (a1 : Int32) (a2 : Int32) (a3 : Int32) : Prop := wp_m_isClient (fun r2 s1 => ((¬ (r2 = 0) → ((¬ (a2 = 0) → ((¬ ((mG σ 6) = 0) → wp_m_fail (fun r7 s6 => (((r7 ≤ 0) → post 0 s6) ∧ (¬ (r7 ≤ 0) → post 1 s6))) s1 2) ∧ (((mG σ 6) = 0) → ((¬ (a2 = 1) → wp_m_within (fun r11 s10 => (((r11 = 0) → wp_m_fail (fun r14 s13 => (((r14 ≤ 0) → post 0 s13) ∧ (¬ (r14 ≤ 0) → post 1 s13))) s10 2) ∧ (¬ (r11 = 0) → ((¬ (a3 = 0) → wp_m_fail (fun r18 s17 => (((r18 ≤ 0) → post 0 s17) ∧ (¬ (r18 ≤ 0) → post 1 s17))) s10 2) ∧ ((a3 = 0) → (vp_in a0 8 ∧ (((((mA s10 1) (a0).toNatClampNeg) = 0) → post 0 s10) ∧ (¬ (((mA s10 1) (a0).toNatClampNeg) = 0) → (((a1 = ((mA s10 5) (a0).toNatClampNeg)) → ((¬ (a2 = 2) → wp_m_alarm (fun s25 => post 1 s25) s10 a0 20 0) ∧ ((a2 = 2) → wp_m_told (fun s28 => post 1 s28) (vA 3 (upd (mA s10 3) (a0).toNatClampNeg (-1)) s10) a0 2 (-1)))) ∧ (¬ (a1 = ((mA s10 5) (a0).toNatClampNeg)) → post 0 s10)))))))))) s1 a2 2 3) ∧ ((a2 = 1) → wp_m_within (fun r31 s30 => (((r31 = 0) → wp_m_fail (fun r34 s33 => (((r34 ≤ 0) → post 0 s33) ∧ (¬ (r34 ≤ 0) → post 1 s33))) s30 2) ∧ (¬ (r31 = 0) → (vp_in a0 8 ∧ (((((mA s30 1) (a0).toNatClampNeg) = 0) → post 0 s30) ∧ (¬ (((mA s30 1) (a0).toNatClampNeg) = 0) → (((a1 = ((mA s30 5) (a0).toNatClampNeg)) → (((a3 < 0) → wp_m_alarm (fun s43 => post 1 s43) (vA 2 (upd (mA s30 2) (a0).toNatClampNeg ((((mA s30 2) (a0).toNatClampNeg) + 1) - (((mA s30 2) (a0).toNatClampNeg) + 1) / 7 * 7)) s30) a0 5 0) ∧ (¬ (a3 < 0) → wp_m_go (fun s46 => post 1 s46) (vA 2 (upd (mA s30 2) (a0).toNatClampNeg a3) s30) a0))) ∧ (¬ (a1 = ((mA s30 5) (a0).toNatClampNeg)) → post 0 s30)))))))) s1 a3 (-1) 6))))) ∧ ((a2 = 0) → wp_m_within (fun r49 s48 => (((r49 = 0) → wp_m_fail (fun r52 s51 => (((r52 ≤ 0) → post 0 s51) ∧ (¬ (r52 ≤ 0) → post 1 s51))) s48 2) ∧ (¬ (r49 = 0) → (((134 < (mG σ 6)) → wp_m_fail (fun r56 s55 => (((r56 ≤ 0) → post 0 s55) ∧ (¬ (r56 ≤ 0) → post 1 s55))) s48 2) ∧ (¬ (134 < (mG σ 6)) → (vp_in a0 8 ∧ (((((mA s48 1) (a0).toNatClampNeg) = 0) → post 0 s48) ∧ (¬ (((mA s48 1) (a0).toNatClampNeg) = 0) → (((a1 = ((mA s48 5) (a0).toNatClampNeg)) → (((((mA s48 7) (a0).toNatClampNeg) = 0) → (∃ n : Nat, wpl_m_reply_L196 n post s48 a0 a1 a2 a3 (mG σ 6) 1 0)) ∧ (¬ (((mA s48 7) (a0).toNatClampNeg) = 0) → wp_m_begin (fun s66 => post 1 s66) (vA 4 (upd (mA s48 4) (a0).toNatClampNeg 0) (vA 3 (upd (mA s48 3) (a0).toNatClampNeg a3) s48)) a0))) ∧ (¬ (a1 = ((mA s48 5) (a0).toNatClampNeg)) → post 0 s48)))))))))) s1 a3 1 1000000))) ∧ ((r2 = 0) → wp_m_fail (fun r69 s68 => (((r69 ≤ 0) → post 0 s68) ∧ (¬ (r69 ≤ 0) → post 1 s68))) s1 1))) (vG 6 0 (vG 0 0 σ)) a0
set_option maxHeartbeats 4000000 in
set_option maxRecDepth 100000 in
theorem c_m_reply (l : Launch) (D : va_G) (ca : Nat → ClassId) (ad : Nat → Nat → Nat) (σ : Sm) (a0 : Int32) (a1 : Int32) (a2 : Int32) (a3 : Int32) (sz : Nat) (post : Int32 → Sm → Prop) (hw : wp_m_reply post σ a0 a1 a2 a3) : Met l yM_reply wsM_reply ({ frames := 5, cells := 0, slots := 0, locals := 110 }) (va_Pc [.ref (ad 0 0), .int a0, .int a1, .int a2, .int a3] (preM D ca ad σ sz)) (va_Qi post (atM D ca ad (va_A (wM ca ad σ) sz)) (va_A (wM ca ad σ) sz)) 0 0 (va_A (wM ca ad σ) sz) := by
  refine Met.ofW (cc := cM_reply) (maxL := 8) (ret := (some .boolean)) (by decide) rfl ?_
  intro p e s m args below meth c s₁ B hml hv
  obtain ⟨rfl, hsz, hP, hK, hD0, hE⟩ := hv
  have hx := B.exec
  have hb := B.bytes
  have hr := B.returns
  have hts : ∀ w ∈ tbG, w.before _ s = true := fun w h => atoms_spec (ws := wsM_reply) B.pre w (List.mem_cons_of_mem _ h)
  have hown : s.vm.findClass RM = some m.cls := findClass_of_methodNamed B.named
  have hlocks := B.notSynchronized
  subst hsz
  have hD := hD0.self (sz := s.heap.size)
  generalize hAe : va_A (wM ca ad σ) s.heap.size = A at hD hE ⊢
  have hA : ∀ q : Nat, s.heap.size ≤ q → A q := fun q h => by rw [← hAe]; exact Or.inr h
  clear hAe
  have hS : va_S A s.heap s.heap [] := va_S.rf
  have hl := lv_entry ([.ref (ad 0 0), .int a0, .int a1, .int a2, .int a3]) (n := 8) (Nat.le_of_ble_eq_true rfl)
  rw [lg_entry_eq]
  generalize (lg_sl ([.ref (ad 0 0), .int a0, .int a1, .int a2, .int a3]) ++ List.replicate (8 - (lg_sl ([.ref (ad 0 0), .int a0, .int a1, .int a2, .int a3])).length) Slot.unset).toArray = ls at hl ⊢
  have hl : lv_has ls 8 [(0, .ref (ad 0 0)), (1, .int a0), (2, .int a1), (3, .int a2), (4, .int a3)] := hl
  unfold wp_m_reply at hw
  have hP : va_P D clX (wM ca ad σ) s.heap := hP
  refine lv_aload_n hx hb dM_reply_0 rfl (lv_at hl 0 rfl) ?_
  refine lv_iconst (v := 0) hx hb dM_reply_1 (by decide) ?_
  refine va_put (D := D) (ci := 5) (v := .int 0) (ty := .int) (C := RM) (T := TM) (N := 26) hx hb hts inM tyM tyM_ok nmM hown hK hP hD hS 0 gM_0 rfl 0 (by decide) (hts _ tw_591) (fun _ h9 => h9) rfl (by decide +kernel) rfl rfl (Nat.le_of_ble_eq_true rfl) dM_reply_2 (fun H locs hP hD hS => ?_)
  rw [sM_0_0] at hP hD
  refine lv_aload_n hx hb dM_reply_5 rfl (lv_at hl 0 rfl) ?_
  refine va_get (D := D) (ci := 5) (v := .int (mG σ 6)) (C := RM) (T := TM) (N := 26) hx hb hts inM hown hK hP 0 gM_0 rfl 6 (by decide) (hts _ tw_597) (fun _ h9 => h9) rfl dM_reply_6 ?_
  refine lv_istore (lv' := [(5, .int (mG σ 6)), (0, .ref (ad 0 0)), (1, .int a0), (2, .int a1), (3, .int a2), (4, .int a3)]) hx hb dM_reply_9 hl (by decide) rfl (fun ls hl => ?_)
  refine lv_aload_n hx hb dM_reply_11 rfl (lv_at hl 1 rfl) ?_
  refine lv_iconst (v := 0) hx hb dM_reply_12 (by decide) ?_
  refine va_put (D := D) (ci := 5) (v := .int 0) (ty := .int) (C := RM) (T := TM) (N := 26) hx hb hts inM tyM tyM_ok nmM hown hK hP hD hS 0 gM_0 rfl 6 (by decide) (hts _ tw_597) (fun _ h9 => h9) rfl (by decide +kernel) rfl rfl (Nat.le_of_ble_eq_true rfl) dM_reply_13 (fun H locs hP hD hS => ?_)
  rw [sM_0_6] at hP hD
  refine lv_iload_n hx hb dM_reply_16 rfl (lv_at hl 2 rfl) ?_
  have hFc := px_free hD hS hA
  refine va_calli (va_runS (As := [.int a0]) (rest := []) ⟨hx, hb, hml, hown, hts⟩ (c_m_isClient l D ca ad (vG 6 0 (vG 0 0 σ)) a0 _ _ hw) (va_cwS 1 hts (gS tw_691 tw_692 tw_7 tw_693) rfl rfl rfl (by decide +kernel) ⟨Nat.le_of_ble_eq_true rfl, Nat.le_of_ble_eq_true rfl⟩) ⟨pm_blind, fun U hU hW => pm_pre hP hK hD hE hS hFc hU hW⟩ rfl rfl hl.1 rfl (lv_room (Nat.le_of_ble_eq_true rfl)) dM_reply_17 ⟨Nat.le_of_ble_eq_true rfl, Nat.le_of_ble_eq_true rfl⟩) hS (fun q _ h => hFc q h) hFc (fun r2 s1 t H locs ht hvm hw hB _ _ hS => ?_)
  obtain ⟨hP, -, hD⟩ := hB
  rw [ht] at hP
  have hD := hD.weaken (fun _ _ _ h9 => hFc _ h9)
  refine lv_if_ne (tgt := 37) hx hb dM_reply_20 (by decide) (fun c3 => ?_) (fun c3 => ?_)
  · have hw := hw.1 c3
    refine lv_iload_n hx hb dM_reply_37 rfl (lv_at hl 4 rfl) ?_
    refine lv_if_ne (tgt := 68) hx hb dM_reply_38 (by decide) (fun c4 => ?_) (fun c4 => ?_)
    · have hw := hw.1 c4
      refine lv_iload hx hb dM_reply_68 (lv_at hl 0 rfl) ?_
      refine lv_if_ne (tgt := 110) hx hb dM_reply_70 (by decide) (fun c5 => ?_) (fun c5 => ?_)
      · have hw := hw.1 c5
        refine lv_iconst (v := 0) hx hb dM_reply_110 (by decide) ?_
        refine lv_istore (lv' := [(6, .int 0), (5, .int (mG σ 6)), (0, .ref (ad 0 0)), (1, .int a0), (2, .int a1), (3, .int a2), (4, .int a3)]) hx hb dM_reply_111 hl (by decide) rfl (fun ls hl => ?_)
        refine lv_iload hx hb dM_reply_113 (lv_at hl 0 rfl) ?_
        refine lv_if_ne (tgt := 132) hx hb dM_reply_115 (by decide) (fun z9 => absurd z9 (by decide)) (fun _ => ?_)
        refine lv_aload_n hx hb dM_reply_118 rfl (lv_at hl 2 rfl) ?_
        refine lv_iconst (v := 2) hx hb dM_reply_119 (by decide) ?_
        have hFc := px_free hD hS hA
        refine va_calli (va_runV (As := [.int 2]) (rest := []) ⟨hx, hb, hml, hown, hts⟩ (c_m_fail l D ca ad s1 2 _ _ hw) (cwV 1 hts (gV tw_682 tw_684 tp_18 tw_7 tw_685) rfl rfl rfl (by decide +kernel) ⟨Nat.le_of_ble_eq_true rfl, Nat.le_of_ble_eq_true rfl⟩) ⟨pm_blind, (px_recv hK hP gM_0 rfl), fun U hU hW => pm_pre hP hK hD hE hS hFc hU hW⟩ rfl rfl hl.1 rfl (lv_room (Nat.le_of_ble_eq_true rfl)) dM_reply_120 ⟨Nat.le_of_ble_eq_true rfl, Nat.le_of_ble_eq_true rfl⟩) hS (fun q _ h => hFc q h) hFc (fun r7 s6 t H locs ht hvm hw hB _ _ hS => ?_)
        obtain ⟨hP, -, hD⟩ := hB
        rw [ht] at hP
        have hD := hD.weaken (fun _ _ _ h9 => hFc _ h9)
        refine lv_if_le (tgt := 130) hx hb dM_reply_123 (by decide) (fun c8 => ?_) (fun c8 => ?_)
        · have hw := hw.1 c8
          refine lv_iconst (v := 0) hx hb dM_reply_130 (by decide) ?_
          exact W.zret (ty := .boolean) (v := 0) hx hb hr (by decide) (fun t ht hW => ⟨⟨0, s6, rfl, hw, by rw [ht]; exact hP, va_K.moved hW.alike hK, hD⟩, hS.F ht⟩) hS.2.2 dM_reply_131
        · have hw := hw.2 c8
          refine lv_iconst (v := 1) hx hb dM_reply_126 (by decide) ?_
          refine lv_goto (tgt := 131) hx hb dM_reply_127 (by decide) ?_
          exact W.zret (ty := .boolean) (v := 1) hx hb hr (by decide) (fun t ht hW => ⟨⟨1, s6, rfl, hw, by rw [ht]; exact hP, va_K.moved hW.alike hK, hD⟩, hS.F ht⟩) hS.2.2 dM_reply_131
      · have hw := hw.2 c5
        refine lv_iload_n hx hb dM_reply_73 rfl (lv_at hl 4 rfl) ?_
        refine lv_iconst (v := 1) hx hb dM_reply_74 (by decide) ?_
        refine lv_icmp_ne (tgt := 92) hx hb dM_reply_75 (by decide) (fun c9 => ?_) (fun c9 => ?_)
        · have hw := hw.1 c9
          refine lv_iload_n hx hb dM_reply_92 rfl (lv_at hl 4 rfl) ?_
          refine lv_iconst (v := 2) hx hb dM_reply_93 (by decide) ?_
          refine lv_iconst (v := 3) hx hb dM_reply_94 (by decide) ?_
          have hFc := px_free hD hS hA
          refine va_calli (va_runS (As := [.int a2, .int 2, .int 3]) (rest := []) ⟨hx, hb, hml, hown, hts⟩ (c_m_within l D ca ad s1 a2 2 3 _ _ hw) (va_cwS 3 hts (gS tw_679 tw_680 tw_7 tw_681) rfl rfl rfl (by decide +kernel) ⟨Nat.le_of_ble_eq_true rfl, Nat.le_of_ble_eq_true rfl⟩) ⟨pm_blind, fun U hU hW => pm_pre hP hK hD hE hS hFc hU hW⟩ rfl rfl hl.1 rfl (lv_room (Nat.le_of_ble_eq_true rfl)) dM_reply_95 ⟨Nat.le_of_ble_eq_true rfl, Nat.le_of_ble_eq_true rfl⟩) hS (fun q _ h => hFc q h) hFc (fun r11 s10 t H locs ht hvm hw hB _ _ hS => ?_)
          obtain ⟨hP, -, hD⟩ := hB
          rw [ht] at hP
          have hD := hD.weaken (fun _ _ _ h9 => hFc _ h9)
          refine lv_if_eq (tgt := 110) hx hb dM_reply_98 (by decide) (fun c12 => ?_) (fun c12 => ?_)
          · have hw := hw.1 c12
            refine lv_iconst (v := 0) hx hb dM_reply_110 (by decide) ?_
            refine lv_istore (lv' := [(6, .int 0), (5, .int (mG σ 6)), (0, .ref (ad 0 0)), (1, .int a0), (2, .int a1), (3, .int a2), (4, .int a3)]) hx hb dM_reply_111 hl (by decide) rfl (fun ls hl => ?_)
            refine lv_iload hx hb dM_reply_113 (lv_at hl 0 rfl) ?_
            refine lv_if_ne (tgt := 132) hx hb dM_reply_115 (by decide) (fun z9 => absurd z9 (by decide)) (fun _ => ?_)
            refine lv_aload_n hx hb dM_reply_118 rfl (lv_at hl 2 rfl) ?_
            refine lv_iconst (v := 2) hx hb dM_reply_119 (by decide) ?_
            have hFc := px_free hD hS hA
            refine va_calli (va_runV (As := [.int 2]) (rest := []) ⟨hx, hb, hml, hown, hts⟩ (c_m_fail l D ca ad s10 2 _ _ hw) (cwV 1 hts (gV tw_682 tw_684 tp_18 tw_7 tw_685) rfl rfl rfl (by decide +kernel) ⟨Nat.le_of_ble_eq_true rfl, Nat.le_of_ble_eq_true rfl⟩) ⟨pm_blind, (px_recv hK hP gM_0 rfl), fun U hU hW => pm_pre hP hK hD hE hS hFc hU hW⟩ rfl rfl hl.1 rfl (lv_room (Nat.le_of_ble_eq_true rfl)) dM_reply_120 ⟨Nat.le_of_ble_eq_true rfl, Nat.le_of_ble_eq_true rfl⟩) hS (fun q _ h => hFc q h) hFc (fun r14 s13 t H locs ht hvm hw hB _ _ hS => ?_)
            obtain ⟨hP, -, hD⟩ := hB
            rw [ht] at hP
            have hD := hD.weaken (fun _ _ _ h9 => hFc _ h9)
            refine lv_if_le (tgt := 130) hx hb dM_reply_123 (by decide) (fun c15 => ?_) (fun c15 => ?_)
            · have hw := hw.1 c15
              refine lv_iconst (v := 0) hx hb dM_reply_130 (by decide) ?_
              exact W.zret (ty := .boolean) (v := 0) hx hb hr (by decide) (fun t ht hW => ⟨⟨0, s13, rfl, hw, by rw [ht]; exact hP, va_K.moved hW.alike hK, hD⟩, hS.F ht⟩) hS.2.2 dM_reply_131
            · have hw := hw.2 c15
              refine lv_iconst (v := 1) hx hb dM_reply_126 (by decide) ?_
              refine lv_goto (tgt := 131) hx hb dM_reply_127 (by decide) ?_
              exact W.zret (ty := .boolean) (v := 1) hx hb hr (by decide) (fun t ht hW => ⟨⟨1, s13, rfl, hw, by rw [ht]; exact hP, va_K.moved hW.alike hK, hD⟩, hS.F ht⟩) hS.2.2 dM_reply_131
          · have hw := hw.2 c12
            refine lv_iload hx hb dM_reply_101 (lv_at hl 5 rfl) ?_
            refine lv_if_ne (tgt := 110) hx hb dM_reply_103 (by decide) (fun c16 => ?_) (fun c16 => ?_)
            · have hw := hw.1 c16
              refine lv_iconst (v := 0) hx hb dM_reply_110 (by decide) ?_
              refine lv_istore (lv' := [(6, .int 0), (5, .int (mG σ 6)), (0, .ref (ad 0 0)), (1, .int a0), (2, .int a1), (3, .int a2), (4, .int a3)]) hx hb dM_reply_111 hl (by decide) rfl (fun ls hl => ?_)
              refine lv_iload hx hb dM_reply_113 (lv_at hl 0 rfl) ?_
              refine lv_if_ne (tgt := 132) hx hb dM_reply_115 (by decide) (fun z9 => absurd z9 (by decide)) (fun _ => ?_)
              refine lv_aload_n hx hb dM_reply_118 rfl (lv_at hl 2 rfl) ?_
              refine lv_iconst (v := 2) hx hb dM_reply_119 (by decide) ?_
              have hFc := px_free hD hS hA
              refine va_calli (va_runV (As := [.int 2]) (rest := []) ⟨hx, hb, hml, hown, hts⟩ (c_m_fail l D ca ad s10 2 _ _ hw) (cwV 1 hts (gV tw_682 tw_684 tp_18 tw_7 tw_685) rfl rfl rfl (by decide +kernel) ⟨Nat.le_of_ble_eq_true rfl, Nat.le_of_ble_eq_true rfl⟩) ⟨pm_blind, (px_recv hK hP gM_0 rfl), fun U hU hW => pm_pre hP hK hD hE hS hFc hU hW⟩ rfl rfl hl.1 rfl (lv_room (Nat.le_of_ble_eq_true rfl)) dM_reply_120 ⟨Nat.le_of_ble_eq_true rfl, Nat.le_of_ble_eq_true rfl⟩) hS (fun q _ h => hFc q h) hFc (fun r18 s17 t H locs ht hvm hw hB _ _ hS => ?_)
              obtain ⟨hP, -, hD⟩ := hB
              rw [ht] at hP
              have hD := hD.weaken (fun _ _ _ h9 => hFc _ h9)
              refine lv_if_le (tgt := 130) hx hb dM_reply_123 (by decide) (fun c19 => ?_) (fun c19 => ?_)
              · have hw := hw.1 c19
                refine lv_iconst (v := 0) hx hb dM_reply_130 (by decide) ?_
                exact W.zret (ty := .boolean) (v := 0) hx hb hr (by decide) (fun t ht hW => ⟨⟨0, s17, rfl, hw, by rw [ht]; exact hP, va_K.moved hW.alike hK, hD⟩, hS.F ht⟩) hS.2.2 dM_reply_131
              · have hw := hw.2 c19
                refine lv_iconst (v := 1) hx hb dM_reply_126 (by decide) ?_
                refine lv_goto (tgt := 131) hx hb dM_reply_127 (by decide) ?_
                exact W.zret (ty := .boolean) (v := 1) hx hb hr (by decide) (fun t ht hW => ⟨⟨1, s17, rfl, hw, by rw [ht]; exact hP, va_K.moved hW.alike hK, hD⟩, hS.F ht⟩) hS.2.2 dM_reply_131
            · have hw := hw.2 c16
              refine lv_iconst (v := 1) hx hb dM_reply_106 (by decide) ?_
              refine lv_goto (tgt := 111) hx hb dM_reply_107 (by decide) ?_
              refine lv_istore (lv' := [(6, .int 1), (5, .int (mG σ 6)), (0, .ref (ad 0 0)), (1, .int a0), (2, .int a1), (3, .int a2), (4, .int a3)]) hx hb dM_reply_111 hl (by decide) rfl (fun ls hl => ?_)
              refine lv_iload hx hb dM_reply_113 (lv_at hl 0 rfl) ?_
              refine lv_if_ne (tgt := 132) hx hb dM_reply_115 (by decide) (fun _ => ?_) (fun z9 => absurd z9 (by decide))
              refine lv_aload_n hx hb dM_reply_132 rfl (lv_at hl 2 rfl) ?_
              refine va_get (D := D) (ci := 5) (v := .ref (ad 2 0)) (C := RM) (T := TM) (N := 26) hx hb hts inM hown hK hP 0 gM_0 rfl 8 (by decide) (hts _ tw_599) (fun _ h9 => h9) rfl dM_reply_133 ?_
              refine lv_iload_n hx hb dM_reply_136 rfl (lv_at hl 3 rfl) ?_
              obtain ⟨hin20, hw⟩ := hw
              refine va_zald hx hb hK hP 2 1 gM_2 rfl hin20 dM_reply_137 ?_
              refine lv_if_eq (tgt := 151) hx hb dM_reply_138 (by decide) (fun c21 => ?_) (fun c21 => ?_)
              · have hw := hw.1 c21
                refine lv_iconst (v := 0) hx hb dM_reply_151 (by decide) ?_
                exact W.zret (ty := .boolean) (v := 0) hx hb hr (by decide) (fun t ht hW => ⟨⟨0, s10, rfl, hw, by rw [ht]; exact hP, va_K.moved hW.alike hK, hD⟩, hS.F ht⟩) hS.2.2 dM_reply_152
              · have hw := hw.2 c21
                refine lv_iload_n hx hb dM_reply_141 rfl (lv_at hl 4 rfl) ?_
                refine lv_aload_n hx hb dM_reply_142 rfl (lv_at hl 2 rfl) ?_
                refine va_get (D := D) (ci := 5) (v := .ref (ad 6 0)) (C := RM) (T := TM) (N := 26) hx hb hts inM hown hK hP 0 gM_0 rfl 12 (by decide) (hts _ tw_603) (fun _ h9 => h9) rfl dM_reply_143 ?_
                refine lv_iload_n hx hb dM_reply_146 rfl (lv_at hl 3 rfl) ?_
                refine va_iald hx hb hK hP 6 0 gM_6 rfl hin20 dM_reply_147 ?_
                refine lv_icmp_eq (tgt := 153) hx hb dM_reply_148 (by decide) (fun c23 => ?_) (fun c23 => ?_)
                · have hw := hw.1 c23
                  refine lv_iload_n hx hb dM_reply_153 rfl (lv_at hl 5 rfl) ?_
                  refine lv_if_ne (tgt := 189) hx hb dM_reply_154 (by decide) (fun _ => ?_) (fun z9 => absurd z9 c4)
                  refine lv_iload_n hx hb dM_reply_189 rfl (lv_at hl 5 rfl) ?_
                  refine lv_if_ne (tgt := 248) hx hb dM_reply_190 (by decide) (fun _ => ?_) (fun z9 => absurd z9 c4)
                  refine lv_iload_n hx hb dM_reply_248 rfl (lv_at hl 5 rfl) ?_
                  refine lv_iconst (v := 1) hx hb dM_reply_249 (by decide) ?_
                  refine lv_icmp_ne (tgt := 274) hx hb dM_reply_250 (by decide) (fun _ => ?_) (fun z9 => absurd z9 c9)
                  refine lv_iload_n hx hb dM_reply_274 rfl (lv_at hl 5 rfl) ?_
                  refine lv_iconst (v := 1) hx hb dM_reply_275 (by decide) ?_
                  refine lv_icmp_ne (tgt := 306) hx hb dM_reply_276 (by decide) (fun _ => ?_) (fun z9 => absurd z9 c9)
                  refine lv_iload_n hx hb dM_reply_306 rfl (lv_at hl 5 rfl) ?_
                  refine lv_iconst (v := 2) hx hb dM_reply_307 (by decide) ?_
                  refine lv_icmp_ne (tgt := 328) hx hb dM_reply_308 (by decide) (fun c24 => ?_) (fun c24 => ?_)
                  · have hw := hw.1 c24
                    refine lv_aload_n hx hb dM_reply_328 rfl (lv_at hl 2 rfl) ?_
                    refine lv_iload_n hx hb dM_reply_329 rfl (lv_at hl 3 rfl) ?_
                    refine lv_bipush (v := 20) hx hb dM_reply_330 (by decide) ?_
                    refine lv_iconst (v := 0) hx hb dM_reply_332 (by decide) ?_
                    have hFc := px_free hD hS hA
                    refine va_callv (va_runV (As := [.int a0, .int 20, .int 0]) (rest := []) ⟨hx, hb, hml, hown, hts⟩ (c_m_alarm l D ca ad s10 a0 20 0 _ _ hw) (cwV 3 hts (gV tw_717 tw_719 tp_24 tw_7 tw_720) rfl rfl rfl (by decide +kernel) ⟨Nat.le_of_ble_eq_true rfl, Nat.le_of_ble_eq_true rfl⟩) ⟨pm_blind, (px_recv hK hP gM_0 rfl), fun U hU hW => pm_pre hP hK hD hE hS hFc hU hW⟩ rfl rfl hl.1 rfl (lv_room (Nat.le_of_ble_eq_true rfl)) dM_reply_333 ⟨Nat.le_of_ble_eq_true rfl, Nat.le_of_ble_eq_true rfl⟩) hS (fun q _ h => hFc q h) hFc (fun s25 t H locs ht hvm hw hB _ _ hS => ?_)
                    obtain ⟨hP, -, hD⟩ := hB
                    rw [ht] at hP
                    have hD := hD.weaken (fun _ _ _ h9 => hFc _ h9)
                    refine lv_iconst (v := 1) hx hb dM_reply_336 (by decide) ?_
                    exact W.zret (ty := .boolean) (v := 1) hx hb hr (by decide) (fun t ht hW => ⟨⟨1, s25, rfl, hw, by rw [ht]; exact hP, va_K.moved hW.alike hK, hD⟩, hS.F ht⟩) hS.2.2 dM_reply_337
                  · have hw := hw.2 c24
                    refine lv_aload_n hx hb dM_reply_311 rfl (lv_at hl 2 rfl) ?_
                    refine va_get (D := D) (ci := 5) (v := .ref (ad 4 0)) (C := RM) (T := TM) (N := 26) hx hb hts inM hown hK hP 0 gM_0 rfl 10 (by decide) (hts _ tw_601) (fun _ h9 => h9) rfl dM_reply_312 ?_
                    refine lv_iload_n hx hb dM_reply_315 rfl (lv_at hl 3 rfl) ?_
                    refine lv_iconst (v := (-1)) hx hb dM_reply_316 (by decide) ?_
                    refine va_iast hx hb hK hP hD hS 4 0 gM_4 rfl hin20 dM_reply_317 (fun H locs hP hD hS => ?_)
                    rw [sM_4] at hP hD
                    refine lv_aload_n hx hb dM_reply_318 rfl (lv_at hl 2 rfl) ?_
                    refine lv_iload_n hx hb dM_reply_319 rfl (lv_at hl 3 rfl) ?_
                    refine lv_iconst (v := 2) hx hb dM_reply_320 (by decide) ?_
                    refine lv_iconst (v := (-1)) hx hb dM_reply_321 (by decide) ?_
                    have hFc := px_free hD hS hA
                    refine va_callv (va_runV (As := [.int a0, .int 2, .int (-1)]) (rest := []) ⟨hx, hb, hml, hown, hts⟩ (c_m_told l D ca ad (vA 3 (upd (mA s10 3) (a0).toNatClampNeg (-1)) s10) a0 2 (-1) _ _ hw) (cwV 3 hts (gV tw_709 tw_711 tp_22 tw_7 tw_712) rfl rfl rfl (by decide +kernel) ⟨Nat.le_of_ble_eq_true rfl, Nat.le_of_ble_eq_true rfl⟩) ⟨pm_blind, (px_recv hK hP gM_0 rfl), fun U hU hW => pm_pre hP hK hD hE hS hFc hU hW⟩ rfl rfl hl.1 rfl (lv_room (Nat.le_of_ble_eq_true rfl)) dM_reply_322 ⟨Nat.le_of_ble_eq_true rfl, Nat.le_of_ble_eq_true rfl⟩) hS (fun q _ h => hFc q h) hFc (fun s28 t H locs ht hvm hw hB _ _ hS => ?_)
                    obtain ⟨hP, -, hD⟩ := hB
                    rw [ht] at hP
                    have hD := hD.weaken (fun _ _ _ h9 => hFc _ h9)
                    refine lv_goto (tgt := 336) hx hb dM_reply_325 (by decide) ?_
                    refine lv_iconst (v := 1) hx hb dM_reply_336 (by decide) ?_
                    exact W.zret (ty := .boolean) (v := 1) hx hb hr (by decide) (fun t ht hW => ⟨⟨1, s28, rfl, hw, by rw [ht]; exact hP, va_K.moved hW.alike hK, hD⟩, hS.F ht⟩) hS.2.2 dM_reply_337
                · have hw := hw.2 c23
                  refine lv_iconst (v := 0) hx hb dM_reply_151 (by decide) ?_
                  exact W.zret (ty := .boolean) (v := 0) hx hb hr (by decide) (fun t ht hW => ⟨⟨0, s10, rfl, hw, by rw [ht]; exact hP, va_K.moved hW.alike hK, hD⟩, hS.F ht⟩) hS.2.2 dM_reply_152
        · have hw := hw.2 c9
          refine lv_iload hx hb dM_reply_78 (lv_at hl 5 rfl) ?_
          refine lv_iconst (v := (-1)) hx hb dM_reply_80 (by decide) ?_
          refine lv_bipush (v := 6) hx hb dM_reply_81 (by decide) ?_
          have hFc := px_free hD hS hA
          refine va_calli (va_runS (As := [.int a3, .int (-1), .int 6]) (rest := []) ⟨hx, hb, hml, hown, hts⟩ (c_m_within l D ca ad s1 a3 (-1) 6 _ _ hw) (va_cwS 3 hts (gS tw_679 tw_680 tw_7 tw_681) rfl rfl rfl (by decide +kernel) ⟨Nat.le_of_ble_eq_true rfl, Nat.le_of_ble_eq_true rfl⟩) ⟨pm_blind, fun U hU hW => pm_pre hP hK hD hE hS hFc hU hW⟩ rfl rfl hl.1 rfl (lv_room (Nat.le_of_ble_eq_true rfl)) dM_reply_83 ⟨Nat.le_of_ble_eq_true rfl, Nat.le_of_ble_eq_true rfl⟩) hS (fun q _ h => hFc q h) hFc (fun r31 s30 t H locs ht hvm hw hB _ _ hS => ?_)
          obtain ⟨hP, -, hD⟩ := hB
          rw [ht] at hP
          have hD := hD.weaken (fun _ _ _ h9 => hFc _ h9)
          refine lv_if_eq (tgt := 110) hx hb dM_reply_86 (by decide) (fun c32 => ?_) (fun c32 => ?_)
          · have hw := hw.1 c32
            refine lv_iconst (v := 0) hx hb dM_reply_110 (by decide) ?_
            refine lv_istore (lv' := [(6, .int 0), (5, .int (mG σ 6)), (0, .ref (ad 0 0)), (1, .int a0), (2, .int a1), (3, .int a2), (4, .int a3)]) hx hb dM_reply_111 hl (by decide) rfl (fun ls hl => ?_)
            refine lv_iload hx hb dM_reply_113 (lv_at hl 0 rfl) ?_
            refine lv_if_ne (tgt := 132) hx hb dM_reply_115 (by decide) (fun z9 => absurd z9 (by decide)) (fun _ => ?_)
            refine lv_aload_n hx hb dM_reply_118 rfl (lv_at hl 2 rfl) ?_
            refine lv_iconst (v := 2) hx hb dM_reply_119 (by decide) ?_
            have hFc := px_free hD hS hA
            refine va_calli (va_runV (As := [.int 2]) (rest := []) ⟨hx, hb, hml, hown, hts⟩ (c_m_fail l D ca ad s30 2 _ _ hw) (cwV 1 hts (gV tw_682 tw_684 tp_18 tw_7 tw_685) rfl rfl rfl (by decide +kernel) ⟨Nat.le_of_ble_eq_true rfl, Nat.le_of_ble_eq_true rfl⟩) ⟨pm_blind, (px_recv hK hP gM_0 rfl), fun U hU hW => pm_pre hP hK hD hE hS hFc hU hW⟩ rfl rfl hl.1 rfl (lv_room (Nat.le_of_ble_eq_true rfl)) dM_reply_120 ⟨Nat.le_of_ble_eq_true rfl, Nat.le_of_ble_eq_true rfl⟩) hS (fun q _ h => hFc q h) hFc (fun r34 s33 t H locs ht hvm hw hB _ _ hS => ?_)
            obtain ⟨hP, -, hD⟩ := hB
            rw [ht] at hP
            have hD := hD.weaken (fun _ _ _ h9 => hFc _ h9)
            refine lv_if_le (tgt := 130) hx hb dM_reply_123 (by decide) (fun c35 => ?_) (fun c35 => ?_)
            · have hw := hw.1 c35
              refine lv_iconst (v := 0) hx hb dM_reply_130 (by decide) ?_
              exact W.zret (ty := .boolean) (v := 0) hx hb hr (by decide) (fun t ht hW => ⟨⟨0, s33, rfl, hw, by rw [ht]; exact hP, va_K.moved hW.alike hK, hD⟩, hS.F ht⟩) hS.2.2 dM_reply_131
            · have hw := hw.2 c35
              refine lv_iconst (v := 1) hx hb dM_reply_126 (by decide) ?_
              refine lv_goto (tgt := 131) hx hb dM_reply_127 (by decide) ?_
              exact W.zret (ty := .boolean) (v := 1) hx hb hr (by decide) (fun t ht hW => ⟨⟨1, s33, rfl, hw, by rw [ht]; exact hP, va_K.moved hW.alike hK, hD⟩, hS.F ht⟩) hS.2.2 dM_reply_131
          · have hw := hw.2 c32
            refine lv_goto (tgt := 106) hx hb dM_reply_89 (by decide) ?_
            refine lv_iconst (v := 1) hx hb dM_reply_106 (by decide) ?_
            refine lv_goto (tgt := 111) hx hb dM_reply_107 (by decide) ?_
            refine lv_istore (lv' := [(6, .int 1), (5, .int (mG σ 6)), (0, .ref (ad 0 0)), (1, .int a0), (2, .int a1), (3, .int a2), (4, .int a3)]) hx hb dM_reply_111 hl (by decide) rfl (fun ls hl => ?_)
            refine lv_iload hx hb dM_reply_113 (lv_at hl 0 rfl) ?_
            refine lv_if_ne (tgt := 132) hx hb dM_reply_115 (by decide) (fun _ => ?_) (fun z9 => absurd z9 (by decide))
            refine lv_aload_n hx hb dM_reply_132 rfl (lv_at hl 2 rfl) ?_
            refine va_get (D := D) (ci := 5) (v := .ref (ad 2 0)) (C := RM) (T := TM) (N := 26) hx hb hts inM hown hK hP 0 gM_0 rfl 8 (by decide) (hts _ tw_599) (fun _ h9 => h9) rfl dM_reply_133 ?_
            refine lv_iload_n hx hb dM_reply_136 rfl (lv_at hl 3 rfl) ?_
            obtain ⟨hin36, hw⟩ := hw
            refine va_zald hx hb hK hP 2 1 gM_2 rfl hin36 dM_reply_137 ?_
            refine lv_if_eq (tgt := 151) hx hb dM_reply_138 (by decide) (fun c37 => ?_) (fun c37 => ?_)
            · have hw := hw.1 c37
              refine lv_iconst (v := 0) hx hb dM_reply_151 (by decide) ?_
              exact W.zret (ty := .boolean) (v := 0) hx hb hr (by decide) (fun t ht hW => ⟨⟨0, s30, rfl, hw, by rw [ht]; exact hP, va_K.moved hW.alike hK, hD⟩, hS.F ht⟩) hS.2.2 dM_reply_152
            · have hw := hw.2 c37
              refine lv_iload_n hx hb dM_reply_141 rfl (lv_at hl 4 rfl) ?_
              refine lv_aload_n hx hb dM_reply_142 rfl (lv_at hl 2 rfl) ?_
              refine va_get (D := D) (ci := 5) (v := .ref (ad 6 0)) (C := RM) (T := TM) (N := 26) hx hb hts inM hown hK hP 0 gM_0 rfl 12 (by decide) (hts _ tw_603) (fun _ h9 => h9) rfl dM_reply_143 ?_
              refine lv_iload_n hx hb dM_reply_146 rfl (lv_at hl 3 rfl) ?_
              refine va_iald hx hb hK hP 6 0 gM_6 rfl hin36 dM_reply_147 ?_
              refine lv_icmp_eq (tgt := 153) hx hb dM_reply_148 (by decide) (fun c39 => ?_) (fun c39 => ?_)
              · have hw := hw.1 c39
                refine lv_iload_n hx hb dM_reply_153 rfl (lv_at hl 5 rfl) ?_
                refine lv_if_ne (tgt := 189) hx hb dM_reply_154 (by decide) (fun _ => ?_) (fun z9 => absurd z9 c4)
                refine lv_iload_n hx hb dM_reply_189 rfl (lv_at hl 5 rfl) ?_
                refine lv_if_ne (tgt := 248) hx hb dM_reply_190 (by decide) (fun _ => ?_) (fun z9 => absurd z9 c4)
                refine lv_iload_n hx hb dM_reply_248 rfl (lv_at hl 5 rfl) ?_
                refine lv_iconst (v := 1) hx hb dM_reply_249 (by decide) ?_
                refine lv_icmp_ne (tgt := 274) hx hb dM_reply_250 (by decide) (fun z9 => absurd c9 z9) (fun _ => ?_)
                refine lv_iload hx hb dM_reply_253 (lv_at hl 6 rfl) ?_
                refine lv_if_lt (tgt := 274) hx hb dM_reply_255 (by decide) (fun c40 => ?_) (fun c40 => ?_)
                · have hw := hw.1 c40
                  refine lv_iload_n hx hb dM_reply_274 rfl (lv_at hl 5 rfl) ?_
                  refine lv_iconst (v := 1) hx hb dM_reply_275 (by decide) ?_
                  refine lv_icmp_ne (tgt := 306) hx hb dM_reply_276 (by decide) (fun z9 => absurd c9 z9) (fun _ => ?_)
                  refine lv_aload_n hx hb dM_reply_279 rfl (lv_at hl 2 rfl) ?_
                  refine va_get (D := D) (ci := 5) (v := .ref (ad 3 0)) (C := RM) (T := TM) (N := 26) hx hb hts inM hown hK hP 0 gM_0 rfl 9 (by decide) (hts _ tw_600) (fun _ h9 => h9) rfl dM_reply_280 ?_
                  refine lv_iload_n hx hb dM_reply_283 rfl (lv_at hl 3 rfl) ?_
                  refine lv_aload_n hx hb dM_reply_284 rfl (lv_at hl 2 rfl) ?_
                  refine va_get (D := D) (ci := 5) (v := .ref (ad 3 0)) (C := RM) (T := TM) (N := 26) hx hb hts inM hown hK hP 0 gM_0 rfl 9 (by decide) (hts _ tw_600) (fun _ h9 => h9) rfl dM_reply_285 ?_
                  refine lv_iload_n hx hb dM_reply_288 rfl (lv_at hl 3 rfl) ?_
                  refine va_iald hx hb hK hP 3 0 gM_3 rfl hin36 dM_reply_289 ?_
                  refine lv_iconst (v := 1) hx hb dM_reply_290 (by decide) ?_
                  refine lv_iadd hx hb dM_reply_291 ?_
                  refine lv_bipush (v := 7) hx hb dM_reply_292 (by decide) ?_
                  refine lv_irem hx hb dM_reply_294 (by decide) ?_
                  refine va_iast hx hb hK hP hD hS 3 0 gM_3 rfl hin36 dM_reply_295 (fun H locs hP hD hS => ?_)
                  rw [sM_3] at hP hD
                  refine lv_aload_n hx hb dM_reply_296 rfl (lv_at hl 2 rfl) ?_
                  refine lv_iload_n hx hb dM_reply_297 rfl (lv_at hl 3 rfl) ?_
                  refine lv_iconst (v := 5) hx hb dM_reply_298 (by decide) ?_
                  refine lv_iconst (v := 0) hx hb dM_reply_299 (by decide) ?_
                  have hFc := px_free hD hS hA
                  refine va_callv (va_runV (As := [.int a0, .int 5, .int 0]) (rest := []) ⟨hx, hb, hml, hown, hts⟩ (c_m_alarm l D ca ad (vA 2 (upd (mA s30 2) (a0).toNatClampNeg ((((mA s30 2) (a0).toNatClampNeg) + 1) - (((mA s30 2) (a0).toNatClampNeg) + 1) / 7 * 7)) s30) a0 5 0 _ _ hw) (cwV 3 hts (gV tw_717 tw_719 tp_24 tw_7 tw_720) rfl rfl rfl (by decide +kernel) ⟨Nat.le_of_ble_eq_true rfl, Nat.le_of_ble_eq_true rfl⟩) ⟨pm_blind, (px_recv hK hP gM_0 rfl), fun U hU hW => pm_pre hP hK hD hE hS hFc hU hW⟩ rfl rfl hl.1 rfl (lv_room (Nat.le_of_ble_eq_true rfl)) dM_reply_300 ⟨Nat.le_of_ble_eq_true rfl, Nat.le_of_ble_eq_true rfl⟩) hS (fun q _ h => hFc q h) hFc (fun s43 t H locs ht hvm hw hB _ _ hS => ?_)
                  obtain ⟨hP, -, hD⟩ := hB
                  rw [ht] at hP
                  have hD := hD.weaken (fun _ _ _ h9 => hFc _ h9)
                  refine lv_goto (tgt := 336) hx hb dM_reply_303 (by decide) ?_
                  refine lv_iconst (v := 1) hx hb dM_reply_336 (by decide) ?_
                  exact W.zret (ty := .boolean) (v := 1) hx hb hr (by decide) (fun t ht hW => ⟨⟨1, s43, rfl, hw, by rw [ht]; exact hP, va_K.moved hW.alike hK, hD⟩, hS.F ht⟩) hS.2.2 dM_reply_337
                · have hw := hw.2 c40
                  refine lv_aload_n hx hb dM_reply_258 rfl (lv_at hl 2 rfl) ?_
                  refine va_get (D := D) (ci := 5) (v := .ref (ad 3 0)) (C := RM) (T := TM) (N := 26) hx hb hts inM hown hK hP 0 gM_0 rfl 9 (by decide) (hts _ tw_600) (fun _ h9 => h9) rfl dM_reply_259 ?_
                  refine lv_iload_n hx hb dM_reply_262 rfl (lv_at hl 3 rfl) ?_
                  refine lv_iload hx hb dM_reply_263 (lv_at hl 6 rfl) ?_
                  refine va_iast hx hb hK hP hD hS 3 0 gM_3 rfl hin36 dM_reply_265 (fun H locs hP hD hS => ?_)
                  rw [sM_3] at hP hD
                  refine lv_aload_n hx hb dM_reply_266 rfl (lv_at hl 2 rfl) ?_
                  refine lv_iload_n hx hb dM_reply_267 rfl (lv_at hl 3 rfl) ?_
                  have hFc := px_free hD hS hA
                  refine va_callv (va_runV (As := [.int a0]) (rest := []) ⟨hx, hb, hml, hown, hts⟩ (c_m_go l D ca ad (vA 2 (upd (mA s30 2) (a0).toNatClampNeg a3) s30) a0 _ _ hw) (cwV 1 hts (gV tw_701 tw_703 tp_20 tw_7 tw_704) rfl rfl rfl (by decide +kernel) ⟨Nat.le_of_ble_eq_true rfl, Nat.le_of_ble_eq_true rfl⟩) ⟨pm_blind, (px_recv hK hP gM_0 rfl), fun U hU hW => pm_pre hP hK hD hE hS hFc hU hW⟩ rfl rfl hl.1 rfl (lv_room (Nat.le_of_ble_eq_true rfl)) dM_reply_268 ⟨Nat.le_of_ble_eq_true rfl, Nat.le_of_ble_eq_true rfl⟩) hS (fun q _ h => hFc q h) hFc (fun s46 t H locs ht hvm hw hB _ _ hS => ?_)
                  obtain ⟨hP, -, hD⟩ := hB
                  rw [ht] at hP
                  have hD := hD.weaken (fun _ _ _ h9 => hFc _ h9)
                  refine lv_goto (tgt := 336) hx hb dM_reply_271 (by decide) ?_
                  refine lv_iconst (v := 1) hx hb dM_reply_336 (by decide) ?_
                  exact W.zret (ty := .boolean) (v := 1) hx hb hr (by decide) (fun t ht hW => ⟨⟨1, s46, rfl, hw, by rw [ht]; exact hP, va_K.moved hW.alike hK, hD⟩, hS.F ht⟩) hS.2.2 dM_reply_337
              · have hw := hw.2 c39
                refine lv_iconst (v := 0) hx hb dM_reply_151 (by decide) ?_
                exact W.zret (ty := .boolean) (v := 0) hx hb hr (by decide) (fun t ht hW => ⟨⟨0, s30, rfl, hw, by rw [ht]; exact hP, va_K.moved hW.alike hK, hD⟩, hS.F ht⟩) hS.2.2 dM_reply_152
    · have hw := hw.2 c4
      refine lv_iload hx hb dM_reply_41 (lv_at hl 5 rfl) ?_
      refine lv_iconst (v := 1) hx hb dM_reply_43 (by decide) ?_
      refine lv_ldc (own := RM) (index := 129) (v := 1000000) hx hb hown (hts _ tw_729) dM_reply_44 ?_
      have hFc := px_free hD hS hA
      refine va_calli (va_runS (As := [.int a3, .int 1, .int 1000000]) (rest := []) ⟨hx, hb, hml, hown, hts⟩ (c_m_within l D ca ad s1 a3 1 1000000 _ _ hw) (va_cwS 3 hts (gS tw_679 tw_680 tw_7 tw_681) rfl rfl rfl (by decide +kernel) ⟨Nat.le_of_ble_eq_true rfl, Nat.le_of_ble_eq_true rfl⟩) ⟨pm_blind, fun U hU hW => pm_pre hP hK hD hE hS hFc hU hW⟩ rfl rfl hl.1 rfl (lv_room (Nat.le_of_ble_eq_true rfl)) dM_reply_46 ⟨Nat.le_of_ble_eq_true rfl, Nat.le_of_ble_eq_true rfl⟩) hS (fun q _ h => hFc q h) hFc (fun r49 s48 t H locs ht hvm hw hB _ _ hS => ?_)
      obtain ⟨hP, -, hD⟩ := hB
      rw [ht] at hP
      have hD := hD.weaken (fun _ _ _ h9 => hFc _ h9)
      refine lv_if_eq (tgt := 64) hx hb dM_reply_49 (by decide) (fun c50 => ?_) (fun c50 => ?_)
      · have hw := hw.1 c50
        refine lv_iconst (v := 0) hx hb dM_reply_64 (by decide) ?_
        refine lv_goto (tgt := 111) hx hb dM_reply_65 (by decide) ?_
        refine lv_istore (lv' := [(6, .int 0), (5, .int (mG σ 6)), (0, .ref (ad 0 0)), (1, .int a0), (2, .int a1), (3, .int a2), (4, .int a3)]) hx hb dM_reply_111 hl (by decide) rfl (fun ls hl => ?_)
        refine lv_iload hx hb dM_reply_113 (lv_at hl 0 rfl) ?_
        refine lv_if_ne (tgt := 132) hx hb dM_reply_115 (by decide) (fun z9 => absurd z9 (by decide)) (fun _ => ?_)
        refine lv_aload_n hx hb dM_reply_118 rfl (lv_at hl 2 rfl) ?_
        refine lv_iconst (v := 2) hx hb dM_reply_119 (by decide) ?_
        have hFc := px_free hD hS hA
        refine va_calli (va_runV (As := [.int 2]) (rest := []) ⟨hx, hb, hml, hown, hts⟩ (c_m_fail l D ca ad s48 2 _ _ hw) (cwV 1 hts (gV tw_682 tw_684 tp_18 tw_7 tw_685) rfl rfl rfl (by decide +kernel) ⟨Nat.le_of_ble_eq_true rfl, Nat.le_of_ble_eq_true rfl⟩) ⟨pm_blind, (px_recv hK hP gM_0 rfl), fun U hU hW => pm_pre hP hK hD hE hS hFc hU hW⟩ rfl rfl hl.1 rfl (lv_room (Nat.le_of_ble_eq_true rfl)) dM_reply_120 ⟨Nat.le_of_ble_eq_true rfl, Nat.le_of_ble_eq_true rfl⟩) hS (fun q _ h => hFc q h) hFc (fun r52 s51 t H locs ht hvm hw hB _ _ hS => ?_)
        obtain ⟨hP, -, hD⟩ := hB
        rw [ht] at hP
        have hD := hD.weaken (fun _ _ _ h9 => hFc _ h9)
        refine lv_if_le (tgt := 130) hx hb dM_reply_123 (by decide) (fun c53 => ?_) (fun c53 => ?_)
        · have hw := hw.1 c53
          refine lv_iconst (v := 0) hx hb dM_reply_130 (by decide) ?_
          exact W.zret (ty := .boolean) (v := 0) hx hb hr (by decide) (fun t ht hW => ⟨⟨0, s51, rfl, hw, by rw [ht]; exact hP, va_K.moved hW.alike hK, hD⟩, hS.F ht⟩) hS.2.2 dM_reply_131
        · have hw := hw.2 c53
          refine lv_iconst (v := 1) hx hb dM_reply_126 (by decide) ?_
          refine lv_goto (tgt := 131) hx hb dM_reply_127 (by decide) ?_
          exact W.zret (ty := .boolean) (v := 1) hx hb hr (by decide) (fun t ht hW => ⟨⟨1, s51, rfl, hw, by rw [ht]; exact hP, va_K.moved hW.alike hK, hD⟩, hS.F ht⟩) hS.2.2 dM_reply_131
      · have hw := hw.2 c50
        refine lv_iload hx hb dM_reply_52 (lv_at hl 0 rfl) ?_
        refine lv_sipush (v := 134) hx hb dM_reply_54 (by decide) ?_
        refine lv_icmp_gt (tgt := 64) hx hb dM_reply_57 (by decide) (fun c54 => ?_) (fun c54 => ?_)
        · have hw := hw.1 c54
          refine lv_iconst (v := 0) hx hb dM_reply_64 (by decide) ?_
          refine lv_goto (tgt := 111) hx hb dM_reply_65 (by decide) ?_
          refine lv_istore (lv' := [(6, .int 0), (5, .int (mG σ 6)), (0, .ref (ad 0 0)), (1, .int a0), (2, .int a1), (3, .int a2), (4, .int a3)]) hx hb dM_reply_111 hl (by decide) rfl (fun ls hl => ?_)
          refine lv_iload hx hb dM_reply_113 (lv_at hl 0 rfl) ?_
          refine lv_if_ne (tgt := 132) hx hb dM_reply_115 (by decide) (fun z9 => absurd z9 (by decide)) (fun _ => ?_)
          refine lv_aload_n hx hb dM_reply_118 rfl (lv_at hl 2 rfl) ?_
          refine lv_iconst (v := 2) hx hb dM_reply_119 (by decide) ?_
          have hFc := px_free hD hS hA
          refine va_calli (va_runV (As := [.int 2]) (rest := []) ⟨hx, hb, hml, hown, hts⟩ (c_m_fail l D ca ad s48 2 _ _ hw) (cwV 1 hts (gV tw_682 tw_684 tp_18 tw_7 tw_685) rfl rfl rfl (by decide +kernel) ⟨Nat.le_of_ble_eq_true rfl, Nat.le_of_ble_eq_true rfl⟩) ⟨pm_blind, (px_recv hK hP gM_0 rfl), fun U hU hW => pm_pre hP hK hD hE hS hFc hU hW⟩ rfl rfl hl.1 rfl (lv_room (Nat.le_of_ble_eq_true rfl)) dM_reply_120 ⟨Nat.le_of_ble_eq_true rfl, Nat.le_of_ble_eq_true rfl⟩) hS (fun q _ h => hFc q h) hFc (fun r56 s55 t H locs ht hvm hw hB _ _ hS => ?_)
          obtain ⟨hP, -, hD⟩ := hB
          rw [ht] at hP
          have hD := hD.weaken (fun _ _ _ h9 => hFc _ h9)
          refine lv_if_le (tgt := 130) hx hb dM_reply_123 (by decide) (fun c57 => ?_) (fun c57 => ?_)
          · have hw := hw.1 c57
            refine lv_iconst (v := 0) hx hb dM_reply_130 (by decide) ?_
            exact W.zret (ty := .boolean) (v := 0) hx hb hr (by decide) (fun t ht hW => ⟨⟨0, s55, rfl, hw, by rw [ht]; exact hP, va_K.moved hW.alike hK, hD⟩, hS.F ht⟩) hS.2.2 dM_reply_131
          · have hw := hw.2 c57
            refine lv_iconst (v := 1) hx hb dM_reply_126 (by decide) ?_
            refine lv_goto (tgt := 131) hx hb dM_reply_127 (by decide) ?_
            exact W.zret (ty := .boolean) (v := 1) hx hb hr (by decide) (fun t ht hW => ⟨⟨1, s55, rfl, hw, by rw [ht]; exact hP, va_K.moved hW.alike hK, hD⟩, hS.F ht⟩) hS.2.2 dM_reply_131
        · have hw := hw.2 c54
          refine lv_iconst (v := 1) hx hb dM_reply_60 (by decide) ?_
          refine lv_goto (tgt := 111) hx hb dM_reply_61 (by decide) ?_
          refine lv_istore (lv' := [(6, .int 1), (5, .int (mG σ 6)), (0, .ref (ad 0 0)), (1, .int a0), (2, .int a1), (3, .int a2), (4, .int a3)]) hx hb dM_reply_111 hl (by decide) rfl (fun ls hl => ?_)
          refine lv_iload hx hb dM_reply_113 (lv_at hl 0 rfl) ?_
          refine lv_if_ne (tgt := 132) hx hb dM_reply_115 (by decide) (fun _ => ?_) (fun z9 => absurd z9 (by decide))
          refine lv_aload_n hx hb dM_reply_132 rfl (lv_at hl 2 rfl) ?_
          refine va_get (D := D) (ci := 5) (v := .ref (ad 2 0)) (C := RM) (T := TM) (N := 26) hx hb hts inM hown hK hP 0 gM_0 rfl 8 (by decide) (hts _ tw_599) (fun _ h9 => h9) rfl dM_reply_133 ?_
          refine lv_iload_n hx hb dM_reply_136 rfl (lv_at hl 3 rfl) ?_
          obtain ⟨hin58, hw⟩ := hw
          refine va_zald hx hb hK hP 2 1 gM_2 rfl hin58 dM_reply_137 ?_
          refine lv_if_eq (tgt := 151) hx hb dM_reply_138 (by decide) (fun c59 => ?_) (fun c59 => ?_)
          · have hw := hw.1 c59
            refine lv_iconst (v := 0) hx hb dM_reply_151 (by decide) ?_
            exact W.zret (ty := .boolean) (v := 0) hx hb hr (by decide) (fun t ht hW => ⟨⟨0, s48, rfl, hw, by rw [ht]; exact hP, va_K.moved hW.alike hK, hD⟩, hS.F ht⟩) hS.2.2 dM_reply_152
          · have hw := hw.2 c59
            refine lv_iload_n hx hb dM_reply_141 rfl (lv_at hl 4 rfl) ?_
            refine lv_aload_n hx hb dM_reply_142 rfl (lv_at hl 2 rfl) ?_
            refine va_get (D := D) (ci := 5) (v := .ref (ad 6 0)) (C := RM) (T := TM) (N := 26) hx hb hts inM hown hK hP 0 gM_0 rfl 12 (by decide) (hts _ tw_603) (fun _ h9 => h9) rfl dM_reply_143 ?_
            refine lv_iload_n hx hb dM_reply_146 rfl (lv_at hl 3 rfl) ?_
            refine va_iald hx hb hK hP 6 0 gM_6 rfl hin58 dM_reply_147 ?_
            refine lv_icmp_eq (tgt := 153) hx hb dM_reply_148 (by decide) (fun c61 => ?_) (fun c61 => ?_)
            · have hw := hw.1 c61
              refine lv_iload_n hx hb dM_reply_153 rfl (lv_at hl 5 rfl) ?_
              refine lv_if_ne (tgt := 189) hx hb dM_reply_154 (by decide) (fun z9 => absurd c4 z9) (fun _ => ?_)
              refine lv_aload_n hx hb dM_reply_157 rfl (lv_at hl 2 rfl) ?_
              refine va_get (D := D) (ci := 5) (v := .ref (ad 8 0)) (C := RM) (T := TM) (N := 26) hx hb hts inM hown hK hP 0 gM_0 rfl 14 (by decide) (hts _ tw_605) (fun _ h9 => h9) rfl dM_reply_158 ?_
              refine lv_iload_n hx hb dM_reply_161 rfl (lv_at hl 3 rfl) ?_
              refine va_zald hx hb hK hP 8 1 gM_8 rfl hin58 dM_reply_162 ?_
              refine lv_if_eq (tgt := 189) hx hb dM_reply_163 (by decide) (fun c63 => ?_) (fun c63 => ?_)
              · have hw := hw.1 c63
                refine lv_iload_n hx hb dM_reply_189 rfl (lv_at hl 5 rfl) ?_
                refine lv_if_ne (tgt := 248) hx hb dM_reply_190 (by decide) (fun z9 => absurd c4 z9) (fun _ => ?_)
                refine lv_iconst (v := 0) hx hb dM_reply_193 (by decide) ?_
                refine lv_istore (lv' := [(7, .int 0), (6, .int 1), (5, .int (mG σ 6)), (0, .ref (ad 0 0)), (1, .int a0), (2, .int a1), (3, .int a2), (4, .int a3)]) hx hb dM_reply_194 hl (by decide) rfl (fun ls hl => ?_)
                obtain ⟨n, hw⟩ := hw
                exact l_m_reply_L196 (D := D) (ca := ca) (ad := ad)  hx hb hr hml hts hown hlocks hA hK hE n s48 a0 a1 a2 a3 (mG σ 6) 1 0 hw _ _ hP hD hS ls (lv_sub hl [3, 4, 5, 6, 7, 2, 1, 0] rfl)
              · have hw := hw.2 c63
                refine lv_aload_n hx hb dM_reply_166 rfl (lv_at hl 2 rfl) ?_
                refine va_get (D := D) (ci := 5) (v := .ref (ad 4 0)) (C := RM) (T := TM) (N := 26) hx hb hts inM hown hK hP 0 gM_0 rfl 10 (by decide) (hts _ tw_601) (fun _ h9 => h9) rfl dM_reply_167 ?_
                refine lv_iload_n hx hb dM_reply_170 rfl (lv_at hl 3 rfl) ?_
                refine lv_iload hx hb dM_reply_171 (lv_at hl 6 rfl) ?_
                refine va_iast hx hb hK hP hD hS 4 0 gM_4 rfl hin58 dM_reply_173 (fun H locs hP hD hS => ?_)
                rw [sM_4] at hP hD
                refine lv_aload_n hx hb dM_reply_174 rfl (lv_at hl 2 rfl) ?_
                refine va_get (D := D) (ci := 5) (v := .ref (ad 5 0)) (C := RM) (T := TM) (N := 26) hx hb hts inM hown hK hP 0 gM_0 rfl 11 (by decide) (hts _ tw_602) (fun _ h9 => h9) rfl dM_reply_175 ?_
                refine lv_iload_n hx hb dM_reply_178 rfl (lv_at hl 3 rfl) ?_
                refine lv_iconst (v := 0) hx hb dM_reply_179 (by decide) ?_
                refine va_iast hx hb hK hP hD hS 5 0 gM_5 rfl hin58 dM_reply_180 (fun H locs hP hD hS => ?_)
                rw [sM_5] at hP hD
                refine lv_aload_n hx hb dM_reply_181 rfl (lv_at hl 2 rfl) ?_
                refine lv_iload_n hx hb dM_reply_182 rfl (lv_at hl 3 rfl) ?_
                have hFc := px_free hD hS hA
                refine va_callv (va_runV (As := [.int a0]) (rest := []) ⟨hx, hb, hml, hown, hts⟩ (c_m_begin l D ca ad (vA 4 (upd (mA s48 4) (a0).toNatClampNeg 0) (vA 3 (upd (mA s48 3) (a0).toNatClampNeg a3) s48)) a0 _ _ hw) (cwV 1 hts (gV tw_697 tw_699 tp_19 tw_7 tw_700) rfl rfl rfl (by decide +kernel) ⟨Nat.le_of_ble_eq_true rfl, Nat.le_of_ble_eq_true rfl⟩) ⟨pm_blind, (px_recv hK hP gM_0 rfl), fun U hU hW => pm_pre hP hK hD hE hS hFc hU hW⟩ rfl rfl hl.1 rfl (lv_room (Nat.le_of_ble_eq_true rfl)) dM_reply_183 ⟨Nat.le_of_ble_eq_true rfl, Nat.le_of_ble_eq_true rfl⟩) hS (fun q _ h => hFc q h) hFc (fun s66 t H locs ht hvm hw hB _ _ hS => ?_)
                obtain ⟨hP, -, hD⟩ := hB
                rw [ht] at hP
                have hD := hD.weaken (fun _ _ _ h9 => hFc _ h9)
                refine lv_goto (tgt := 336) hx hb dM_reply_186 (by decide) ?_
                refine lv_iconst (v := 1) hx hb dM_reply_336 (by decide) ?_
                exact W.zret (ty := .boolean) (v := 1) hx hb hr (by decide) (fun t ht hW => ⟨⟨1, s66, rfl, hw, by rw [ht]; exact hP, va_K.moved hW.alike hK, hD⟩, hS.F ht⟩) hS.2.2 dM_reply_337
            · have hw := hw.2 c61
              refine lv_iconst (v := 0) hx hb dM_reply_151 (by decide) ?_
              exact W.zret (ty := .boolean) (v := 0) hx hb hr (by decide) (fun t ht hW => ⟨⟨0, s48, rfl, hw, by rw [ht]; exact hP, va_K.moved hW.alike hK, hD⟩, hS.F ht⟩) hS.2.2 dM_reply_152
  · have hw := hw.2 c3
    refine lv_aload_n hx hb dM_reply_23 rfl (lv_at hl 1 rfl) ?_
    refine lv_iconst (v := 1) hx hb dM_reply_24 (by decide) ?_
    have hFc := px_free hD hS hA
    refine va_calli (va_runV (As := [.int 1]) (rest := []) ⟨hx, hb, hml, hown, hts⟩ (c_m_fail l D ca ad s1 1 _ _ hw) (cwV 1 hts (gV tw_682 tw_684 tp_18 tw_7 tw_685) rfl rfl rfl (by decide +kernel) ⟨Nat.le_of_ble_eq_true rfl, Nat.le_of_ble_eq_true rfl⟩) ⟨pm_blind, (px_recv hK hP gM_0 rfl), fun U hU hW => pm_pre hP hK hD hE hS hFc hU hW⟩ rfl rfl hl.1 rfl (lv_room (Nat.le_of_ble_eq_true rfl)) dM_reply_25 ⟨Nat.le_of_ble_eq_true rfl, Nat.le_of_ble_eq_true rfl⟩) hS (fun q _ h => hFc q h) hFc (fun r69 s68 t H locs ht hvm hw hB _ _ hS => ?_)
    obtain ⟨hP, -, hD⟩ := hB
    rw [ht] at hP
    have hD := hD.weaken (fun _ _ _ h9 => hFc _ h9)
    refine lv_if_le (tgt := 35) hx hb dM_reply_28 (by decide) (fun c70 => ?_) (fun c70 => ?_)
    · have hw := hw.1 c70
      refine lv_iconst (v := 0) hx hb dM_reply_35 (by decide) ?_
      exact W.zret (ty := .boolean) (v := 0) hx hb hr (by decide) (fun t ht hW => ⟨⟨0, s68, rfl, hw, by rw [ht]; exact hP, va_K.moved hW.alike hK, hD⟩, hS.F ht⟩) hS.2.2 dM_reply_36
    · have hw := hw.2 c70
      refine lv_iconst (v := 1) hx hb dM_reply_31 (by decide) ?_
      refine lv_goto (tgt := 36) hx hb dM_reply_32 (by decide) ?_
      exact W.zret (ty := .boolean) (v := 1) hx hb hr (by decide) (fun t ht hW => ⟨⟨1, s68, rfl, hw, by rw [ht]; exact hP, va_K.moved hW.alike hK, hD⟩, hS.F ht⟩) hS.2.2 dM_reply_36
