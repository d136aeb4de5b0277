/-! THE CLAIM OUT OF ONE WALK OF THE LAW'S BODY. Your part is whole_start (and what it stands on); all else here is the same for every law, but numbers. -/
def R_law : String := "PatronHallLaw"
def lw_P (b : Addr) (xs : List Int32) (args : Array Value) (s : State) : Prop := args = #[.ref b] ∧ s.IntsAt b xs ∧ xs.length ≤ 2560 ∧ (Jvm.Cond.and given_1 narrow_1).before args s = true
def lw_Q (_ : Array Value) (s : State) (o : Outcome) (t : State) : Prop := o = .returned (some (.int 1)) ∧ Framed s o t [] 601024 7293034
def lw_Z (below : List Frame) (a : Array Value) (s : State) : State → Prop := fun t => ∃ o, t.status = .running ∧ Ended t below o ∧ lw_Q a s o t
/-- the law's own end, with 1 on the stack, nothing written that was there before, its room as the claim has it -/
theorem lw_ret {p : Program} {l : Launch} {e : Env} {s : State} {m : MethodId} {below : List Frame} {meth : Method} {c : Code} {b : Nat} (hx : p.tables.exec = Jvm.exec) (hb : c.code = code) (hr : meth.sig.returnType = ret) (hlocks : meth.locks = false) {pc : Nat} {H : Heap} {ls : Array Slot} (hdg : decode code pc = .ok (.ireturn, 1)) : W p l e room_1 s m #[Value.ref b] below meth c H [] 601024 7293034 (lw_Z below #[Value.ref b] s) (F0 m pc ls [.int 1]) := by
  intro T hT X
  obtain ⟨fs, hret, hrun, hended, hW, hframe⟩ := X.leave (v := some (.int 1)) (hlocks := hlocks) (fun h => by rw [hr] at h; cases h)
  have hmeth' : T.vm.method? m = some meth := X.method'
  refine ⟨T.setFrames fs, ?_, .returned (some (.int 1)), hrun, hended, rfl, ⟨_, rfl⟩, hW, hframe⟩
  jvm_step X.here [X.here.top, hx, hb, hdg, hmeth', hr, ret, narrow_b1]
  (try refine ⟨rfl, ?_⟩); (try refine ⟨rfl, ?_⟩)
  first | (intro acts; rw [hret _ acts rfl rfl rfl]) | rw [hret _ _ rfl rfl rfl]
  exact Steps.refl _
/-- what holds at the law's entry: the machine, the code, the tables' words (any of lw_tbl by 'hts w (by decide +kernel)'), the script of L ints xs at the cell b, what the Statement gives of the start (any of its parts by flat_of_before) -/
def lw_At (p : Program) (s : State) (m : MethodId) (meth : Method) (c : Code) (b L : Nat) (xs : Nat → Int32) : Prop :=
  p.tables.exec = Jvm.exec ∧ c.code = code ∧ meth.sig.returnType = ret ∧ c.maxLocals = 7 ∧ s.vm.findClass R_law = some m.cls ∧ (∀ w ∈ lw_tbl, w.before #[Value.ref b] s = true) ∧ va_X b L xs s s.heap ∧ b < s.heap.size ∧ meth.locks = false ∧ (Jvm.Cond.and given_1 narrow_1).before #[Value.ref b] s = true
/-! THE LAW: its cells are the class's, the answer's array, the reference's -/
abbrev wZ (ca : Nat → ClassId) (ad : Nat → Nat → Nat) (cj : ClassId) (o : Nat) (cm : Nat → ClassId) (am : Nat → Nat → Nat) (σ : Sg) (f : Nat → Int64) (ρ : Sm) : va_W := wW ca ad cj o σ f ++ wM cm am ρ
def tyZ (ca : Nat → ClassId) (cj : ClassId) (cm : Nat → ClassId) : List (ClassId × FieldType) := tyW ca cj ++ tyM9 cm
abbrev aL (s : State) : Nat → Prop := fun q => s.heap.size ≤ q
theorem wZ_a {ca : Nat → ClassId} {ad : Nat → Nat → Nat} {cj : ClassId} {o : Nat} {cm : Nat → ClassId} {am : Nat → Nat → Nat} {σ : Sg} {f : Nat → Int64} {ρ : Sm} : wZ ca ad cj o cm am σ f ρ = wX ca ad σ ++ ([(o, .inl (cj, 1, .inr (.inl f)))] ++ wM cm am ρ) := List.append_assoc _ _ _
theorem px_sP {D : va_G} {cl : List vw_C} {X Y : va_W} {H : Heap} (h : va_P D cl (X ++ Y) H) : va_P D cl Y H := fun k q e => h (X.length + k) q (by rw [px_ar _ rfl]; exact e)
theorem px_sD {A : Nat → Prop} {X Y : va_W} (h : va_D A (X ++ Y)) : va_D A Y := ⟨fun i j p q h1 h2 e => by
  have := h.1 (X.length + i) (X.length + j) p q (by rw [px_ar _ rfl]; exact h1) (by rw [px_ar _ rfl]; exact h2) e
  omega, fun k q e => h.2 (X.length + k) q (by rw [px_ar _ rfl]; exact e)⟩
/-- behind a call on the second part: the first is as it was -/
theorem px_joinR {A : Nat → Prop} {D : va_G} {cl : List vw_C} {X Y Y' : va_W} {H H1 : Heap} (hP : va_P D cl (X ++ Y) H) (hD : va_D A (X ++ Y)) (hF : ∀ q, va_A Y H.size q → A q) (hk : ∀ q : Nat, q < H.size → ¬ va_A Y H.size q → H1[q]? = H[q]?) (hP1 : va_P D cl Y' H1) (hD1 : va_D (va_A Y H.size) Y') : va_P D cl (X ++ Y') H1 ∧ va_D A (X ++ Y') := by
  have ar : ∀ (k : Nat) (q : Nat × va_E), Y[k]? = some q → (X ++ Y)[X.length + k]? = some q := fun k q e => by rw [px_ar _ rfl]; exact e
  have ny : ∀ (k : Nat) (q : Nat × va_E), X[k]? = some q → ¬ va_A Y H.size q.1 := by
    intro k q e z
    rcases z with ⟨i, x, hx⟩ | z
    · have h1 := hD.1 (X.length + i) k (q.1, x) q (ar i _ hx) (px_l e) rfl
      have h2 := (List.getElem?_eq_some_iff.mp e).1
      omega
    · exact absurd (va_at.lt (hP _ _ (px_l e))) (by omega)
  refine ⟨va_P.app (fun k q e => ?_) hP1, va_D.app (px_fD hD) (hD1.weaken (fun _ _ _ h => hF _ h)) (fun i j p q h1 h2 e => ?_)⟩
  · exact (hP _ _ (px_l e)).kept (hk q.1 (va_at.lt (hP _ _ (px_l e))) (ny k q e))
  · exact ny i p h1 (e ▸ hD1.2 j q h2)
theorem pw_pre {D : va_G} {ca : Nat → ClassId} {ad : Nat → Nat → Nat} {cj : ClassId} {o : Nat} {σ : Sg} {f : Nat → Int64} {A : Nat → Prop} {s U : State} {H : Heap} {locs : List Loc} {av : List Value} (hP : va_P D clX (wW ca ad cj o σ f) H) (hK : va_K D clX (tyW ca cj) s) (hD : va_D A (wW ca ad cj o σ f)) (hE : eX A s) (hN : eN s) (hS : va_S A s.heap H locs) (hF : ∀ q, va_A (wW ca ad cj o σ f) H.size q → A q) (hU : U.heap = H) (hW : s.WarmedH U.vm) : va_Pc av (preW D ca ad cj o σ f H.size) av.toArray U :=
  ⟨rfl, by rw [hU], by rw [hU]; exact hP, va_K.moved hW.alike hK, hD.weaken (fun _ _ _ _ => trivial), hE.to hS hF hU hW, hN.moved hW.alike⟩

theorem dLaw_0 : decode code 0 = .ok (.new 8, 3) := by decide +kernel
theorem dLaw_3 : decode code 3 = .ok (.dup, 1) := by decide +kernel
theorem dLaw_4 : decode code 4 = .ok (.invokespecial 51, 3) := by decide +kernel
theorem dLaw_7 : decode code 7 = .ok (.astore_n 1, 1) := by decide +kernel
theorem dLaw_8 : decode code 8 = .ok (.new 52, 3) := by decide +kernel
theorem dLaw_11 : decode code 11 = .ok (.dup, 1) := by decide +kernel
theorem dLaw_12 : decode code 12 = .ok (.invokespecial 54, 3) := by decide +kernel
theorem dLaw_15 : decode code 15 = .ok (.astore_n 2, 1) := by decide +kernel
theorem dLaw_16 : decode code 16 = .ok (.iconst 1, 1) := by decide +kernel
theorem dLaw_17 : decode code 17 = .ok (.newarray .long, 2) := by decide +kernel
theorem dLaw_19 : decode code 19 = .ok (.astore_n 3, 1) := by decide +kernel
theorem dLaw_20 : decode code 20 = .ok (.iconst 0, 1) := by decide +kernel
theorem dLaw_21 : decode code 21 = .ok (.istore 4, 2) := by decide +kernel
theorem dLaw_23 : decode code 23 = .ok (.iload 4, 2) := by decide +kernel
theorem dLaw_25 : decode code 25 = .ok (.aload_n 0, 1) := by decide +kernel
theorem dLaw_26 : decode code 26 = .ok (.arraylength, 1) := by decide +kernel
theorem dLaw_27 : decode code 27 = .ok (.iconst 5, 1) := by decide +kernel
theorem dLaw_28 : decode code 28 = .ok (.isub, 1) := by decide +kernel
theorem dLaw_29 : decode code 29 = .ok (.if_icmp .gt 877, 3) := by decide +kernel
theorem dLaw_32 : decode code 32 = .ok (.aload_n 0, 1) := by decide +kernel
theorem dLaw_33 : decode code 33 = .ok (.iload 4, 2) := by decide +kernel
theorem dLaw_35 : decode code 35 = .ok (.iaload, 1) := by decide +kernel
theorem dLaw_36 : decode code 36 = .ok (.bipush 15, 2) := by decide +kernel
theorem dLaw_38 : decode code 38 = .ok (.iand, 1) := by decide +kernel
theorem dLaw_39 : decode code 39 = .ok (.tableswitch 861 0 11 #[61, 161, 253, 316, 415, 471, 539, 576, 644, 700, 768, 836], 61) := by decide +kernel
theorem dLaw_100 : decode code 100 = .ok (.aload_n 1, 1) := by decide +kernel
theorem dLaw_101 : decode code 101 = .ok (.aload_n 0, 1) := by decide +kernel
theorem dLaw_102 : decode code 102 = .ok (.iload 4, 2) := by decide +kernel
theorem dLaw_104 : decode code 104 = .ok (.iconst 1, 1) := by decide +kernel
theorem dLaw_105 : decode code 105 = .ok (.iadd, 1) := by decide +kernel
theorem dLaw_106 : decode code 106 = .ok (.iaload, 1) := by decide +kernel
theorem dLaw_107 : decode code 107 = .ok (.i2l, 1) := by decide +kernel
theorem dLaw_108 : decode code 108 = .ok (.bipush 32, 2) := by decide +kernel
theorem dLaw_110 : decode code 110 = .ok (.lshl, 1) := by decide +kernel
theorem dLaw_111 : decode code 111 = .ok (.aload_n 0, 1) := by decide +kernel
theorem dLaw_112 : decode code 112 = .ok (.iload 4, 2) := by decide +kernel
theorem dLaw_114 : decode code 114 = .ok (.iconst 2, 1) := by decide +kernel
theorem dLaw_115 : decode code 115 = .ok (.iadd, 1) := by decide +kernel
theorem dLaw_116 : decode code 116 = .ok (.iaload, 1) := by decide +kernel
theorem dLaw_117 : decode code 117 = .ok (.i2l, 1) := by decide +kernel
theorem dLaw_118 : decode code 118 = .ok (.ldc2_w 55, 3) := by decide +kernel
theorem dLaw_121 : decode code 121 = .ok (.land, 1) := by decide +kernel
theorem dLaw_122 : decode code 122 = .ok (.lor, 1) := by decide +kernel
theorem dLaw_123 : decode code 123 = .ok (.aload_n 0, 1) := by decide +kernel
theorem dLaw_124 : decode code 124 = .ok (.iload 4, 2) := by decide +kernel
theorem dLaw_126 : decode code 126 = .ok (.iconst 3, 1) := by decide +kernel
theorem dLaw_127 : decode code 127 = .ok (.iadd, 1) := by decide +kernel
theorem dLaw_128 : decode code 128 = .ok (.iaload, 1) := by decide +kernel
theorem dLaw_129 : decode code 129 = .ok (.aload_n 3, 1) := by decide +kernel
theorem dLaw_130 : decode code 130 = .ok (.invokestatic 57, 3) := by decide +kernel
theorem dLaw_133 : decode code 133 = .ok (.istore 5, 2) := by decide +kernel
theorem dLaw_135 : decode code 135 = .ok (.aload_n 2, 1) := by decide +kernel
theorem dLaw_136 : decode code 136 = .ok (.aload_n 0, 1) := by decide +kernel
theorem dLaw_137 : decode code 137 = .ok (.iload 4, 2) := by decide +kernel
theorem dLaw_139 : decode code 139 = .ok (.iconst 1, 1) := by decide +kernel
theorem dLaw_140 : decode code 140 = .ok (.iadd, 1) := by decide +kernel
theorem dLaw_141 : decode code 141 = .ok (.iaload, 1) := by decide +kernel
theorem dLaw_142 : decode code 142 = .ok (.i2l, 1) := by decide +kernel
theorem dLaw_143 : decode code 143 = .ok (.bipush 32, 2) := by decide +kernel
theorem dLaw_145 : decode code 145 = .ok (.lshl, 1) := by decide +kernel
theorem dLaw_146 : decode code 146 = .ok (.aload_n 0, 1) := by decide +kernel
theorem dLaw_147 : decode code 147 = .ok (.iload 4, 2) := by decide +kernel
theorem dLaw_149 : decode code 149 = .ok (.iconst 2, 1) := by decide +kernel
theorem dLaw_150 : decode code 150 = .ok (.iadd, 1) := by decide +kernel
theorem dLaw_151 : decode code 151 = .ok (.iaload, 1) := by decide +kernel
theorem dLaw_152 : decode code 152 = .ok (.i2l, 1) := by decide +kernel
theorem dLaw_153 : decode code 153 = .ok (.ldc2_w 55, 3) := by decide +kernel
theorem dLaw_156 : decode code 156 = .ok (.land, 1) := by decide +kernel
theorem dLaw_157 : decode code 157 = .ok (.lor, 1) := by decide +kernel
theorem dLaw_158 : decode code 158 = .ok (.aload_n 0, 1) := by decide +kernel
theorem dLaw_159 : decode code 159 = .ok (.iload 4, 2) := by decide +kernel
theorem dLaw_161 : decode code 161 = .ok (.iconst 3, 1) := by decide +kernel
theorem dLaw_162 : decode code 162 = .ok (.iadd, 1) := by decide +kernel
theorem dLaw_163 : decode code 163 = .ok (.iaload, 1) := by decide +kernel
theorem dLaw_164 : decode code 164 = .ok (.invokevirtual 62, 3) := by decide +kernel
theorem dLaw_167 : decode code 167 = .ok (.istore 6, 2) := by decide +kernel
theorem dLaw_169 : decode code 169 = .ok (.aload_n 2, 1) := by decide +kernel
theorem dLaw_170 : decode code 170 = .ok (.invokevirtual 63, 3) := by decide +kernel
theorem dLaw_173 : decode code 173 = .ok (.iload 5, 2) := by decide +kernel
theorem dLaw_175 : decode code 175 = .ok (.if_icmp .eq 5, 3) := by decide +kernel
theorem dLaw_178 : decode code 178 = .ok (.iconst 0, 1) := by decide +kernel
theorem dLaw_179 : decode code 179 = .ok (.ireturn, 1) := by decide +kernel
theorem dLaw_180 : decode code 180 = .ok (.iload 5, 2) := by decide +kernel
theorem dLaw_182 : decode code 182 = .ok (.ifCond .ne 15, 3) := by decide +kernel
theorem dLaw_185 : decode code 185 = .ok (.aload_n 3, 1) := by decide +kernel
theorem dLaw_186 : decode code 186 = .ok (.iconst 0, 1) := by decide +kernel
theorem dLaw_187 : decode code 187 = .ok (.laload, 1) := by decide +kernel
theorem dLaw_188 : decode code 188 = .ok (.iload 6, 2) := by decide +kernel
theorem dLaw_190 : decode code 190 = .ok (.i2l, 1) := by decide +kernel
theorem dLaw_191 : decode code 191 = .ok (.lcmp, 1) := by decide +kernel
theorem dLaw_192 : decode code 192 = .ok (.ifCond .eq 5, 3) := by decide +kernel
theorem dLaw_195 : decode code 195 = .ok (.iconst 0, 1) := by decide +kernel
theorem dLaw_196 : decode code 196 = .ok (.ireturn, 1) := by decide +kernel
theorem dLaw_197 : decode code 197 = .ok (.goto 703, 3) := by decide +kernel
theorem dLaw_200 : decode code 200 = .ok (.aload_n 1, 1) := by decide +kernel
theorem dLaw_201 : decode code 201 = .ok (.aload_n 0, 1) := by decide +kernel
theorem dLaw_202 : decode code 202 = .ok (.iload 4, 2) := by decide +kernel
theorem dLaw_204 : decode code 204 = .ok (.iconst 1, 1) := by decide +kernel
theorem dLaw_205 : decode code 205 = .ok (.iadd, 1) := by decide +kernel
theorem dLaw_206 : decode code 206 = .ok (.iaload, 1) := by decide +kernel
theorem dLaw_207 : decode code 207 = .ok (.aload_n 0, 1) := by decide +kernel
theorem dLaw_208 : decode code 208 = .ok (.iload 4, 2) := by decide +kernel
theorem dLaw_210 : decode code 210 = .ok (.iconst 2, 1) := by decide +kernel
theorem dLaw_211 : decode code 211 = .ok (.iadd, 1) := by decide +kernel
theorem dLaw_212 : decode code 212 = .ok (.iaload, 1) := by decide +kernel
theorem dLaw_213 : decode code 213 = .ok (.aload_n 0, 1) := by decide +kernel
theorem dLaw_214 : decode code 214 = .ok (.iload 4, 2) := by decide +kernel
theorem dLaw_216 : decode code 216 = .ok (.iconst 3, 1) := by decide +kernel
theorem dLaw_217 : decode code 217 = .ok (.iadd, 1) := by decide +kernel
theorem dLaw_218 : decode code 218 = .ok (.iaload, 1) := by decide +kernel
theorem dLaw_219 : decode code 219 = .ok (.aload_n 0, 1) := by decide +kernel
theorem dLaw_220 : decode code 220 = .ok (.iload 4, 2) := by decide +kernel
theorem dLaw_222 : decode code 222 = .ok (.iconst 4, 1) := by decide +kernel
theorem dLaw_223 : decode code 223 = .ok (.iadd, 1) := by decide +kernel
theorem dLaw_224 : decode code 224 = .ok (.iaload, 1) := by decide +kernel
theorem dLaw_225 : decode code 225 = .ok (.aload_n 3, 1) := by decide +kernel
theorem dLaw_226 : decode code 226 = .ok (.invokestatic 67, 3) := by decide +kernel
theorem dLaw_229 : decode code 229 = .ok (.istore 5, 2) := by decide +kernel
theorem dLaw_231 : decode code 231 = .ok (.aload_n 2, 1) := by decide +kernel
theorem dLaw_232 : decode code 232 = .ok (.aload_n 0, 1) := by decide +kernel
theorem dLaw_233 : decode code 233 = .ok (.iload 4, 2) := by decide +kernel
theorem dLaw_235 : decode code 235 = .ok (.iconst 1, 1) := by decide +kernel
theorem dLaw_236 : decode code 236 = .ok (.iadd, 1) := by decide +kernel
theorem dLaw_237 : decode code 237 = .ok (.iaload, 1) := by decide +kernel
theorem dLaw_238 : decode code 238 = .ok (.aload_n 0, 1) := by decide +kernel
theorem dLaw_239 : decode code 239 = .ok (.iload 4, 2) := by decide +kernel
theorem dLaw_241 : decode code 241 = .ok (.iconst 2, 1) := by decide +kernel
theorem dLaw_242 : decode code 242 = .ok (.iadd, 1) := by decide +kernel
theorem dLaw_243 : decode code 243 = .ok (.iaload, 1) := by decide +kernel
theorem dLaw_244 : decode code 244 = .ok (.aload_n 0, 1) := by decide +kernel
theorem dLaw_245 : decode code 245 = .ok (.iload 4, 2) := by decide +kernel
theorem dLaw_247 : decode code 247 = .ok (.iconst 3, 1) := by decide +kernel
theorem dLaw_248 : decode code 248 = .ok (.iadd, 1) := by decide +kernel
theorem dLaw_249 : decode code 249 = .ok (.iaload, 1) := by decide +kernel
theorem dLaw_250 : decode code 250 = .ok (.aload_n 0, 1) := by decide +kernel
theorem dLaw_251 : decode code 251 = .ok (.iload 4, 2) := by decide +kernel
theorem dLaw_253 : decode code 253 = .ok (.iconst 4, 1) := by decide +kernel
theorem dLaw_254 : decode code 254 = .ok (.iadd, 1) := by decide +kernel
theorem dLaw_255 : decode code 255 = .ok (.iaload, 1) := by decide +kernel
theorem dLaw_256 : decode code 256 = .ok (.invokevirtual 70, 3) := by decide +kernel
theorem dLaw_259 : decode code 259 = .ok (.istore 6, 2) := by decide +kernel
theorem dLaw_261 : decode code 261 = .ok (.aload_n 2, 1) := by decide +kernel
theorem dLaw_262 : decode code 262 = .ok (.invokevirtual 63, 3) := by decide +kernel
theorem dLaw_265 : decode code 265 = .ok (.iload 5, 2) := by decide +kernel
theorem dLaw_267 : decode code 267 = .ok (.if_icmp .eq 5, 3) := by decide +kernel
theorem dLaw_270 : decode code 270 = .ok (.iconst 0, 1) := by decide +kernel
theorem dLaw_271 : decode code 271 = .ok (.ireturn, 1) := by decide +kernel
theorem dLaw_272 : decode code 272 = .ok (.iload 5, 2) := by decide +kernel
theorem dLaw_274 : decode code 274 = .ok (.ifCond .ne 15, 3) := by decide +kernel
theorem dLaw_277 : decode code 277 = .ok (.aload_n 3, 1) := by decide +kernel
theorem dLaw_278 : decode code 278 = .ok (.iconst 0, 1) := by decide +kernel
theorem dLaw_279 : decode code 279 = .ok (.laload, 1) := by decide +kernel
theorem dLaw_280 : decode code 280 = .ok (.iload 6, 2) := by decide +kernel
theorem dLaw_282 : decode code 282 = .ok (.i2l, 1) := by decide +kernel
theorem dLaw_283 : decode code 283 = .ok (.lcmp, 1) := by decide +kernel
theorem dLaw_284 : decode code 284 = .ok (.ifCond .eq 5, 3) := by decide +kernel
theorem dLaw_287 : decode code 287 = .ok (.iconst 0, 1) := by decide +kernel
theorem dLaw_288 : decode code 288 = .ok (.ireturn, 1) := by decide +kernel
theorem dLaw_289 : decode code 289 = .ok (.goto 611, 3) := by decide +kernel
theorem dLaw_292 : decode code 292 = .ok (.aload_n 1, 1) := by decide +kernel
theorem dLaw_293 : decode code 293 = .ok (.aload_n 0, 1) := by decide +kernel
theorem dLaw_294 : decode code 294 = .ok (.iload 4, 2) := by decide +kernel
theorem dLaw_296 : decode code 296 = .ok (.iconst 1, 1) := by decide +kernel
theorem dLaw_297 : decode code 297 = .ok (.iadd, 1) := by decide +kernel
theorem dLaw_298 : decode code 298 = .ok (.iaload, 1) := by decide +kernel
theorem dLaw_299 : decode code 299 = .ok (.aload_n 3, 1) := by decide +kernel
theorem dLaw_300 : decode code 300 = .ok (.invokestatic 71, 3) := by decide +kernel
theorem dLaw_303 : decode code 303 = .ok (.istore 5, 2) := by decide +kernel
theorem dLaw_305 : decode code 305 = .ok (.aload_n 2, 1) := by decide +kernel
theorem dLaw_306 : decode code 306 = .ok (.aload_n 0, 1) := by decide +kernel
theorem dLaw_307 : decode code 307 = .ok (.iload 4, 2) := by decide +kernel
theorem dLaw_309 : decode code 309 = .ok (.iconst 1, 1) := by decide +kernel
theorem dLaw_310 : decode code 310 = .ok (.iadd, 1) := by decide +kernel
theorem dLaw_311 : decode code 311 = .ok (.iaload, 1) := by decide +kernel
theorem dLaw_312 : decode code 312 = .ok (.invokevirtual 74, 3) := by decide +kernel
theorem dLaw_315 : decode code 315 = .ok (.istore 6, 2) := by decide +kernel
theorem dLaw_317 : decode code 317 = .ok (.aload_n 2, 1) := by decide +kernel
theorem dLaw_318 : decode code 318 = .ok (.invokevirtual 63, 3) := by decide +kernel
theorem dLaw_321 : decode code 321 = .ok (.iload 5, 2) := by decide +kernel
theorem dLaw_323 : decode code 323 = .ok (.if_icmp .eq 5, 3) := by decide +kernel
theorem dLaw_326 : decode code 326 = .ok (.iconst 0, 1) := by decide +kernel
theorem dLaw_327 : decode code 327 = .ok (.ireturn, 1) := by decide +kernel
theorem dLaw_328 : decode code 328 = .ok (.iload 5, 2) := by decide +kernel
theorem dLaw_330 : decode code 330 = .ok (.ifCond .ne 22, 3) := by decide +kernel
theorem dLaw_333 : decode code 333 = .ok (.aload_n 3, 1) := by decide +kernel
theorem dLaw_334 : decode code 334 = .ok (.iconst 0, 1) := by decide +kernel
theorem dLaw_335 : decode code 335 = .ok (.laload, 1) := by decide +kernel
theorem dLaw_336 : decode code 336 = .ok (.iload 6, 2) := by decide +kernel
theorem dLaw_338 : decode code 338 = .ok (.ifCond .eq 7, 3) := by decide +kernel
theorem dLaw_341 : decode code 341 = .ok (.lconst 1, 1) := by decide +kernel
theorem dLaw_342 : decode code 342 = .ok (.goto 4, 3) := by decide +kernel
theorem dLaw_345 : decode code 345 = .ok (.lconst 0, 1) := by decide +kernel
theorem dLaw_346 : decode code 346 = .ok (.lcmp, 1) := by decide +kernel
theorem dLaw_347 : decode code 347 = .ok (.ifCond .eq 5, 3) := by decide +kernel
theorem dLaw_350 : decode code 350 = .ok (.iconst 0, 1) := by decide +kernel
theorem dLaw_351 : decode code 351 = .ok (.ireturn, 1) := by decide +kernel
theorem dLaw_352 : decode code 352 = .ok (.goto 548, 3) := by decide +kernel
theorem dLaw_355 : decode code 355 = .ok (.aload_n 1, 1) := by decide +kernel
theorem dLaw_356 : decode code 356 = .ok (.aload_n 0, 1) := by decide +kernel
theorem dLaw_357 : decode code 357 = .ok (.iload 4, 2) := by decide +kernel
theorem dLaw_359 : decode code 359 = .ok (.iconst 1, 1) := by decide +kernel
theorem dLaw_360 : decode code 360 = .ok (.iadd, 1) := by decide +kernel
theorem dLaw_361 : decode code 361 = .ok (.iaload, 1) := by decide +kernel
theorem dLaw_362 : decode code 362 = .ok (.aload_n 0, 1) := by decide +kernel
theorem dLaw_363 : decode code 363 = .ok (.iload 4, 2) := by decide +kernel
theorem dLaw_365 : decode code 365 = .ok (.iconst 2, 1) := by decide +kernel
theorem dLaw_366 : decode code 366 = .ok (.iadd, 1) := by decide +kernel
theorem dLaw_367 : decode code 367 = .ok (.iaload, 1) := by decide +kernel
theorem dLaw_368 : decode code 368 = .ok (.aload_n 0, 1) := by decide +kernel
theorem dLaw_369 : decode code 369 = .ok (.iload 4, 2) := by decide +kernel
theorem dLaw_371 : decode code 371 = .ok (.iconst 3, 1) := by decide +kernel
theorem dLaw_372 : decode code 372 = .ok (.iadd, 1) := by decide +kernel
theorem dLaw_373 : decode code 373 = .ok (.iaload, 1) := by decide +kernel
theorem dLaw_374 : decode code 374 = .ok (.aload_n 0, 1) := by decide +kernel
theorem dLaw_375 : decode code 375 = .ok (.iload 4, 2) := by decide +kernel
theorem dLaw_377 : decode code 377 = .ok (.iconst 4, 1) := by decide +kernel
theorem dLaw_378 : decode code 378 = .ok (.iadd, 1) := by decide +kernel
theorem dLaw_379 : decode code 379 = .ok (.iaload, 1) := by decide +kernel
theorem dLaw_380 : decode code 380 = .ok (.aload_n 3, 1) := by decide +kernel
theorem dLaw_381 : decode code 381 = .ok (.invokestatic 75, 3) := by decide +kernel
theorem dLaw_384 : decode code 384 = .ok (.istore 5, 2) := by decide +kernel
theorem dLaw_386 : decode code 386 = .ok (.aload_n 2, 1) := by decide +kernel
theorem dLaw_387 : decode code 387 = .ok (.aload_n 0, 1) := by decide +kernel
theorem dLaw_388 : decode code 388 = .ok (.iload 4, 2) := by decide +kernel
theorem dLaw_390 : decode code 390 = .ok (.iconst 1, 1) := by decide +kernel
theorem dLaw_391 : decode code 391 = .ok (.iadd, 1) := by decide +kernel
theorem dLaw_392 : decode code 392 = .ok (.iaload, 1) := by decide +kernel
theorem dLaw_393 : decode code 393 = .ok (.aload_n 0, 1) := by decide +kernel
theorem dLaw_394 : decode code 394 = .ok (.iload 4, 2) := by decide +kernel
theorem dLaw_396 : decode code 396 = .ok (.iconst 2, 1) := by decide +kernel
theorem dLaw_397 : decode code 397 = .ok (.iadd, 1) := by decide +kernel
theorem dLaw_398 : decode code 398 = .ok (.iaload, 1) := by decide +kernel
theorem dLaw_399 : decode code 399 = .ok (.aload_n 0, 1) := by decide +kernel
theorem dLaw_400 : decode code 400 = .ok (.iload 4, 2) := by decide +kernel
theorem dLaw_402 : decode code 402 = .ok (.iconst 3, 1) := by decide +kernel
theorem dLaw_403 : decode code 403 = .ok (.iadd, 1) := by decide +kernel
theorem dLaw_404 : decode code 404 = .ok (.iaload, 1) := by decide +kernel
theorem dLaw_405 : decode code 405 = .ok (.aload_n 0, 1) := by decide +kernel
theorem dLaw_406 : decode code 406 = .ok (.iload 4, 2) := by decide +kernel
theorem dLaw_408 : decode code 408 = .ok (.iconst 4, 1) := by decide +kernel
theorem dLaw_409 : decode code 409 = .ok (.iadd, 1) := by decide +kernel
theorem dLaw_410 : decode code 410 = .ok (.iaload, 1) := by decide +kernel
theorem dLaw_411 : decode code 411 = .ok (.invokevirtual 77, 3) := by decide +kernel
theorem dLaw_414 : decode code 414 = .ok (.istore 6, 2) := by decide +kernel
theorem dLaw_416 : decode code 416 = .ok (.aload_n 2, 1) := by decide +kernel
theorem dLaw_417 : decode code 417 = .ok (.invokevirtual 63, 3) := by decide +kernel
theorem dLaw_420 : decode code 420 = .ok (.iload 5, 2) := by decide +kernel
theorem dLaw_422 : decode code 422 = .ok (.if_icmp .eq 5, 3) := by decide +kernel
theorem dLaw_425 : decode code 425 = .ok (.iconst 0, 1) := by decide +kernel
theorem dLaw_426 : decode code 426 = .ok (.ireturn, 1) := by decide +kernel
theorem dLaw_427 : decode code 427 = .ok (.iload 5, 2) := by decide +kernel
theorem dLaw_429 : decode code 429 = .ok (.ifCond .ne 22, 3) := by decide +kernel
theorem dLaw_432 : decode code 432 = .ok (.aload_n 3, 1) := by decide +kernel
theorem dLaw_433 : decode code 433 = .ok (.iconst 0, 1) := by decide +kernel
theorem dLaw_434 : decode code 434 = .ok (.laload, 1) := by decide +kernel
theorem dLaw_435 : decode code 435 = .ok (.iload 6, 2) := by decide +kernel
theorem dLaw_437 : decode code 437 = .ok (.ifCond .eq 7, 3) := by decide +kernel
theorem dLaw_440 : decode code 440 = .ok (.lconst 1, 1) := by decide +kernel
theorem dLaw_441 : decode code 441 = .ok (.goto 4, 3) := by decide +kernel
theorem dLaw_444 : decode code 444 = .ok (.lconst 0, 1) := by decide +kernel
theorem dLaw_445 : decode code 445 = .ok (.lcmp, 1) := by decide +kernel
theorem dLaw_446 : decode code 446 = .ok (.ifCond .eq 5, 3) := by decide +kernel
theorem dLaw_449 : decode code 449 = .ok (.iconst 0, 1) := by decide +kernel
theorem dLaw_450 : decode code 450 = .ok (.ireturn, 1) := by decide +kernel
theorem dLaw_451 : decode code 451 = .ok (.goto 449, 3) := by decide +kernel
theorem dLaw_454 : decode code 454 = .ok (.aload_n 1, 1) := by decide +kernel
theorem dLaw_455 : decode code 455 = .ok (.aload_n 0, 1) := by decide +kernel
theorem dLaw_456 : decode code 456 = .ok (.iload 4, 2) := by decide +kernel
theorem dLaw_458 : decode code 458 = .ok (.iconst 1, 1) := by decide +kernel
theorem dLaw_459 : decode code 459 = .ok (.iadd, 1) := by decide +kernel
theorem dLaw_460 : decode code 460 = .ok (.iaload, 1) := by decide +kernel
theorem dLaw_461 : decode code 461 = .ok (.aload_n 3, 1) := by decide +kernel
theorem dLaw_462 : decode code 462 = .ok (.invokestatic 78, 3) := by decide +kernel
theorem dLaw_465 : decode code 465 = .ok (.istore 5, 2) := by decide +kernel
theorem dLaw_467 : decode code 467 = .ok (.aload_n 2, 1) := by decide +kernel
theorem dLaw_468 : decode code 468 = .ok (.aload_n 0, 1) := by decide +kernel
theorem dLaw_469 : decode code 469 = .ok (.iload 4, 2) := by decide +kernel
theorem dLaw_471 : decode code 471 = .ok (.iconst 1, 1) := by decide +kernel
theorem dLaw_472 : decode code 472 = .ok (.iadd, 1) := by decide +kernel
theorem dLaw_473 : decode code 473 = .ok (.iaload, 1) := by decide +kernel
theorem dLaw_474 : decode code 474 = .ok (.invokevirtual 80, 3) := by decide +kernel
theorem dLaw_477 : decode code 477 = .ok (.istore 6, 2) := by decide +kernel
theorem dLaw_479 : decode code 479 = .ok (.aload_n 2, 1) := by decide +kernel
theorem dLaw_480 : decode code 480 = .ok (.invokevirtual 63, 3) := by decide +kernel
theorem dLaw_483 : decode code 483 = .ok (.iload 5, 2) := by decide +kernel
theorem dLaw_485 : decode code 485 = .ok (.if_icmp .eq 5, 3) := by decide +kernel
theorem dLaw_488 : decode code 488 = .ok (.iconst 0, 1) := by decide +kernel
theorem dLaw_489 : decode code 489 = .ok (.ireturn, 1) := by decide +kernel
theorem dLaw_490 : decode code 490 = .ok (.iload 5, 2) := by decide +kernel
theorem dLaw_492 : decode code 492 = .ok (.ifCond .ne 15, 3) := by decide +kernel
theorem dLaw_495 : decode code 495 = .ok (.aload_n 3, 1) := by decide +kernel
theorem dLaw_496 : decode code 496 = .ok (.iconst 0, 1) := by decide +kernel
theorem dLaw_497 : decode code 497 = .ok (.laload, 1) := by decide +kernel
theorem dLaw_498 : decode code 498 = .ok (.iload 6, 2) := by decide +kernel
theorem dLaw_500 : decode code 500 = .ok (.i2l, 1) := by decide +kernel
theorem dLaw_501 : decode code 501 = .ok (.lcmp, 1) := by decide +kernel
theorem dLaw_502 : decode code 502 = .ok (.ifCond .eq 5, 3) := by decide +kernel
theorem dLaw_505 : decode code 505 = .ok (.iconst 0, 1) := by decide +kernel
theorem dLaw_506 : decode code 506 = .ok (.ireturn, 1) := by decide +kernel
theorem dLaw_507 : decode code 507 = .ok (.goto 393, 3) := by decide +kernel
theorem dLaw_510 : decode code 510 = .ok (.aload_n 1, 1) := by decide +kernel
theorem dLaw_511 : decode code 511 = .ok (.aload_n 0, 1) := by decide +kernel
theorem dLaw_512 : decode code 512 = .ok (.iload 4, 2) := by decide +kernel
theorem dLaw_514 : decode code 514 = .ok (.iconst 1, 1) := by decide +kernel
theorem dLaw_515 : decode code 515 = .ok (.iadd, 1) := by decide +kernel
theorem dLaw_516 : decode code 516 = .ok (.iaload, 1) := by decide +kernel
theorem dLaw_517 : decode code 517 = .ok (.aload_n 0, 1) := by decide +kernel
theorem dLaw_518 : decode code 518 = .ok (.iload 4, 2) := by decide +kernel
theorem dLaw_520 : decode code 520 = .ok (.iconst 2, 1) := by decide +kernel
theorem dLaw_521 : decode code 521 = .ok (.iadd, 1) := by decide +kernel
theorem dLaw_522 : decode code 522 = .ok (.iaload, 1) := by decide +kernel
theorem dLaw_523 : decode code 523 = .ok (.aload_n 3, 1) := by decide +kernel
theorem dLaw_524 : decode code 524 = .ok (.invokestatic 81, 3) := by decide +kernel
theorem dLaw_527 : decode code 527 = .ok (.istore 5, 2) := by decide +kernel
theorem dLaw_529 : decode code 529 = .ok (.aload_n 2, 1) := by decide +kernel
theorem dLaw_530 : decode code 530 = .ok (.aload_n 0, 1) := by decide +kernel
theorem dLaw_531 : decode code 531 = .ok (.iload 4, 2) := by decide +kernel
theorem dLaw_533 : decode code 533 = .ok (.iconst 1, 1) := by decide +kernel
theorem dLaw_534 : decode code 534 = .ok (.iadd, 1) := by decide +kernel
theorem dLaw_535 : decode code 535 = .ok (.iaload, 1) := by decide +kernel
theorem dLaw_536 : decode code 536 = .ok (.aload_n 0, 1) := by decide +kernel
theorem dLaw_537 : decode code 537 = .ok (.iload 4, 2) := by decide +kernel
theorem dLaw_539 : decode code 539 = .ok (.iconst 2, 1) := by decide +kernel
theorem dLaw_540 : decode code 540 = .ok (.iadd, 1) := by decide +kernel
theorem dLaw_541 : decode code 541 = .ok (.iaload, 1) := by decide +kernel
theorem dLaw_542 : decode code 542 = .ok (.invokevirtual 84, 3) := by decide +kernel
theorem dLaw_545 : decode code 545 = .ok (.istore 6, 2) := by decide +kernel
theorem dLaw_547 : decode code 547 = .ok (.aload_n 2, 1) := by decide +kernel
theorem dLaw_548 : decode code 548 = .ok (.invokevirtual 63, 3) := by decide +kernel
theorem dLaw_551 : decode code 551 = .ok (.iload 5, 2) := by decide +kernel
theorem dLaw_553 : decode code 553 = .ok (.if_icmp .eq 5, 3) := by decide +kernel
theorem dLaw_556 : decode code 556 = .ok (.iconst 0, 1) := by decide +kernel
theorem dLaw_557 : decode code 557 = .ok (.ireturn, 1) := by decide +kernel
theorem dLaw_558 : decode code 558 = .ok (.iload 5, 2) := by decide +kernel
theorem dLaw_560 : decode code 560 = .ok (.ifCond .ne 15, 3) := by decide +kernel
theorem dLaw_563 : decode code 563 = .ok (.aload_n 3, 1) := by decide +kernel
theorem dLaw_564 : decode code 564 = .ok (.iconst 0, 1) := by decide +kernel
theorem dLaw_565 : decode code 565 = .ok (.laload, 1) := by decide +kernel
theorem dLaw_566 : decode code 566 = .ok (.iload 6, 2) := by decide +kernel
theorem dLaw_568 : decode code 568 = .ok (.i2l, 1) := by decide +kernel
theorem dLaw_569 : decode code 569 = .ok (.lcmp, 1) := by decide +kernel
theorem dLaw_570 : decode code 570 = .ok (.ifCond .eq 5, 3) := by decide +kernel
theorem dLaw_573 : decode code 573 = .ok (.iconst 0, 1) := by decide +kernel
theorem dLaw_574 : decode code 574 = .ok (.ireturn, 1) := by decide +kernel
theorem dLaw_575 : decode code 575 = .ok (.goto 325, 3) := by decide +kernel
theorem dLaw_578 : decode code 578 = .ok (.aload_n 1, 1) := by decide +kernel
theorem dLaw_579 : decode code 579 = .ok (.aload_n 0, 1) := by decide +kernel
theorem dLaw_580 : decode code 580 = .ok (.iload 4, 2) := by decide +kernel
theorem dLaw_582 : decode code 582 = .ok (.iconst 1, 1) := by decide +kernel
theorem dLaw_583 : decode code 583 = .ok (.iadd, 1) := by decide +kernel
theorem dLaw_584 : decode code 584 = .ok (.iaload, 1) := by decide +kernel
theorem dLaw_585 : decode code 585 = .ok (.aload_n 0, 1) := by decide +kernel
theorem dLaw_586 : decode code 586 = .ok (.iload 4, 2) := by decide +kernel
theorem dLaw_588 : decode code 588 = .ok (.iconst 2, 1) := by decide +kernel
theorem dLaw_589 : decode code 589 = .ok (.iadd, 1) := by decide +kernel
theorem dLaw_590 : decode code 590 = .ok (.iaload, 1) := by decide +kernel
theorem dLaw_591 : decode code 591 = .ok (.invokevirtual 85, 3) := by decide +kernel
theorem dLaw_594 : decode code 594 = .ok (.aload_n 2, 1) := by decide +kernel
theorem dLaw_595 : decode code 595 = .ok (.aload_n 0, 1) := by decide +kernel
theorem dLaw_596 : decode code 596 = .ok (.iload 4, 2) := by decide +kernel
theorem dLaw_598 : decode code 598 = .ok (.iconst 1, 1) := by decide +kernel
theorem dLaw_599 : decode code 599 = .ok (.iadd, 1) := by decide +kernel
theorem dLaw_600 : decode code 600 = .ok (.iaload, 1) := by decide +kernel
theorem dLaw_601 : decode code 601 = .ok (.aload_n 0, 1) := by decide +kernel
theorem dLaw_602 : decode code 602 = .ok (.iload 4, 2) := by decide +kernel
theorem dLaw_604 : decode code 604 = .ok (.iconst 2, 1) := by decide +kernel
theorem dLaw_605 : decode code 605 = .ok (.iadd, 1) := by decide +kernel
theorem dLaw_606 : decode code 606 = .ok (.iaload, 1) := by decide +kernel
theorem dLaw_607 : decode code 607 = .ok (.invokevirtual 88, 3) := by decide +kernel
theorem dLaw_610 : decode code 610 = .ok (.if_icmp .eq 290, 3) := by decide +kernel
theorem dLaw_613 : decode code 613 = .ok (.iconst 0, 1) := by decide +kernel
theorem dLaw_614 : decode code 614 = .ok (.ireturn, 1) := by decide +kernel
theorem dLaw_615 : decode code 615 = .ok (.aload_n 1, 1) := by decide +kernel
theorem dLaw_616 : decode code 616 = .ok (.aload_n 0, 1) := by decide +kernel
theorem dLaw_617 : decode code 617 = .ok (.iload 4, 2) := by decide +kernel
theorem dLaw_619 : decode code 619 = .ok (.iconst 1, 1) := by decide +kernel
theorem dLaw_620 : decode code 620 = .ok (.iadd, 1) := by decide +kernel
theorem dLaw_621 : decode code 621 = .ok (.iaload, 1) := by decide +kernel
theorem dLaw_622 : decode code 622 = .ok (.aload_n 0, 1) := by decide +kernel
theorem dLaw_623 : decode code 623 = .ok (.iload 4, 2) := by decide +kernel
theorem dLaw_625 : decode code 625 = .ok (.iconst 2, 1) := by decide +kernel
theorem dLaw_626 : decode code 626 = .ok (.iadd, 1) := by decide +kernel
theorem dLaw_627 : decode code 627 = .ok (.iaload, 1) := by decide +kernel
theorem dLaw_628 : decode code 628 = .ok (.aload_n 3, 1) := by decide +kernel
theorem dLaw_629 : decode code 629 = .ok (.invokestatic 89, 3) := by decide +kernel
theorem dLaw_632 : decode code 632 = .ok (.istore 5, 2) := by decide +kernel
theorem dLaw_634 : decode code 634 = .ok (.aload_n 2, 1) := by decide +kernel
theorem dLaw_635 : decode code 635 = .ok (.aload_n 0, 1) := by decide +kernel
theorem dLaw_636 : decode code 636 = .ok (.iload 4, 2) := by decide +kernel
theorem dLaw_638 : decode code 638 = .ok (.iconst 1, 1) := by decide +kernel
theorem dLaw_639 : decode code 639 = .ok (.iadd, 1) := by decide +kernel
theorem dLaw_640 : decode code 640 = .ok (.iaload, 1) := by decide +kernel
theorem dLaw_641 : decode code 641 = .ok (.aload_n 0, 1) := by decide +kernel
theorem dLaw_642 : decode code 642 = .ok (.iload 4, 2) := by decide +kernel
theorem dLaw_644 : decode code 644 = .ok (.iconst 2, 1) := by decide +kernel
theorem dLaw_645 : decode code 645 = .ok (.iadd, 1) := by decide +kernel
theorem dLaw_646 : decode code 646 = .ok (.iaload, 1) := by decide +kernel
theorem dLaw_647 : decode code 647 = .ok (.invokevirtual 91, 3) := by decide +kernel
theorem dLaw_650 : decode code 650 = .ok (.istore 6, 2) := by decide +kernel
theorem dLaw_652 : decode code 652 = .ok (.aload_n 2, 1) := by decide +kernel
theorem dLaw_653 : decode code 653 = .ok (.invokevirtual 63, 3) := by decide +kernel
theorem dLaw_656 : decode code 656 = .ok (.iload 5, 2) := by decide +kernel
theorem dLaw_658 : decode code 658 = .ok (.if_icmp .eq 5, 3) := by decide +kernel
theorem dLaw_661 : decode code 661 = .ok (.iconst 0, 1) := by decide +kernel
theorem dLaw_662 : decode code 662 = .ok (.ireturn, 1) := by decide +kernel
theorem dLaw_663 : decode code 663 = .ok (.iload 5, 2) := by decide +kernel
theorem dLaw_665 : decode code 665 = .ok (.ifCond .ne 15, 3) := by decide +kernel
theorem dLaw_668 : decode code 668 = .ok (.aload_n 3, 1) := by decide +kernel
theorem dLaw_669 : decode code 669 = .ok (.iconst 0, 1) := by decide +kernel
theorem dLaw_670 : decode code 670 = .ok (.laload, 1) := by decide +kernel
theorem dLaw_671 : decode code 671 = .ok (.iload 6, 2) := by decide +kernel
theorem dLaw_673 : decode code 673 = .ok (.i2l, 1) := by decide +kernel
theorem dLaw_674 : decode code 674 = .ok (.lcmp, 1) := by decide +kernel
theorem dLaw_675 : decode code 675 = .ok (.ifCond .eq 5, 3) := by decide +kernel
theorem dLaw_678 : decode code 678 = .ok (.iconst 0, 1) := by decide +kernel
theorem dLaw_679 : decode code 679 = .ok (.ireturn, 1) := by decide +kernel
theorem dLaw_680 : decode code 680 = .ok (.goto 220, 3) := by decide +kernel
theorem dLaw_683 : decode code 683 = .ok (.aload_n 1, 1) := by decide +kernel
theorem dLaw_684 : decode code 684 = .ok (.aload_n 0, 1) := by decide +kernel
theorem dLaw_685 : decode code 685 = .ok (.iload 4, 2) := by decide +kernel
theorem dLaw_687 : decode code 687 = .ok (.iconst 1, 1) := by decide +kernel
theorem dLaw_688 : decode code 688 = .ok (.iadd, 1) := by decide +kernel
theorem dLaw_689 : decode code 689 = .ok (.iaload, 1) := by decide +kernel
theorem dLaw_690 : decode code 690 = .ok (.aload_n 3, 1) := by decide +kernel
theorem dLaw_691 : decode code 691 = .ok (.invokestatic 92, 3) := by decide +kernel
theorem dLaw_694 : decode code 694 = .ok (.istore 5, 2) := by decide +kernel
theorem dLaw_696 : decode code 696 = .ok (.aload_n 2, 1) := by decide +kernel
theorem dLaw_697 : decode code 697 = .ok (.aload_n 0, 1) := by decide +kernel
theorem dLaw_698 : decode code 698 = .ok (.iload 4, 2) := by decide +kernel
theorem dLaw_700 : decode code 700 = .ok (.iconst 1, 1) := by decide +kernel
theorem dLaw_701 : decode code 701 = .ok (.iadd, 1) := by decide +kernel
theorem dLaw_702 : decode code 702 = .ok (.iaload, 1) := by decide +kernel
theorem dLaw_703 : decode code 703 = .ok (.invokevirtual 94, 3) := by decide +kernel
theorem dLaw_706 : decode code 706 = .ok (.istore 6, 2) := by decide +kernel
theorem dLaw_708 : decode code 708 = .ok (.aload_n 2, 1) := by decide +kernel
theorem dLaw_709 : decode code 709 = .ok (.invokevirtual 63, 3) := by decide +kernel
theorem dLaw_712 : decode code 712 = .ok (.iload 5, 2) := by decide +kernel
theorem dLaw_714 : decode code 714 = .ok (.if_icmp .eq 5, 3) := by decide +kernel
theorem dLaw_717 : decode code 717 = .ok (.iconst 0, 1) := by decide +kernel
theorem dLaw_718 : decode code 718 = .ok (.ireturn, 1) := by decide +kernel
theorem dLaw_719 : decode code 719 = .ok (.iload 5, 2) := by decide +kernel
theorem dLaw_721 : decode code 721 = .ok (.ifCond .ne 15, 3) := by decide +kernel
theorem dLaw_724 : decode code 724 = .ok (.aload_n 3, 1) := by decide +kernel
theorem dLaw_725 : decode code 725 = .ok (.iconst 0, 1) := by decide +kernel
theorem dLaw_726 : decode code 726 = .ok (.laload, 1) := by decide +kernel
theorem dLaw_727 : decode code 727 = .ok (.iload 6, 2) := by decide +kernel
theorem dLaw_729 : decode code 729 = .ok (.i2l, 1) := by decide +kernel
theorem dLaw_730 : decode code 730 = .ok (.lcmp, 1) := by decide +kernel
theorem dLaw_731 : decode code 731 = .ok (.ifCond .eq 5, 3) := by decide +kernel
theorem dLaw_734 : decode code 734 = .ok (.iconst 0, 1) := by decide +kernel
theorem dLaw_735 : decode code 735 = .ok (.ireturn, 1) := by decide +kernel
theorem dLaw_736 : decode code 736 = .ok (.goto 164, 3) := by decide +kernel
theorem dLaw_739 : decode code 739 = .ok (.aload_n 1, 1) := by decide +kernel
theorem dLaw_740 : decode code 740 = .ok (.aload_n 0, 1) := by decide +kernel
theorem dLaw_741 : decode code 741 = .ok (.iload 4, 2) := by decide +kernel
theorem dLaw_743 : decode code 743 = .ok (.iconst 1, 1) := by decide +kernel
theorem dLaw_744 : decode code 744 = .ok (.iadd, 1) := by decide +kernel
theorem dLaw_745 : decode code 745 = .ok (.iaload, 1) := by decide +kernel
theorem dLaw_746 : decode code 746 = .ok (.aload_n 0, 1) := by decide +kernel
theorem dLaw_747 : decode code 747 = .ok (.iload 4, 2) := by decide +kernel
theorem dLaw_749 : decode code 749 = .ok (.iconst 2, 1) := by decide +kernel
theorem dLaw_750 : decode code 750 = .ok (.iadd, 1) := by decide +kernel
theorem dLaw_751 : decode code 751 = .ok (.iaload, 1) := by decide +kernel
theorem dLaw_752 : decode code 752 = .ok (.aload_n 3, 1) := by decide +kernel
theorem dLaw_753 : decode code 753 = .ok (.invokestatic 95, 3) := by decide +kernel
theorem dLaw_756 : decode code 756 = .ok (.istore 5, 2) := by decide +kernel
theorem dLaw_758 : decode code 758 = .ok (.aload_n 2, 1) := by decide +kernel
theorem dLaw_759 : decode code 759 = .ok (.aload_n 0, 1) := by decide +kernel
theorem dLaw_760 : decode code 760 = .ok (.iload 4, 2) := by decide +kernel
theorem dLaw_762 : decode code 762 = .ok (.iconst 1, 1) := by decide +kernel
theorem dLaw_763 : decode code 763 = .ok (.iadd, 1) := by decide +kernel
theorem dLaw_764 : decode code 764 = .ok (.iaload, 1) := by decide +kernel
theorem dLaw_765 : decode code 765 = .ok (.aload_n 0, 1) := by decide +kernel
theorem dLaw_766 : decode code 766 = .ok (.iload 4, 2) := by decide +kernel
theorem dLaw_768 : decode code 768 = .ok (.iconst 2, 1) := by decide +kernel
theorem dLaw_769 : decode code 769 = .ok (.iadd, 1) := by decide +kernel
theorem dLaw_770 : decode code 770 = .ok (.iaload, 1) := by decide +kernel
theorem dLaw_771 : decode code 771 = .ok (.invokevirtual 97, 3) := by decide +kernel
theorem dLaw_774 : decode code 774 = .ok (.istore 6, 2) := by decide +kernel
theorem dLaw_776 : decode code 776 = .ok (.aload_n 2, 1) := by decide +kernel
theorem dLaw_777 : decode code 777 = .ok (.invokevirtual 63, 3) := by decide +kernel
theorem dLaw_780 : decode code 780 = .ok (.iload 5, 2) := by decide +kernel
theorem dLaw_782 : decode code 782 = .ok (.if_icmp .eq 5, 3) := by decide +kernel
theorem dLaw_785 : decode code 785 = .ok (.iconst 0, 1) := by decide +kernel
theorem dLaw_786 : decode code 786 = .ok (.ireturn, 1) := by decide +kernel
theorem dLaw_787 : decode code 787 = .ok (.iload 5, 2) := by decide +kernel
theorem dLaw_789 : decode code 789 = .ok (.ifCond .ne 15, 3) := by decide +kernel
theorem dLaw_792 : decode code 792 = .ok (.aload_n 3, 1) := by decide +kernel
theorem dLaw_793 : decode code 793 = .ok (.iconst 0, 1) := by decide +kernel
theorem dLaw_794 : decode code 794 = .ok (.laload, 1) := by decide +kernel
theorem dLaw_795 : decode code 795 = .ok (.iload 6, 2) := by decide +kernel
theorem dLaw_797 : decode code 797 = .ok (.i2l, 1) := by decide +kernel
theorem dLaw_798 : decode code 798 = .ok (.lcmp, 1) := by decide +kernel
theorem dLaw_799 : decode code 799 = .ok (.ifCond .eq 5, 3) := by decide +kernel
theorem dLaw_802 : decode code 802 = .ok (.iconst 0, 1) := by decide +kernel
theorem dLaw_803 : decode code 803 = .ok (.ireturn, 1) := by decide +kernel
theorem dLaw_804 : decode code 804 = .ok (.goto 96, 3) := by decide +kernel
theorem dLaw_807 : decode code 807 = .ok (.aload_n 1, 1) := by decide +kernel
theorem dLaw_808 : decode code 808 = .ok (.aload_n 0, 1) := by decide +kernel
theorem dLaw_809 : decode code 809 = .ok (.iload 4, 2) := by decide +kernel
theorem dLaw_811 : decode code 811 = .ok (.iconst 1, 1) := by decide +kernel
theorem dLaw_812 : decode code 812 = .ok (.iadd, 1) := by decide +kernel
theorem dLaw_813 : decode code 813 = .ok (.iaload, 1) := by decide +kernel
theorem dLaw_814 : decode code 814 = .ok (.aload_n 0, 1) := by decide +kernel
theorem dLaw_815 : decode code 815 = .ok (.iload 4, 2) := by decide +kernel
theorem dLaw_817 : decode code 817 = .ok (.iconst 2, 1) := by decide +kernel
theorem dLaw_818 : decode code 818 = .ok (.iadd, 1) := by decide +kernel
theorem dLaw_819 : decode code 819 = .ok (.iaload, 1) := by decide +kernel
theorem dLaw_820 : decode code 820 = .ok (.aload_n 3, 1) := by decide +kernel
theorem dLaw_821 : decode code 821 = .ok (.invokestatic 98, 3) := by decide +kernel
theorem dLaw_824 : decode code 824 = .ok (.istore 5, 2) := by decide +kernel
theorem dLaw_826 : decode code 826 = .ok (.aload_n 2, 1) := by decide +kernel
theorem dLaw_827 : decode code 827 = .ok (.aload_n 0, 1) := by decide +kernel
theorem dLaw_828 : decode code 828 = .ok (.iload 4, 2) := by decide +kernel
theorem dLaw_830 : decode code 830 = .ok (.iconst 1, 1) := by decide +kernel
theorem dLaw_831 : decode code 831 = .ok (.iadd, 1) := by decide +kernel
theorem dLaw_832 : decode code 832 = .ok (.iaload, 1) := by decide +kernel
theorem dLaw_833 : decode code 833 = .ok (.aload_n 0, 1) := by decide +kernel
theorem dLaw_834 : decode code 834 = .ok (.iload 4, 2) := by decide +kernel
theorem dLaw_836 : decode code 836 = .ok (.iconst 2, 1) := by decide +kernel
theorem dLaw_837 : decode code 837 = .ok (.iadd, 1) := by decide +kernel
theorem dLaw_838 : decode code 838 = .ok (.iaload, 1) := by decide +kernel
theorem dLaw_839 : decode code 839 = .ok (.invokevirtual 100, 3) := by decide +kernel
theorem dLaw_842 : decode code 842 = .ok (.istore 6, 2) := by decide +kernel
theorem dLaw_844 : decode code 844 = .ok (.aload_n 2, 1) := by decide +kernel
theorem dLaw_845 : decode code 845 = .ok (.invokevirtual 63, 3) := by decide +kernel
theorem dLaw_848 : decode code 848 = .ok (.iload 5, 2) := by decide +kernel
theorem dLaw_850 : decode code 850 = .ok (.if_icmp .eq 5, 3) := by decide +kernel
theorem dLaw_853 : decode code 853 = .ok (.iconst 0, 1) := by decide +kernel
theorem dLaw_854 : decode code 854 = .ok (.ireturn, 1) := by decide +kernel
theorem dLaw_855 : decode code 855 = .ok (.iload 5, 2) := by decide +kernel
theorem dLaw_857 : decode code 857 = .ok (.ifCond .ne 15, 3) := by decide +kernel
theorem dLaw_860 : decode code 860 = .ok (.aload_n 3, 1) := by decide +kernel
theorem dLaw_861 : decode code 861 = .ok (.iconst 0, 1) := by decide +kernel
theorem dLaw_862 : decode code 862 = .ok (.laload, 1) := by decide +kernel
theorem dLaw_863 : decode code 863 = .ok (.iload 6, 2) := by decide +kernel
theorem dLaw_865 : decode code 865 = .ok (.i2l, 1) := by decide +kernel
theorem dLaw_866 : decode code 866 = .ok (.lcmp, 1) := by decide +kernel
theorem dLaw_867 : decode code 867 = .ok (.ifCond .eq 5, 3) := by decide +kernel
theorem dLaw_870 : decode code 870 = .ok (.iconst 0, 1) := by decide +kernel
theorem dLaw_871 : decode code 871 = .ok (.ireturn, 1) := by decide +kernel
theorem dLaw_872 : decode code 872 = .ok (.goto 28, 3) := by decide +kernel
theorem dLaw_875 : decode code 875 = .ok (.aload_n 1, 1) := by decide +kernel
theorem dLaw_876 : decode code 876 = .ok (.aload_n 0, 1) := by decide +kernel
theorem dLaw_877 : decode code 877 = .ok (.iload 4, 2) := by decide +kernel
theorem dLaw_879 : decode code 879 = .ok (.iconst 1, 1) := by decide +kernel
theorem dLaw_880 : decode code 880 = .ok (.iadd, 1) := by decide +kernel
theorem dLaw_881 : decode code 881 = .ok (.iaload, 1) := by decide +kernel
theorem dLaw_882 : decode code 882 = .ok (.invokevirtual 101, 3) := by decide +kernel
theorem dLaw_885 : decode code 885 = .ok (.aload_n 2, 1) := by decide +kernel
theorem dLaw_886 : decode code 886 = .ok (.aload_n 0, 1) := by decide +kernel
theorem dLaw_887 : decode code 887 = .ok (.iload 4, 2) := by decide +kernel
theorem dLaw_889 : decode code 889 = .ok (.iconst 1, 1) := by decide +kernel
theorem dLaw_890 : decode code 890 = .ok (.iadd, 1) := by decide +kernel
theorem dLaw_891 : decode code 891 = .ok (.iaload, 1) := by decide +kernel
theorem dLaw_892 : decode code 892 = .ok (.invokevirtual 104, 3) := by decide +kernel
theorem dLaw_895 : decode code 895 = .ok (.if_icmp .eq 5, 3) := by decide +kernel
theorem dLaw_898 : decode code 898 = .ok (.iconst 0, 1) := by decide +kernel
theorem dLaw_899 : decode code 899 = .ok (.ireturn, 1) := by decide +kernel
theorem dLaw_900 : decode code 900 = .ok (.iinc 4 5, 3) := by decide +kernel
theorem dLaw_903 : decode code 903 = .ok (.goto (-880), 3) := by decide +kernel
theorem dLaw_906 : decode code 906 = .ok (.iconst 1, 1) := by decide +kernel
theorem dLaw_907 : decode code 907 = .ok (.ireturn, 1) := by decide +kernel
def wpk_feed (xs : Nat → Int32) (x4 : Int32) (nxt : Sg → (Nat → Int64) → Sm → Prop) (σ : Sg) (f : Nat → Int64) (ρ : Sm) : Prop := wpW_feed (fun r1 s2 f3 => wp_m_feed (fun r4 p5 => wp_m_thrown (fun r6 p7 => (((r6 = r1) → ((¬ (r1 = 0) → ((sC s2 = 0 → sC σ = 0) ∧ nxt s2 f3 p7)) ∧ ((r1 = 0) → ((((lg_cmp (f3 (0 : Int32).toNatClampNeg) r4.toInt64) = 0) → ((sC s2 = 0 → sC σ = 0) ∧ nxt s2 f3 p7)) ∧ (¬ ((lg_cmp (f3 (0 : Int32).toNatClampNeg) r4.toInt64) = 0) → False))))) ∧ (¬ (r6 = r1) → False))) p5 ) ρ ((((xs (x4 + 1).toNatClampNeg).toInt64) <<< ((32 : Int32).toInt64 &&& 63)) ||| (((xs (x4 + 2).toNatClampNeg).toInt64) &&& 4294967295)) (xs (x4 + 3).toNatClampNeg)) σ f ((((xs (x4 + 1).toNatClampNeg).toInt64) <<< ((32 : Int32).toInt64 &&& 63)) ||| (((xs (x4 + 2).toNatClampNeg).toInt64) &&& 4294967295)) (xs (x4 + 3).toNatClampNeg)
set_option maxHeartbeats 4000000 in
set_option maxRecDepth 100000 in
theorem k_feed {p : Program} {l : Launch} {e : Env} {s : State} {m : MethodId} {below : List Frame} {meth : Method} {c : Code} {D : va_G} {ca cm : Nat → ClassId} {cj : ClassId} {am : Nat → Nat → Nat} {o t0 mi b L : Nat} {xs : Nat → Int32} (hx : p.tables.exec = Jvm.exec) (hb : c.code = code) (hml : c.maxLocals = 7) (hown : s.vm.findClass RW = some m.cls) (hts : ∀ w ∈ tbG, w.before #[Value.ref b] s = true) (hX : va_X b L xs s s.heap) (hbl : b < s.heap.size) (hl0 : l.stackTraces = false) (hK : va_K D clX (tyZ ca cj cm) s) (hE : eX (aL s) s) (hN : eN s) (hL : eL t0 mi (aL s) s) (tt : Nat) (htt : tt ≤ 511) (x4 : Int32) (hi0 : vp_in (x4) L) (hi1 : vp_in (x4 + 1) L) (hi2 : vp_in (x4 + 2) L) (hi3 : vp_in (x4 + 3) L) (hi4 : vp_in (x4 + 4) L) {nxt : Sg → (Nat → Int64) → Sm → Prop} (K : ∀ (ad : Nat → Nat → Nat) (σ : Sg) (f : Nat → Int64) (ρ : Sm), (sC σ = 0 → ad 9 0 = t0) → nxt σ f ρ → ∀ (H : Heap) (locs : List Loc), va_P D clX (wZ ca ad cj o cm am σ f ρ) H → va_D (aL s) (wZ ca ad cj o cm am σ f ρ) → va_S (aL s) s.heap H locs → ∀ ls : Array Slot, lv_has ls 7 [(0, .ref b), (1, .ref (ad 0 0)), (2, .ref (am 0 0)), (3, .ref o), (4, .int x4)] → W p l e room_1 s m #[Value.ref b] below meth c H locs (51 + 4 * (tt + 1)) (13856 + 3100 * (tt + 1)) (lw_Z below #[Value.ref b] s) (F0 m 900 ls [])) (ad : Nat → Nat → Nat) (σ : Sg) (f : Nat → Int64) (ρ : Sm) (h9 : sC σ = 0 → ad 9 0 = t0) (hw : wpk_feed xs x4 nxt σ f ρ) : ∀ (H : Heap) (locs : List Loc), va_P D clX (wZ ca ad cj o cm am σ f ρ) H → va_D (aL s) (wZ ca ad cj o cm am σ f ρ) → va_S (aL s) s.heap H locs → ∀ ls : Array Slot, lv_has ls 7 [(0, .ref b), (1, .ref (ad 0 0)), (2, .ref (am 0 0)), (3, .ref o), (4, .int x4)] → W p l e room_1 s m #[Value.ref b] below meth c H locs (51 + 4 * tt) (13856 + 3100 * tt) (lw_Z below #[Value.ref b] s) (F0 m 100 ls []) := by
  intro H locs hP hD hS ls hl
  have hA : ∀ q : Nat, s.heap.size ≤ q → aL s q := fun _ h => h
  have hbA : ¬ aL s b := Nat.not_le.mpr hbl
  have hKw := hK.sub (tys' := tyW ca cj) [0, 1, 2, 3, 4] rfl
  have hKx := hK.sub (tys' := tyA ca) [0, 1, 2, 3] rfl
  have hKm := hK.sub (tys' := tyM9 cm) [5, 6] rfl
  unfold wpk_feed at hw
  refine lv_aload_n hx hb dLaw_100 rfl (lv_at hl 1 rfl) ?_
  refine lv_aload_n hx hb dLaw_101 rfl (lv_at hl 0 rfl) ?_
  refine lv_iload hx hb dLaw_102 (lv_at hl 4 rfl) ?_
  refine lv_iconst (v := 1) hx hb dLaw_104 (by decide) ?_
  refine lv_iadd hx hb dLaw_105 ?_
  refine va_sld hx hb hX hbl hbA hS hi1 dLaw_106 ?_
  refine lv_i2l hx hb dLaw_107 rfl ?_
  refine lv_bipush (v := 32) hx hb dLaw_108 (by decide) ?_
  refine lv_lshl hx hb dLaw_110 rfl ?_
  refine lv_aload_n hx hb dLaw_111 rfl (lv_at hl 0 rfl) ?_
  refine lv_iload hx hb dLaw_112 (lv_at hl 4 rfl) ?_
  refine lv_iconst (v := 2) hx hb dLaw_114 (by decide) ?_
  refine lv_iadd hx hb dLaw_115 ?_
  refine va_sld hx hb hX hbl hbA hS hi2 dLaw_116 ?_
  refine lv_i2l hx hb dLaw_117 rfl ?_
  refine lv_ldc2 (own := RW) (index := 55) (v := 4294967295) hx hb hown (hts _ tw_766) dLaw_118 ?_
  refine lv_land hx hb dLaw_121 ?_
  refine lv_lor hx hb dLaw_122 ?_
  refine lv_aload_n hx hb dLaw_123 rfl (lv_at hl 0 rfl) ?_
  refine lv_iload hx hb dLaw_124 (lv_at hl 4 rfl) ?_
  refine lv_iconst (v := 3) hx hb dLaw_126 (by decide) ?_
  refine lv_iadd hx hb dLaw_127 ?_
  refine va_sld hx hb hX hbl hbA hS hi3 dLaw_128 ?_
  refine lv_aload_n hx hb dLaw_129 rfl (lv_at hl 3 rfl) ?_
  have hPc := px_fP hP
  have hDc := px_fD hD
  have hFc := px_free hDc hS hA
  refine va_calli (vx_runSW (As := [.ref (ad 0 0), .long ((((xs (x4 + 1).toNatClampNeg).toInt64) <<< ((32 : Int32).toInt64 &&& 63)) ||| (((xs (x4 + 2).toNatClampNeg).toInt64) &&& 4294967295)), .int (xs (x4 + 3).toNatClampNeg), .ref o]) (rest := []) ⟨hx, hb, hml, hown, hts⟩ (c_W_feed l D ca ad cj o σ f ((((xs (x4 + 1).toNatClampNeg).toInt64) <<< ((32 : Int32).toInt64 &&& 63)) ||| (((xs (x4 + 2).toNatClampNeg).toInt64) &&& 4294967295)) (xs (x4 + 3).toNatClampNeg) _ _ hl0 hw) (vx_cwSW 4 hts (gS tw_205 tw_206 tw_0 tw_207) rfl rfl rfl (by decide +kernel) ⟨Nat.le_of_ble_eq_true rfl, Nat.le_of_ble_eq_true rfl⟩) ⟨pw_blind, fun U hU hW => pw_pre hPc hKw hDc hE hN hS hFc hU hW⟩ rfl rfl hl.1 rfl (lv_room (Nat.le_of_ble_eq_true rfl)) dLaw_130 ⟨by show 51 + 4 * tt + 1 ≤ 601024; omega, by show 13856 + 3100 * tt + 6 ≤ 7293034; omega⟩) hS (fun q _ h => hFc q h) hFc (fun r1 u9 t H locs ht hvm hw hB _ hk1 hS => ?_)
  obtain ⟨s2, f3⟩ := u9
  obtain ⟨hP1, -, hD1⟩ := hB
  rw [ht] at hP1
  obtain ⟨hP, hD⟩ := px_join hP hD hFc hk1 hP1 hD1
  refine W.widen (k := 51 + 4 * (tt + 1)) (n := 13856 + 3100 * (tt + 1)) (by omega) (by omega) ?_
  refine lv_istore (lv' := [(5, .int r1), (0, .ref b), (1, .ref (ad 0 0)), (2, .ref (am 0 0)), (3, .ref o), (4, .int x4)]) hx hb dLaw_133 hl (by decide) rfl (fun ls hl => ?_)
  refine lv_aload_n hx hb dLaw_135 rfl (lv_at hl 3 rfl) ?_
  refine lv_aload_n hx hb dLaw_136 rfl (lv_at hl 1 rfl) ?_
  refine lv_iload hx hb dLaw_137 (lv_at hl 5 rfl) ?_
  refine lv_iconst (v := 1) hx hb dLaw_139 (by decide) ?_
  refine lv_iadd hx hb dLaw_140 ?_
  refine va_sld hx hb hX hbl hbA hS hi1 dLaw_141 ?_
  refine lv_i2l hx hb dLaw_142 rfl ?_
  refine lv_bipush (v := 32) hx hb dLaw_143 (by decide) ?_
  refine lv_lshl hx hb dLaw_145 rfl ?_
  refine lv_aload_n hx hb dLaw_146 rfl (lv_at hl 1 rfl) ?_
  refine lv_iload hx hb dLaw_147 (lv_at hl 5 rfl) ?_
  refine lv_iconst (v := 2) hx hb dLaw_149 (by decide) ?_
  refine lv_iadd hx hb dLaw_150 ?_
  refine va_sld hx hb hX hbl hbA hS hi2 dLaw_151 ?_
  refine lv_i2l hx hb dLaw_152 rfl ?_
  refine lv_ldc2 (own := RW) (index := 55) (v := 4294967295) hx hb hown (hts _ tw_766) dLaw_153 ?_
  refine lv_land hx hb dLaw_156 ?_
  refine lv_lor hx hb dLaw_157 ?_
  refine lv_aload_n hx hb dLaw_158 rfl (lv_at hl 1 rfl) ?_
  refine lv_iload hx hb dLaw_159 (lv_at hl 5 rfl) ?_
  refine lv_iconst (v := 3) hx hb dLaw_161 (by decide) ?_
  refine lv_iadd hx hb dLaw_162 ?_
  refine va_sld hx hb hX hbl hbA hS hi3 dLaw_163 ?_
  have hPc := px_sP hP
  have hDc := px_sD hD
  have hFc := px_free hDc hS hA
  refine va_calli (va_runV (As := [.long ((((xs (x4 + 1).toNatClampNeg).toInt64) <<< ((32 : Int32).toInt64 &&& 63)) ||| (((xs (x4 + 2).toNatClampNeg).toInt64) &&& 4294967295)), .int (xs (x4 + 3).toNatClampNeg)]) (rest := []) ⟨hx, hb, hml, hown, hts⟩ (c_m_feed l D cm am ρ ((((xs (x4 + 1).toNatClampNeg).toInt64) <<< ((32 : Int32).toInt64 &&& 63)) ||| (((xs (x4 + 2).toNatClampNeg).toInt64) &&& 4294967295)) (xs (x4 + 3).toNatClampNeg) _ _ hw) (cwV 2 hts (gV tw_675 tw_676 tw_677 tw_7 tw_678) rfl rfl rfl (by decide +kernel) ⟨Nat.le_of_ble_eq_true rfl, Nat.le_of_ble_eq_true rfl⟩) ⟨pm_blind, px_recv hKm hPc gM_0 rfl, fun U hU hW => pm_pre hPc hKm hDc trivial hS hFc hU hW⟩ rfl rfl hl.1 rfl (lv_room (Nat.le_of_ble_eq_true rfl)) dLaw_164 ⟨by show 51 + 4 * (tt + 1) + 0 ≤ 601024; omega, by show 13856 + 3100 * (tt + 1) + 0 ≤ 7293034; omega⟩) hS (fun q _ h => hFc q h) hFc (fun r4 u9 t H locs ht hvm hw hB _ hk1 hS => ?_)
  obtain ⟨p5, rfl⟩ : ∃ z, z = u9 := ⟨_, rfl⟩
  obtain ⟨hP1, -, hD1⟩ := hB
  rw [ht] at hP1
  obtain ⟨hP, hD⟩ := px_joinR hP hD hFc hk1 hP1 hD1
  refine W.widen (k := 51 + 4 * (tt + 1)) (n := 13856 + 3100 * (tt + 1)) (by omega) (by omega) ?_
  refine lv_istore (lv' := [(6, .int r4), (5, .int r1), (0, .ref b), (1, .ref (ad 0 0)), (2, .ref (am 0 0)), (3, .ref o), (4, .int x4)]) hx hb dLaw_167 hl (by decide) rfl (fun ls hl => ?_)
  refine lv_aload_n hx hb dLaw_169 rfl (lv_at hl 4 rfl) ?_
  have hPc := px_sP hP
  have hDc := px_sD hD
  have hFc := px_free hDc hS hA
  refine va_calli (va_runV (As := []) (rest := []) ⟨hx, hb, hml, hown, hts⟩ (c_m_thrown l D cm am p5  _ _ hw) (cwV 0 hts (gV tw_671 tw_672 tw_673 tw_7 tw_674) rfl rfl rfl (by decide +kernel) ⟨Nat.le_of_ble_eq_true rfl, Nat.le_of_ble_eq_true rfl⟩) ⟨pm_blind, px_recv hKm hPc gM_0 rfl, fun U hU hW => pm_pre hPc hKm hDc trivial hS hFc hU hW⟩ rfl rfl hl.1 rfl (lv_room (Nat.le_of_ble_eq_true rfl)) dLaw_170 ⟨by show 51 + 4 * (tt + 1) + 0 ≤ 601024; omega, by show 13856 + 3100 * (tt + 1) + 0 ≤ 7293034; omega⟩) hS (fun q _ h => hFc q h) hFc (fun r6 u9 t H locs ht hvm hw hB _ hk1 hS => ?_)
  obtain ⟨p7, rfl⟩ : ∃ z, z = u9 := ⟨_, rfl⟩
  obtain ⟨hP1, -, hD1⟩ := hB
  rw [ht] at hP1
  obtain ⟨hP, hD⟩ := px_joinR hP hD hFc hk1 hP1 hD1
  refine W.widen (k := 51 + 4 * (tt + 1)) (n := 13856 + 3100 * (tt + 1)) (by omega) (by omega) ?_
  refine lv_iload hx hb dLaw_173 (lv_at hl 1 rfl) ?_
  refine lv_icmp_eq (tgt := 180) hx hb dLaw_175 (by decide) (fun c8 => ?_) (fun c8 => ?_)
  · have hw := hw.1 c8
    refine lv_iload hx hb dLaw_180 (lv_at hl 1 rfl) ?_
    refine lv_if_ne (tgt := 197) hx hb dLaw_182 (by decide) (fun c9 => ?_) (fun c9 => ?_)
    · have hw := hw.1 c9
      refine lv_goto (tgt := 900) hx hb dLaw_197 (by decide) ?_
      exact K ad s2 f3 p7 (fun z => h9 (hw.1 z)) hw.2 _ _ hP hD hS ls (lv_sub hl [2, 3, 4, 5, 6] rfl)
    · have hw := hw.2 c9
      refine lv_aload_n hx hb dLaw_185 rfl (lv_at hl 5 rfl) ?_
      refine lv_iconst (v := 0) hx hb dLaw_186 (by decide) ?_
      refine va_lald hx hb hK hP ((wX ca ad s2).length + 0) 4 (px_l (l1 := wW ca ad cj o s2 f3) px_e) rfl (by unfold vp_in; decide) dLaw_187 ?_
      refine lv_iload hx hb dLaw_188 (lv_at hl 0 rfl) ?_
      refine lv_i2l hx hb dLaw_190 rfl ?_
      refine W.lcmp hx hb dLaw_191 ?_
      refine lv_if_eq (tgt := 197) hx hb dLaw_192 (by decide) (fun c10 => ?_) (fun c10 => ?_)
      · have hw := hw.1 c10
        refine lv_goto (tgt := 900) hx hb dLaw_197 (by decide) ?_
        exact K ad s2 f3 p7 (fun z => h9 (hw.1 z)) hw.2 _ _ hP hD hS ls (lv_sub hl [2, 3, 4, 5, 6] rfl)
      · have hw := hw.2 c10
        refine lv_iconst (v := 0) hx hb dLaw_195 (by decide) ?_
        exact hw.elim
  · have hw := hw.2 c8
    refine lv_iconst (v := 0) hx hb dLaw_178 (by decide) ?_
    exact hw.elim
def wpk_ask (xs : Nat → Int32) (x4 : Int32) (nxt : Sg → (Nat → Int64) → Sm → Prop) (σ : Sg) (f : Nat → Int64) (ρ : Sm) : Prop := wpW_ask (fun r1 s2 f3 => ((r1 = 0 → sC s2 ≠ 0) ∧ wp_m_ask (fun r4 p5 => wp_m_thrown (fun r6 p7 => (((r6 = r1) → ((¬ (r1 = 0) → ((sC s2 = 0 → sC σ = 0) ∧ nxt s2 f3 p7)) ∧ ((r1 = 0) → ((((lg_cmp (f3 (0 : Int32).toNatClampNeg) r4.toInt64) = 0) → ((sC s2 = 0 → sC σ = 0) ∧ nxt s2 f3 p7)) ∧ (¬ ((lg_cmp (f3 (0 : Int32).toNatClampNeg) r4.toInt64) = 0) → False))))) ∧ (¬ (r6 = r1) → False))) p5 ) ρ (xs (x4 + 1).toNatClampNeg) (xs (x4 + 2).toNatClampNeg) (xs (x4 + 3).toNatClampNeg) (xs (x4 + 4).toNatClampNeg))) σ f (xs (x4 + 1).toNatClampNeg) (xs (x4 + 2).toNatClampNeg) (xs (x4 + 3).toNatClampNeg) (xs (x4 + 4).toNatClampNeg)
set_option maxHeartbeats 4000000 in
set_option maxRecDepth 100000 in
theorem k_ask {p : Program} {l : Launch} {e : Env} {s : State} {m : MethodId} {below : List Frame} {meth : Method} {c : Code} {D : va_G} {ca cm : Nat → ClassId} {cj : ClassId} {am : Nat → Nat → Nat} {o t0 mi b L : Nat} {xs : Nat → Int32} (hx : p.tables.exec = Jvm.exec) (hb : c.code = code) (hml : c.maxLocals = 7) (hown : s.vm.findClass RW = some m.cls) (hts : ∀ w ∈ tbG, w.before #[Value.ref b] s = true) (hX : va_X b L xs s s.heap) (hbl : b < s.heap.size) (hl0 : l.stackTraces = false) (hK : va_K D clX (tyZ ca cj cm) s) (hE : eX (aL s) s) (hN : eN s) (hL : eL t0 mi (aL s) s) (tt : Nat) (htt : tt ≤ 511) (x4 : Int32) (hi0 : vp_in (x4) L) (hi1 : vp_in (x4 + 1) L) (hi2 : vp_in (x4 + 2) L) (hi3 : vp_in (x4 + 3) L) (hi4 : vp_in (x4 + 4) L) {nxt : Sg → (Nat → Int64) → Sm → Prop} (K : ∀ (ad : Nat → Nat → Nat) (σ : Sg) (f : Nat → Int64) (ρ : Sm), (sC σ = 0 → ad 9 0 = t0) → nxt σ f ρ → ∀ (H : Heap) (locs : List Loc), va_P D clX (wZ ca ad cj o cm am σ f ρ) H → va_D (aL s) (wZ ca ad cj o cm am σ f ρ) → va_S (aL s) s.heap H locs → ∀ ls : Array Slot, lv_has ls 7 [(0, .ref b), (1, .ref (ad 0 0)), (2, .ref (am 0 0)), (3, .ref o), (4, .int x4)] → W p l e room_1 s m #[Value.ref b] below meth c H locs (51 + 4 * (tt + 1)) (13856 + 3100 * (tt + 1)) (lw_Z below #[Value.ref b] s) (F0 m 900 ls [])) (ad : Nat → Nat → Nat) (σ : Sg) (f : Nat → Int64) (ρ : Sm) (h9 : sC σ = 0 → ad 9 0 = t0) (hw : wpk_ask xs x4 nxt σ f ρ) : ∀ (H : Heap) (locs : List Loc), va_P D clX (wZ ca ad cj o cm am σ f ρ) H → va_D (aL s) (wZ ca ad cj o cm am σ f ρ) → va_S (aL s) s.heap H locs → ∀ ls : Array Slot, lv_has ls 7 [(0, .ref b), (1, .ref (ad 0 0)), (2, .ref (am 0 0)), (3, .ref o), (4, .int x4)] → W p l e room_1 s m #[Value.ref b] below meth c H locs (51 + 4 * tt) (13856 + 3100 * tt) (lw_Z below #[Value.ref b] s) (F0 m 200 ls []) := by
  intro H locs hP hD hS ls hl
  have hA : ∀ q : Nat, s.heap.size ≤ q → aL s q := fun _ h => h
  have hbA : ¬ aL s b := Nat.not_le.mpr hbl
  have hKw := hK.sub (tys' := tyW ca cj) [0, 1, 2, 3, 4] rfl
  have hKx := hK.sub (tys' := tyA ca) [0, 1, 2, 3] rfl
  have hKm := hK.sub (tys' := tyM9 cm) [5, 6] rfl
  unfold wpk_ask at hw
  refine lv_aload_n hx hb dLaw_200 rfl (lv_at hl 1 rfl) ?_
  refine lv_aload_n hx hb dLaw_201 rfl (lv_at hl 0 rfl) ?_
  refine lv_iload hx hb dLaw_202 (lv_at hl 4 rfl) ?_
  refine lv_iconst (v := 1) hx hb dLaw_204 (by decide) ?_
  refine lv_iadd hx hb dLaw_205 ?_
  refine va_sld hx hb hX hbl hbA hS hi1 dLaw_206 ?_
  refine lv_aload_n hx hb dLaw_207 rfl (lv_at hl 0 rfl) ?_
  refine lv_iload hx hb dLaw_208 (lv_at hl 4 rfl) ?_
  refine lv_iconst (v := 2) hx hb dLaw_210 (by decide) ?_
  refine lv_iadd hx hb dLaw_211 ?_
  refine va_sld hx hb hX hbl hbA hS hi2 dLaw_212 ?_
  refine lv_aload_n hx hb dLaw_213 rfl (lv_at hl 0 rfl) ?_
  refine lv_iload hx hb dLaw_214 (lv_at hl 4 rfl) ?_
  refine lv_iconst (v := 3) hx hb dLaw_216 (by decide) ?_
  refine lv_iadd hx hb dLaw_217 ?_
  refine va_sld hx hb hX hbl hbA hS hi3 dLaw_218 ?_
  refine lv_aload_n hx hb dLaw_219 rfl (lv_at hl 0 rfl) ?_
  refine lv_iload hx hb dLaw_220 (lv_at hl 4 rfl) ?_
  refine lv_iconst (v := 4) hx hb dLaw_222 (by decide) ?_
  refine lv_iadd hx hb dLaw_223 ?_
  refine va_sld hx hb hX hbl hbA hS hi4 dLaw_224 ?_
  refine lv_aload_n hx hb dLaw_225 rfl (lv_at hl 3 rfl) ?_
  have hPc := px_fP hP
  have hDc := px_fD hD
  have hFc := px_free hDc hS hA
  refine va_calli (vx_runSW (As := [.ref (ad 0 0), .int (xs (x4 + 1).toNatClampNeg), .int (xs (x4 + 2).toNatClampNeg), .int (xs (x4 + 3).toNatClampNeg), .int (xs (x4 + 4).toNatClampNeg), .ref o]) (rest := []) ⟨hx, hb, hml, hown, hts⟩ (c_W_ask l D ca ad cj o t0 mi σ f (xs (x4 + 1).toNatClampNeg) (xs (x4 + 2).toNatClampNeg) (xs (x4 + 3).toNatClampNeg) (xs (x4 + 4).toNatClampNeg) _ _ hl0 h9 hw) (vx_cwSW 6 hts (gS tw_297 tw_298 tw_0 tw_299) rfl rfl rfl (by decide +kernel) ⟨Nat.le_of_ble_eq_true rfl, Nat.le_of_ble_eq_true rfl⟩) ⟨fun a U g mk q => ⟨(pw_blind a U g mk ⟨q.1, q.2.1⟩).1, (pw_blind (av := [.ref (ad 0 0), .int (xs (x4 + 1).toNatClampNeg), .int (xs (x4 + 2).toNatClampNeg), .int (xs (x4 + 3).toNatClampNeg), .int (xs (x4 + 4).toNatClampNeg), .ref o]) a U g mk ⟨q.1, q.2.1⟩).2, q.2.2.blind g mk a⟩, fun U hU hW => ⟨rfl, (pw_pre (av := [.ref (ad 0 0), .int (xs (x4 + 1).toNatClampNeg), .int (xs (x4 + 2).toNatClampNeg), .int (xs (x4 + 3).toNatClampNeg), .int (xs (x4 + 4).toNatClampNeg), .ref o]) hPc hKw hDc hE hN hS hFc hU hW).2, hL.to hS hFc hU hW⟩⟩ rfl rfl hl.1 rfl (lv_room (Nat.le_of_ble_eq_true rfl)) dLaw_226 ⟨by show 51 + 4 * tt + 4 ≤ 601024; omega, by show 13856 + 3100 * tt + 3100 ≤ 7293034; omega⟩) hS (fun q _ h => hFc q h) hFc (fun r1 u9 t H locs ht hvm hw hB _ hk1 hS => ?_)
  obtain ⟨ad9, s2, f3⟩ := u9
  obtain ⟨ha9, hr9, hw⟩ := hw
  have ha9 : ∀ k i, k ≤ 8 → ad9 k i = ad k i := ha9
  have hr9 : ¬ r1 = 0 → ad9 = ad := hr9
  rw [← ha9 0 0 (by decide)] at hl
  obtain ⟨hP1, -, hD1⟩ := hB
  rw [ht] at hP1
  obtain ⟨hP, hD⟩ := px_join hP hD hFc hk1 hP1 hD1
  refine W.widen (k := 51 + 4 * (tt + 1)) (n := 13856 + 3100 * (tt + 1)) (by omega) (by omega) ?_
  obtain ⟨hc9, hw⟩ := hw
  refine lv_istore (lv' := [(5, .int r1), (0, .ref b), (1, .ref (ad9 0 0)), (2, .ref (am 0 0)), (3, .ref o), (4, .int x4)]) hx hb dLaw_229 hl (by decide) rfl (fun ls hl => ?_)
  refine lv_aload_n hx hb dLaw_231 rfl (lv_at hl 3 rfl) ?_
  refine lv_aload_n hx hb dLaw_232 rfl (lv_at hl 1 rfl) ?_
  refine lv_iload hx hb dLaw_233 (lv_at hl 5 rfl) ?_
  refine lv_iconst (v := 1) hx hb dLaw_235 (by decide) ?_
  refine lv_iadd hx hb dLaw_236 ?_
  refine va_sld hx hb hX hbl hbA hS hi1 dLaw_237 ?_
  refine lv_aload_n hx hb dLaw_238 rfl (lv_at hl 1 rfl) ?_
  refine lv_iload hx hb dLaw_239 (lv_at hl 5 rfl) ?_
  refine lv_iconst (v := 2) hx hb dLaw_241 (by decide) ?_
  refine lv_iadd hx hb dLaw_242 ?_
  refine va_sld hx hb hX hbl hbA hS hi2 dLaw_243 ?_
  refine lv_aload_n hx hb dLaw_244 rfl (lv_at hl 1 rfl) ?_
  refine lv_iload hx hb dLaw_245 (lv_at hl 5 rfl) ?_
  refine lv_iconst (v := 3) hx hb dLaw_247 (by decide) ?_
  refine lv_iadd hx hb dLaw_248 ?_
  refine va_sld hx hb hX hbl hbA hS hi3 dLaw_249 ?_
  refine lv_aload_n hx hb dLaw_250 rfl (lv_at hl 1 rfl) ?_
  refine lv_iload hx hb dLaw_251 (lv_at hl 5 rfl) ?_
  refine lv_iconst (v := 4) hx hb dLaw_253 (by decide) ?_
  refine lv_iadd hx hb dLaw_254 ?_
  refine va_sld hx hb hX hbl hbA hS hi4 dLaw_255 ?_
  have hPc := px_sP hP
  have hDc := px_sD hD
  have hFc := px_free hDc hS hA
  refine va_calli (va_runV (As := [.int (xs (x4 + 1).toNatClampNeg), .int (xs (x4 + 2).toNatClampNeg), .int (xs (x4 + 3).toNatClampNeg), .int (xs (x4 + 4).toNatClampNeg)]) (rest := []) ⟨hx, hb, hml, hown, hts⟩ (c_m_ask l D cm am ρ (xs (x4 + 1).toNatClampNeg) (xs (x4 + 2).toNatClampNeg) (xs (x4 + 3).toNatClampNeg) (xs (x4 + 4).toNatClampNeg) _ _ hw) (cwV 4 hts (gV tw_687 tw_688 tw_689 tw_7 tw_690) rfl rfl rfl (by decide +kernel) ⟨Nat.le_of_ble_eq_true rfl, Nat.le_of_ble_eq_true rfl⟩) ⟨pm_blind, px_recv hKm hPc gM_0 rfl, fun U hU hW => pm_pre hPc hKm hDc trivial hS hFc hU hW⟩ rfl rfl hl.1 rfl (lv_room (Nat.le_of_ble_eq_true rfl)) dLaw_256 ⟨by show 51 + 4 * (tt + 1) + 0 ≤ 601024; omega, by show 13856 + 3100 * (tt + 1) + 0 ≤ 7293034; omega⟩) hS (fun q _ h => hFc q h) hFc (fun r4 u9 t H locs ht hvm hw hB _ hk1 hS => ?_)
  obtain ⟨p5, rfl⟩ : ∃ z, z = u9 := ⟨_, rfl⟩
  obtain ⟨hP1, -, hD1⟩ := hB
  rw [ht] at hP1
  obtain ⟨hP, hD⟩ := px_joinR hP hD hFc hk1 hP1 hD1
  refine W.widen (k := 51 + 4 * (tt + 1)) (n := 13856 + 3100 * (tt + 1)) (by omega) (by omega) ?_
  refine lv_istore (lv' := [(6, .int r4), (5, .int r1), (0, .ref b), (1, .ref (ad9 0 0)), (2, .ref (am 0 0)), (3, .ref o), (4, .int x4)]) hx hb dLaw_259 hl (by decide) rfl (fun ls hl => ?_)
  refine lv_aload_n hx hb dLaw_261 rfl (lv_at hl 4 rfl) ?_
  have hPc := px_sP hP
  have hDc := px_sD hD
  have hFc := px_free hDc hS hA
  refine va_calli (va_runV (As := []) (rest := []) ⟨hx, hb, hml, hown, hts⟩ (c_m_thrown l D cm am p5  _ _ hw) (cwV 0 hts (gV tw_671 tw_672 tw_673 tw_7 tw_674) rfl rfl rfl (by decide +kernel) ⟨Nat.le_of_ble_eq_true rfl, Nat.le_of_ble_eq_true rfl⟩) ⟨pm_blind, px_recv hKm hPc gM_0 rfl, fun U hU hW => pm_pre hPc hKm hDc trivial hS hFc hU hW⟩ rfl rfl hl.1 rfl (lv_room (Nat.le_of_ble_eq_true rfl)) dLaw_262 ⟨by show 51 + 4 * (tt + 1) + 0 ≤ 601024; omega, by show 13856 + 3100 * (tt + 1) + 0 ≤ 7293034; omega⟩) hS (fun q _ h => hFc q h) hFc (fun r6 u9 t H locs ht hvm hw hB _ hk1 hS => ?_)
  obtain ⟨p7, rfl⟩ : ∃ z, z = u9 := ⟨_, rfl⟩
  obtain ⟨hP1, -, hD1⟩ := hB
  rw [ht] at hP1
  obtain ⟨hP, hD⟩ := px_joinR hP hD hFc hk1 hP1 hD1
  refine W.widen (k := 51 + 4 * (tt + 1)) (n := 13856 + 3100 * (tt + 1)) (by omega) (by omega) ?_
  refine lv_iload hx hb dLaw_265 (lv_at hl 1 rfl) ?_
  refine lv_icmp_eq (tgt := 272) hx hb dLaw_267 (by decide) (fun c8 => ?_) (fun c8 => ?_)
  · have hw := hw.1 c8
    refine lv_iload hx hb dLaw_272 (lv_at hl 1 rfl) ?_
    refine lv_if_ne (tgt := 289) hx hb dLaw_274 (by decide) (fun c9 => ?_) (fun c9 => ?_)
    · have hw := hw.1 c9
      refine lv_goto (tgt := 900) hx hb dLaw_289 (by decide) ?_
      exact K ad9 s2 f3 p7 (fun z => by by_cases hr5 : r1 = 0; exact absurd z (hc9 hr5); rw [hr9 hr5]; exact h9 (hw.1 z)) hw.2 _ _ hP hD hS ls (lv_sub hl [2, 3, 4, 5, 6] rfl)
    · have hw := hw.2 c9
      refine lv_aload_n hx hb dLaw_277 rfl (lv_at hl 5 rfl) ?_
      refine lv_iconst (v := 0) hx hb dLaw_278 (by decide) ?_
      refine va_lald hx hb hK hP ((wX ca ad9 s2).length + 0) 4 (px_l (l1 := wW ca ad9 cj o s2 f3) px_e) rfl (by unfold vp_in; decide) dLaw_279 ?_
      refine lv_iload hx hb dLaw_280 (lv_at hl 0 rfl) ?_
      refine lv_i2l hx hb dLaw_282 rfl ?_
      refine W.lcmp hx hb dLaw_283 ?_
      refine lv_if_eq (tgt := 289) hx hb dLaw_284 (by decide) (fun c10 => ?_) (fun c10 => ?_)
      · have hw := hw.1 c10
        refine lv_goto (tgt := 900) hx hb dLaw_289 (by decide) ?_
        exact K ad9 s2 f3 p7 (fun z => by by_cases hr5 : r1 = 0; exact absurd z (hc9 hr5); rw [hr9 hr5]; exact h9 (hw.1 z)) hw.2 _ _ hP hD hS ls (lv_sub hl [2, 3, 4, 5, 6] rfl)
      · have hw := hw.2 c10
        refine lv_iconst (v := 0) hx hb dLaw_287 (by decide) ?_
        exact hw.elim
  · have hw := hw.2 c8
    refine lv_iconst (v := 0) hx hb dLaw_270 (by decide) ?_
    exact hw.elim
def wpk_giveUp (xs : Nat → Int32) (x4 : Int32) (nxt : Sg → (Nat → Int64) → Sm → Prop) (σ : Sg) (f : Nat → Int64) (ρ : Sm) : Prop := wpW_giveUp (fun r1 s2 f3 => wp_m_giveUp (fun r4 p5 => wp_m_thrown (fun r6 p7 => (((r6 = r1) → ((¬ (r1 = 0) → ((sC s2 = 0 → sC σ = 0) ∧ nxt s2 f3 p7)) ∧ ((r1 = 0) → (((r4 = 0) → ((((lg_cmp (f3 (0 : Int32).toNatClampNeg) 0) = 0) → ((sC s2 = 0 → sC σ = 0) ∧ nxt s2 f3 p7)) ∧ (¬ ((lg_cmp (f3 (0 : Int32).toNatClampNeg) 0) = 0) → False))) ∧ (¬ (r4 = 0) → ((((lg_cmp (f3 (0 : Int32).toNatClampNeg) 1) = 0) → ((sC s2 = 0 → sC σ = 0) ∧ nxt s2 f3 p7)) ∧ (¬ ((lg_cmp (f3 (0 : Int32).toNatClampNeg) 1) = 0) → False))))))) ∧ (¬ (r6 = r1) → False))) p5 ) ρ (xs (x4 + 1).toNatClampNeg)) σ f (xs (x4 + 1).toNatClampNeg)
set_option maxHeartbeats 4000000 in
set_option maxRecDepth 100000 in
theorem k_giveUp {p : Program} {l : Launch} {e : Env} {s : State} {m : MethodId} {below : List Frame} {meth : Method} {c : Code} {D : va_G} {ca cm : Nat → ClassId} {cj : ClassId} {am : Nat → Nat → Nat} {o t0 mi b L : Nat} {xs : Nat → Int32} (hx : p.tables.exec = Jvm.exec) (hb : c.code = code) (hml : c.maxLocals = 7) (hown : s.vm.findClass RW = some m.cls) (hts : ∀ w ∈ tbG, w.before #[Value.ref b] s = true) (hX : va_X b L xs s s.heap) (hbl : b < s.heap.size) (hl0 : l.stackTraces = false) (hK : va_K D clX (tyZ ca cj cm) s) (hE : eX (aL s) s) (hN : eN s) (hL : eL t0 mi (aL s) s) (tt : Nat) (htt : tt ≤ 511) (x4 : Int32) (hi0 : vp_in (x4) L) (hi1 : vp_in (x4 + 1) L) (hi2 : vp_in (x4 + 2) L) (hi3 : vp_in (x4 + 3) L) (hi4 : vp_in (x4 + 4) L) {nxt : Sg → (Nat → Int64) → Sm → Prop} (K : ∀ (ad : Nat → Nat → Nat) (σ : Sg) (f : Nat → Int64) (ρ : Sm), (sC σ = 0 → ad 9 0 = t0) → nxt σ f ρ → ∀ (H : Heap) (locs : List Loc), va_P D clX (wZ ca ad cj o cm am σ f ρ) H → va_D (aL s) (wZ ca ad cj o cm am σ f ρ) → va_S (aL s) s.heap H locs → ∀ ls : Array Slot, lv_has ls 7 [(0, .ref b), (1, .ref (ad 0 0)), (2, .ref (am 0 0)), (3, .ref o), (4, .int x4)] → W p l e room_1 s m #[Value.ref b] below meth c H locs (51 + 4 * (tt + 1)) (13856 + 3100 * (tt + 1)) (lw_Z below #[Value.ref b] s) (F0 m 900 ls [])) (ad : Nat → Nat → Nat) (σ : Sg) (f : Nat → Int64) (ρ : Sm) (h9 : sC σ = 0 → ad 9 0 = t0) (hw : wpk_giveUp xs x4 nxt σ f ρ) : ∀ (H : Heap) (locs : List Loc), va_P D clX (wZ ca ad cj o cm am σ f ρ) H → va_D (aL s) (wZ ca ad cj o cm am σ f ρ) → va_S (aL s) s.heap H locs → ∀ ls : Array Slot, lv_has ls 7 [(0, .ref b), (1, .ref (ad 0 0)), (2, .ref (am 0 0)), (3, .ref o), (4, .int x4)] → W p l e room_1 s m #[Value.ref b] below meth c H locs (51 + 4 * tt) (13856 + 3100 * tt) (lw_Z below #[Value.ref b] s) (F0 m 292 ls []) := by
  intro H locs hP hD hS ls hl
  have hA : ∀ q : Nat, s.heap.size ≤ q → aL s q := fun _ h => h
  have hbA : ¬ aL s b := Nat.not_le.mpr hbl
  have hKw := hK.sub (tys' := tyW ca cj) [0, 1, 2, 3, 4] rfl
  have hKx := hK.sub (tys' := tyA ca) [0, 1, 2, 3] rfl
  have hKm := hK.sub (tys' := tyM9 cm) [5, 6] rfl
  unfold wpk_giveUp at hw
  refine lv_aload_n hx hb dLaw_292 rfl (lv_at hl 1 rfl) ?_
  refine lv_aload_n hx hb dLaw_293 rfl (lv_at hl 0 rfl) ?_
  refine lv_iload hx hb dLaw_294 (lv_at hl 4 rfl) ?_
  refine lv_iconst (v := 1) hx hb dLaw_296 (by decide) ?_
  refine lv_iadd hx hb dLaw_297 ?_
  refine va_sld hx hb hX hbl hbA hS hi1 dLaw_298 ?_
  refine lv_aload_n hx hb dLaw_299 rfl (lv_at hl 3 rfl) ?_
  have hPc := px_fP hP
  have hDc := px_fD hD
  have hFc := px_free hDc hS hA
  refine va_calli (vx_runSW (As := [.ref (ad 0 0), .int (xs (x4 + 1).toNatClampNeg), .ref o]) (rest := []) ⟨hx, hb, hml, hown, hts⟩ (c_W_giveUp l D ca ad cj o σ f (xs (x4 + 1).toNatClampNeg) _ _ hl0 hw) (vx_cwSW 3 hts (gS tw_476 tw_477 tw_0 tw_478) rfl rfl rfl (by decide +kernel) ⟨Nat.le_of_ble_eq_true rfl, Nat.le_of_ble_eq_true rfl⟩) ⟨pw_blind, fun U hU hW => pw_pre hPc hKw hDc hE hN hS hFc hU hW⟩ rfl rfl hl.1 rfl (lv_room (Nat.le_of_ble_eq_true rfl)) dLaw_300 ⟨by show 51 + 4 * tt + 1 ≤ 601024; omega, by show 13856 + 3100 * tt + 6 ≤ 7293034; omega⟩) hS (fun q _ h => hFc q h) hFc (fun r1 u9 t H locs ht hvm hw hB _ hk1 hS => ?_)
  obtain ⟨s2, f3⟩ := u9
  obtain ⟨hP1, -, hD1⟩ := hB
  rw [ht] at hP1
  obtain ⟨hP, hD⟩ := px_join hP hD hFc hk1 hP1 hD1
  refine W.widen (k := 51 + 4 * (tt + 1)) (n := 13856 + 3100 * (tt + 1)) (by omega) (by omega) ?_
  refine lv_istore (lv' := [(5, .int r1), (0, .ref b), (1, .ref (ad 0 0)), (2, .ref (am 0 0)), (3, .ref o), (4, .int x4)]) hx hb dLaw_303 hl (by decide) rfl (fun ls hl => ?_)
  refine lv_aload_n hx hb dLaw_305 rfl (lv_at hl 3 rfl) ?_
  refine lv_aload_n hx hb dLaw_306 rfl (lv_at hl 1 rfl) ?_
  refine lv_iload hx hb dLaw_307 (lv_at hl 5 rfl) ?_
  refine lv_iconst (v := 1) hx hb dLaw_309 (by decide) ?_
  refine lv_iadd hx hb dLaw_310 ?_
  refine va_sld hx hb hX hbl hbA hS hi1 dLaw_311 ?_
  have hPc := px_sP hP
  have hDc := px_sD hD
  have hFc := px_free hDc hS hA
  refine va_calli (va_runV (As := [.int (xs (x4 + 1).toNatClampNeg)]) (rest := []) ⟨hx, hb, hml, hown, hts⟩ (c_m_giveUp l D cm am ρ (xs (x4 + 1).toNatClampNeg) _ _ hw) (cwV 1 hts (gV tw_721 tw_722 tw_723 tw_7 tw_724) rfl rfl rfl (by decide +kernel) ⟨Nat.le_of_ble_eq_true rfl, Nat.le_of_ble_eq_true rfl⟩) ⟨pm_blind, px_recv hKm hPc gM_0 rfl, fun U hU hW => pm_pre hPc hKm hDc trivial hS hFc hU hW⟩ rfl rfl hl.1 rfl (lv_room (Nat.le_of_ble_eq_true rfl)) dLaw_312 ⟨by show 51 + 4 * (tt + 1) + 0 ≤ 601024; omega, by show 13856 + 3100 * (tt + 1) + 0 ≤ 7293034; omega⟩) hS (fun q _ h => hFc q h) hFc (fun r4 u9 t H locs ht hvm hw hB _ hk1 hS => ?_)
  obtain ⟨p5, rfl⟩ : ∃ z, z = u9 := ⟨_, rfl⟩
  obtain ⟨hP1, -, hD1⟩ := hB
  rw [ht] at hP1
  obtain ⟨hP, hD⟩ := px_joinR hP hD hFc hk1 hP1 hD1
  refine W.widen (k := 51 + 4 * (tt + 1)) (n := 13856 + 3100 * (tt + 1)) (by omega) (by omega) ?_
  refine lv_istore (lv' := [(6, .int r4), (5, .int r1), (0, .ref b), (1, .ref (ad 0 0)), (2, .ref (am 0 0)), (3, .ref o), (4, .int x4)]) hx hb dLaw_315 hl (by decide) rfl (fun ls hl => ?_)
  refine lv_aload_n hx hb dLaw_317 rfl (lv_at hl 4 rfl) ?_
  have hPc := px_sP hP
  have hDc := px_sD hD
  have hFc := px_free hDc hS hA
  refine va_calli (va_runV (As := []) (rest := []) ⟨hx, hb, hml, hown, hts⟩ (c_m_thrown l D cm am p5  _ _ hw) (cwV 0 hts (gV tw_671 tw_672 tw_673 tw_7 tw_674) rfl rfl rfl (by decide +kernel) ⟨Nat.le_of_ble_eq_true rfl, Nat.le_of_ble_eq_true rfl⟩) ⟨pm_blind, px_recv hKm hPc gM_0 rfl, fun U hU hW => pm_pre hPc hKm hDc trivial hS hFc hU hW⟩ rfl rfl hl.1 rfl (lv_room (Nat.le_of_ble_eq_true rfl)) dLaw_318 ⟨by show 51 + 4 * (tt + 1) + 0 ≤ 601024; omega, by show 13856 + 3100 * (tt + 1) + 0 ≤ 7293034; omega⟩) hS (fun q _ h => hFc q h) hFc (fun r6 u9 t H locs ht hvm hw hB _ hk1 hS => ?_)
  obtain ⟨p7, rfl⟩ : ∃ z, z = u9 := ⟨_, rfl⟩
  obtain ⟨hP1, -, hD1⟩ := hB
  rw [ht] at hP1
  obtain ⟨hP, hD⟩ := px_joinR hP hD hFc hk1 hP1 hD1
  refine W.widen (k := 51 + 4 * (tt + 1)) (n := 13856 + 3100 * (tt + 1)) (by omega) (by omega) ?_
  refine lv_iload hx hb dLaw_321 (lv_at hl 1 rfl) ?_
  refine lv_icmp_eq (tgt := 328) hx hb dLaw_323 (by decide) (fun c8 => ?_) (fun c8 => ?_)
  · have hw := hw.1 c8
    refine lv_iload hx hb dLaw_328 (lv_at hl 1 rfl) ?_
    refine lv_if_ne (tgt := 352) hx hb dLaw_330 (by decide) (fun c9 => ?_) (fun c9 => ?_)
    · have hw := hw.1 c9
      refine lv_goto (tgt := 900) hx hb dLaw_352 (by decide) ?_
      exact K ad s2 f3 p7 (fun z => h9 (hw.1 z)) hw.2 _ _ hP hD hS ls (lv_sub hl [2, 3, 4, 5, 6] rfl)
    · have hw := hw.2 c9
      refine lv_aload_n hx hb dLaw_333 rfl (lv_at hl 5 rfl) ?_
      refine lv_iconst (v := 0) hx hb dLaw_334 (by decide) ?_
      refine va_lald hx hb hK hP ((wX ca ad s2).length + 0) 4 (px_l (l1 := wW ca ad cj o s2 f3) px_e) rfl (by unfold vp_in; decide) dLaw_335 ?_
      refine lv_iload hx hb dLaw_336 (lv_at hl 0 rfl) ?_
      refine lv_if_eq (tgt := 345) hx hb dLaw_338 (by decide) (fun c10 => ?_) (fun c10 => ?_)
      · have hw := hw.1 c10
        refine lv_lconst (v := 0) hx hb dLaw_345 (by decide) ?_
        refine W.lcmp hx hb dLaw_346 ?_
        refine lv_if_eq (tgt := 352) hx hb dLaw_347 (by decide) (fun c11 => ?_) (fun c11 => ?_)
        · have hw := hw.1 c11
          refine lv_goto (tgt := 900) hx hb dLaw_352 (by decide) ?_
          exact K ad s2 f3 p7 (fun z => h9 (hw.1 z)) hw.2 _ _ hP hD hS ls (lv_sub hl [2, 3, 4, 5, 6] rfl)
        · have hw := hw.2 c11
          refine lv_iconst (v := 0) hx hb dLaw_350 (by decide) ?_
          exact hw.elim
      · have hw := hw.2 c10
        refine lv_lconst (v := 1) hx hb dLaw_341 (by decide) ?_
        refine lv_goto (tgt := 346) hx hb dLaw_342 (by decide) ?_
        refine W.lcmp hx hb dLaw_346 ?_
        refine lv_if_eq (tgt := 352) hx hb dLaw_347 (by decide) (fun c12 => ?_) (fun c12 => ?_)
        · have hw := hw.1 c12
          refine lv_goto (tgt := 900) hx hb dLaw_352 (by decide) ?_
          exact K ad s2 f3 p7 (fun z => h9 (hw.1 z)) hw.2 _ _ hP hD hS ls (lv_sub hl [2, 3, 4, 5, 6] rfl)
        · have hw := hw.2 c12
          refine lv_iconst (v := 0) hx hb dLaw_350 (by decide) ?_
          exact hw.elim
  · have hw := hw.2 c8
    refine lv_iconst (v := 0) hx hb dLaw_326 (by decide) ?_
    exact hw.elim
def wpk_reply (xs : Nat → Int32) (x4 : Int32) (nxt : Sg → (Nat → Int64) → Sm → Prop) (σ : Sg) (f : Nat → Int64) (ρ : Sm) : Prop := wpW_reply (fun r1 s2 f3 => wp_m_reply (fun r4 p5 => wp_m_thrown (fun r6 p7 => (((r6 = r1) → ((¬ (r1 = 0) → ((sC s2 = 0 → sC σ = 0) ∧ nxt s2 f3 p7)) ∧ ((r1 = 0) → (((r4 = 0) → ((((lg_cmp (f3 (0 : Int32).toNatClampNeg) 0) = 0) → ((sC s2 = 0 → sC σ = 0) ∧ nxt s2 f3 p7)) ∧ (¬ ((lg_cmp (f3 (0 : Int32).toNatClampNeg) 0) = 0) → False))) ∧ (¬ (r4 = 0) → ((((lg_cmp (f3 (0 : Int32).toNatClampNeg) 1) = 0) → ((sC s2 = 0 → sC σ = 0) ∧ nxt s2 f3 p7)) ∧ (¬ ((lg_cmp (f3 (0 : Int32).toNatClampNeg) 1) = 0) → False))))))) ∧ (¬ (r6 = r1) → False))) p5 ) ρ (xs (x4 + 1).toNatClampNeg) (xs (x4 + 2).toNatClampNeg) (xs (x4 + 3).toNatClampNeg) (xs (x4 + 4).toNatClampNeg)) σ f (xs (x4 + 1).toNatClampNeg) (xs (x4 + 2).toNatClampNeg) (xs (x4 + 3).toNatClampNeg) (xs (x4 + 4).toNatClampNeg)
set_option maxHeartbeats 4000000 in
set_option maxRecDepth 100000 in
theorem k_reply {p : Program} {l : Launch} {e : Env} {s : State} {m : MethodId} {below : List Frame} {meth : Method} {c : Code} {D : va_G} {ca cm : Nat → ClassId} {cj : ClassId} {am : Nat → Nat → Nat} {o t0 mi b L : Nat} {xs : Nat → Int32} (hx : p.tables.exec = Jvm.exec) (hb : c.code = code) (hml : c.maxLocals = 7) (hown : s.vm.findClass RW = some m.cls) (hts : ∀ w ∈ tbG, w.before #[Value.ref b] s = true) (hX : va_X b L xs s s.heap) (hbl : b < s.heap.size) (hl0 : l.stackTraces = false) (hK : va_K D clX (tyZ ca cj cm) s) (hE : eX (aL s) s) (hN : eN s) (hL : eL t0 mi (aL s) s) (tt : Nat) (htt : tt ≤ 511) (x4 : Int32) (hi0 : vp_in (x4) L) (hi1 : vp_in (x4 + 1) L) (hi2 : vp_in (x4 + 2) L) (hi3 : vp_in (x4 + 3) L) (hi4 : vp_in (x4 + 4) L) {nxt : Sg → (Nat → Int64) → Sm → Prop} (K : ∀ (ad : Nat → Nat → Nat) (σ : Sg) (f : Nat → Int64) (ρ : Sm), (sC σ = 0 → ad 9 0 = t0) → nxt σ f ρ → ∀ (H : Heap) (locs : List Loc), va_P D clX (wZ ca ad cj o cm am σ f ρ) H → va_D (aL s) (wZ ca ad cj o cm am σ f ρ) → va_S (aL s) s.heap H locs → ∀ ls : Array Slot, lv_has ls 7 [(0, .ref b), (1, .ref (ad 0 0)), (2, .ref (am 0 0)), (3, .ref o), (4, .int x4)] → W p l e room_1 s m #[Value.ref b] below meth c H locs (51 + 4 * (tt + 1)) (13856 + 3100 * (tt + 1)) (lw_Z below #[Value.ref b] s) (F0 m 900 ls [])) (ad : Nat → Nat → Nat) (σ : Sg) (f : Nat → Int64) (ρ : Sm) (h9 : sC σ = 0 → ad 9 0 = t0) (hw : wpk_reply xs x4 nxt σ f ρ) : ∀ (H : Heap) (locs : List Loc), va_P D clX (wZ ca ad cj o cm am σ f ρ) H → va_D (aL s) (wZ ca ad cj o cm am σ f ρ) → va_S (aL s) s.heap H locs → ∀ ls : Array Slot, lv_has ls 7 [(0, .ref b), (1, .ref (ad 0 0)), (2, .ref (am 0 0)), (3, .ref o), (4, .int x4)] → W p l e room_1 s m #[Value.ref b] below meth c H locs (51 + 4 * tt) (13856 + 3100 * tt) (lw_Z below #[Value.ref b] s) (F0 m 355 ls []) := by
  intro H locs hP hD hS ls hl
  have hA : ∀ q : Nat, s.heap.size ≤ q → aL s q := fun _ h => h
  have hbA : ¬ aL s b := Nat.not_le.mpr hbl
  have hKw := hK.sub (tys' := tyW ca cj) [0, 1, 2, 3, 4] rfl
  have hKx := hK.sub (tys' := tyA ca) [0, 1, 2, 3] rfl
  have hKm := hK.sub (tys' := tyM9 cm) [5, 6] rfl
  unfold wpk_reply at hw
  refine lv_aload_n hx hb dLaw_355 rfl (lv_at hl 1 rfl) ?_
  refine lv_aload_n hx hb dLaw_356 rfl (lv_at hl 0 rfl) ?_
  refine lv_iload hx hb dLaw_357 (lv_at hl 4 rfl) ?_
  refine lv_iconst (v := 1) hx hb dLaw_359 (by decide) ?_
  refine lv_iadd hx hb dLaw_360 ?_
  refine va_sld hx hb hX hbl hbA hS hi1 dLaw_361 ?_
  refine lv_aload_n hx hb dLaw_362 rfl (lv_at hl 0 rfl) ?_
  refine lv_iload hx hb dLaw_363 (lv_at hl 4 rfl) ?_
  refine lv_iconst (v := 2) hx hb dLaw_365 (by decide) ?_
  refine lv_iadd hx hb dLaw_366 ?_
  refine va_sld hx hb hX hbl hbA hS hi2 dLaw_367 ?_
  refine lv_aload_n hx hb dLaw_368 rfl (lv_at hl 0 rfl) ?_
  refine lv_iload hx hb dLaw_369 (lv_at hl 4 rfl) ?_
  refine lv_iconst (v := 3) hx hb dLaw_371 (by decide) ?_
  refine lv_iadd hx hb dLaw_372 ?_
  refine va_sld hx hb hX hbl hbA hS hi3 dLaw_373 ?_
  refine lv_aload_n hx hb dLaw_374 rfl (lv_at hl 0 rfl) ?_
  refine lv_iload hx hb dLaw_375 (lv_at hl 4 rfl) ?_
  refine lv_iconst (v := 4) hx hb dLaw_377 (by decide) ?_
  refine lv_iadd hx hb dLaw_378 ?_
  refine va_sld hx hb hX hbl hbA hS hi4 dLaw_379 ?_
  refine lv_aload_n hx hb dLaw_380 rfl (lv_at hl 3 rfl) ?_
  have hPc := px_fP hP
  have hDc := px_fD hD
  have hFc := px_free hDc hS hA
  refine va_calli (vx_runSW (As := [.ref (ad 0 0), .int (xs (x4 + 1).toNatClampNeg), .int (xs (x4 + 2).toNatClampNeg), .int (xs (x4 + 3).toNatClampNeg), .int (xs (x4 + 4).toNatClampNeg), .ref o]) (rest := []) ⟨hx, hb, hml, hown, hts⟩ (c_W_reply l D ca ad cj o σ f (xs (x4 + 1).toNatClampNeg) (xs (x4 + 2).toNatClampNeg) (xs (x4 + 3).toNatClampNeg) (xs (x4 + 4).toNatClampNeg) _ _ hl0 hw) (vx_cwSW 6 hts (gS tw_483 tw_484 tw_0 tw_485) rfl rfl rfl (by decide +kernel) ⟨Nat.le_of_ble_eq_true rfl, Nat.le_of_ble_eq_true rfl⟩) ⟨pw_blind, fun U hU hW => pw_pre hPc hKw hDc hE hN hS hFc hU hW⟩ rfl rfl hl.1 rfl (lv_room (Nat.le_of_ble_eq_true rfl)) dLaw_381 ⟨by show 51 + 4 * tt + 2 ≤ 601024; omega, by show 13856 + 3100 * tt + 12 ≤ 7293034; omega⟩) hS (fun q _ h => hFc q h) hFc (fun r1 u9 t H locs ht hvm hw hB _ hk1 hS => ?_)
  obtain ⟨s2, f3⟩ := u9
  obtain ⟨hP1, -, hD1⟩ := hB
  rw [ht] at hP1
  obtain ⟨hP, hD⟩ := px_join hP hD hFc hk1 hP1 hD1
  refine W.widen (k := 51 + 4 * (tt + 1)) (n := 13856 + 3100 * (tt + 1)) (by omega) (by omega) ?_
  refine lv_istore (lv' := [(5, .int r1), (0, .ref b), (1, .ref (ad 0 0)), (2, .ref (am 0 0)), (3, .ref o), (4, .int x4)]) hx hb dLaw_384 hl (by decide) rfl (fun ls hl => ?_)
  refine lv_aload_n hx hb dLaw_386 rfl (lv_at hl 3 rfl) ?_
  refine lv_aload_n hx hb dLaw_387 rfl (lv_at hl 1 rfl) ?_
  refine lv_iload hx hb dLaw_388 (lv_at hl 5 rfl) ?_
  refine lv_iconst (v := 1) hx hb dLaw_390 (by decide) ?_
  refine lv_iadd hx hb dLaw_391 ?_
  refine va_sld hx hb hX hbl hbA hS hi1 dLaw_392 ?_
  refine lv_aload_n hx hb dLaw_393 rfl (lv_at hl 1 rfl) ?_
  refine lv_iload hx hb dLaw_394 (lv_at hl 5 rfl) ?_
  refine lv_iconst (v := 2) hx hb dLaw_396 (by decide) ?_
  refine lv_iadd hx hb dLaw_397 ?_
  refine va_sld hx hb hX hbl hbA hS hi2 dLaw_398 ?_
  refine lv_aload_n hx hb dLaw_399 rfl (lv_at hl 1 rfl) ?_
  refine lv_iload hx hb dLaw_400 (lv_at hl 5 rfl) ?_
  refine lv_iconst (v := 3) hx hb dLaw_402 (by decide) ?_
  refine lv_iadd hx hb dLaw_403 ?_
  refine va_sld hx hb hX hbl hbA hS hi3 dLaw_404 ?_
  refine lv_aload_n hx hb dLaw_405 rfl (lv_at hl 1 rfl) ?_
  refine lv_iload hx hb dLaw_406 (lv_at hl 5 rfl) ?_
  refine lv_iconst (v := 4) hx hb dLaw_408 (by decide) ?_
  refine lv_iadd hx hb dLaw_409 ?_
  refine va_sld hx hb hX hbl hbA hS hi4 dLaw_410 ?_
  have hPc := px_sP hP
  have hDc := px_sD hD
  have hFc := px_free hDc hS hA
  refine va_calli (va_runV (As := [.int (xs (x4 + 1).toNatClampNeg), .int (xs (x4 + 2).toNatClampNeg), .int (xs (x4 + 3).toNatClampNeg), .int (xs (x4 + 4).toNatClampNeg)]) (rest := []) ⟨hx, hb, hml, hown, hts⟩ (c_m_reply l D cm am ρ (xs (x4 + 1).toNatClampNeg) (xs (x4 + 2).toNatClampNeg) (xs (x4 + 3).toNatClampNeg) (xs (x4 + 4).toNatClampNeg) _ _ hw) (cwV 4 hts (gV tw_725 tw_726 tw_727 tw_7 tw_728) rfl rfl rfl (by decide +kernel) ⟨Nat.le_of_ble_eq_true rfl, Nat.le_of_ble_eq_true rfl⟩) ⟨pm_blind, px_recv hKm hPc gM_0 rfl, fun U hU hW => pm_pre hPc hKm hDc trivial hS hFc hU hW⟩ rfl rfl hl.1 rfl (lv_room (Nat.le_of_ble_eq_true rfl)) dLaw_411 ⟨by show 51 + 4 * (tt + 1) + 0 ≤ 601024; omega, by show 13856 + 3100 * (tt + 1) + 0 ≤ 7293034; omega⟩) hS (fun q _ h => hFc q h) hFc (fun r4 u9 t H locs ht hvm hw hB _ hk1 hS => ?_)
  obtain ⟨p5, rfl⟩ : ∃ z, z = u9 := ⟨_, rfl⟩
  obtain ⟨hP1, -, hD1⟩ := hB
  rw [ht] at hP1
  obtain ⟨hP, hD⟩ := px_joinR hP hD hFc hk1 hP1 hD1
  refine W.widen (k := 51 + 4 * (tt + 1)) (n := 13856 + 3100 * (tt + 1)) (by omega) (by omega) ?_
  refine lv_istore (lv' := [(6, .int r4), (5, .int r1), (0, .ref b), (1, .ref (ad 0 0)), (2, .ref (am 0 0)), (3, .ref o), (4, .int x4)]) hx hb dLaw_414 hl (by decide) rfl (fun ls hl => ?_)
  refine lv_aload_n hx hb dLaw_416 rfl (lv_at hl 4 rfl) ?_
  have hPc := px_sP hP
  have hDc := px_sD hD
  have hFc := px_free hDc hS hA
  refine va_calli (va_runV (As := []) (rest := []) ⟨hx, hb, hml, hown, hts⟩ (c_m_thrown l D cm am p5  _ _ hw) (cwV 0 hts (gV tw_671 tw_672 tw_673 tw_7 tw_674) rfl rfl rfl (by decide +kernel) ⟨Nat.le_of_ble_eq_true rfl, Nat.le_of_ble_eq_true rfl⟩) ⟨pm_blind, px_recv hKm hPc gM_0 rfl, fun U hU hW => pm_pre hPc hKm hDc trivial hS hFc hU hW⟩ rfl rfl hl.1 rfl (lv_room (Nat.le_of_ble_eq_true rfl)) dLaw_417 ⟨by show 51 + 4 * (tt + 1) + 0 ≤ 601024; omega, by show 13856 + 3100 * (tt + 1) + 0 ≤ 7293034; omega⟩) hS (fun q _ h => hFc q h) hFc (fun r6 u9 t H locs ht hvm hw hB _ hk1 hS => ?_)
  obtain ⟨p7, rfl⟩ : ∃ z, z = u9 := ⟨_, rfl⟩
  obtain ⟨hP1, -, hD1⟩ := hB
  rw [ht] at hP1
  obtain ⟨hP, hD⟩ := px_joinR hP hD hFc hk1 hP1 hD1
  refine W.widen (k := 51 + 4 * (tt + 1)) (n := 13856 + 3100 * (tt + 1)) (by omega) (by omega) ?_
  refine lv_iload hx hb dLaw_420 (lv_at hl 1 rfl) ?_
  refine lv_icmp_eq (tgt := 427) hx hb dLaw_422 (by decide) (fun c8 => ?_) (fun c8 => ?_)
  · have hw := hw.1 c8
    refine lv_iload hx hb dLaw_427 (lv_at hl 1 rfl) ?_
    refine lv_if_ne (tgt := 451) hx hb dLaw_429 (by decide) (fun c9 => ?_) (fun c9 => ?_)
    · have hw := hw.1 c9
      refine lv_goto (tgt := 900) hx hb dLaw_451 (by decide) ?_
      exact K ad s2 f3 p7 (fun z => h9 (hw.1 z)) hw.2 _ _ hP hD hS ls (lv_sub hl [2, 3, 4, 5, 6] rfl)
    · have hw := hw.2 c9
      refine lv_aload_n hx hb dLaw_432 rfl (lv_at hl 5 rfl) ?_
      refine lv_iconst (v := 0) hx hb dLaw_433 (by decide) ?_
      refine va_lald hx hb hK hP ((wX ca ad s2).length + 0) 4 (px_l (l1 := wW ca ad cj o s2 f3) px_e) rfl (by unfold vp_in; decide) dLaw_434 ?_
      refine lv_iload hx hb dLaw_435 (lv_at hl 0 rfl) ?_
      refine lv_if_eq (tgt := 444) hx hb dLaw_437 (by decide) (fun c10 => ?_) (fun c10 => ?_)
      · have hw := hw.1 c10
        refine lv_lconst (v := 0) hx hb dLaw_444 (by decide) ?_
        refine W.lcmp hx hb dLaw_445 ?_
        refine lv_if_eq (tgt := 451) hx hb dLaw_446 (by decide) (fun c11 => ?_) (fun c11 => ?_)
        · have hw := hw.1 c11
          refine lv_goto (tgt := 900) hx hb dLaw_451 (by decide) ?_
          exact K ad s2 f3 p7 (fun z => h9 (hw.1 z)) hw.2 _ _ hP hD hS ls (lv_sub hl [2, 3, 4, 5, 6] rfl)
        · have hw := hw.2 c11
          refine lv_iconst (v := 0) hx hb dLaw_449 (by decide) ?_
          exact hw.elim
      · have hw := hw.2 c10
        refine lv_lconst (v := 1) hx hb dLaw_440 (by decide) ?_
        refine lv_goto (tgt := 445) hx hb dLaw_441 (by decide) ?_
        refine W.lcmp hx hb dLaw_445 ?_
        refine lv_if_eq (tgt := 451) hx hb dLaw_446 (by decide) (fun c12 => ?_) (fun c12 => ?_)
        · have hw := hw.1 c12
          refine lv_goto (tgt := 900) hx hb dLaw_451 (by decide) ?_
          exact K ad s2 f3 p7 (fun z => h9 (hw.1 z)) hw.2 _ _ hP hD hS ls (lv_sub hl [2, 3, 4, 5, 6] rfl)
        · have hw := hw.2 c12
          refine lv_iconst (v := 0) hx hb dLaw_449 (by decide) ?_
          exact hw.elim
  · have hw := hw.2 c8
    refine lv_iconst (v := 0) hx hb dLaw_425 (by decide) ?_
    exact hw.elim
def wpk_tick (xs : Nat → Int32) (x4 : Int32) (nxt : Sg → (Nat → Int64) → Sm → Prop) (σ : Sg) (f : Nat → Int64) (ρ : Sm) : Prop := wpW_tick (fun r1 s2 f3 => wp_m_tick (fun r4 p5 => wp_m_thrown (fun r6 p7 => (((r6 = r1) → ((¬ (r1 = 0) → ((sC s2 = 0 → sC σ = 0) ∧ nxt s2 f3 p7)) ∧ ((r1 = 0) → ((((lg_cmp (f3 (0 : Int32).toNatClampNeg) r4.toInt64) = 0) → ((sC s2 = 0 → sC σ = 0) ∧ nxt s2 f3 p7)) ∧ (¬ ((lg_cmp (f3 (0 : Int32).toNatClampNeg) r4.toInt64) = 0) → False))))) ∧ (¬ (r6 = r1) → False))) p5 ) ρ (xs (x4 + 1).toNatClampNeg)) σ f (xs (x4 + 1).toNatClampNeg)
set_option maxHeartbeats 4000000 in
set_option maxRecDepth 100000 in
theorem k_tick {p : Program} {l : Launch} {e : Env} {s : State} {m : MethodId} {below : List Frame} {meth : Method} {c : Code} {D : va_G} {ca cm : Nat → ClassId} {cj : ClassId} {am : Nat → Nat → Nat} {o t0 mi b L : Nat} {xs : Nat → Int32} (hx : p.tables.exec = Jvm.exec) (hb : c.code = code) (hml : c.maxLocals = 7) (hown : s.vm.findClass RW = some m.cls) (hts : ∀ w ∈ tbG, w.before #[Value.ref b] s = true) (hX : va_X b L xs s s.heap) (hbl : b < s.heap.size) (hl0 : l.stackTraces = false) (hK : va_K D clX (tyZ ca cj cm) s) (hE : eX (aL s) s) (hN : eN s) (hL : eL t0 mi (aL s) s) (tt : Nat) (htt : tt ≤ 511) (x4 : Int32) (hi0 : vp_in (x4) L) (hi1 : vp_in (x4 + 1) L) (hi2 : vp_in (x4 + 2) L) (hi3 : vp_in (x4 + 3) L) (hi4 : vp_in (x4 + 4) L) {nxt : Sg → (Nat → Int64) → Sm → Prop} (K : ∀ (ad : Nat → Nat → Nat) (σ : Sg) (f : Nat → Int64) (ρ : Sm), (sC σ = 0 → ad 9 0 = t0) → nxt σ f ρ → ∀ (H : Heap) (locs : List Loc), va_P D clX (wZ ca ad cj o cm am σ f ρ) H → va_D (aL s) (wZ ca ad cj o cm am σ f ρ) → va_S (aL s) s.heap H locs → ∀ ls : Array Slot, lv_has ls 7 [(0, .ref b), (1, .ref (ad 0 0)), (2, .ref (am 0 0)), (3, .ref o), (4, .int x4)] → W p l e room_1 s m #[Value.ref b] below meth c H locs (51 + 4 * (tt + 1)) (13856 + 3100 * (tt + 1)) (lw_Z below #[Value.ref b] s) (F0 m 900 ls [])) (ad : Nat → Nat → Nat) (σ : Sg) (f : Nat → Int64) (ρ : Sm) (h9 : sC σ = 0 → ad 9 0 = t0) (hw : wpk_tick xs x4 nxt σ f ρ) : ∀ (H : Heap) (locs : List Loc), va_P D clX (wZ ca ad cj o cm am σ f ρ) H → va_D (aL s) (wZ ca ad cj o cm am σ f ρ) → va_S (aL s) s.heap H locs → ∀ ls : Array Slot, lv_has ls 7 [(0, .ref b), (1, .ref (ad 0 0)), (2, .ref (am 0 0)), (3, .ref o), (4, .int x4)] → W p l e room_1 s m #[Value.ref b] below meth c H locs (51 + 4 * tt) (13856 + 3100 * tt) (lw_Z below #[Value.ref b] s) (F0 m 454 ls []) := by
  intro H locs hP hD hS ls hl
  have hA : ∀ q : Nat, s.heap.size ≤ q → aL s q := fun _ h => h
  have hbA : ¬ aL s b := Nat.not_le.mpr hbl
  have hKw := hK.sub (tys' := tyW ca cj) [0, 1, 2, 3, 4] rfl
  have hKx := hK.sub (tys' := tyA ca) [0, 1, 2, 3] rfl
  have hKm := hK.sub (tys' := tyM9 cm) [5, 6] rfl
  unfold wpk_tick at hw
  refine lv_aload_n hx hb dLaw_454 rfl (lv_at hl 1 rfl) ?_
  refine lv_aload_n hx hb dLaw_455 rfl (lv_at hl 0 rfl) ?_
  refine lv_iload hx hb dLaw_456 (lv_at hl 4 rfl) ?_
  refine lv_iconst (v := 1) hx hb dLaw_458 (by decide) ?_
  refine lv_iadd hx hb dLaw_459 ?_
  refine va_sld hx hb hX hbl hbA hS hi1 dLaw_460 ?_
  refine lv_aload_n hx hb dLaw_461 rfl (lv_at hl 3 rfl) ?_
  have hPc := px_fP hP
  have hDc := px_fD hD
  have hFc := px_free hDc hS hA
  refine va_calli (vx_runSW (As := [.ref (ad 0 0), .int (xs (x4 + 1).toNatClampNeg), .ref o]) (rest := []) ⟨hx, hb, hml, hown, hts⟩ (c_W_tick l D ca ad cj o σ f (xs (x4 + 1).toNatClampNeg) _ _ hl0 hw) (vx_cwSW 3 hts (gS tw_511 tw_512 tw_0 tw_513) rfl rfl rfl (by decide +kernel) ⟨Nat.le_of_ble_eq_true rfl, Nat.le_of_ble_eq_true rfl⟩) ⟨pw_blind, fun U hU hW => pw_pre hPc hKw hDc hE hN hS hFc hU hW⟩ rfl rfl hl.1 rfl (lv_room (Nat.le_of_ble_eq_true rfl)) dLaw_462 ⟨by show 51 + 4 * tt + 1 ≤ 601024; omega, by show 13856 + 3100 * tt + 6 ≤ 7293034; omega⟩) hS (fun q _ h => hFc q h) hFc (fun r1 u9 t H locs ht hvm hw hB _ hk1 hS => ?_)
  obtain ⟨s2, f3⟩ := u9
  obtain ⟨hP1, -, hD1⟩ := hB
  rw [ht] at hP1
  obtain ⟨hP, hD⟩ := px_join hP hD hFc hk1 hP1 hD1
  refine W.widen (k := 51 + 4 * (tt + 1)) (n := 13856 + 3100 * (tt + 1)) (by omega) (by omega) ?_
  refine lv_istore (lv' := [(5, .int r1), (0, .ref b), (1, .ref (ad 0 0)), (2, .ref (am 0 0)), (3, .ref o), (4, .int x4)]) hx hb dLaw_465 hl (by decide) rfl (fun ls hl => ?_)
  refine lv_aload_n hx hb dLaw_467 rfl (lv_at hl 3 rfl) ?_
  refine lv_aload_n hx hb dLaw_468 rfl (lv_at hl 1 rfl) ?_
  refine lv_iload hx hb dLaw_469 (lv_at hl 5 rfl) ?_
  refine lv_iconst (v := 1) hx hb dLaw_471 (by decide) ?_
  refine lv_iadd hx hb dLaw_472 ?_
  refine va_sld hx hb hX hbl hbA hS hi1 dLaw_473 ?_
  have hPc := px_sP hP
  have hDc := px_sD hD
  have hFc := px_free hDc hS hA
  refine va_calli (va_runV (As := [.int (xs (x4 + 1).toNatClampNeg)]) (rest := []) ⟨hx, hb, hml, hown, hts⟩ (c_m_tick l D cm am ρ (xs (x4 + 1).toNatClampNeg) _ _ hw) (cwV 1 hts (gV tw_730 tw_731 tw_732 tw_7 tw_733) rfl rfl rfl (by decide +kernel) ⟨Nat.le_of_ble_eq_true rfl, Nat.le_of_ble_eq_true rfl⟩) ⟨pm_blind, px_recv hKm hPc gM_0 rfl, fun U hU hW => pm_pre hPc hKm hDc trivial hS hFc hU hW⟩ rfl rfl hl.1 rfl (lv_room (Nat.le_of_ble_eq_true rfl)) dLaw_474 ⟨by show 51 + 4 * (tt + 1) + 0 ≤ 601024; omega, by show 13856 + 3100 * (tt + 1) + 0 ≤ 7293034; omega⟩) hS (fun q _ h => hFc q h) hFc (fun r4 u9 t H locs ht hvm hw hB _ hk1 hS => ?_)
  obtain ⟨p5, rfl⟩ : ∃ z, z = u9 := ⟨_, rfl⟩
  obtain ⟨hP1, -, hD1⟩ := hB
  rw [ht] at hP1
  obtain ⟨hP, hD⟩ := px_joinR hP hD hFc hk1 hP1 hD1
  refine W.widen (k := 51 + 4 * (tt + 1)) (n := 13856 + 3100 * (tt + 1)) (by omega) (by omega) ?_
  refine lv_istore (lv' := [(6, .int r4), (5, .int r1), (0, .ref b), (1, .ref (ad 0 0)), (2, .ref (am 0 0)), (3, .ref o), (4, .int x4)]) hx hb dLaw_477 hl (by decide) rfl (fun ls hl => ?_)
  refine lv_aload_n hx hb dLaw_479 rfl (lv_at hl 4 rfl) ?_
  have hPc := px_sP hP
  have hDc := px_sD hD
  have hFc := px_free hDc hS hA
  refine va_calli (va_runV (As := []) (rest := []) ⟨hx, hb, hml, hown, hts⟩ (c_m_thrown l D cm am p5  _ _ hw) (cwV 0 hts (gV tw_671 tw_672 tw_673 tw_7 tw_674) rfl rfl rfl (by decide +kernel) ⟨Nat.le_of_ble_eq_true rfl, Nat.le_of_ble_eq_true rfl⟩) ⟨pm_blind, px_recv hKm hPc gM_0 rfl, fun U hU hW => pm_pre hPc hKm hDc trivial hS hFc hU hW⟩ rfl rfl hl.1 rfl (lv_room (Nat.le_of_ble_eq_true rfl)) dLaw_480 ⟨by show 51 + 4 * (tt + 1) + 0 ≤ 601024; omega, by show 13856 + 3100 * (tt + 1) + 0 ≤ 7293034; omega⟩) hS (fun q _ h => hFc q h) hFc (fun r6 u9 t H locs ht hvm hw hB _ hk1 hS => ?_)
  obtain ⟨p7, rfl⟩ : ∃ z, z = u9 := ⟨_, rfl⟩
  obtain ⟨hP1, -, hD1⟩ := hB
  rw [ht] at hP1
  obtain ⟨hP, hD⟩ := px_joinR hP hD hFc hk1 hP1 hD1
  refine W.widen (k := 51 + 4 * (tt + 1)) (n := 13856 + 3100 * (tt + 1)) (by omega) (by omega) ?_
  refine lv_iload hx hb dLaw_483 (lv_at hl 1 rfl) ?_
  refine lv_icmp_eq (tgt := 490) hx hb dLaw_485 (by decide) (fun c8 => ?_) (fun c8 => ?_)
  · have hw := hw.1 c8
    refine lv_iload hx hb dLaw_490 (lv_at hl 1 rfl) ?_
    refine lv_if_ne (tgt := 507) hx hb dLaw_492 (by decide) (fun c9 => ?_) (fun c9 => ?_)
    · have hw := hw.1 c9
      refine lv_goto (tgt := 900) hx hb dLaw_507 (by decide) ?_
      exact K ad s2 f3 p7 (fun z => h9 (hw.1 z)) hw.2 _ _ hP hD hS ls (lv_sub hl [2, 3, 4, 5, 6] rfl)
    · have hw := hw.2 c9
      refine lv_aload_n hx hb dLaw_495 rfl (lv_at hl 5 rfl) ?_
      refine lv_iconst (v := 0) hx hb dLaw_496 (by decide) ?_
      refine va_lald hx hb hK hP ((wX ca ad s2).length + 0) 4 (px_l (l1 := wW ca ad cj o s2 f3) px_e) rfl (by unfold vp_in; decide) dLaw_497 ?_
      refine lv_iload hx hb dLaw_498 (lv_at hl 0 rfl) ?_
      refine lv_i2l hx hb dLaw_500 rfl ?_
      refine W.lcmp hx hb dLaw_501 ?_
      refine lv_if_eq (tgt := 507) hx hb dLaw_502 (by decide) (fun c10 => ?_) (fun c10 => ?_)
      · have hw := hw.1 c10
        refine lv_goto (tgt := 900) hx hb dLaw_507 (by decide) ?_
        exact K ad s2 f3 p7 (fun z => h9 (hw.1 z)) hw.2 _ _ hP hD hS ls (lv_sub hl [2, 3, 4, 5, 6] rfl)
      · have hw := hw.2 c10
        refine lv_iconst (v := 0) hx hb dLaw_505 (by decide) ?_
        exact hw.elim
  · have hw := hw.2 c8
    refine lv_iconst (v := 0) hx hb dLaw_488 (by decide) ?_
    exact hw.elim
def wpk_client (xs : Nat → Int32) (x4 : Int32) (nxt : Sg → (Nat → Int64) → Sm → Prop) (σ : Sg) (f : Nat → Int64) (ρ : Sm) : Prop := wpW_client (fun r1 s2 f3 => wp_m_client (fun r4 p5 => wp_m_thrown (fun r6 p7 => (((r6 = r1) → ((¬ (r1 = 0) → ((sC s2 = 0 → sC σ = 0) ∧ nxt s2 f3 p7)) ∧ ((r1 = 0) → ((((lg_cmp (f3 (0 : Int32).toNatClampNeg) r4.toInt64) = 0) → ((sC s2 = 0 → sC σ = 0) ∧ nxt s2 f3 p7)) ∧ (¬ ((lg_cmp (f3 (0 : Int32).toNatClampNeg) r4.toInt64) = 0) → False))))) ∧ (¬ (r6 = r1) → False))) p5 ) ρ (xs (x4 + 1).toNatClampNeg) (xs (x4 + 2).toNatClampNeg)) σ f (xs (x4 + 1).toNatClampNeg) (xs (x4 + 2).toNatClampNeg)
set_option maxHeartbeats 4000000 in
set_option maxRecDepth 100000 in
theorem k_client {p : Program} {l : Launch} {e : Env} {s : State} {m : MethodId} {below : List Frame} {meth : Method} {c : Code} {D : va_G} {ca cm : Nat → ClassId} {cj : ClassId} {am : Nat → Nat → Nat} {o t0 mi b L : Nat} {xs : Nat → Int32} (hx : p.tables.exec = Jvm.exec) (hb : c.code = code) (hml : c.maxLocals = 7) (hown : s.vm.findClass RW = some m.cls) (hts : ∀ w ∈ tbG, w.before #[Value.ref b] s = true) (hX : va_X b L xs s s.heap) (hbl : b < s.heap.size) (hl0 : l.stackTraces = false) (hK : va_K D clX (tyZ ca cj cm) s) (hE : eX (aL s) s) (hN : eN s) (hL : eL t0 mi (aL s) s) (tt : Nat) (htt : tt ≤ 511) (x4 : Int32) (hi0 : vp_in (x4) L) (hi1 : vp_in (x4 + 1) L) (hi2 : vp_in (x4 + 2) L) (hi3 : vp_in (x4 + 3) L) (hi4 : vp_in (x4 + 4) L) {nxt : Sg → (Nat → Int64) → Sm → Prop} (K : ∀ (ad : Nat → Nat → Nat) (σ : Sg) (f : Nat → Int64) (ρ : Sm), (sC σ = 0 → ad 9 0 = t0) → nxt σ f ρ → ∀ (H : Heap) (locs : List Loc), va_P D clX (wZ ca ad cj o cm am σ f ρ) H → va_D (aL s) (wZ ca ad cj o cm am σ f ρ) → va_S (aL s) s.heap H locs → ∀ ls : Array Slot, lv_has ls 7 [(0, .ref b), (1, .ref (ad 0 0)), (2, .ref (am 0 0)), (3, .ref o), (4, .int x4)] → W p l e room_1 s m #[Value.ref b] below meth c H locs (51 + 4 * (tt + 1)) (13856 + 3100 * (tt + 1)) (lw_Z below #[Value.ref b] s) (F0 m 900 ls [])) (ad : Nat → Nat → Nat) (σ : Sg) (f : Nat → Int64) (ρ : Sm) (h9 : sC σ = 0 → ad 9 0 = t0) (hw : wpk_client xs x4 nxt σ f ρ) : ∀ (H : Heap) (locs : List Loc), va_P D clX (wZ ca ad cj o cm am σ f ρ) H → va_D (aL s) (wZ ca ad cj o cm am σ f ρ) → va_S (aL s) s.heap H locs → ∀ ls : Array Slot, lv_has ls 7 [(0, .ref b), (1, .ref (ad 0 0)), (2, .ref (am 0 0)), (3, .ref o), (4, .int x4)] → W p l e room_1 s m #[Value.ref b] below meth c H locs (51 + 4 * tt) (13856 + 3100 * tt) (lw_Z below #[Value.ref b] s) (F0 m 510 ls []) := by
  intro H locs hP hD hS ls hl
  have hA : ∀ q : Nat, s.heap.size ≤ q → aL s q := fun _ h => h
  have hbA : ¬ aL s b := Nat.not_le.mpr hbl
  have hKw := hK.sub (tys' := tyW ca cj) [0, 1, 2, 3, 4] rfl
  have hKx := hK.sub (tys' := tyA ca) [0, 1, 2, 3] rfl
  have hKm := hK.sub (tys' := tyM9 cm) [5, 6] rfl
  unfold wpk_client at hw
  refine lv_aload_n hx hb dLaw_510 rfl (lv_at hl 1 rfl) ?_
  refine lv_aload_n hx hb dLaw_511 rfl (lv_at hl 0 rfl) ?_
  refine lv_iload hx hb dLaw_512 (lv_at hl 4 rfl) ?_
  refine lv_iconst (v := 1) hx hb dLaw_514 (by decide) ?_
  refine lv_iadd hx hb dLaw_515 ?_
  refine va_sld hx hb hX hbl hbA hS hi1 dLaw_516 ?_
  refine lv_aload_n hx hb dLaw_517 rfl (lv_at hl 0 rfl) ?_
  refine lv_iload hx hb dLaw_518 (lv_at hl 4 rfl) ?_
  refine lv_iconst (v := 2) hx hb dLaw_520 (by decide) ?_
  refine lv_iadd hx hb dLaw_521 ?_
  refine va_sld hx hb hX hbl hbA hS hi2 dLaw_522 ?_
  refine lv_aload_n hx hb dLaw_523 rfl (lv_at hl 3 rfl) ?_
  have hPc := px_fP hP
  have hDc := px_fD hD
  have hFc := px_free hDc hS hA
  refine va_calli (vx_runSW (As := [.ref (ad 0 0), .int (xs (x4 + 1).toNatClampNeg), .int (xs (x4 + 2).toNatClampNeg), .ref o]) (rest := []) ⟨hx, hb, hml, hown, hts⟩ (c_W_client l D ca ad cj o σ f (xs (x4 + 1).toNatClampNeg) (xs (x4 + 2).toNatClampNeg) _ _ hl0 hw) (vx_cwSW 4 hts (gS tw_531 tw_532 tw_0 tw_533) rfl rfl rfl (by decide +kernel) ⟨Nat.le_of_ble_eq_true rfl, Nat.le_of_ble_eq_true rfl⟩) ⟨pw_blind, fun U hU hW => pw_pre hPc hKw hDc hE hN hS hFc hU hW⟩ rfl rfl hl.1 rfl (lv_room (Nat.le_of_ble_eq_true rfl)) dLaw_524 ⟨by show 51 + 4 * tt + 2 ≤ 601024; omega, by show 13856 + 3100 * tt + 12 ≤ 7293034; omega⟩) hS (fun q _ h => hFc q h) hFc (fun r1 u9 t H locs ht hvm hw hB _ hk1 hS => ?_)
  obtain ⟨s2, f3⟩ := u9
  obtain ⟨hP1, -, hD1⟩ := hB
  rw [ht] at hP1
  obtain ⟨hP, hD⟩ := px_join hP hD hFc hk1 hP1 hD1
  refine W.widen (k := 51 + 4 * (tt + 1)) (n := 13856 + 3100 * (tt + 1)) (by omega) (by omega) ?_
  refine lv_istore (lv' := [(5, .int r1), (0, .ref b), (1, .ref (ad 0 0)), (2, .ref (am 0 0)), (3, .ref o), (4, .int x4)]) hx hb dLaw_527 hl (by decide) rfl (fun ls hl => ?_)
  refine lv_aload_n hx hb dLaw_529 rfl (lv_at hl 3 rfl) ?_
  refine lv_aload_n hx hb dLaw_530 rfl (lv_at hl 1 rfl) ?_
  refine lv_iload hx hb dLaw_531 (lv_at hl 5 rfl) ?_
  refine lv_iconst (v := 1) hx hb dLaw_533 (by decide) ?_
  refine lv_iadd hx hb dLaw_534 ?_
  refine va_sld hx hb hX hbl hbA hS hi1 dLaw_535 ?_
  refine lv_aload_n hx hb dLaw_536 rfl (lv_at hl 1 rfl) ?_
  refine lv_iload hx hb dLaw_537 (lv_at hl 5 rfl) ?_
  refine lv_iconst (v := 2) hx hb dLaw_539 (by decide) ?_
  refine lv_iadd hx hb dLaw_540 ?_
  refine va_sld hx hb hX hbl hbA hS hi2 dLaw_541 ?_
  have hPc := px_sP hP
  have hDc := px_sD hD
  have hFc := px_free hDc hS hA
  refine va_calli (va_runV (As := [.int (xs (x4 + 1).toNatClampNeg), .int (xs (x4 + 2).toNatClampNeg)]) (rest := []) ⟨hx, hb, hml, hown, hts⟩ (c_m_client l D cm am ρ (xs (x4 + 1).toNatClampNeg) (xs (x4 + 2).toNatClampNeg) _ _ hw) (cwV 2 hts (gV tw_738 tw_739 tw_740 tw_7 tw_741) rfl rfl rfl (by decide +kernel) ⟨Nat.le_of_ble_eq_true rfl, Nat.le_of_ble_eq_true rfl⟩) ⟨pm_blind, px_recv hKm hPc gM_0 rfl, fun U hU hW => pm_pre hPc hKm hDc trivial hS hFc hU hW⟩ rfl rfl hl.1 rfl (lv_room (Nat.le_of_ble_eq_true rfl)) dLaw_542 ⟨by show 51 + 4 * (tt + 1) + 0 ≤ 601024; omega, by show 13856 + 3100 * (tt + 1) + 0 ≤ 7293034; omega⟩) hS (fun q _ h => hFc q h) hFc (fun r4 u9 t H locs ht hvm hw hB _ hk1 hS => ?_)
  obtain ⟨p5, rfl⟩ : ∃ z, z = u9 := ⟨_, rfl⟩
  obtain ⟨hP1, -, hD1⟩ := hB
  rw [ht] at hP1
  obtain ⟨hP, hD⟩ := px_joinR hP hD hFc hk1 hP1 hD1
  refine W.widen (k := 51 + 4 * (tt + 1)) (n := 13856 + 3100 * (tt + 1)) (by omega) (by omega) ?_
  refine lv_istore (lv' := [(6, .int r4), (5, .int r1), (0, .ref b), (1, .ref (ad 0 0)), (2, .ref (am 0 0)), (3, .ref o), (4, .int x4)]) hx hb dLaw_545 hl (by decide) rfl (fun ls hl => ?_)
  refine lv_aload_n hx hb dLaw_547 rfl (lv_at hl 4 rfl) ?_
  have hPc := px_sP hP
  have hDc := px_sD hD
  have hFc := px_free hDc hS hA
  refine va_calli (va_runV (As := []) (rest := []) ⟨hx, hb, hml, hown, hts⟩ (c_m_thrown l D cm am p5  _ _ hw) (cwV 0 hts (gV tw_671 tw_672 tw_673 tw_7 tw_674) rfl rfl rfl (by decide +kernel) ⟨Nat.le_of_ble_eq_true rfl, Nat.le_of_ble_eq_true rfl⟩) ⟨pm_blind, px_recv hKm hPc gM_0 rfl, fun U hU hW => pm_pre hPc hKm hDc trivial hS hFc hU hW⟩ rfl rfl hl.1 rfl (lv_room (Nat.le_of_ble_eq_true rfl)) dLaw_548 ⟨by show 51 + 4 * (tt + 1) + 0 ≤ 601024; omega, by show 13856 + 3100 * (tt + 1) + 0 ≤ 7293034; omega⟩) hS (fun q _ h => hFc q h) hFc (fun r6 u9 t H locs ht hvm hw hB _ hk1 hS => ?_)
  obtain ⟨p7, rfl⟩ : ∃ z, z = u9 := ⟨_, rfl⟩
  obtain ⟨hP1, -, hD1⟩ := hB
  rw [ht] at hP1
  obtain ⟨hP, hD⟩ := px_joinR hP hD hFc hk1 hP1 hD1
  refine W.widen (k := 51 + 4 * (tt + 1)) (n := 13856 + 3100 * (tt + 1)) (by omega) (by omega) ?_
  refine lv_iload hx hb dLaw_551 (lv_at hl 1 rfl) ?_
  refine lv_icmp_eq (tgt := 558) hx hb dLaw_553 (by decide) (fun c8 => ?_) (fun c8 => ?_)
  · have hw := hw.1 c8
    refine lv_iload hx hb dLaw_558 (lv_at hl 1 rfl) ?_
    refine lv_if_ne (tgt := 575) hx hb dLaw_560 (by decide) (fun c9 => ?_) (fun c9 => ?_)
    · have hw := hw.1 c9
      refine lv_goto (tgt := 900) hx hb dLaw_575 (by decide) ?_
      exact K ad s2 f3 p7 (fun z => h9 (hw.1 z)) hw.2 _ _ hP hD hS ls (lv_sub hl [2, 3, 4, 5, 6] rfl)
    · have hw := hw.2 c9
      refine lv_aload_n hx hb dLaw_563 rfl (lv_at hl 5 rfl) ?_
      refine lv_iconst (v := 0) hx hb dLaw_564 (by decide) ?_
      refine va_lald hx hb hK hP ((wX ca ad s2).length + 0) 4 (px_l (l1 := wW ca ad cj o s2 f3) px_e) rfl (by unfold vp_in; decide) dLaw_565 ?_
      refine lv_iload hx hb dLaw_566 (lv_at hl 0 rfl) ?_
      refine lv_i2l hx hb dLaw_568 rfl ?_
      refine W.lcmp hx hb dLaw_569 ?_
      refine lv_if_eq (tgt := 575) hx hb dLaw_570 (by decide) (fun c10 => ?_) (fun c10 => ?_)
      · have hw := hw.1 c10
        refine lv_goto (tgt := 900) hx hb dLaw_575 (by decide) ?_
        exact K ad s2 f3 p7 (fun z => h9 (hw.1 z)) hw.2 _ _ hP hD hS ls (lv_sub hl [2, 3, 4, 5, 6] rfl)
      · have hw := hw.2 c10
        refine lv_iconst (v := 0) hx hb dLaw_573 (by decide) ?_
        exact hw.elim
  · have hw := hw.2 c8
    refine lv_iconst (v := 0) hx hb dLaw_556 (by decide) ?_
    exact hw.elim
def wpk_request (xs : Nat → Int32) (x4 : Int32) (nxt : Sg → (Nat → Int64) → Sm → Prop) (σ : Sg) (f : Nat → Int64) (ρ : Sm) : Prop := wp_request (fun r1 s2 => wp_m_request (fun r3 p4 => (((r1 = r3) → ((sC s2 = 0 → sC σ = 0) ∧ nxt s2 f p4)) ∧ (¬ (r1 = r3) → False))) ρ (xs (x4 + 1).toNatClampNeg) (xs (x4 + 2).toNatClampNeg)) σ (xs (x4 + 1).toNatClampNeg) (xs (x4 + 2).toNatClampNeg)
set_option maxHeartbeats 4000000 in
set_option maxRecDepth 100000 in
theorem k_request {p : Program} {l : Launch} {e : Env} {s : State} {m : MethodId} {below : List Frame} {meth : Method} {c : Code} {D : va_G} {ca cm : Nat → ClassId} {cj : ClassId} {am : Nat → Nat → Nat} {o t0 mi b L : Nat} {xs : Nat → Int32} (hx : p.tables.exec = Jvm.exec) (hb : c.code = code) (hml : c.maxLocals = 7) (hown : s.vm.findClass RW = some m.cls) (hts : ∀ w ∈ tbG, w.before #[Value.ref b] s = true) (hX : va_X b L xs s s.heap) (hbl : b < s.heap.size) (hl0 : l.stackTraces = false) (hK : va_K D clX (tyZ ca cj cm) s) (hE : eX (aL s) s) (hN : eN s) (hL : eL t0 mi (aL s) s) (tt : Nat) (htt : tt ≤ 511) (x4 : Int32) (hi0 : vp_in (x4) L) (hi1 : vp_in (x4 + 1) L) (hi2 : vp_in (x4 + 2) L) (hi3 : vp_in (x4 + 3) L) (hi4 : vp_in (x4 + 4) L) {nxt : Sg → (Nat → Int64) → Sm → Prop} (K : ∀ (ad : Nat → Nat → Nat) (σ : Sg) (f : Nat → Int64) (ρ : Sm), (sC σ = 0 → ad 9 0 = t0) → nxt σ f ρ → ∀ (H : Heap) (locs : List Loc), va_P D clX (wZ ca ad cj o cm am σ f ρ) H → va_D (aL s) (wZ ca ad cj o cm am σ f ρ) → va_S (aL s) s.heap H locs → ∀ ls : Array Slot, lv_has ls 7 [(0, .ref b), (1, .ref (ad 0 0)), (2, .ref (am 0 0)), (3, .ref o), (4, .int x4)] → W p l e room_1 s m #[Value.ref b] below meth c H locs (51 + 4 * (tt + 1)) (13856 + 3100 * (tt + 1)) (lw_Z below #[Value.ref b] s) (F0 m 900 ls [])) (ad : Nat → Nat → Nat) (σ : Sg) (f : Nat → Int64) (ρ : Sm) (h9 : sC σ = 0 → ad 9 0 = t0) (hw : wpk_request xs x4 nxt σ f ρ) : ∀ (H : Heap) (locs : List Loc), va_P D clX (wZ ca ad cj o cm am σ f ρ) H → va_D (aL s) (wZ ca ad cj o cm am σ f ρ) → va_S (aL s) s.heap H locs → ∀ ls : Array Slot, lv_has ls 7 [(0, .ref b), (1, .ref (ad 0 0)), (2, .ref (am 0 0)), (3, .ref o), (4, .int x4)] → W p l e room_1 s m #[Value.ref b] below meth c H locs (51 + 4 * tt) (13856 + 3100 * tt) (lw_Z below #[Value.ref b] s) (F0 m 578 ls []) := by
  intro H locs hP hD hS ls hl
  have hA : ∀ q : Nat, s.heap.size ≤ q → aL s q := fun _ h => h
  have hbA : ¬ aL s b := Nat.not_le.mpr hbl
  have hKw := hK.sub (tys' := tyW ca cj) [0, 1, 2, 3, 4] rfl
  have hKx := hK.sub (tys' := tyA ca) [0, 1, 2, 3] rfl
  have hKm := hK.sub (tys' := tyM9 cm) [5, 6] rfl
  unfold wpk_request at hw
  refine lv_aload_n hx hb dLaw_578 rfl (lv_at hl 1 rfl) ?_
  refine lv_aload_n hx hb dLaw_579 rfl (lv_at hl 0 rfl) ?_
  refine lv_iload hx hb dLaw_580 (lv_at hl 4 rfl) ?_
  refine lv_iconst (v := 1) hx hb dLaw_582 (by decide) ?_
  refine lv_iadd hx hb dLaw_583 ?_
  refine va_sld hx hb hX hbl hbA hS hi1 dLaw_584 ?_
  refine lv_aload_n hx hb dLaw_585 rfl (lv_at hl 0 rfl) ?_
  refine lv_iload hx hb dLaw_586 (lv_at hl 4 rfl) ?_
  refine lv_iconst (v := 2) hx hb dLaw_588 (by decide) ?_
  refine lv_iadd hx hb dLaw_589 ?_
  refine va_sld hx hb hX hbl hbA hS hi2 dLaw_590 ?_
  rw [wZ_a] at hP hD
  have hPc := px_fP hP
  have hDc := px_fD hD
  have hFc := px_free hDc hS hA
  refine va_calli (va_runV (As := [.int (xs (x4 + 1).toNatClampNeg), .int (xs (x4 + 2).toNatClampNeg)]) (rest := []) ⟨hx, hb, hml, hown, hts⟩ (c_request l D ca ad σ (xs (x4 + 1).toNatClampNeg) (xs (x4 + 2).toNatClampNeg) _ _ hw) (cwV 2 hts (gV tw_175 tw_176 tw_177 tw_1 tw_178) rfl rfl rfl (by decide +kernel) ⟨Nat.le_of_ble_eq_true rfl, Nat.le_of_ble_eq_true rfl⟩) ⟨px_blind, px_recv hKx hPc gX_0 rfl, fun U hU hW => px_pre hPc hKx hDc hE hS hFc hU hW⟩ rfl rfl hl.1 rfl (lv_room (Nat.le_of_ble_eq_true rfl)) dLaw_591 ⟨by show 51 + 4 * tt + 0 ≤ 601024; omega, by show 13856 + 3100 * tt + 0 ≤ 7293034; omega⟩) hS (fun q _ h => hFc q h) hFc (fun r1 u9 t H locs ht hvm hw hB _ hk1 hS => ?_)
  obtain ⟨s2, rfl⟩ : ∃ z, z = u9 := ⟨_, rfl⟩
  obtain ⟨hP1, -, hD1⟩ := hB
  rw [ht] at hP1
  obtain ⟨hP, hD⟩ := px_join hP hD hFc hk1 hP1 hD1
  rw [← wZ_a] at hP hD
  refine W.widen (k := 51 + 4 * tt) (n := 13856 + 3100 * tt) (by omega) (by omega) ?_
  refine lv_aload_n hx hb dLaw_594 rfl (lv_at hl 2 rfl) ?_
  refine lv_aload_n hx hb dLaw_595 rfl (lv_at hl 0 rfl) ?_
  refine lv_iload hx hb dLaw_596 (lv_at hl 4 rfl) ?_
  refine lv_iconst (v := 1) hx hb dLaw_598 (by decide) ?_
  refine lv_iadd hx hb dLaw_599 ?_
  refine va_sld hx hb hX hbl hbA hS hi1 dLaw_600 ?_
  refine lv_aload_n hx hb dLaw_601 rfl (lv_at hl 0 rfl) ?_
  refine lv_iload hx hb dLaw_602 (lv_at hl 4 rfl) ?_
  refine lv_iconst (v := 2) hx hb dLaw_604 (by decide) ?_
  refine lv_iadd hx hb dLaw_605 ?_
  refine va_sld hx hb hX hbl hbA hS hi2 dLaw_606 ?_
  have hPc := px_sP hP
  have hDc := px_sD hD
  have hFc := px_free hDc hS hA
  refine va_calli (va_runV (As := [.int (xs (x4 + 1).toNatClampNeg), .int (xs (x4 + 2).toNatClampNeg)]) (rest := [.int r1]) ⟨hx, hb, hml, hown, hts⟩ (c_m_request l D cm am ρ (xs (x4 + 1).toNatClampNeg) (xs (x4 + 2).toNatClampNeg) _ _ hw) (cwV 2 hts (gV tw_742 tw_743 tw_744 tw_7 tw_745) rfl rfl rfl (by decide +kernel) ⟨Nat.le_of_ble_eq_true rfl, Nat.le_of_ble_eq_true rfl⟩) ⟨pm_blind, px_recv hKm hPc gM_0 rfl, fun U hU hW => pm_pre hPc hKm hDc trivial hS hFc hU hW⟩ rfl rfl hl.1 rfl (lv_room (Nat.le_of_ble_eq_true rfl)) dLaw_607 ⟨by show 51 + 4 * tt + 0 ≤ 601024; omega, by show 13856 + 3100 * tt + 0 ≤ 7293034; omega⟩) hS (fun q _ h => hFc q h) hFc (fun r3 u9 t H locs ht hvm hw hB _ hk1 hS => ?_)
  obtain ⟨p4, rfl⟩ : ∃ z, z = u9 := ⟨_, rfl⟩
  obtain ⟨hP1, -, hD1⟩ := hB
  rw [ht] at hP1
  obtain ⟨hP, hD⟩ := px_joinR hP hD hFc hk1 hP1 hD1
  refine W.widen (k := 51 + 4 * tt) (n := 13856 + 3100 * tt) (by omega) (by omega) ?_
  refine lv_icmp_eq (tgt := 900) hx hb dLaw_610 (by decide) (fun c5 => ?_) (fun c5 => ?_)
  · have hw := hw.1 c5
    refine W.widen (k := 51 + 4 * (tt + 1)) (n := 13856 + 3100 * (tt + 1)) (by omega) (by omega) ?_
    exact K ad s2 f p4 (fun z => h9 (hw.1 z)) hw.2 _ _ hP hD hS ls (lv_sub hl [0, 1, 2, 3, 4] rfl)
  · have hw := hw.2 c5
    refine lv_iconst (v := 0) hx hb dLaw_613 (by decide) ?_
    exact hw.elim
def wpk_dataAt (xs : Nat → Int32) (x4 : Int32) (nxt : Sg → (Nat → Int64) → Sm → Prop) (σ : Sg) (f : Nat → Int64) (ρ : Sm) : Prop := wpW_dataAt (fun r1 s2 f3 => wp_m_dataAt (fun r4 p5 => wp_m_thrown (fun r6 p7 => (((r6 = r1) → ((¬ (r1 = 0) → ((sC s2 = 0 → sC σ = 0) ∧ nxt s2 f3 p7)) ∧ ((r1 = 0) → ((((lg_cmp (f3 (0 : Int32).toNatClampNeg) r4.toInt64) = 0) → ((sC s2 = 0 → sC σ = 0) ∧ nxt s2 f3 p7)) ∧ (¬ ((lg_cmp (f3 (0 : Int32).toNatClampNeg) r4.toInt64) = 0) → False))))) ∧ (¬ (r6 = r1) → False))) p5 ) ρ (xs (x4 + 1).toNatClampNeg) (xs (x4 + 2).toNatClampNeg)) σ f (xs (x4 + 1).toNatClampNeg) (xs (x4 + 2).toNatClampNeg)
set_option maxHeartbeats 4000000 in
set_option maxRecDepth 100000 in
theorem k_dataAt {p : Program} {l : Launch} {e : Env} {s : State} {m : MethodId} {below : List Frame} {meth : Method} {c : Code} {D : va_G} {ca cm : Nat → ClassId} {cj : ClassId} {am : Nat → Nat → Nat} {o t0 mi b L : Nat} {xs : Nat → Int32} (hx : p.tables.exec = Jvm.exec) (hb : c.code = code) (hml : c.maxLocals = 7) (hown : s.vm.findClass RW = some m.cls) (hts : ∀ w ∈ tbG, w.before #[Value.ref b] s = true) (hX : va_X b L xs s s.heap) (hbl : b < s.heap.size) (hl0 : l.stackTraces = false) (hK : va_K D clX (tyZ ca cj cm) s) (hE : eX (aL s) s) (hN : eN s) (hL : eL t0 mi (aL s) s) (tt : Nat) (htt : tt ≤ 511) (x4 : Int32) (hi0 : vp_in (x4) L) (hi1 : vp_in (x4 + 1) L) (hi2 : vp_in (x4 + 2) L) (hi3 : vp_in (x4 + 3) L) (hi4 : vp_in (x4 + 4) L) {nxt : Sg → (Nat → Int64) → Sm → Prop} (K : ∀ (ad : Nat → Nat → Nat) (σ : Sg) (f : Nat → Int64) (ρ : Sm), (sC σ = 0 → ad 9 0 = t0) → nxt σ f ρ → ∀ (H : Heap) (locs : List Loc), va_P D clX (wZ ca ad cj o cm am σ f ρ) H → va_D (aL s) (wZ ca ad cj o cm am σ f ρ) → va_S (aL s) s.heap H locs → ∀ ls : Array Slot, lv_has ls 7 [(0, .ref b), (1, .ref (ad 0 0)), (2, .ref (am 0 0)), (3, .ref o), (4, .int x4)] → W p l e room_1 s m #[Value.ref b] below meth c H locs (51 + 4 * (tt + 1)) (13856 + 3100 * (tt + 1)) (lw_Z below #[Value.ref b] s) (F0 m 900 ls [])) (ad : Nat → Nat → Nat) (σ : Sg) (f : Nat → Int64) (ρ : Sm) (h9 : sC σ = 0 → ad 9 0 = t0) (hw : wpk_dataAt xs x4 nxt σ f ρ) : ∀ (H : Heap) (locs : List Loc), va_P D clX (wZ ca ad cj o cm am σ f ρ) H → va_D (aL s) (wZ ca ad cj o cm am σ f ρ) → va_S (aL s) s.heap H locs → ∀ ls : Array Slot, lv_has ls 7 [(0, .ref b), (1, .ref (ad 0 0)), (2, .ref (am 0 0)), (3, .ref o), (4, .int x4)] → W p l e room_1 s m #[Value.ref b] below meth c H locs (51 + 4 * tt) (13856 + 3100 * tt) (lw_Z below #[Value.ref b] s) (F0 m 615 ls []) := by
  intro H locs hP hD hS ls hl
  have hA : ∀ q : Nat, s.heap.size ≤ q → aL s q := fun _ h => h
  have hbA : ¬ aL s b := Nat.not_le.mpr hbl
  have hKw := hK.sub (tys' := tyW ca cj) [0, 1, 2, 3, 4] rfl
  have hKx := hK.sub (tys' := tyA ca) [0, 1, 2, 3] rfl
  have hKm := hK.sub (tys' := tyM9 cm) [5, 6] rfl
  unfold wpk_dataAt at hw
  refine lv_aload_n hx hb dLaw_615 rfl (lv_at hl 1 rfl) ?_
  refine lv_aload_n hx hb dLaw_616 rfl (lv_at hl 0 rfl) ?_
  refine lv_iload hx hb dLaw_617 (lv_at hl 4 rfl) ?_
  refine lv_iconst (v := 1) hx hb dLaw_619 (by decide) ?_
  refine lv_iadd hx hb dLaw_620 ?_
  refine va_sld hx hb hX hbl hbA hS hi1 dLaw_621 ?_
  refine lv_aload_n hx hb dLaw_622 rfl (lv_at hl 0 rfl) ?_
  refine lv_iload hx hb dLaw_623 (lv_at hl 4 rfl) ?_
  refine lv_iconst (v := 2) hx hb dLaw_625 (by decide) ?_
  refine lv_iadd hx hb dLaw_626 ?_
  refine va_sld hx hb hX hbl hbA hS hi2 dLaw_627 ?_
  refine lv_aload_n hx hb dLaw_628 rfl (lv_at hl 3 rfl) ?_
  have hPc := px_fP hP
  have hDc := px_fD hD
  have hFc := px_free hDc hS hA
  refine va_calli (vx_runSW (As := [.ref (ad 0 0), .int (xs (x4 + 1).toNatClampNeg), .int (xs (x4 + 2).toNatClampNeg), .ref o]) (rest := []) ⟨hx, hb, hml, hown, hts⟩ (c_W_dataAt l D ca ad cj o σ f (xs (x4 + 1).toNatClampNeg) (xs (x4 + 2).toNatClampNeg) _ _ hl0 hw) (vx_cwSW 4 hts (gS tw_539 tw_540 tw_0 tw_541) rfl rfl rfl (by decide +kernel) ⟨Nat.le_of_ble_eq_true rfl, Nat.le_of_ble_eq_true rfl⟩) ⟨pw_blind, fun U hU hW => pw_pre hPc hKw hDc hE hN hS hFc hU hW⟩ rfl rfl hl.1 rfl (lv_room (Nat.le_of_ble_eq_true rfl)) dLaw_629 ⟨by show 51 + 4 * tt + 2 ≤ 601024; omega, by show 13856 + 3100 * tt + 12 ≤ 7293034; omega⟩) hS (fun q _ h => hFc q h) hFc (fun r1 u9 t H locs ht hvm hw hB _ hk1 hS => ?_)
  obtain ⟨s2, f3⟩ := u9
  obtain ⟨hP1, -, hD1⟩ := hB
  rw [ht] at hP1
  obtain ⟨hP, hD⟩ := px_join hP hD hFc hk1 hP1 hD1
  refine W.widen (k := 51 + 4 * (tt + 1)) (n := 13856 + 3100 * (tt + 1)) (by omega) (by omega) ?_
  refine lv_istore (lv' := [(5, .int r1), (0, .ref b), (1, .ref (ad 0 0)), (2, .ref (am 0 0)), (3, .ref o), (4, .int x4)]) hx hb dLaw_632 hl (by decide) rfl (fun ls hl => ?_)
  refine lv_aload_n hx hb dLaw_634 rfl (lv_at hl 3 rfl) ?_
  refine lv_aload_n hx hb dLaw_635 rfl (lv_at hl 1 rfl) ?_
  refine lv_iload hx hb dLaw_636 (lv_at hl 5 rfl) ?_
  refine lv_iconst (v := 1) hx hb dLaw_638 (by decide) ?_
  refine lv_iadd hx hb dLaw_639 ?_
  refine va_sld hx hb hX hbl hbA hS hi1 dLaw_640 ?_
  refine lv_aload_n hx hb dLaw_641 rfl (lv_at hl 1 rfl) ?_
  refine lv_iload hx hb dLaw_642 (lv_at hl 5 rfl) ?_
  refine lv_iconst (v := 2) hx hb dLaw_644 (by decide) ?_
  refine lv_iadd hx hb dLaw_645 ?_
  refine va_sld hx hb hX hbl hbA hS hi2 dLaw_646 ?_
  have hPc := px_sP hP
  have hDc := px_sD hD
  have hFc := px_free hDc hS hA
  refine va_calli (va_runV (As := [.int (xs (x4 + 1).toNatClampNeg), .int (xs (x4 + 2).toNatClampNeg)]) (rest := []) ⟨hx, hb, hml, hown, hts⟩ (c_m_dataAt l D cm am ρ (xs (x4 + 1).toNatClampNeg) (xs (x4 + 2).toNatClampNeg) _ _ hw) (cwV 2 hts (gV tw_746 tw_747 tw_748 tw_7 tw_749) rfl rfl rfl (by decide +kernel) ⟨Nat.le_of_ble_eq_true rfl, Nat.le_of_ble_eq_true rfl⟩) ⟨pm_blind, px_recv hKm hPc gM_0 rfl, fun U hU hW => pm_pre hPc hKm hDc trivial hS hFc hU hW⟩ rfl rfl hl.1 rfl (lv_room (Nat.le_of_ble_eq_true rfl)) dLaw_647 ⟨by show 51 + 4 * (tt + 1) + 0 ≤ 601024; omega, by show 13856 + 3100 * (tt + 1) + 0 ≤ 7293034; omega⟩) hS (fun q _ h => hFc q h) hFc (fun r4 u9 t H locs ht hvm hw hB _ hk1 hS => ?_)
  obtain ⟨p5, rfl⟩ : ∃ z, z = u9 := ⟨_, rfl⟩
  obtain ⟨hP1, -, hD1⟩ := hB
  rw [ht] at hP1
  obtain ⟨hP, hD⟩ := px_joinR hP hD hFc hk1 hP1 hD1
  refine W.widen (k := 51 + 4 * (tt + 1)) (n := 13856 + 3100 * (tt + 1)) (by omega) (by omega) ?_
  refine lv_istore (lv' := [(6, .int r4), (5, .int r1), (0, .ref b), (1, .ref (ad 0 0)), (2, .ref (am 0 0)), (3, .ref o), (4, .int x4)]) hx hb dLaw_650 hl (by decide) rfl (fun ls hl => ?_)
  refine lv_aload_n hx hb dLaw_652 rfl (lv_at hl 4 rfl) ?_
  have hPc := px_sP hP
  have hDc := px_sD hD
  have hFc := px_free hDc hS hA
  refine va_calli (va_runV (As := []) (rest := []) ⟨hx, hb, hml, hown, hts⟩ (c_m_thrown l D cm am p5  _ _ hw) (cwV 0 hts (gV tw_671 tw_672 tw_673 tw_7 tw_674) rfl rfl rfl (by decide +kernel) ⟨Nat.le_of_ble_eq_true rfl, Nat.le_of_ble_eq_true rfl⟩) ⟨pm_blind, px_recv hKm hPc gM_0 rfl, fun U hU hW => pm_pre hPc hKm hDc trivial hS hFc hU hW⟩ rfl rfl hl.1 rfl (lv_room (Nat.le_of_ble_eq_true rfl)) dLaw_653 ⟨by show 51 + 4 * (tt + 1) + 0 ≤ 601024; omega, by show 13856 + 3100 * (tt + 1) + 0 ≤ 7293034; omega⟩) hS (fun q _ h => hFc q h) hFc (fun r6 u9 t H locs ht hvm hw hB _ hk1 hS => ?_)
  obtain ⟨p7, rfl⟩ : ∃ z, z = u9 := ⟨_, rfl⟩
  obtain ⟨hP1, -, hD1⟩ := hB
  rw [ht] at hP1
  obtain ⟨hP, hD⟩ := px_joinR hP hD hFc hk1 hP1 hD1
  refine W.widen (k := 51 + 4 * (tt + 1)) (n := 13856 + 3100 * (tt + 1)) (by omega) (by omega) ?_
  refine lv_iload hx hb dLaw_656 (lv_at hl 1 rfl) ?_
  refine lv_icmp_eq (tgt := 663) hx hb dLaw_658 (by decide) (fun c8 => ?_) (fun c8 => ?_)
  · have hw := hw.1 c8
    refine lv_iload hx hb dLaw_663 (lv_at hl 1 rfl) ?_
    refine lv_if_ne (tgt := 680) hx hb dLaw_665 (by decide) (fun c9 => ?_) (fun c9 => ?_)
    · have hw := hw.1 c9
      refine lv_goto (tgt := 900) hx hb dLaw_680 (by decide) ?_
      exact K ad s2 f3 p7 (fun z => h9 (hw.1 z)) hw.2 _ _ hP hD hS ls (lv_sub hl [2, 3, 4, 5, 6] rfl)
    · have hw := hw.2 c9
      refine lv_aload_n hx hb dLaw_668 rfl (lv_at hl 5 rfl) ?_
      refine lv_iconst (v := 0) hx hb dLaw_669 (by decide) ?_
      refine va_lald hx hb hK hP ((wX ca ad s2).length + 0) 4 (px_l (l1 := wW ca ad cj o s2 f3) px_e) rfl (by unfold vp_in; decide) dLaw_670 ?_
      refine lv_iload hx hb dLaw_671 (lv_at hl 0 rfl) ?_
      refine lv_i2l hx hb dLaw_673 rfl ?_
      refine W.lcmp hx hb dLaw_674 ?_
      refine lv_if_eq (tgt := 680) hx hb dLaw_675 (by decide) (fun c10 => ?_) (fun c10 => ?_)
      · have hw := hw.1 c10
        refine lv_goto (tgt := 900) hx hb dLaw_680 (by decide) ?_
        exact K ad s2 f3 p7 (fun z => h9 (hw.1 z)) hw.2 _ _ hP hD hS ls (lv_sub hl [2, 3, 4, 5, 6] rfl)
      · have hw := hw.2 c10
        refine lv_iconst (v := 0) hx hb dLaw_678 (by decide) ?_
        exact hw.elim
  · have hw := hw.2 c8
    refine lv_iconst (v := 0) hx hb dLaw_661 (by decide) ?_
    exact hw.elim
def wpk_answer (xs : Nat → Int32) (x4 : Int32) (nxt : Sg → (Nat → Int64) → Sm → Prop) (σ : Sg) (f : Nat → Int64) (ρ : Sm) : Prop := wpW_answer (fun r1 s2 f3 => wp_m_answer (fun r4 p5 => wp_m_thrown (fun r6 p7 => (((r6 = r1) → ((¬ (r1 = 0) → ((sC s2 = 0 → sC σ = 0) ∧ nxt s2 f3 p7)) ∧ ((r1 = 0) → ((((lg_cmp (f3 (0 : Int32).toNatClampNeg) r4.toInt64) = 0) → ((sC s2 = 0 → sC σ = 0) ∧ nxt s2 f3 p7)) ∧ (¬ ((lg_cmp (f3 (0 : Int32).toNatClampNeg) r4.toInt64) = 0) → False))))) ∧ (¬ (r6 = r1) → False))) p5 ) ρ (xs (x4 + 1).toNatClampNeg)) σ f (xs (x4 + 1).toNatClampNeg)
set_option maxHeartbeats 4000000 in
set_option maxRecDepth 100000 in
theorem k_answer {p : Program} {l : Launch} {e : Env} {s : State} {m : MethodId} {below : List Frame} {meth : Method} {c : Code} {D : va_G} {ca cm : Nat → ClassId} {cj : ClassId} {am : Nat → Nat → Nat} {o t0 mi b L : Nat} {xs : Nat → Int32} (hx : p.tables.exec = Jvm.exec) (hb : c.code = code) (hml : c.maxLocals = 7) (hown : s.vm.findClass RW = some m.cls) (hts : ∀ w ∈ tbG, w.before #[Value.ref b] s = true) (hX : va_X b L xs s s.heap) (hbl : b < s.heap.size) (hl0 : l.stackTraces = false) (hK : va_K D clX (tyZ ca cj cm) s) (hE : eX (aL s) s) (hN : eN s) (hL : eL t0 mi (aL s) s) (tt : Nat) (htt : tt ≤ 511) (x4 : Int32) (hi0 : vp_in (x4) L) (hi1 : vp_in (x4 + 1) L) (hi2 : vp_in (x4 + 2) L) (hi3 : vp_in (x4 + 3) L) (hi4 : vp_in (x4 + 4) L) {nxt : Sg → (Nat → Int64) → Sm → Prop} (K : ∀ (ad : Nat → Nat → Nat) (σ : Sg) (f : Nat → Int64) (ρ : Sm), (sC σ = 0 → ad 9 0 = t0) → nxt σ f ρ → ∀ (H : Heap) (locs : List Loc), va_P D clX (wZ ca ad cj o cm am σ f ρ) H → va_D (aL s) (wZ ca ad cj o cm am σ f ρ) → va_S (aL s) s.heap H locs → ∀ ls : Array Slot, lv_has ls 7 [(0, .ref b), (1, .ref (ad 0 0)), (2, .ref (am 0 0)), (3, .ref o), (4, .int x4)] → W p l e room_1 s m #[Value.ref b] below meth c H locs (51 + 4 * (tt + 1)) (13856 + 3100 * (tt + 1)) (lw_Z below #[Value.ref b] s) (F0 m 900 ls [])) (ad : Nat → Nat → Nat) (σ : Sg) (f : Nat → Int64) (ρ : Sm) (h9 : sC σ = 0 → ad 9 0 = t0) (hw : wpk_answer xs x4 nxt σ f ρ) : ∀ (H : Heap) (locs : List Loc), va_P D clX (wZ ca ad cj o cm am σ f ρ) H → va_D (aL s) (wZ ca ad cj o cm am σ f ρ) → va_S (aL s) s.heap H locs → ∀ ls : Array Slot, lv_has ls 7 [(0, .ref b), (1, .ref (ad 0 0)), (2, .ref (am 0 0)), (3, .ref o), (4, .int x4)] → W p l e room_1 s m #[Value.ref b] below meth c H locs (51 + 4 * tt) (13856 + 3100 * tt) (lw_Z below #[Value.ref b] s) (F0 m 683 ls []) := by
  intro H locs hP hD hS ls hl
  have hA : ∀ q : Nat, s.heap.size ≤ q → aL s q := fun _ h => h
  have hbA : ¬ aL s b := Nat.not_le.mpr hbl
  have hKw := hK.sub (tys' := tyW ca cj) [0, 1, 2, 3, 4] rfl
  have hKx := hK.sub (tys' := tyA ca) [0, 1, 2, 3] rfl
  have hKm := hK.sub (tys' := tyM9 cm) [5, 6] rfl
  unfold wpk_answer at hw
  refine lv_aload_n hx hb dLaw_683 rfl (lv_at hl 1 rfl) ?_
  refine lv_aload_n hx hb dLaw_684 rfl (lv_at hl 0 rfl) ?_
  refine lv_iload hx hb dLaw_685 (lv_at hl 4 rfl) ?_
  refine lv_iconst (v := 1) hx hb dLaw_687 (by decide) ?_
  refine lv_iadd hx hb dLaw_688 ?_
  refine va_sld hx hb hX hbl hbA hS hi1 dLaw_689 ?_
  refine lv_aload_n hx hb dLaw_690 rfl (lv_at hl 3 rfl) ?_
  have hPc := px_fP hP
  have hDc := px_fD hD
  have hFc := px_free hDc hS hA
  refine va_calli (vx_runSW (As := [.ref (ad 0 0), .int (xs (x4 + 1).toNatClampNeg), .ref o]) (rest := []) ⟨hx, hb, hml, hown, hts⟩ (c_W_answer l D ca ad cj o σ f (xs (x4 + 1).toNatClampNeg) _ _ hl0 hw) (vx_cwSW 3 hts (gS tw_547 tw_548 tw_0 tw_549) rfl rfl rfl (by decide +kernel) ⟨Nat.le_of_ble_eq_true rfl, Nat.le_of_ble_eq_true rfl⟩) ⟨pw_blind, fun U hU hW => pw_pre hPc hKw hDc hE hN hS hFc hU hW⟩ rfl rfl hl.1 rfl (lv_room (Nat.le_of_ble_eq_true rfl)) dLaw_691 ⟨by show 51 + 4 * tt + 1 ≤ 601024; omega, by show 13856 + 3100 * tt + 6 ≤ 7293034; omega⟩) hS (fun q _ h => hFc q h) hFc (fun r1 u9 t H locs ht hvm hw hB _ hk1 hS => ?_)
  obtain ⟨s2, f3⟩ := u9
  obtain ⟨hP1, -, hD1⟩ := hB
  rw [ht] at hP1
  obtain ⟨hP, hD⟩ := px_join hP hD hFc hk1 hP1 hD1
  refine W.widen (k := 51 + 4 * (tt + 1)) (n := 13856 + 3100 * (tt + 1)) (by omega) (by omega) ?_
  refine lv_istore (lv' := [(5, .int r1), (0, .ref b), (1, .ref (ad 0 0)), (2, .ref (am 0 0)), (3, .ref o), (4, .int x4)]) hx hb dLaw_694 hl (by decide) rfl (fun ls hl => ?_)
  refine lv_aload_n hx hb dLaw_696 rfl (lv_at hl 3 rfl) ?_
  refine lv_aload_n hx hb dLaw_697 rfl (lv_at hl 1 rfl) ?_
  refine lv_iload hx hb dLaw_698 (lv_at hl 5 rfl) ?_
  refine lv_iconst (v := 1) hx hb dLaw_700 (by decide) ?_
  refine lv_iadd hx hb dLaw_701 ?_
  refine va_sld hx hb hX hbl hbA hS hi1 dLaw_702 ?_
  have hPc := px_sP hP
  have hDc := px_sD hD
  have hFc := px_free hDc hS hA
  refine va_calli (va_runV (As := [.int (xs (x4 + 1).toNatClampNeg)]) (rest := []) ⟨hx, hb, hml, hown, hts⟩ (c_m_answer l D cm am ρ (xs (x4 + 1).toNatClampNeg) _ _ hw) (cwV 1 hts (gV tw_750 tw_751 tw_752 tw_7 tw_753) rfl rfl rfl (by decide +kernel) ⟨Nat.le_of_ble_eq_true rfl, Nat.le_of_ble_eq_true rfl⟩) ⟨pm_blind, px_recv hKm hPc gM_0 rfl, fun U hU hW => pm_pre hPc hKm hDc trivial hS hFc hU hW⟩ rfl rfl hl.1 rfl (lv_room (Nat.le_of_ble_eq_true rfl)) dLaw_703 ⟨by show 51 + 4 * (tt + 1) + 0 ≤ 601024; omega, by show 13856 + 3100 * (tt + 1) + 0 ≤ 7293034; omega⟩) hS (fun q _ h => hFc q h) hFc (fun r4 u9 t H locs ht hvm hw hB _ hk1 hS => ?_)
  obtain ⟨p5, rfl⟩ : ∃ z, z = u9 := ⟨_, rfl⟩
  obtain ⟨hP1, -, hD1⟩ := hB
  rw [ht] at hP1
  obtain ⟨hP, hD⟩ := px_joinR hP hD hFc hk1 hP1 hD1
  refine W.widen (k := 51 + 4 * (tt + 1)) (n := 13856 + 3100 * (tt + 1)) (by omega) (by omega) ?_
  refine lv_istore (lv' := [(6, .int r4), (5, .int r1), (0, .ref b), (1, .ref (ad 0 0)), (2, .ref (am 0 0)), (3, .ref o), (4, .int x4)]) hx hb dLaw_706 hl (by decide) rfl (fun ls hl => ?_)
  refine lv_aload_n hx hb dLaw_708 rfl (lv_at hl 4 rfl) ?_
  have hPc := px_sP hP
  have hDc := px_sD hD
  have hFc := px_free hDc hS hA
  refine va_calli (va_runV (As := []) (rest := []) ⟨hx, hb, hml, hown, hts⟩ (c_m_thrown l D cm am p5  _ _ hw) (cwV 0 hts (gV tw_671 tw_672 tw_673 tw_7 tw_674) rfl rfl rfl (by decide +kernel) ⟨Nat.le_of_ble_eq_true rfl, Nat.le_of_ble_eq_true rfl⟩) ⟨pm_blind, px_recv hKm hPc gM_0 rfl, fun U hU hW => pm_pre hPc hKm hDc trivial hS hFc hU hW⟩ rfl rfl hl.1 rfl (lv_room (Nat.le_of_ble_eq_true rfl)) dLaw_709 ⟨by show 51 + 4 * (tt + 1) + 0 ≤ 601024; omega, by show 13856 + 3100 * (tt + 1) + 0 ≤ 7293034; omega⟩) hS (fun q _ h => hFc q h) hFc (fun r6 u9 t H locs ht hvm hw hB _ hk1 hS => ?_)
  obtain ⟨p7, rfl⟩ : ∃ z, z = u9 := ⟨_, rfl⟩
  obtain ⟨hP1, -, hD1⟩ := hB
  rw [ht] at hP1
  obtain ⟨hP, hD⟩ := px_joinR hP hD hFc hk1 hP1 hD1
  refine W.widen (k := 51 + 4 * (tt + 1)) (n := 13856 + 3100 * (tt + 1)) (by omega) (by omega) ?_
  refine lv_iload hx hb dLaw_712 (lv_at hl 1 rfl) ?_
  refine lv_icmp_eq (tgt := 719) hx hb dLaw_714 (by decide) (fun c8 => ?_) (fun c8 => ?_)
  · have hw := hw.1 c8
    refine lv_iload hx hb dLaw_719 (lv_at hl 1 rfl) ?_
    refine lv_if_ne (tgt := 736) hx hb dLaw_721 (by decide) (fun c9 => ?_) (fun c9 => ?_)
    · have hw := hw.1 c9
      refine lv_goto (tgt := 900) hx hb dLaw_736 (by decide) ?_
      exact K ad s2 f3 p7 (fun z => h9 (hw.1 z)) hw.2 _ _ hP hD hS ls (lv_sub hl [2, 3, 4, 5, 6] rfl)
    · have hw := hw.2 c9
      refine lv_aload_n hx hb dLaw_724 rfl (lv_at hl 5 rfl) ?_
      refine lv_iconst (v := 0) hx hb dLaw_725 (by decide) ?_
      refine va_lald hx hb hK hP ((wX ca ad s2).length + 0) 4 (px_l (l1 := wW ca ad cj o s2 f3) px_e) rfl (by unfold vp_in; decide) dLaw_726 ?_
      refine lv_iload hx hb dLaw_727 (lv_at hl 0 rfl) ?_
      refine lv_i2l hx hb dLaw_729 rfl ?_
      refine W.lcmp hx hb dLaw_730 ?_
      refine lv_if_eq (tgt := 736) hx hb dLaw_731 (by decide) (fun c10 => ?_) (fun c10 => ?_)
      · have hw := hw.1 c10
        refine lv_goto (tgt := 900) hx hb dLaw_736 (by decide) ?_
        exact K ad s2 f3 p7 (fun z => h9 (hw.1 z)) hw.2 _ _ hP hD hS ls (lv_sub hl [2, 3, 4, 5, 6] rfl)
      · have hw := hw.2 c10
        refine lv_iconst (v := 0) hx hb dLaw_734 (by decide) ?_
        exact hw.elim
  · have hw := hw.2 c8
    refine lv_iconst (v := 0) hx hb dLaw_717 (by decide) ?_
    exact hw.elim
def wpk_answerAt (xs : Nat → Int32) (x4 : Int32) (nxt : Sg → (Nat → Int64) → Sm → Prop) (σ : Sg) (f : Nat → Int64) (ρ : Sm) : Prop := wpW_answerAt (fun r1 s2 f3 => wp_m_answerAt (fun r4 p5 => wp_m_thrown (fun r6 p7 => (((r6 = r1) → ((¬ (r1 = 0) → ((sC s2 = 0 → sC σ = 0) ∧ nxt s2 f3 p7)) ∧ ((r1 = 0) → ((((lg_cmp (f3 (0 : Int32).toNatClampNeg) r4.toInt64) = 0) → ((sC s2 = 0 → sC σ = 0) ∧ nxt s2 f3 p7)) ∧ (¬ ((lg_cmp (f3 (0 : Int32).toNatClampNeg) r4.toInt64) = 0) → False))))) ∧ (¬ (r6 = r1) → False))) p5 ) ρ (xs (x4 + 1).toNatClampNeg) (xs (x4 + 2).toNatClampNeg)) σ f (xs (x4 + 1).toNatClampNeg) (xs (x4 + 2).toNatClampNeg)
set_option maxHeartbeats 4000000 in
set_option maxRecDepth 100000 in
theorem k_answerAt {p : Program} {l : Launch} {e : Env} {s : State} {m : MethodId} {below : List Frame} {meth : Method} {c : Code} {D : va_G} {ca cm : Nat → ClassId} {cj : ClassId} {am : Nat → Nat → Nat} {o t0 mi b L : Nat} {xs : Nat → Int32} (hx : p.tables.exec = Jvm.exec) (hb : c.code = code) (hml : c.maxLocals = 7) (hown : s.vm.findClass RW = some m.cls) (hts : ∀ w ∈ tbG, w.before #[Value.ref b] s = true) (hX : va_X b L xs s s.heap) (hbl : b < s.heap.size) (hl0 : l.stackTraces = false) (hK : va_K D clX (tyZ ca cj cm) s) (hE : eX (aL s) s) (hN : eN s) (hL : eL t0 mi (aL s) s) (tt : Nat) (htt : tt ≤ 511) (x4 : Int32) (hi0 : vp_in (x4) L) (hi1 : vp_in (x4 + 1) L) (hi2 : vp_in (x4 + 2) L) (hi3 : vp_in (x4 + 3) L) (hi4 : vp_in (x4 + 4) L) {nxt : Sg → (Nat → Int64) → Sm → Prop} (K : ∀ (ad : Nat → Nat → Nat) (σ : Sg) (f : Nat → Int64) (ρ : Sm), (sC σ = 0 → ad 9 0 = t0) → nxt σ f ρ → ∀ (H : Heap) (locs : List Loc), va_P D clX (wZ ca ad cj o cm am σ f ρ) H → va_D (aL s) (wZ ca ad cj o cm am σ f ρ) → va_S (aL s) s.heap H locs → ∀ ls : Array Slot, lv_has ls 7 [(0, .ref b), (1, .ref (ad 0 0)), (2, .ref (am 0 0)), (3, .ref o), (4, .int x4)] → W p l e room_1 s m #[Value.ref b] below meth c H locs (51 + 4 * (tt + 1)) (13856 + 3100 * (tt + 1)) (lw_Z below #[Value.ref b] s) (F0 m 900 ls [])) (ad : Nat → Nat → Nat) (σ : Sg) (f : Nat → Int64) (ρ : Sm) (h9 : sC σ = 0 → ad 9 0 = t0) (hw : wpk_answerAt xs x4 nxt σ f ρ) : ∀ (H : Heap) (locs : List Loc), va_P D clX (wZ ca ad cj o cm am σ f ρ) H → va_D (aL s) (wZ ca ad cj o cm am σ f ρ) → va_S (aL s) s.heap H locs → ∀ ls : Array Slot, lv_has ls 7 [(0, .ref b), (1, .ref (ad 0 0)), (2, .ref (am 0 0)), (3, .ref o), (4, .int x4)] → W p l e room_1 s m #[Value.ref b] below meth c H locs (51 + 4 * tt) (13856 + 3100 * tt) (lw_Z below #[Value.ref b] s) (F0 m 739 ls []) := by
  intro H locs hP hD hS ls hl
  have hA : ∀ q : Nat, s.heap.size ≤ q → aL s q := fun _ h => h
  have hbA : ¬ aL s b := Nat.not_le.mpr hbl
  have hKw := hK.sub (tys' := tyW ca cj) [0, 1, 2, 3, 4] rfl
  have hKx := hK.sub (tys' := tyA ca) [0, 1, 2, 3] rfl
  have hKm := hK.sub (tys' := tyM9 cm) [5, 6] rfl
  unfold wpk_answerAt at hw
  refine lv_aload_n hx hb dLaw_739 rfl (lv_at hl 1 rfl) ?_
  refine lv_aload_n hx hb dLaw_740 rfl (lv_at hl 0 rfl) ?_
  refine lv_iload hx hb dLaw_741 (lv_at hl 4 rfl) ?_
  refine lv_iconst (v := 1) hx hb dLaw_743 (by decide) ?_
  refine lv_iadd hx hb dLaw_744 ?_
  refine va_sld hx hb hX hbl hbA hS hi1 dLaw_745 ?_
  refine lv_aload_n hx hb dLaw_746 rfl (lv_at hl 0 rfl) ?_
  refine lv_iload hx hb dLaw_747 (lv_at hl 4 rfl) ?_
  refine lv_iconst (v := 2) hx hb dLaw_749 (by decide) ?_
  refine lv_iadd hx hb dLaw_750 ?_
  refine va_sld hx hb hX hbl hbA hS hi2 dLaw_751 ?_
  refine lv_aload_n hx hb dLaw_752 rfl (lv_at hl 3 rfl) ?_
  have hPc := px_fP hP
  have hDc := px_fD hD
  have hFc := px_free hDc hS hA
  refine va_calli (vx_runSW (As := [.ref (ad 0 0), .int (xs (x4 + 1).toNatClampNeg), .int (xs (x4 + 2).toNatClampNeg), .ref o]) (rest := []) ⟨hx, hb, hml, hown, hts⟩ (c_W_answerAt l D ca ad cj o σ f (xs (x4 + 1).toNatClampNeg) (xs (x4 + 2).toNatClampNeg) _ _ hl0 hw) (vx_cwSW 4 hts (gS tw_554 tw_555 tw_0 tw_556) rfl rfl rfl (by decide +kernel) ⟨Nat.le_of_ble_eq_true rfl, Nat.le_of_ble_eq_true rfl⟩) ⟨pw_blind, fun U hU hW => pw_pre hPc hKw hDc hE hN hS hFc hU hW⟩ rfl rfl hl.1 rfl (lv_room (Nat.le_of_ble_eq_true rfl)) dLaw_753 ⟨by show 51 + 4 * tt + 2 ≤ 601024; omega, by show 13856 + 3100 * tt + 12 ≤ 7293034; omega⟩) hS (fun q _ h => hFc q h) hFc (fun r1 u9 t H locs ht hvm hw hB _ hk1 hS => ?_)
  obtain ⟨s2, f3⟩ := u9
  obtain ⟨hP1, -, hD1⟩ := hB
  rw [ht] at hP1
  obtain ⟨hP, hD⟩ := px_join hP hD hFc hk1 hP1 hD1
  refine W.widen (k := 51 + 4 * (tt + 1)) (n := 13856 + 3100 * (tt + 1)) (by omega) (by omega) ?_
  refine lv_istore (lv' := [(5, .int r1), (0, .ref b), (1, .ref (ad 0 0)), (2, .ref (am 0 0)), (3, .ref o), (4, .int x4)]) hx hb dLaw_756 hl (by decide) rfl (fun ls hl => ?_)
  refine lv_aload_n hx hb dLaw_758 rfl (lv_at hl 3 rfl) ?_
  refine lv_aload_n hx hb dLaw_759 rfl (lv_at hl 1 rfl) ?_
  refine lv_iload hx hb dLaw_760 (lv_at hl 5 rfl) ?_
  refine lv_iconst (v := 1) hx hb dLaw_762 (by decide) ?_
  refine lv_iadd hx hb dLaw_763 ?_
  refine va_sld hx hb hX hbl hbA hS hi1 dLaw_764 ?_
  refine lv_aload_n hx hb dLaw_765 rfl (lv_at hl 1 rfl) ?_
  refine lv_iload hx hb dLaw_766 (lv_at hl 5 rfl) ?_
  refine lv_iconst (v := 2) hx hb dLaw_768 (by decide) ?_
  refine lv_iadd hx hb dLaw_769 ?_
  refine va_sld hx hb hX hbl hbA hS hi2 dLaw_770 ?_
  have hPc := px_sP hP
  have hDc := px_sD hD
  have hFc := px_free hDc hS hA
  refine va_calli (va_runV (As := [.int (xs (x4 + 1).toNatClampNeg), .int (xs (x4 + 2).toNatClampNeg)]) (rest := []) ⟨hx, hb, hml, hown, hts⟩ (c_m_answerAt l D cm am ρ (xs (x4 + 1).toNatClampNeg) (xs (x4 + 2).toNatClampNeg) _ _ hw) (cwV 2 hts (gV tw_754 tw_755 tw_756 tw_7 tw_757) rfl rfl rfl (by decide +kernel) ⟨Nat.le_of_ble_eq_true rfl, Nat.le_of_ble_eq_true rfl⟩) ⟨pm_blind, px_recv hKm hPc gM_0 rfl, fun U hU hW => pm_pre hPc hKm hDc trivial hS hFc hU hW⟩ rfl rfl hl.1 rfl (lv_room (Nat.le_of_ble_eq_true rfl)) dLaw_771 ⟨by show 51 + 4 * (tt + 1) + 0 ≤ 601024; omega, by show 13856 + 3100 * (tt + 1) + 0 ≤ 7293034; omega⟩) hS (fun q _ h => hFc q h) hFc (fun r4 u9 t H locs ht hvm hw hB _ hk1 hS => ?_)
  obtain ⟨p5, rfl⟩ : ∃ z, z = u9 := ⟨_, rfl⟩
  obtain ⟨hP1, -, hD1⟩ := hB
  rw [ht] at hP1
  obtain ⟨hP, hD⟩ := px_joinR hP hD hFc hk1 hP1 hD1
  refine W.widen (k := 51 + 4 * (tt + 1)) (n := 13856 + 3100 * (tt + 1)) (by omega) (by omega) ?_
  refine lv_istore (lv' := [(6, .int r4), (5, .int r1), (0, .ref b), (1, .ref (ad 0 0)), (2, .ref (am 0 0)), (3, .ref o), (4, .int x4)]) hx hb dLaw_774 hl (by decide) rfl (fun ls hl => ?_)
  refine lv_aload_n hx hb dLaw_776 rfl (lv_at hl 4 rfl) ?_
  have hPc := px_sP hP
  have hDc := px_sD hD
  have hFc := px_free hDc hS hA
  refine va_calli (va_runV (As := []) (rest := []) ⟨hx, hb, hml, hown, hts⟩ (c_m_thrown l D cm am p5  _ _ hw) (cwV 0 hts (gV tw_671 tw_672 tw_673 tw_7 tw_674) rfl rfl rfl (by decide +kernel) ⟨Nat.le_of_ble_eq_true rfl, Nat.le_of_ble_eq_true rfl⟩) ⟨pm_blind, px_recv hKm hPc gM_0 rfl, fun U hU hW => pm_pre hPc hKm hDc trivial hS hFc hU hW⟩ rfl rfl hl.1 rfl (lv_room (Nat.le_of_ble_eq_true rfl)) dLaw_777 ⟨by show 51 + 4 * (tt + 1) + 0 ≤ 601024; omega, by show 13856 + 3100 * (tt + 1) + 0 ≤ 7293034; omega⟩) hS (fun q _ h => hFc q h) hFc (fun r6 u9 t H locs ht hvm hw hB _ hk1 hS => ?_)
  obtain ⟨p7, rfl⟩ : ∃ z, z = u9 := ⟨_, rfl⟩
  obtain ⟨hP1, -, hD1⟩ := hB
  rw [ht] at hP1
  obtain ⟨hP, hD⟩ := px_joinR hP hD hFc hk1 hP1 hD1
  refine W.widen (k := 51 + 4 * (tt + 1)) (n := 13856 + 3100 * (tt + 1)) (by omega) (by omega) ?_
  refine lv_iload hx hb dLaw_780 (lv_at hl 1 rfl) ?_
  refine lv_icmp_eq (tgt := 787) hx hb dLaw_782 (by decide) (fun c8 => ?_) (fun c8 => ?_)
  · have hw := hw.1 c8
    refine lv_iload hx hb dLaw_787 (lv_at hl 1 rfl) ?_
    refine lv_if_ne (tgt := 804) hx hb dLaw_789 (by decide) (fun c9 => ?_) (fun c9 => ?_)
    · have hw := hw.1 c9
      refine lv_goto (tgt := 900) hx hb dLaw_804 (by decide) ?_
      exact K ad s2 f3 p7 (fun z => h9 (hw.1 z)) hw.2 _ _ hP hD hS ls (lv_sub hl [2, 3, 4, 5, 6] rfl)
    · have hw := hw.2 c9
      refine lv_aload_n hx hb dLaw_792 rfl (lv_at hl 5 rfl) ?_
      refine lv_iconst (v := 0) hx hb dLaw_793 (by decide) ?_
      refine va_lald hx hb hK hP ((wX ca ad s2).length + 0) 4 (px_l (l1 := wW ca ad cj o s2 f3) px_e) rfl (by unfold vp_in; decide) dLaw_794 ?_
      refine lv_iload hx hb dLaw_795 (lv_at hl 0 rfl) ?_
      refine lv_i2l hx hb dLaw_797 rfl ?_
      refine W.lcmp hx hb dLaw_798 ?_
      refine lv_if_eq (tgt := 804) hx hb dLaw_799 (by decide) (fun c10 => ?_) (fun c10 => ?_)
      · have hw := hw.1 c10
        refine lv_goto (tgt := 900) hx hb dLaw_804 (by decide) ?_
        exact K ad s2 f3 p7 (fun z => h9 (hw.1 z)) hw.2 _ _ hP hD hS ls (lv_sub hl [2, 3, 4, 5, 6] rfl)
      · have hw := hw.2 c10
        refine lv_iconst (v := 0) hx hb dLaw_802 (by decide) ?_
        exact hw.elim
  · have hw := hw.2 c8
    refine lv_iconst (v := 0) hx hb dLaw_785 (by decide) ?_
    exact hw.elim
def wpk_history (xs : Nat → Int32) (x4 : Int32) (nxt : Sg → (Nat → Int64) → Sm → Prop) (σ : Sg) (f : Nat → Int64) (ρ : Sm) : Prop := wpW_history (fun r1 s2 f3 => wp_m_history (fun r4 p5 => wp_m_thrown (fun r6 p7 => (((r6 = r1) → ((¬ (r1 = 0) → ((sC s2 = 0 → sC σ = 0) ∧ nxt s2 f3 p7)) ∧ ((r1 = 0) → ((((lg_cmp (f3 (0 : Int32).toNatClampNeg) r4.toInt64) = 0) → ((sC s2 = 0 → sC σ = 0) ∧ nxt s2 f3 p7)) ∧ (¬ ((lg_cmp (f3 (0 : Int32).toNatClampNeg) r4.toInt64) = 0) → False))))) ∧ (¬ (r6 = r1) → False))) p5 ) ρ (xs (x4 + 1).toNatClampNeg) (xs (x4 + 2).toNatClampNeg)) σ f (xs (x4 + 1).toNatClampNeg) (xs (x4 + 2).toNatClampNeg)
set_option maxHeartbeats 4000000 in
set_option maxRecDepth 100000 in
theorem k_history {p : Program} {l : Launch} {e : Env} {s : State} {m : MethodId} {below : List Frame} {meth : Method} {c : Code} {D : va_G} {ca cm : Nat → ClassId} {cj : ClassId} {am : Nat → Nat → Nat} {o t0 mi b L : Nat} {xs : Nat → Int32} (hx : p.tables.exec = Jvm.exec) (hb : c.code = code) (hml : c.maxLocals = 7) (hown : s.vm.findClass RW = some m.cls) (hts : ∀ w ∈ tbG, w.before #[Value.ref b] s = true) (hX : va_X b L xs s s.heap) (hbl : b < s.heap.size) (hl0 : l.stackTraces = false) (hK : va_K D clX (tyZ ca cj cm) s) (hE : eX (aL s) s) (hN : eN s) (hL : eL t0 mi (aL s) s) (tt : Nat) (htt : tt ≤ 511) (x4 : Int32) (hi0 : vp_in (x4) L) (hi1 : vp_in (x4 + 1) L) (hi2 : vp_in (x4 + 2) L) (hi3 : vp_in (x4 + 3) L) (hi4 : vp_in (x4 + 4) L) {nxt : Sg → (Nat → Int64) → Sm → Prop} (K : ∀ (ad : Nat → Nat → Nat) (σ : Sg) (f : Nat → Int64) (ρ : Sm), (sC σ = 0 → ad 9 0 = t0) → nxt σ f ρ → ∀ (H : Heap) (locs : List Loc), va_P D clX (wZ ca ad cj o cm am σ f ρ) H → va_D (aL s) (wZ ca ad cj o cm am σ f ρ) → va_S (aL s) s.heap H locs → ∀ ls : Array Slot, lv_has ls 7 [(0, .ref b), (1, .ref (ad 0 0)), (2, .ref (am 0 0)), (3, .ref o), (4, .int x4)] → W p l e room_1 s m #[Value.ref b] below meth c H locs (51 + 4 * (tt + 1)) (13856 + 3100 * (tt + 1)) (lw_Z below #[Value.ref b] s) (F0 m 900 ls [])) (ad : Nat → Nat → Nat) (σ : Sg) (f : Nat → Int64) (ρ : Sm) (h9 : sC σ = 0 → ad 9 0 = t0) (hw : wpk_history xs x4 nxt σ f ρ) : ∀ (H : Heap) (locs : List Loc), va_P D clX (wZ ca ad cj o cm am σ f ρ) H → va_D (aL s) (wZ ca ad cj o cm am σ f ρ) → va_S (aL s) s.heap H locs → ∀ ls : Array Slot, lv_has ls 7 [(0, .ref b), (1, .ref (ad 0 0)), (2, .ref (am 0 0)), (3, .ref o), (4, .int x4)] → W p l e room_1 s m #[Value.ref b] below meth c H locs (51 + 4 * tt) (13856 + 3100 * tt) (lw_Z below #[Value.ref b] s) (F0 m 807 ls []) := by
  intro H locs hP hD hS ls hl
  have hA : ∀ q : Nat, s.heap.size ≤ q → aL s q := fun _ h => h
  have hbA : ¬ aL s b := Nat.not_le.mpr hbl
  have hKw := hK.sub (tys' := tyW ca cj) [0, 1, 2, 3, 4] rfl
  have hKx := hK.sub (tys' := tyA ca) [0, 1, 2, 3] rfl
  have hKm := hK.sub (tys' := tyM9 cm) [5, 6] rfl
  unfold wpk_history at hw
  refine lv_aload_n hx hb dLaw_807 rfl (lv_at hl 1 rfl) ?_
  refine lv_aload_n hx hb dLaw_808 rfl (lv_at hl 0 rfl) ?_
  refine lv_iload hx hb dLaw_809 (lv_at hl 4 rfl) ?_
  refine lv_iconst (v := 1) hx hb dLaw_811 (by decide) ?_
  refine lv_iadd hx hb dLaw_812 ?_
  refine va_sld hx hb hX hbl hbA hS hi1 dLaw_813 ?_
  refine lv_aload_n hx hb dLaw_814 rfl (lv_at hl 0 rfl) ?_
  refine lv_iload hx hb dLaw_815 (lv_at hl 4 rfl) ?_
  refine lv_iconst (v := 2) hx hb dLaw_817 (by decide) ?_
  refine lv_iadd hx hb dLaw_818 ?_
  refine va_sld hx hb hX hbl hbA hS hi2 dLaw_819 ?_
  refine lv_aload_n hx hb dLaw_820 rfl (lv_at hl 3 rfl) ?_
  have hPc := px_fP hP
  have hDc := px_fD hD
  have hFc := px_free hDc hS hA
  refine va_calli (vx_runSW (As := [.ref (ad 0 0), .int (xs (x4 + 1).toNatClampNeg), .int (xs (x4 + 2).toNatClampNeg), .ref o]) (rest := []) ⟨hx, hb, hml, hown, hts⟩ (c_W_history l D ca ad cj o σ f (xs (x4 + 1).toNatClampNeg) (xs (x4 + 2).toNatClampNeg) _ _ hl0 hw) (vx_cwSW 4 hts (gS tw_562 tw_563 tw_0 tw_564) rfl rfl rfl (by decide +kernel) ⟨Nat.le_of_ble_eq_true rfl, Nat.le_of_ble_eq_true rfl⟩) ⟨pw_blind, fun U hU hW => pw_pre hPc hKw hDc hE hN hS hFc hU hW⟩ rfl rfl hl.1 rfl (lv_room (Nat.le_of_ble_eq_true rfl)) dLaw_821 ⟨by show 51 + 4 * tt + 1 ≤ 601024; omega, by show 13856 + 3100 * tt + 6 ≤ 7293034; omega⟩) hS (fun q _ h => hFc q h) hFc (fun r1 u9 t H locs ht hvm hw hB _ hk1 hS => ?_)
  obtain ⟨s2, f3⟩ := u9
  obtain ⟨hP1, -, hD1⟩ := hB
  rw [ht] at hP1
  obtain ⟨hP, hD⟩ := px_join hP hD hFc hk1 hP1 hD1
  refine W.widen (k := 51 + 4 * (tt + 1)) (n := 13856 + 3100 * (tt + 1)) (by omega) (by omega) ?_
  refine lv_istore (lv' := [(5, .int r1), (0, .ref b), (1, .ref (ad 0 0)), (2, .ref (am 0 0)), (3, .ref o), (4, .int x4)]) hx hb dLaw_824 hl (by decide) rfl (fun ls hl => ?_)
  refine lv_aload_n hx hb dLaw_826 rfl (lv_at hl 3 rfl) ?_
  refine lv_aload_n hx hb dLaw_827 rfl (lv_at hl 1 rfl) ?_
  refine lv_iload hx hb dLaw_828 (lv_at hl 5 rfl) ?_
  refine lv_iconst (v := 1) hx hb dLaw_830 (by decide) ?_
  refine lv_iadd hx hb dLaw_831 ?_
  refine va_sld hx hb hX hbl hbA hS hi1 dLaw_832 ?_
  refine lv_aload_n hx hb dLaw_833 rfl (lv_at hl 1 rfl) ?_
  refine lv_iload hx hb dLaw_834 (lv_at hl 5 rfl) ?_
  refine lv_iconst (v := 2) hx hb dLaw_836 (by decide) ?_
  refine lv_iadd hx hb dLaw_837 ?_
  refine va_sld hx hb hX hbl hbA hS hi2 dLaw_838 ?_
  have hPc := px_sP hP
  have hDc := px_sD hD
  have hFc := px_free hDc hS hA
  refine va_calli (va_runV (As := [.int (xs (x4 + 1).toNatClampNeg), .int (xs (x4 + 2).toNatClampNeg)]) (rest := []) ⟨hx, hb, hml, hown, hts⟩ (c_m_history l D cm am ρ (xs (x4 + 1).toNatClampNeg) (xs (x4 + 2).toNatClampNeg) _ _ hw) (cwV 2 hts (gV tw_758 tw_759 tw_760 tw_7 tw_761) rfl rfl rfl (by decide +kernel) ⟨Nat.le_of_ble_eq_true rfl, Nat.le_of_ble_eq_true rfl⟩) ⟨pm_blind, px_recv hKm hPc gM_0 rfl, fun U hU hW => pm_pre hPc hKm hDc trivial hS hFc hU hW⟩ rfl rfl hl.1 rfl (lv_room (Nat.le_of_ble_eq_true rfl)) dLaw_839 ⟨by show 51 + 4 * (tt + 1) + 0 ≤ 601024; omega, by show 13856 + 3100 * (tt + 1) + 0 ≤ 7293034; omega⟩) hS (fun q _ h => hFc q h) hFc (fun r4 u9 t H locs ht hvm hw hB _ hk1 hS => ?_)
  obtain ⟨p5, rfl⟩ : ∃ z, z = u9 := ⟨_, rfl⟩
  obtain ⟨hP1, -, hD1⟩ := hB
  rw [ht] at hP1
  obtain ⟨hP, hD⟩ := px_joinR hP hD hFc hk1 hP1 hD1
  refine W.widen (k := 51 + 4 * (tt + 1)) (n := 13856 + 3100 * (tt + 1)) (by omega) (by omega) ?_
  refine lv_istore (lv' := [(6, .int r4), (5, .int r1), (0, .ref b), (1, .ref (ad 0 0)), (2, .ref (am 0 0)), (3, .ref o), (4, .int x4)]) hx hb dLaw_842 hl (by decide) rfl (fun ls hl => ?_)
  refine lv_aload_n hx hb dLaw_844 rfl (lv_at hl 4 rfl) ?_
  have hPc := px_sP hP
  have hDc := px_sD hD
  have hFc := px_free hDc hS hA
  refine va_calli (va_runV (As := []) (rest := []) ⟨hx, hb, hml, hown, hts⟩ (c_m_thrown l D cm am p5  _ _ hw) (cwV 0 hts (gV tw_671 tw_672 tw_673 tw_7 tw_674) rfl rfl rfl (by decide +kernel) ⟨Nat.le_of_ble_eq_true rfl, Nat.le_of_ble_eq_true rfl⟩) ⟨pm_blind, px_recv hKm hPc gM_0 rfl, fun U hU hW => pm_pre hPc hKm hDc trivial hS hFc hU hW⟩ rfl rfl hl.1 rfl (lv_room (Nat.le_of_ble_eq_true rfl)) dLaw_845 ⟨by show 51 + 4 * (tt + 1) + 0 ≤ 601024; omega, by show 13856 + 3100 * (tt + 1) + 0 ≤ 7293034; omega⟩) hS (fun q _ h => hFc q h) hFc (fun r6 u9 t H locs ht hvm hw hB _ hk1 hS => ?_)
  obtain ⟨p7, rfl⟩ : ∃ z, z = u9 := ⟨_, rfl⟩
  obtain ⟨hP1, -, hD1⟩ := hB
  rw [ht] at hP1
  obtain ⟨hP, hD⟩ := px_joinR hP hD hFc hk1 hP1 hD1
  refine W.widen (k := 51 + 4 * (tt + 1)) (n := 13856 + 3100 * (tt + 1)) (by omega) (by omega) ?_
  refine lv_iload hx hb dLaw_848 (lv_at hl 1 rfl) ?_
  refine lv_icmp_eq (tgt := 855) hx hb dLaw_850 (by decide) (fun c8 => ?_) (fun c8 => ?_)
  · have hw := hw.1 c8
    refine lv_iload hx hb dLaw_855 (lv_at hl 1 rfl) ?_
    refine lv_if_ne (tgt := 872) hx hb dLaw_857 (by decide) (fun c9 => ?_) (fun c9 => ?_)
    · have hw := hw.1 c9
      refine lv_goto (tgt := 900) hx hb dLaw_872 (by decide) ?_
      exact K ad s2 f3 p7 (fun z => h9 (hw.1 z)) hw.2 _ _ hP hD hS ls (lv_sub hl [2, 3, 4, 5, 6] rfl)
    · have hw := hw.2 c9
      refine lv_aload_n hx hb dLaw_860 rfl (lv_at hl 5 rfl) ?_
      refine lv_iconst (v := 0) hx hb dLaw_861 (by decide) ?_
      refine va_lald hx hb hK hP ((wX ca ad s2).length + 0) 4 (px_l (l1 := wW ca ad cj o s2 f3) px_e) rfl (by unfold vp_in; decide) dLaw_862 ?_
      refine lv_iload hx hb dLaw_863 (lv_at hl 0 rfl) ?_
      refine lv_i2l hx hb dLaw_865 rfl ?_
      refine W.lcmp hx hb dLaw_866 ?_
      refine lv_if_eq (tgt := 872) hx hb dLaw_867 (by decide) (fun c10 => ?_) (fun c10 => ?_)
      · have hw := hw.1 c10
        refine lv_goto (tgt := 900) hx hb dLaw_872 (by decide) ?_
        exact K ad s2 f3 p7 (fun z => h9 (hw.1 z)) hw.2 _ _ hP hD hS ls (lv_sub hl [2, 3, 4, 5, 6] rfl)
      · have hw := hw.2 c10
        refine lv_iconst (v := 0) hx hb dLaw_870 (by decide) ?_
        exact hw.elim
  · have hw := hw.2 c8
    refine lv_iconst (v := 0) hx hb dLaw_853 (by decide) ?_
    exact hw.elim
def wpk_count (xs : Nat → Int32) (x4 : Int32) (nxt : Sg → (Nat → Int64) → Sm → Prop) (σ : Sg) (f : Nat → Int64) (ρ : Sm) : Prop := wp_count (fun r1 s2 => wp_m_count (fun r3 p4 => (((r1 = r3) → ((sC s2 = 0 → sC σ = 0) ∧ nxt s2 f p4)) ∧ (¬ (r1 = r3) → False))) ρ (xs (x4 + 1).toNatClampNeg)) σ (xs (x4 + 1).toNatClampNeg)
set_option maxHeartbeats 4000000 in
set_option maxRecDepth 100000 in
theorem k_count {p : Program} {l : Launch} {e : Env} {s : State} {m : MethodId} {below : List Frame} {meth : Method} {c : Code} {D : va_G} {ca cm : Nat → ClassId} {cj : ClassId} {am : Nat → Nat → Nat} {o t0 mi b L : Nat} {xs : Nat → Int32} (hx : p.tables.exec = Jvm.exec) (hb : c.code = code) (hml : c.maxLocals = 7) (hown : s.vm.findClass RW = some m.cls) (hts : ∀ w ∈ tbG, w.before #[Value.ref b] s = true) (hX : va_X b L xs s s.heap) (hbl : b < s.heap.size) (hl0 : l.stackTraces = false) (hK : va_K D clX (tyZ ca cj cm) s) (hE : eX (aL s) s) (hN : eN s) (hL : eL t0 mi (aL s) s) (tt : Nat) (htt : tt ≤ 511) (x4 : Int32) (hi0 : vp_in (x4) L) (hi1 : vp_in (x4 + 1) L) (hi2 : vp_in (x4 + 2) L) (hi3 : vp_in (x4 + 3) L) (hi4 : vp_in (x4 + 4) L) {nxt : Sg → (Nat → Int64) → Sm → Prop} (K : ∀ (ad : Nat → Nat → Nat) (σ : Sg) (f : Nat → Int64) (ρ : Sm), (sC σ = 0 → ad 9 0 = t0) → nxt σ f ρ → ∀ (H : Heap) (locs : List Loc), va_P D clX (wZ ca ad cj o cm am σ f ρ) H → va_D (aL s) (wZ ca ad cj o cm am σ f ρ) → va_S (aL s) s.heap H locs → ∀ ls : Array Slot, lv_has ls 7 [(0, .ref b), (1, .ref (ad 0 0)), (2, .ref (am 0 0)), (3, .ref o), (4, .int x4)] → W p l e room_1 s m #[Value.ref b] below meth c H locs (51 + 4 * (tt + 1)) (13856 + 3100 * (tt + 1)) (lw_Z below #[Value.ref b] s) (F0 m 900 ls [])) (ad : Nat → Nat → Nat) (σ : Sg) (f : Nat → Int64) (ρ : Sm) (h9 : sC σ = 0 → ad 9 0 = t0) (hw : wpk_count xs x4 nxt σ f ρ) : ∀ (H : Heap) (locs : List Loc), va_P D clX (wZ ca ad cj o cm am σ f ρ) H → va_D (aL s) (wZ ca ad cj o cm am σ f ρ) → va_S (aL s) s.heap H locs → ∀ ls : Array Slot, lv_has ls 7 [(0, .ref b), (1, .ref (ad 0 0)), (2, .ref (am 0 0)), (3, .ref o), (4, .int x4)] → W p l e room_1 s m #[Value.ref b] below meth c H locs (51 + 4 * tt) (13856 + 3100 * tt) (lw_Z below #[Value.ref b] s) (F0 m 875 ls []) := by
  intro H locs hP hD hS ls hl
  have hA : ∀ q : Nat, s.heap.size ≤ q → aL s q := fun _ h => h
  have hbA : ¬ aL s b := Nat.not_le.mpr hbl
  have hKw := hK.sub (tys' := tyW ca cj) [0, 1, 2, 3, 4] rfl
  have hKx := hK.sub (tys' := tyA ca) [0, 1, 2, 3] rfl
  have hKm := hK.sub (tys' := tyM9 cm) [5, 6] rfl
  unfold wpk_count at hw
  refine lv_aload_n hx hb dLaw_875 rfl (lv_at hl 1 rfl) ?_
  refine lv_aload_n hx hb dLaw_876 rfl (lv_at hl 0 rfl) ?_
  refine lv_iload hx hb dLaw_877 (lv_at hl 4 rfl) ?_
  refine lv_iconst (v := 1) hx hb dLaw_879 (by decide) ?_
  refine lv_iadd hx hb dLaw_880 ?_
  refine va_sld hx hb hX hbl hbA hS hi1 dLaw_881 ?_
  rw [wZ_a] at hP hD
  have hPc := px_fP hP
  have hDc := px_fD hD
  have hFc := px_free hDc hS hA
  refine va_calli (va_runV (As := [.int (xs (x4 + 1).toNatClampNeg)]) (rest := []) ⟨hx, hb, hml, hown, hts⟩ (c_count l D ca ad σ (xs (x4 + 1).toNatClampNeg) _ _ hw) (cwV 1 hts (gV tw_186 tw_187 tw_188 tw_1 tw_189) rfl rfl rfl (by decide +kernel) ⟨Nat.le_of_ble_eq_true rfl, Nat.le_of_ble_eq_true rfl⟩) ⟨px_blind, px_recv hKx hPc gX_0 rfl, fun U hU hW => px_pre hPc hKx hDc hE hS hFc hU hW⟩ rfl rfl hl.1 rfl (lv_room (Nat.le_of_ble_eq_true rfl)) dLaw_882 ⟨by show 51 + 4 * tt + 0 ≤ 601024; omega, by show 13856 + 3100 * tt + 0 ≤ 7293034; omega⟩) hS (fun q _ h => hFc q h) hFc (fun r1 u9 t H locs ht hvm hw hB _ hk1 hS => ?_)
  obtain ⟨s2, rfl⟩ : ∃ z, z = u9 := ⟨_, rfl⟩
  obtain ⟨hP1, -, hD1⟩ := hB
  rw [ht] at hP1
  obtain ⟨hP, hD⟩ := px_join hP hD hFc hk1 hP1 hD1
  rw [← wZ_a] at hP hD
  refine W.widen (k := 51 + 4 * tt) (n := 13856 + 3100 * tt) (by omega) (by omega) ?_
  refine lv_aload_n hx hb dLaw_885 rfl (lv_at hl 2 rfl) ?_
  refine lv_aload_n hx hb dLaw_886 rfl (lv_at hl 0 rfl) ?_
  refine lv_iload hx hb dLaw_887 (lv_at hl 4 rfl) ?_
  refine lv_iconst (v := 1) hx hb dLaw_889 (by decide) ?_
  refine lv_iadd hx hb dLaw_890 ?_
  refine va_sld hx hb hX hbl hbA hS hi1 dLaw_891 ?_
  have hPc := px_sP hP
  have hDc := px_sD hD
  have hFc := px_free hDc hS hA
  refine va_calli (va_runV (As := [.int (xs (x4 + 1).toNatClampNeg)]) (rest := [.int r1]) ⟨hx, hb, hml, hown, hts⟩ (c_m_count l D cm am ρ (xs (x4 + 1).toNatClampNeg) _ _ hw) (cwV 1 hts (gV tw_762 tw_763 tw_764 tw_7 tw_765) rfl rfl rfl (by decide +kernel) ⟨Nat.le_of_ble_eq_true rfl, Nat.le_of_ble_eq_true rfl⟩) ⟨pm_blind, px_recv hKm hPc gM_0 rfl, fun U hU hW => pm_pre hPc hKm hDc trivial hS hFc hU hW⟩ rfl rfl hl.1 rfl (lv_room (Nat.le_of_ble_eq_true rfl)) dLaw_892 ⟨by show 51 + 4 * tt + 0 ≤ 601024; omega, by show 13856 + 3100 * tt + 0 ≤ 7293034; omega⟩) hS (fun q _ h => hFc q h) hFc (fun r3 u9 t H locs ht hvm hw hB _ hk1 hS => ?_)
  obtain ⟨p4, rfl⟩ : ∃ z, z = u9 := ⟨_, rfl⟩
  obtain ⟨hP1, -, hD1⟩ := hB
  rw [ht] at hP1
  obtain ⟨hP, hD⟩ := px_joinR hP hD hFc hk1 hP1 hD1
  refine W.widen (k := 51 + 4 * tt) (n := 13856 + 3100 * tt) (by omega) (by omega) ?_
  refine lv_icmp_eq (tgt := 900) hx hb dLaw_895 (by decide) (fun c5 => ?_) (fun c5 => ?_)
  · have hw := hw.1 c5
    refine W.widen (k := 51 + 4 * (tt + 1)) (n := 13856 + 3100 * (tt + 1)) (by omega) (by omega) ?_
    exact K ad s2 f p4 (fun z => h9 (hw.1 z)) hw.2 _ _ hP hD hS ls (lv_sub hl [0, 1, 2, 3, 4] rfl)
  · have hw := hw.2 c5
    refine lv_iconst (v := 0) hx hb dLaw_898 (by decide) ?_
    exact hw.elim
