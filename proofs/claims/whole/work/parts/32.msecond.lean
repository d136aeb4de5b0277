theorem dM_go_0 : decode cM_go 0 = .ok (.aload_n 0, 1) := by decide +kernel
theorem dM_go_1 : decode cM_go 1 = .ok (.getfield 29, 3) := by decide +kernel
theorem dM_go_4 : decode cM_go 4 = .ok (.iload_n 1, 1) := by decide +kernel
theorem dM_go_5 : decode cM_go 5 = .ok (.dup2, 1) := by decide +kernel
theorem dM_go_6 : decode cM_go 6 = .ok (.iaload, 1) := by decide +kernel
theorem dM_go_7 : decode cM_go 7 = .ok (.iconst 1, 1) := by decide +kernel
theorem dM_go_8 : decode cM_go 8 = .ok (.iadd, 1) := by decide +kernel
theorem dM_go_9 : decode cM_go 9 = .ok (.iastore, 1) := by decide +kernel
theorem dM_go_10 : decode cM_go 10 = .ok (.aload_n 0, 1) := by decide +kernel
theorem dM_go_11 : decode cM_go 11 = .ok (.getfield 29, 3) := by decide +kernel
theorem dM_go_14 : decode cM_go 14 = .ok (.iload_n 1, 1) := by decide +kernel
theorem dM_go_15 : decode cM_go 15 = .ok (.iaload, 1) := by decide +kernel
theorem dM_go_16 : decode cM_go 16 = .ok (.bipush 40, 2) := by decide +kernel
theorem dM_go_18 : decode cM_go 18 = .ok (.if_icmp .le 9, 3) := by decide +kernel
theorem dM_go_21 : decode cM_go 21 = .ok (.aload_n 0, 1) := by decide +kernel
theorem dM_go_22 : decode cM_go 22 = .ok (.iload_n 1, 1) := by decide +kernel
theorem dM_go_23 : decode cM_go 23 = .ok (.invokevirtual 102, 3) := by decide +kernel
theorem dM_go_26 : decode cM_go 26 = .ok (.return_, 1) := by decide +kernel
theorem dM_go_27 : decode cM_go 27 = .ok (.aload_n 0, 1) := by decide +kernel
theorem dM_go_28 : decode cM_go 28 = .ok (.getfield 32, 3) := by decide +kernel
theorem dM_go_31 : decode cM_go 31 = .ok (.iload_n 1, 1) := by decide +kernel
theorem dM_go_32 : decode cM_go 32 = .ok (.baload, 1) := by decide +kernel
theorem dM_go_33 : decode cM_go 33 = .ok (.ifCond .ne 17, 3) := by decide +kernel
theorem dM_go_36 : decode cM_go 36 = .ok (.aload_n 0, 1) := by decide +kernel
theorem dM_go_37 : decode cM_go 37 = .ok (.getfield 35, 3) := by decide +kernel
theorem dM_go_40 : decode cM_go 40 = .ok (.iload_n 1, 1) := by decide +kernel
theorem dM_go_41 : decode cM_go 41 = .ok (.iaload, 1) := by decide +kernel
theorem dM_go_42 : decode cM_go 42 = .ok (.iconst 3, 1) := by decide +kernel
theorem dM_go_43 : decode cM_go 43 = .ok (.if_icmp .ge 7, 3) := by decide +kernel
theorem dM_go_46 : decode cM_go 46 = .ok (.iconst 1, 1) := by decide +kernel
theorem dM_go_47 : decode cM_go 47 = .ok (.goto 4, 3) := by decide +kernel
theorem dM_go_50 : decode cM_go 50 = .ok (.iconst 0, 1) := by decide +kernel
theorem dM_go_51 : decode cM_go 51 = .ok (.istore_n 2, 1) := by decide +kernel
theorem dM_go_52 : decode cM_go 52 = .ok (.bipush 8, 2) := by decide +kernel
theorem dM_go_54 : decode cM_go 54 = .ok (.aload_n 0, 1) := by decide +kernel
theorem dM_go_55 : decode cM_go 55 = .ok (.getfield 105, 3) := by decide +kernel
theorem dM_go_58 : decode cM_go 58 = .ok (.bipush 64, 2) := by decide +kernel
theorem dM_go_60 : decode cM_go 60 = .ok (.irem, 1) := by decide +kernel
theorem dM_go_61 : decode cM_go 61 = .ok (.imul, 1) := by decide +kernel
theorem dM_go_62 : decode cM_go 62 = .ok (.istore_n 3, 1) := by decide +kernel
theorem dM_go_63 : decode cM_go 63 = .ok (.aload_n 0, 1) := by decide +kernel
theorem dM_go_64 : decode cM_go 64 = .ok (.getfield 62, 3) := by decide +kernel
theorem dM_go_67 : decode cM_go 67 = .ok (.iload_n 3, 1) := by decide +kernel
theorem dM_go_68 : decode cM_go 68 = .ok (.iload_n 1, 1) := by decide +kernel
theorem dM_go_69 : decode cM_go 69 = .ok (.iastore, 1) := by decide +kernel
theorem dM_go_70 : decode cM_go 70 = .ok (.aload_n 0, 1) := by decide +kernel
theorem dM_go_71 : decode cM_go 71 = .ok (.getfield 62, 3) := by decide +kernel
theorem dM_go_74 : decode cM_go 74 = .ok (.iload_n 3, 1) := by decide +kernel
theorem dM_go_75 : decode cM_go 75 = .ok (.iconst 1, 1) := by decide +kernel
theorem dM_go_76 : decode cM_go 76 = .ok (.iadd, 1) := by decide +kernel
theorem dM_go_77 : decode cM_go 77 = .ok (.aload_n 0, 1) := by decide +kernel
theorem dM_go_78 : decode cM_go 78 = .ok (.getfield 17, 3) := by decide +kernel
theorem dM_go_81 : decode cM_go 81 = .ok (.iload_n 1, 1) := by decide +kernel
theorem dM_go_82 : decode cM_go 82 = .ok (.iaload, 1) := by decide +kernel
theorem dM_go_83 : decode cM_go 83 = .ok (.iastore, 1) := by decide +kernel
theorem dM_go_84 : decode cM_go 84 = .ok (.aload_n 0, 1) := by decide +kernel
theorem dM_go_85 : decode cM_go 85 = .ok (.getfield 62, 3) := by decide +kernel
theorem dM_go_88 : decode cM_go 88 = .ok (.iload_n 3, 1) := by decide +kernel
theorem dM_go_89 : decode cM_go 89 = .ok (.iconst 2, 1) := by decide +kernel
theorem dM_go_90 : decode cM_go 90 = .ok (.iadd, 1) := by decide +kernel
theorem dM_go_91 : decode cM_go 91 = .ok (.aload_n 0, 1) := by decide +kernel
theorem dM_go_92 : decode cM_go 92 = .ok (.getfield 26, 3) := by decide +kernel
theorem dM_go_95 : decode cM_go 95 = .ok (.iload_n 1, 1) := by decide +kernel
theorem dM_go_96 : decode cM_go 96 = .ok (.iaload, 1) := by decide +kernel
theorem dM_go_97 : decode cM_go 97 = .ok (.iastore, 1) := by decide +kernel
theorem dM_go_98 : decode cM_go 98 = .ok (.aload_n 0, 1) := by decide +kernel
theorem dM_go_99 : decode cM_go 99 = .ok (.getfield 62, 3) := by decide +kernel
theorem dM_go_102 : decode cM_go 102 = .ok (.iload_n 3, 1) := by decide +kernel
theorem dM_go_103 : decode cM_go 103 = .ok (.iconst 3, 1) := by decide +kernel
theorem dM_go_104 : decode cM_go 104 = .ok (.iadd, 1) := by decide +kernel
theorem dM_go_105 : decode cM_go 105 = .ok (.aload_n 0, 1) := by decide +kernel
theorem dM_go_106 : decode cM_go 106 = .ok (.getfield 32, 3) := by decide +kernel
theorem dM_go_109 : decode cM_go 109 = .ok (.iload_n 1, 1) := by decide +kernel
theorem dM_go_110 : decode cM_go 110 = .ok (.baload, 1) := by decide +kernel
theorem dM_go_111 : decode cM_go 111 = .ok (.ifCond .eq 8, 3) := by decide +kernel
theorem dM_go_114 : decode cM_go 114 = .ok (.bipush 6, 2) := by decide +kernel
theorem dM_go_116 : decode cM_go 116 = .ok (.goto 9, 3) := by decide +kernel
theorem dM_go_119 : decode cM_go 119 = .ok (.aload_n 0, 1) := by decide +kernel
theorem dM_go_120 : decode cM_go 120 = .ok (.getfield 35, 3) := by decide +kernel
theorem dM_go_123 : decode cM_go 123 = .ok (.iload_n 1, 1) := by decide +kernel
theorem dM_go_124 : decode cM_go 124 = .ok (.iaload, 1) := by decide +kernel
theorem dM_go_125 : decode cM_go 125 = .ok (.iastore, 1) := by decide +kernel
theorem dM_go_126 : decode cM_go 126 = .ok (.aload_n 0, 1) := by decide +kernel
theorem dM_go_127 : decode cM_go 127 = .ok (.getfield 62, 3) := by decide +kernel
theorem dM_go_130 : decode cM_go 130 = .ok (.iload_n 3, 1) := by decide +kernel
theorem dM_go_131 : decode cM_go 131 = .ok (.iconst 4, 1) := by decide +kernel
theorem dM_go_132 : decode cM_go 132 = .ok (.iadd, 1) := by decide +kernel
theorem dM_go_133 : decode cM_go 133 = .ok (.iload_n 2, 1) := by decide +kernel
theorem dM_go_134 : decode cM_go 134 = .ok (.ifCond .eq 12, 3) := by decide +kernel
theorem dM_go_137 : decode cM_go 137 = .ok (.aload_n 0, 1) := by decide +kernel
theorem dM_go_138 : decode cM_go 138 = .ok (.getfield 20, 3) := by decide +kernel
theorem dM_go_141 : decode cM_go 141 = .ok (.iload_n 1, 1) := by decide +kernel
theorem dM_go_142 : decode cM_go 142 = .ok (.iaload, 1) := by decide +kernel
theorem dM_go_143 : decode cM_go 143 = .ok (.goto 4, 3) := by decide +kernel
theorem dM_go_146 : decode cM_go 146 = .ok (.iconst (-1), 1) := by decide +kernel
theorem dM_go_147 : decode cM_go 147 = .ok (.iastore, 1) := by decide +kernel
theorem dM_go_148 : decode cM_go 148 = .ok (.aload_n 0, 1) := by decide +kernel
theorem dM_go_149 : decode cM_go 149 = .ok (.getfield 62, 3) := by decide +kernel
theorem dM_go_152 : decode cM_go 152 = .ok (.iload_n 3, 1) := by decide +kernel
theorem dM_go_153 : decode cM_go 153 = .ok (.iconst 5, 1) := by decide +kernel
theorem dM_go_154 : decode cM_go 154 = .ok (.iadd, 1) := by decide +kernel
theorem dM_go_155 : decode cM_go 155 = .ok (.iload_n 2, 1) := by decide +kernel
theorem dM_go_156 : decode cM_go 156 = .ok (.ifCond .eq 12, 3) := by decide +kernel
theorem dM_go_159 : decode cM_go 159 = .ok (.aload_n 0, 1) := by decide +kernel
theorem dM_go_160 : decode cM_go 160 = .ok (.getfield 23, 3) := by decide +kernel
theorem dM_go_163 : decode cM_go 163 = .ok (.iload_n 1, 1) := by decide +kernel
theorem dM_go_164 : decode cM_go 164 = .ok (.iaload, 1) := by decide +kernel
theorem dM_go_165 : decode cM_go 165 = .ok (.goto 4, 3) := by decide +kernel
theorem dM_go_168 : decode cM_go 168 = .ok (.iconst 0, 1) := by decide +kernel
theorem dM_go_169 : decode cM_go 169 = .ok (.iastore, 1) := by decide +kernel
theorem dM_go_170 : decode cM_go 170 = .ok (.aload_n 0, 1) := by decide +kernel
theorem dM_go_171 : decode cM_go 171 = .ok (.getfield 62, 3) := by decide +kernel
theorem dM_go_174 : decode cM_go 174 = .ok (.iload_n 3, 1) := by decide +kernel
theorem dM_go_175 : decode cM_go 175 = .ok (.bipush 6, 2) := by decide +kernel
theorem dM_go_177 : decode cM_go 177 = .ok (.iadd, 1) := by decide +kernel
theorem dM_go_178 : decode cM_go 178 = .ok (.aload_n 0, 1) := by decide +kernel
theorem dM_go_179 : decode cM_go 179 = .ok (.getfield 32, 3) := by decide +kernel
theorem dM_go_182 : decode cM_go 182 = .ok (.iload_n 1, 1) := by decide +kernel
theorem dM_go_183 : decode cM_go 183 = .ok (.baload, 1) := by decide +kernel
theorem dM_go_184 : decode cM_go 184 = .ok (.ifCond .eq 7, 3) := by decide +kernel
theorem dM_go_187 : decode cM_go 187 = .ok (.iconst 0, 1) := by decide +kernel
theorem dM_go_188 : decode cM_go 188 = .ok (.goto 9, 3) := by decide +kernel
theorem dM_go_191 : decode cM_go 191 = .ok (.aload_n 0, 1) := by decide +kernel
theorem dM_go_192 : decode cM_go 192 = .ok (.getfield 50, 3) := by decide +kernel
theorem dM_go_195 : decode cM_go 195 = .ok (.iload_n 1, 1) := by decide +kernel
theorem dM_go_196 : decode cM_go 196 = .ok (.iaload, 1) := by decide +kernel
theorem dM_go_197 : decode cM_go 197 = .ok (.iastore, 1) := by decide +kernel
theorem dM_go_198 : decode cM_go 198 = .ok (.aload_n 0, 1) := by decide +kernel
theorem dM_go_199 : decode cM_go 199 = .ok (.getfield 62, 3) := by decide +kernel
theorem dM_go_202 : decode cM_go 202 = .ok (.iload_n 3, 1) := by decide +kernel
theorem dM_go_203 : decode cM_go 203 = .ok (.bipush 7, 2) := by decide +kernel
theorem dM_go_205 : decode cM_go 205 = .ok (.iadd, 1) := by decide +kernel
theorem dM_go_206 : decode cM_go 206 = .ok (.aload_n 0, 1) := by decide +kernel
theorem dM_go_207 : decode cM_go 207 = .ok (.getfield 88, 3) := by decide +kernel
theorem dM_go_210 : decode cM_go 210 = .ok (.iastore, 1) := by decide +kernel
theorem dM_go_211 : decode cM_go 211 = .ok (.aload_n 0, 1) := by decide +kernel
theorem dM_go_212 : decode cM_go 212 = .ok (.dup, 1) := by decide +kernel
theorem dM_go_213 : decode cM_go 213 = .ok (.getfield 105, 3) := by decide +kernel
theorem dM_go_216 : decode cM_go 216 = .ok (.iconst 1, 1) := by decide +kernel
theorem dM_go_217 : decode cM_go 217 = .ok (.iadd, 1) := by decide +kernel
theorem dM_go_218 : decode cM_go 218 = .ok (.putfield 105, 3) := by decide +kernel
theorem dM_go_221 : decode cM_go 221 = .ok (.aload_n 0, 1) := by decide +kernel
theorem dM_go_222 : decode cM_go 222 = .ok (.iload_n 1, 1) := by decide +kernel
theorem dM_go_223 : decode cM_go 223 = .ok (.bipush 60, 2) := by decide +kernel
theorem dM_go_225 : decode cM_go 225 = .ok (.iconst 1, 1) := by decide +kernel
theorem dM_go_226 : decode cM_go 226 = .ok (.invokevirtual 108, 3) := by decide +kernel
theorem dM_go_229 : decode cM_go 229 = .ok (.return_, 1) := by decide +kernel
def wpc_m_go_C170 (post : Sm → Prop) (σ : Sm) (x1 : Int32) (x2 : Int32) (x3 : Int32) : Prop := (vp_in x1 8 ∧ (((((mA σ 7) (x1).toNatClampNeg) = 0) → (vp_in (x3 + 6) 512 ∧ (vp_in (x3 + 7) 512 ∧ wp_m_alarm (fun s33 => post s33) (vG 4 ((mG σ 4) + 1) (vA 17 (upd (upd (mA σ 17) (x3 + 6).toNatClampNeg ((mA σ 13) (x1).toNatClampNeg)) (x3 + 7).toNatClampNeg (mG σ 1)) (vA 17 (upd (mA σ 17) (x3 + 6).toNatClampNeg ((mA σ 13) (x1).toNatClampNeg)) σ))) x1 60 1))) ∧ (¬ (((mA σ 7) (x1).toNatClampNeg) = 0) → (vp_in (x3 + 6) 512 ∧ (vp_in (x3 + 7) 512 ∧ wp_m_alarm (fun s37 => post s37) (vG 4 ((mG σ 4) + 1) (vA 17 (upd (upd (mA σ 17) (x3 + 6).toNatClampNeg 0) (x3 + 7).toNatClampNeg (mG σ 1)) (vA 17 (upd (mA σ 17) (x3 + 6).toNatClampNeg 0) σ))) x1 60 1)))))
set_option maxHeartbeats 4000000 in
set_option maxRecDepth 100000 in
theorem k_m_go_C170 {p : Program} {l : Launch} {e : Env} {s : State} {m : MethodId} {args : Array Value} {below : List Frame} {meth : Method} {c : Code} {D : va_G} {ca : Nat → ClassId} {ad : Nat → Nat → Nat} {A : Nat → Prop}  {post : Sm → Prop} (hx : p.tables.exec = Jvm.exec) (hb : c.code = cM_go) (hr : meth.sig.returnType = none) (hml : c.maxLocals = 4) (hts : ∀ w ∈ tbG, w.before args s = true) (hown : s.vm.findClass RM = some m.cls) (hlocks : meth.locks = false) (hA : ∀ q : Nat, s.heap.size ≤ q → A q) (hK : va_K D clX (tyM9 ca) s) (hE : eM A s) (σ : Sm)  (x1 : Int32) (x2 : Int32) (x3 : Int32) (hw : wpc_m_go_C170 post σ x1 x2 x3) : ∀ (H : Heap) (locs : List Loc), va_P D clX (wM ca ad σ) H → va_D A (wM ca ad σ) → va_S A s.heap H locs → ∀ ls : Array Slot, lv_has ls 4 [(0, .ref (ad 0 0)), (1, .int x1), (2, .int x2), (3, .int x3)] → W p l e (headSpec wsM_go ({ frames := 3, cells := 0, slots := 0, locals := 66 })).room s m args below meth c H locs 0 0 (MQ below (va_Qv post (atM D ca ad A) A) args s 0 0 A) (F0 m 170 ls []) := by
  intro H locs hP hD hS ls hl
  unfold wpc_m_go_C170 at hw
  refine lv_aload_n hx hb dM_go_170 rfl (lv_at hl 0 rfl) ?_
  refine va_get (D := D) (ci := 5) (v := .ref (ad 18 0)) (C := RM) (T := TM) (N := 26) hx hb hts inM hown hK hP 0 gM_0 rfl 24 (by decide) (hts _ tw_615) (fun _ h9 => h9) rfl dM_go_171 ?_
  refine lv_iload_n hx hb dM_go_174 rfl (lv_at hl 3 rfl) ?_
  refine lv_bipush (v := 6) hx hb dM_go_175 (by decide) ?_
  refine lv_iadd hx hb dM_go_177 ?_
  refine lv_aload_n hx hb dM_go_178 rfl (lv_at hl 0 rfl) ?_
  refine va_get (D := D) (ci := 5) (v := .ref (ad 8 0)) (C := RM) (T := TM) (N := 26) hx hb hts inM hown hK hP 0 gM_0 rfl 14 (by decide) (hts _ tw_605) (fun _ h9 => h9) rfl dM_go_179 ?_
  refine lv_iload_n hx hb dM_go_182 rfl (lv_at hl 1 rfl) ?_
  obtain ⟨hin28, hw⟩ := hw
  refine va_zald hx hb hK hP 8 1 gM_8 rfl hin28 dM_go_183 ?_
  refine lv_if_eq (tgt := 191) hx hb dM_go_184 (by decide) (fun c29 => ?_) (fun c29 => ?_)
  · have hw := hw.1 c29
    refine lv_aload_n hx hb dM_go_191 rfl (lv_at hl 0 rfl) ?_
    refine va_get (D := D) (ci := 5) (v := .ref (ad 14 0)) (C := RM) (T := TM) (N := 26) hx hb hts inM hown hK hP 0 gM_0 rfl 20 (by decide) (hts _ tw_611) (fun _ h9 => h9) rfl dM_go_192 ?_
    refine lv_iload_n hx hb dM_go_195 rfl (lv_at hl 1 rfl) ?_
    refine va_iald hx hb hK hP 14 0 gM_14 rfl hin28 dM_go_196 ?_
    obtain ⟨hin31, hw⟩ := hw
    refine va_iast hx hb hK hP hD hS 18 0 gM_18 rfl hin31 dM_go_197 (fun H locs hP hD hS => ?_)
    rw [sM_18] at hP hD
    refine lv_aload_n hx hb dM_go_198 rfl (lv_at hl 0 rfl) ?_
    refine va_get (D := D) (ci := 5) (v := .ref (ad 18 0)) (C := RM) (T := TM) (N := 26) hx hb hts inM hown hK hP 0 gM_0 rfl 24 (by decide) (hts _ tw_615) (fun _ h9 => h9) rfl dM_go_199 ?_
    refine lv_iload_n hx hb dM_go_202 rfl (lv_at hl 3 rfl) ?_
    refine lv_bipush (v := 7) hx hb dM_go_203 (by decide) ?_
    refine lv_iadd hx hb dM_go_205 ?_
    refine lv_aload_n hx hb dM_go_206 rfl (lv_at hl 0 rfl) ?_
    refine va_get (D := D) (ci := 5) (v := .int (mG σ 1)) (C := RM) (T := TM) (N := 26) hx hb hts inM hown hK hP 0 gM_0 rfl 1 (by decide) (hts _ tw_592) (fun _ h9 => h9) rfl dM_go_207 ?_
    obtain ⟨hin32, hw⟩ := hw
    refine va_iast hx hb hK hP hD hS 18 0 gM_18 rfl hin32 dM_go_210 (fun H locs hP hD hS => ?_)
    rw [sM_18] at hP hD
    refine lv_aload_n hx hb dM_go_211 rfl (lv_at hl 0 rfl) ?_
    refine lv_dup hx hb dM_go_212 rfl ?_
    refine va_get (D := D) (ci := 5) (v := .int (mG σ 4)) (C := RM) (T := TM) (N := 26) hx hb hts inM hown hK hP 0 gM_0 rfl 4 (by decide) (hts _ tw_595) (fun _ h9 => h9) rfl dM_go_213 ?_
    refine lv_iconst (v := 1) hx hb dM_go_216 (by decide) ?_
    refine lv_iadd hx hb dM_go_217 ?_
    refine va_put (D := D) (ci := 5) (v := .int ((mG σ 4) + 1)) (ty := .int) (C := RM) (T := TM) (N := 26) hx hb hts inM tyM tyM_ok nmM hown hK hP hD hS 0 gM_0 rfl 4 (by decide) (hts _ tw_595) (fun _ h9 => h9) rfl (by decide +kernel) rfl rfl (Nat.le_of_ble_eq_true rfl) dM_go_218 (fun H locs hP hD hS => ?_)
    rw [sM_0_4] at hP hD
    refine lv_aload_n hx hb dM_go_221 rfl (lv_at hl 0 rfl) ?_
    refine lv_iload_n hx hb dM_go_222 rfl (lv_at hl 1 rfl) ?_
    refine lv_bipush (v := 60) hx hb dM_go_223 (by decide) ?_
    refine lv_iconst (v := 1) hx hb dM_go_225 (by decide) ?_
    have hFc := px_free hD hS hA
    refine va_callv (va_runV (As := [.int x1, .int 60, .int 1]) (rest := []) ⟨hx, hb, hml, hown, hts⟩ (c_m_alarm l D ca ad (vG 4 ((mG σ 4) + 1) (vA 17 (upd (upd (mA σ 17) (x3 + 6).toNatClampNeg ((mA σ 13) (x1).toNatClampNeg)) (x3 + 7).toNatClampNeg (mG σ 1)) (vA 17 (upd (mA σ 17) (x3 + 6).toNatClampNeg ((mA σ 13) (x1).toNatClampNeg)) σ))) x1 60 1 _ _ hw) (cwV 3 hts (gV tw_717 tw_719 tp_24 tw_7 tw_720) rfl rfl rfl (by decide +kernel) ⟨Nat.le_of_ble_eq_true rfl, Nat.le_of_ble_eq_true rfl⟩) ⟨pm_blind, (px_recv hK hP gM_0 rfl), fun U hU hW => pm_pre hP hK hD hE hS hFc hU hW⟩ rfl rfl hl.1 rfl (lv_room (Nat.le_of_ble_eq_true rfl)) dM_go_226 ⟨Nat.le_of_ble_eq_true rfl, Nat.le_of_ble_eq_true rfl⟩) hS (fun q _ h => hFc q h) hFc (fun s33 t H locs ht hvm hw hB _ _ hS => ?_)
    obtain ⟨hP, -, hD⟩ := hB
    rw [ht] at hP
    have hD := hD.weaken (fun _ _ _ h9 => hFc _ h9)
    exact W.vret hx hb hr (fun t ht hW => ⟨⟨s33, rfl, hw, by rw [ht]; exact hP, va_K.moved hW.alike hK, hD⟩, hS.F ht⟩) hS.2.2 dM_go_229
  · have hw := hw.2 c29
    refine lv_iconst (v := 0) hx hb dM_go_187 (by decide) ?_
    refine lv_goto (tgt := 197) hx hb dM_go_188 (by decide) ?_
    obtain ⟨hin35, hw⟩ := hw
    refine va_iast hx hb hK hP hD hS 18 0 gM_18 rfl hin35 dM_go_197 (fun H locs hP hD hS => ?_)
    rw [sM_18] at hP hD
    refine lv_aload_n hx hb dM_go_198 rfl (lv_at hl 0 rfl) ?_
    refine va_get (D := D) (ci := 5) (v := .ref (ad 18 0)) (C := RM) (T := TM) (N := 26) hx hb hts inM hown hK hP 0 gM_0 rfl 24 (by decide) (hts _ tw_615) (fun _ h9 => h9) rfl dM_go_199 ?_
    refine lv_iload_n hx hb dM_go_202 rfl (lv_at hl 3 rfl) ?_
    refine lv_bipush (v := 7) hx hb dM_go_203 (by decide) ?_
    refine lv_iadd hx hb dM_go_205 ?_
    refine lv_aload_n hx hb dM_go_206 rfl (lv_at hl 0 rfl) ?_
    refine va_get (D := D) (ci := 5) (v := .int (mG σ 1)) (C := RM) (T := TM) (N := 26) hx hb hts inM hown hK hP 0 gM_0 rfl 1 (by decide) (hts _ tw_592) (fun _ h9 => h9) rfl dM_go_207 ?_
    obtain ⟨hin36, hw⟩ := hw
    refine va_iast hx hb hK hP hD hS 18 0 gM_18 rfl hin36 dM_go_210 (fun H locs hP hD hS => ?_)
    rw [sM_18] at hP hD
    refine lv_aload_n hx hb dM_go_211 rfl (lv_at hl 0 rfl) ?_
    refine lv_dup hx hb dM_go_212 rfl ?_
    refine va_get (D := D) (ci := 5) (v := .int (mG σ 4)) (C := RM) (T := TM) (N := 26) hx hb hts inM hown hK hP 0 gM_0 rfl 4 (by decide) (hts _ tw_595) (fun _ h9 => h9) rfl dM_go_213 ?_
    refine lv_iconst (v := 1) hx hb dM_go_216 (by decide) ?_
    refine lv_iadd hx hb dM_go_217 ?_
    refine va_put (D := D) (ci := 5) (v := .int ((mG σ 4) + 1)) (ty := .int) (C := RM) (T := TM) (N := 26) hx hb hts inM tyM tyM_ok nmM hown hK hP hD hS 0 gM_0 rfl 4 (by decide) (hts _ tw_595) (fun _ h9 => h9) rfl (by decide +kernel) rfl rfl (Nat.le_of_ble_eq_true rfl) dM_go_218 (fun H locs hP hD hS => ?_)
    rw [sM_0_4] at hP hD
    refine lv_aload_n hx hb dM_go_221 rfl (lv_at hl 0 rfl) ?_
    refine lv_iload_n hx hb dM_go_222 rfl (lv_at hl 1 rfl) ?_
    refine lv_bipush (v := 60) hx hb dM_go_223 (by decide) ?_
    refine lv_iconst (v := 1) hx hb dM_go_225 (by decide) ?_
    have hFc := px_free hD hS hA
    refine va_callv (va_runV (As := [.int x1, .int 60, .int 1]) (rest := []) ⟨hx, hb, hml, hown, hts⟩ (c_m_alarm l D ca ad (vG 4 ((mG σ 4) + 1) (vA 17 (upd (upd (mA σ 17) (x3 + 6).toNatClampNeg 0) (x3 + 7).toNatClampNeg (mG σ 1)) (vA 17 (upd (mA σ 17) (x3 + 6).toNatClampNeg 0) σ))) x1 60 1 _ _ hw) (cwV 3 hts (gV tw_717 tw_719 tp_24 tw_7 tw_720) rfl rfl rfl (by decide +kernel) ⟨Nat.le_of_ble_eq_true rfl, Nat.le_of_ble_eq_true rfl⟩) ⟨pm_blind, (px_recv hK hP gM_0 rfl), fun U hU hW => pm_pre hP hK hD hE hS hFc hU hW⟩ rfl rfl hl.1 rfl (lv_room (Nat.le_of_ble_eq_true rfl)) dM_go_226 ⟨Nat.le_of_ble_eq_true rfl, Nat.le_of_ble_eq_true rfl⟩) hS (fun q _ h => hFc q h) hFc (fun s37 t H locs ht hvm hw hB _ _ hS => ?_)
    obtain ⟨hP, -, hD⟩ := hB
    rw [ht] at hP
    have hD := hD.weaken (fun _ _ _ h9 => hFc _ h9)
    exact W.vret hx hb hr (fun t ht hW => ⟨⟨s37, rfl, hw, by rw [ht]; exact hP, va_K.moved hW.alike hK, hD⟩, hS.F ht⟩) hS.2.2 dM_go_229
def wpc_m_go_C126 (post : Sm → Prop) (σ : Sm) (x1 : Int32) (x2 : Int32) (x3 : Int32) : Prop := (((x2 = 0) → (vp_in (x3 + 4) 512 ∧ (vp_in (x3 + 5) 512 ∧ wpc_m_go_C170 post (vA 17 (upd (upd (mA σ 17) (x3 + 4).toNatClampNeg (-1)) (x3 + 5).toNatClampNeg 0) (vA 17 (upd (mA σ 17) (x3 + 4).toNatClampNeg (-1)) σ)) x1 x2 x3))) ∧ (¬ (x2 = 0) → (vp_in x1 8 ∧ (vp_in (x3 + 4) 512 ∧ (vp_in (x3 + 5) 512 ∧ wpc_m_go_C170 post (vA 17 (upd (upd (mA σ 17) (x3 + 4).toNatClampNeg ((mA σ 3) (x1).toNatClampNeg)) (x3 + 5).toNatClampNeg ((mA σ 4) (x1).toNatClampNeg)) (vA 17 (upd (mA σ 17) (x3 + 4).toNatClampNeg ((mA σ 3) (x1).toNatClampNeg)) σ)) x1 x2 x3)))))
set_option maxHeartbeats 4000000 in
set_option maxRecDepth 100000 in
theorem k_m_go_C126 {p : Program} {l : Launch} {e : Env} {s : State} {m : MethodId} {args : Array Value} {below : List Frame} {meth : Method} {c : Code} {D : va_G} {ca : Nat → ClassId} {ad : Nat → Nat → Nat} {A : Nat → Prop}  {post : Sm → Prop} (hx : p.tables.exec = Jvm.exec) (hb : c.code = cM_go) (hr : meth.sig.returnType = none) (hml : c.maxLocals = 4) (hts : ∀ w ∈ tbG, w.before args s = true) (hown : s.vm.findClass RM = some m.cls) (hlocks : meth.locks = false) (hA : ∀ q : Nat, s.heap.size ≤ q → A q) (hK : va_K D clX (tyM9 ca) s) (hE : eM A s) (σ : Sm)  (x1 : Int32) (x2 : Int32) (x3 : Int32) (hw : wpc_m_go_C126 post σ x1 x2 x3) : ∀ (H : Heap) (locs : List Loc), va_P D clX (wM ca ad σ) H → va_D A (wM ca ad σ) → va_S A s.heap H locs → ∀ ls : Array Slot, lv_has ls 4 [(0, .ref (ad 0 0)), (1, .int x1), (2, .int x2), (3, .int x3)] → W p l e (headSpec wsM_go ({ frames := 3, cells := 0, slots := 0, locals := 66 })).room s m args below meth c H locs 0 0 (MQ below (va_Qv post (atM D ca ad A) A) args s 0 0 A) (F0 m 126 ls []) := by
  intro H locs hP hD hS ls hl
  unfold wpc_m_go_C126 at hw
  refine lv_aload_n hx hb dM_go_126 rfl (lv_at hl 0 rfl) ?_
  refine va_get (D := D) (ci := 5) (v := .ref (ad 18 0)) (C := RM) (T := TM) (N := 26) hx hb hts inM hown hK hP 0 gM_0 rfl 24 (by decide) (hts _ tw_615) (fun _ h9 => h9) rfl dM_go_127 ?_
  refine lv_iload_n hx hb dM_go_130 rfl (lv_at hl 3 rfl) ?_
  refine lv_iconst (v := 4) hx hb dM_go_131 (by decide) ?_
  refine lv_iadd hx hb dM_go_132 ?_
  refine lv_iload_n hx hb dM_go_133 rfl (lv_at hl 2 rfl) ?_
  refine lv_if_eq (tgt := 146) hx hb dM_go_134 (by decide) (fun c21 => ?_) (fun c21 => ?_)
  · have hw := hw.1 c21
    refine lv_iconst (v := (-1)) hx hb dM_go_146 (by decide) ?_
    obtain ⟨hin22, hw⟩ := hw
    refine va_iast hx hb hK hP hD hS 18 0 gM_18 rfl hin22 dM_go_147 (fun H locs hP hD hS => ?_)
    rw [sM_18] at hP hD
    refine lv_aload_n hx hb dM_go_148 rfl (lv_at hl 0 rfl) ?_
    refine va_get (D := D) (ci := 5) (v := .ref (ad 18 0)) (C := RM) (T := TM) (N := 26) hx hb hts inM hown hK hP 0 gM_0 rfl 24 (by decide) (hts _ tw_615) (fun _ h9 => h9) rfl dM_go_149 ?_
    refine lv_iload_n hx hb dM_go_152 rfl (lv_at hl 3 rfl) ?_
    refine lv_iconst (v := 5) hx hb dM_go_153 (by decide) ?_
    refine lv_iadd hx hb dM_go_154 ?_
    refine lv_iload_n hx hb dM_go_155 rfl (lv_at hl 2 rfl) ?_
    refine lv_if_eq (tgt := 168) hx hb dM_go_156 (by decide) (fun _ => ?_) (fun z9 => absurd c21 z9)
    refine lv_iconst (v := 0) hx hb dM_go_168 (by decide) ?_
    obtain ⟨hin23, hw⟩ := hw
    refine va_iast hx hb hK hP hD hS 18 0 gM_18 rfl hin23 dM_go_169 (fun H locs hP hD hS => ?_)
    rw [sM_18] at hP hD
    exact k_m_go_C170 (D := D) (ca := ca) (ad := ad)  hx hb hr hml hts hown hlocks hA hK hE (vA 17 (upd (upd (mA σ 17) (x3 + 4).toNatClampNeg (-1)) (x3 + 5).toNatClampNeg 0) (vA 17 (upd (mA σ 17) (x3 + 4).toNatClampNeg (-1)) σ)) x1 x2 x3 hw _ _ hP hD hS ls (lv_sub hl [0, 1, 2, 3] rfl)
  · have hw := hw.2 c21
    refine lv_aload_n hx hb dM_go_137 rfl (lv_at hl 0 rfl) ?_
    refine va_get (D := D) (ci := 5) (v := .ref (ad 4 0)) (C := RM) (T := TM) (N := 26) hx hb hts inM hown hK hP 0 gM_0 rfl 10 (by decide) (hts _ tw_601) (fun _ h9 => h9) rfl dM_go_138 ?_
    refine lv_iload_n hx hb dM_go_141 rfl (lv_at hl 1 rfl) ?_
    obtain ⟨hin24, hw⟩ := hw
    refine va_iald hx hb hK hP 4 0 gM_4 rfl hin24 dM_go_142 ?_
    refine lv_goto (tgt := 147) hx hb dM_go_143 (by decide) ?_
    obtain ⟨hin25, hw⟩ := hw
    refine va_iast hx hb hK hP hD hS 18 0 gM_18 rfl hin25 dM_go_147 (fun H locs hP hD hS => ?_)
    rw [sM_18] at hP hD
    refine lv_aload_n hx hb dM_go_148 rfl (lv_at hl 0 rfl) ?_
    refine va_get (D := D) (ci := 5) (v := .ref (ad 18 0)) (C := RM) (T := TM) (N := 26) hx hb hts inM hown hK hP 0 gM_0 rfl 24 (by decide) (hts _ tw_615) (fun _ h9 => h9) rfl dM_go_149 ?_
    refine lv_iload_n hx hb dM_go_152 rfl (lv_at hl 3 rfl) ?_
    refine lv_iconst (v := 5) hx hb dM_go_153 (by decide) ?_
    refine lv_iadd hx hb dM_go_154 ?_
    refine lv_iload_n hx hb dM_go_155 rfl (lv_at hl 2 rfl) ?_
    refine lv_if_eq (tgt := 168) hx hb dM_go_156 (by decide) (fun z9 => absurd z9 c21) (fun _ => ?_)
    refine lv_aload_n hx hb dM_go_159 rfl (lv_at hl 0 rfl) ?_
    refine va_get (D := D) (ci := 5) (v := .ref (ad 5 0)) (C := RM) (T := TM) (N := 26) hx hb hts inM hown hK hP 0 gM_0 rfl 11 (by decide) (hts _ tw_602) (fun _ h9 => h9) rfl dM_go_160 ?_
    refine lv_iload_n hx hb dM_go_163 rfl (lv_at hl 1 rfl) ?_
    refine va_iald hx hb hK hP 5 0 gM_5 rfl hin24 dM_go_164 ?_
    refine lv_goto (tgt := 169) hx hb dM_go_165 (by decide) ?_
    obtain ⟨hin27, hw⟩ := hw
    refine va_iast hx hb hK hP hD hS 18 0 gM_18 rfl hin27 dM_go_169 (fun H locs hP hD hS => ?_)
    rw [sM_18] at hP hD
    exact k_m_go_C170 (D := D) (ca := ca) (ad := ad)  hx hb hr hml hts hown hlocks hA hK hE (vA 17 (upd (upd (mA σ 17) (x3 + 4).toNatClampNeg ((mA σ 3) (x1).toNatClampNeg)) (x3 + 5).toNatClampNeg ((mA σ 4) (x1).toNatClampNeg)) (vA 17 (upd (mA σ 17) (x3 + 4).toNatClampNeg ((mA σ 3) (x1).toNatClampNeg)) σ)) x1 x2 x3 hw _ _ hP hD hS ls (lv_sub hl [0, 1, 2, 3] rfl)
def wpc_m_go_C63 (post : Sm → Prop) (σ : Sm) (x1 : Int32) (x2 : Int32) (x3 : Int32) : Prop := (vp_in x3 512 ∧ (vp_in x1 8 ∧ (vp_in (x3 + 1) 512 ∧ (vp_in (x3 + 2) 512 ∧ (((((mA σ 7) (x1).toNatClampNeg) = 0) → (vp_in (x3 + 3) 512 ∧ wpc_m_go_C126 post (vA 17 (upd (upd (upd (upd (mA σ 17) (x3).toNatClampNeg x1) (x3 + 1).toNatClampNeg ((mA σ 2) (x1).toNatClampNeg)) (x3 + 2).toNatClampNeg ((mA σ 5) (x1).toNatClampNeg)) (x3 + 3).toNatClampNeg ((mA σ 8) (x1).toNatClampNeg)) (vA 17 (upd (upd (upd (mA σ 17) (x3).toNatClampNeg x1) (x3 + 1).toNatClampNeg ((mA σ 2) (x1).toNatClampNeg)) (x3 + 2).toNatClampNeg ((mA σ 5) (x1).toNatClampNeg)) (vA 17 (upd (upd (mA σ 17) (x3).toNatClampNeg x1) (x3 + 1).toNatClampNeg ((mA σ 2) (x1).toNatClampNeg)) (vA 17 (upd (mA σ 17) (x3).toNatClampNeg x1) σ)))) x1 x2 x3)) ∧ (¬ (((mA σ 7) (x1).toNatClampNeg) = 0) → (vp_in (x3 + 3) 512 ∧ wpc_m_go_C126 post (vA 17 (upd (upd (upd (upd (mA σ 17) (x3).toNatClampNeg x1) (x3 + 1).toNatClampNeg ((mA σ 2) (x1).toNatClampNeg)) (x3 + 2).toNatClampNeg ((mA σ 5) (x1).toNatClampNeg)) (x3 + 3).toNatClampNeg 6) (vA 17 (upd (upd (upd (mA σ 17) (x3).toNatClampNeg x1) (x3 + 1).toNatClampNeg ((mA σ 2) (x1).toNatClampNeg)) (x3 + 2).toNatClampNeg ((mA σ 5) (x1).toNatClampNeg)) (vA 17 (upd (upd (mA σ 17) (x3).toNatClampNeg x1) (x3 + 1).toNatClampNeg ((mA σ 2) (x1).toNatClampNeg)) (vA 17 (upd (mA σ 17) (x3).toNatClampNeg x1) σ)))) x1 x2 x3)))))))
set_option maxHeartbeats 4000000 in
set_option maxRecDepth 100000 in
theorem k_m_go_C63 {p : Program} {l : Launch} {e : Env} {s : State} {m : MethodId} {args : Array Value} {below : List Frame} {meth : Method} {c : Code} {D : va_G} {ca : Nat → ClassId} {ad : Nat → Nat → Nat} {A : Nat → Prop}  {post : Sm → Prop} (hx : p.tables.exec = Jvm.exec) (hb : c.code = cM_go) (hr : meth.sig.returnType = none) (hml : c.maxLocals = 4) (hts : ∀ w ∈ tbG, w.before args s = true) (hown : s.vm.findClass RM = some m.cls) (hlocks : meth.locks = false) (hA : ∀ q : Nat, s.heap.size ≤ q → A q) (hK : va_K D clX (tyM9 ca) s) (hE : eM A s) (σ : Sm)  (x1 : Int32) (x2 : Int32) (x3 : Int32) (hw : wpc_m_go_C63 post σ x1 x2 x3) : ∀ (H : Heap) (locs : List Loc), va_P D clX (wM ca ad σ) H → va_D A (wM ca ad σ) → va_S A s.heap H locs → ∀ ls : Array Slot, lv_has ls 4 [(0, .ref (ad 0 0)), (1, .int x1), (2, .int x2), (3, .int x3)] → W p l e (headSpec wsM_go ({ frames := 3, cells := 0, slots := 0, locals := 66 })).room s m args below meth c H locs 0 0 (MQ below (va_Qv post (atM D ca ad A) A) args s 0 0 A) (F0 m 63 ls []) := by
  intro H locs hP hD hS ls hl
  unfold wpc_m_go_C63 at hw
  refine lv_aload_n hx hb dM_go_63 rfl (lv_at hl 0 rfl) ?_
  refine va_get (D := D) (ci := 5) (v := .ref (ad 18 0)) (C := RM) (T := TM) (N := 26) hx hb hts inM hown hK hP 0 gM_0 rfl 24 (by decide) (hts _ tw_615) (fun _ h9 => h9) rfl dM_go_64 ?_
  refine lv_iload_n hx hb dM_go_67 rfl (lv_at hl 3 rfl) ?_
  refine lv_iload_n hx hb dM_go_68 rfl (lv_at hl 1 rfl) ?_
  obtain ⟨hin11, hw⟩ := hw
  refine va_iast hx hb hK hP hD hS 18 0 gM_18 rfl hin11 dM_go_69 (fun H locs hP hD hS => ?_)
  rw [sM_18] at hP hD
  refine lv_aload_n hx hb dM_go_70 rfl (lv_at hl 0 rfl) ?_
  refine va_get (D := D) (ci := 5) (v := .ref (ad 18 0)) (C := RM) (T := TM) (N := 26) hx hb hts inM hown hK hP 0 gM_0 rfl 24 (by decide) (hts _ tw_615) (fun _ h9 => h9) rfl dM_go_71 ?_
  refine lv_iload_n hx hb dM_go_74 rfl (lv_at hl 3 rfl) ?_
  refine lv_iconst (v := 1) hx hb dM_go_75 (by decide) ?_
  refine lv_iadd hx hb dM_go_76 ?_
  refine lv_aload_n hx hb dM_go_77 rfl (lv_at hl 0 rfl) ?_
  refine va_get (D := D) (ci := 5) (v := .ref (ad 3 0)) (C := RM) (T := TM) (N := 26) hx hb hts inM hown hK hP 0 gM_0 rfl 9 (by decide) (hts _ tw_600) (fun _ h9 => h9) rfl dM_go_78 ?_
  refine lv_iload_n hx hb dM_go_81 rfl (lv_at hl 1 rfl) ?_
  obtain ⟨hin12, hw⟩ := hw
  refine va_iald hx hb hK hP 3 0 gM_3 rfl hin12 dM_go_82 ?_
  obtain ⟨hin13, hw⟩ := hw
  refine va_iast hx hb hK hP hD hS 18 0 gM_18 rfl hin13 dM_go_83 (fun H locs hP hD hS => ?_)
  rw [sM_18] at hP hD
  refine lv_aload_n hx hb dM_go_84 rfl (lv_at hl 0 rfl) ?_
  refine va_get (D := D) (ci := 5) (v := .ref (ad 18 0)) (C := RM) (T := TM) (N := 26) hx hb hts inM hown hK hP 0 gM_0 rfl 24 (by decide) (hts _ tw_615) (fun _ h9 => h9) rfl dM_go_85 ?_
  refine lv_iload_n hx hb dM_go_88 rfl (lv_at hl 3 rfl) ?_
  refine lv_iconst (v := 2) hx hb dM_go_89 (by decide) ?_
  refine lv_iadd hx hb dM_go_90 ?_
  refine lv_aload_n hx hb dM_go_91 rfl (lv_at hl 0 rfl) ?_
  refine va_get (D := D) (ci := 5) (v := .ref (ad 6 0)) (C := RM) (T := TM) (N := 26) hx hb hts inM hown hK hP 0 gM_0 rfl 12 (by decide) (hts _ tw_603) (fun _ h9 => h9) rfl dM_go_92 ?_
  refine lv_iload_n hx hb dM_go_95 rfl (lv_at hl 1 rfl) ?_
  refine va_iald hx hb hK hP 6 0 gM_6 rfl hin12 dM_go_96 ?_
  obtain ⟨hin15, hw⟩ := hw
  refine va_iast hx hb hK hP hD hS 18 0 gM_18 rfl hin15 dM_go_97 (fun H locs hP hD hS => ?_)
  rw [sM_18] at hP hD
  refine lv_aload_n hx hb dM_go_98 rfl (lv_at hl 0 rfl) ?_
  refine va_get (D := D) (ci := 5) (v := .ref (ad 18 0)) (C := RM) (T := TM) (N := 26) hx hb hts inM hown hK hP 0 gM_0 rfl 24 (by decide) (hts _ tw_615) (fun _ h9 => h9) rfl dM_go_99 ?_
  refine lv_iload_n hx hb dM_go_102 rfl (lv_at hl 3 rfl) ?_
  refine lv_iconst (v := 3) hx hb dM_go_103 (by decide) ?_
  refine lv_iadd hx hb dM_go_104 ?_
  refine lv_aload_n hx hb dM_go_105 rfl (lv_at hl 0 rfl) ?_
  refine va_get (D := D) (ci := 5) (v := .ref (ad 8 0)) (C := RM) (T := TM) (N := 26) hx hb hts inM hown hK hP 0 gM_0 rfl 14 (by decide) (hts _ tw_605) (fun _ h9 => h9) rfl dM_go_106 ?_
  refine lv_iload_n hx hb dM_go_109 rfl (lv_at hl 1 rfl) ?_
  refine va_zald hx hb hK hP 8 1 gM_8 rfl hin12 dM_go_110 ?_
  refine lv_if_eq (tgt := 119) hx hb dM_go_111 (by decide) (fun c17 => ?_) (fun c17 => ?_)
  · have hw := hw.1 c17
    refine lv_aload_n hx hb dM_go_119 rfl (lv_at hl 0 rfl) ?_
    refine va_get (D := D) (ci := 5) (v := .ref (ad 9 0)) (C := RM) (T := TM) (N := 26) hx hb hts inM hown hK hP 0 gM_0 rfl 15 (by decide) (hts _ tw_606) (fun _ h9 => h9) rfl dM_go_120 ?_
    refine lv_iload_n hx hb dM_go_123 rfl (lv_at hl 1 rfl) ?_
    refine va_iald hx hb hK hP 9 0 gM_9 rfl hin12 dM_go_124 ?_
    obtain ⟨hin19, hw⟩ := hw
    refine va_iast hx hb hK hP hD hS 18 0 gM_18 rfl hin19 dM_go_125 (fun H locs hP hD hS => ?_)
    rw [sM_18] at hP hD
    exact k_m_go_C126 (D := D) (ca := ca) (ad := ad)  hx hb hr hml hts hown hlocks hA hK hE (vA 17 (upd (upd (upd (upd (mA σ 17) (x3).toNatClampNeg x1) (x3 + 1).toNatClampNeg ((mA σ 2) (x1).toNatClampNeg)) (x3 + 2).toNatClampNeg ((mA σ 5) (x1).toNatClampNeg)) (x3 + 3).toNatClampNeg ((mA σ 8) (x1).toNatClampNeg)) (vA 17 (upd (upd (upd (mA σ 17) (x3).toNatClampNeg x1) (x3 + 1).toNatClampNeg ((mA σ 2) (x1).toNatClampNeg)) (x3 + 2).toNatClampNeg ((mA σ 5) (x1).toNatClampNeg)) (vA 17 (upd (upd (mA σ 17) (x3).toNatClampNeg x1) (x3 + 1).toNatClampNeg ((mA σ 2) (x1).toNatClampNeg)) (vA 17 (upd (mA σ 17) (x3).toNatClampNeg x1) σ)))) x1 x2 x3 hw _ _ hP hD hS ls (lv_sub hl [0, 1, 2, 3] rfl)
  · have hw := hw.2 c17
    refine lv_bipush (v := 6) hx hb dM_go_114 (by decide) ?_
    refine lv_goto (tgt := 125) hx hb dM_go_116 (by decide) ?_
    obtain ⟨hin20, hw⟩ := hw
    refine va_iast hx hb hK hP hD hS 18 0 gM_18 rfl hin20 dM_go_125 (fun H locs hP hD hS => ?_)
    rw [sM_18] at hP hD
    exact k_m_go_C126 (D := D) (ca := ca) (ad := ad)  hx hb hr hml hts hown hlocks hA hK hE (vA 17 (upd (upd (upd (upd (mA σ 17) (x3).toNatClampNeg x1) (x3 + 1).toNatClampNeg ((mA σ 2) (x1).toNatClampNeg)) (x3 + 2).toNatClampNeg ((mA σ 5) (x1).toNatClampNeg)) (x3 + 3).toNatClampNeg 6) (vA 17 (upd (upd (upd (mA σ 17) (x3).toNatClampNeg x1) (x3 + 1).toNatClampNeg ((mA σ 2) (x1).toNatClampNeg)) (x3 + 2).toNatClampNeg ((mA σ 5) (x1).toNatClampNeg)) (vA 17 (upd (upd (mA σ 17) (x3).toNatClampNeg x1) (x3 + 1).toNatClampNeg ((mA σ 2) (x1).toNatClampNeg)) (vA 17 (upd (mA σ 17) (x3).toNatClampNeg x1) σ)))) x1 x2 x3 hw _ _ hP hD hS ls (lv_sub hl [0, 1, 2, 3] rfl)
def wp_m_go (post : Sm → Prop) (σ : Sm) (a0 : Int32) : Prop := (vp_in a0 8 ∧ (((((upd (mA σ 6) (a0).toNatClampNeg (((mA σ 6) (a0).toNatClampNeg) + 1)) (a0).toNatClampNeg) ≤ 40) → ((¬ (((mA σ 7) (a0).toNatClampNeg) = 0) → wpc_m_go_C63 post (vA 6 (upd (mA σ 6) (a0).toNatClampNeg (((mA σ 6) (a0).toNatClampNeg) + 1)) σ) a0 0 (8 * ((mG σ 4) - (mG σ 4) / 64 * 64))) ∧ ((((mA σ 7) (a0).toNatClampNeg) = 0) → (((3 ≤ ((mA σ 8) (a0).toNatClampNeg)) → wpc_m_go_C63 post (vA 6 (upd (mA σ 6) (a0).toNatClampNeg (((mA σ 6) (a0).toNatClampNeg) + 1)) σ) a0 0 (8 * ((mG σ 4) - (mG σ 4) / 64 * 64))) ∧ (¬ (3 ≤ ((mA σ 8) (a0).toNatClampNeg)) → wpc_m_go_C63 post (vA 6 (upd (mA σ 6) (a0).toNatClampNeg (((mA σ 6) (a0).toNatClampNeg) + 1)) σ) a0 1 (8 * ((mG σ 4) - (mG σ 4) / 64 * 64))))))) ∧ (¬ (((upd (mA σ 6) (a0).toNatClampNeg (((mA σ 6) (a0).toNatClampNeg) + 1)) (a0).toNatClampNeg) ≤ 40) → wp_m_stop (fun s9 => post s9) (vA 6 (upd (mA σ 6) (a0).toNatClampNeg (((mA σ 6) (a0).toNatClampNeg) + 1)) σ) a0)))
set_option maxHeartbeats 4000000 in
set_option maxRecDepth 100000 in
theorem c_m_go (l : Launch) (D : va_G) (ca : Nat → ClassId) (ad : Nat → Nat → Nat) (σ : Sm) (a0 : Int32) (sz : Nat) (post : Sm → Prop) (hw : wp_m_go post σ a0) : Met l yM_go wsM_go ({ frames := 3, cells := 0, slots := 0, locals := 66 }) (va_Pc [.ref (ad 0 0), .int a0] (preM D ca ad σ sz)) (va_Qv post (atM D ca ad (va_A (wM ca ad σ) sz)) (va_A (wM ca ad σ) sz)) 0 0 (va_A (wM ca ad σ) sz) := by
  refine Met.ofW (cc := cM_go) (maxL := 4) (ret := none) (by decide) rfl ?_
  intro p e s m args below meth c s₁ B hml hv
  obtain ⟨rfl, hsz, hP, hK, hD0, hE⟩ := hv
  have hx := B.exec
  have hb := B.bytes
  have hr := B.returns
  have hts : ∀ w ∈ tbG, w.before _ s = true := fun w h => atoms_spec (ws := wsM_go) B.pre w (List.mem_cons_of_mem _ h)
  have hown : s.vm.findClass RM = some m.cls := findClass_of_methodNamed B.named
  have hlocks := B.notSynchronized
  subst hsz
  have hD := hD0.self (sz := s.heap.size)
  generalize hAe : va_A (wM ca ad σ) s.heap.size = A at hD hE ⊢
  have hA : ∀ q : Nat, s.heap.size ≤ q → A q := fun q h => by rw [← hAe]; exact Or.inr h
  clear hAe
  have hS : va_S A s.heap s.heap [] := va_S.rf
  have hl := lv_entry ([.ref (ad 0 0), .int a0]) (n := 4) (Nat.le_of_ble_eq_true rfl)
  rw [lg_entry_eq]
  generalize (lg_sl ([.ref (ad 0 0), .int a0]) ++ List.replicate (4 - (lg_sl ([.ref (ad 0 0), .int a0])).length) Slot.unset).toArray = ls at hl ⊢
  have hl : lv_has ls 4 [(0, .ref (ad 0 0)), (1, .int a0)] := hl
  unfold wp_m_go at hw
  have hP : va_P D clX (wM ca ad σ) s.heap := hP
  refine lv_aload_n hx hb dM_go_0 rfl (lv_at hl 0 rfl) ?_
  refine va_get (D := D) (ci := 5) (v := .ref (ad 7 0)) (C := RM) (T := TM) (N := 26) hx hb hts inM hown hK hP 0 gM_0 rfl 13 (by decide) (hts _ tw_604) (fun _ h9 => h9) rfl dM_go_1 ?_
  refine lv_iload_n hx hb dM_go_4 rfl (lv_at hl 1 rfl) ?_
  refine lv_dup2_11 hx hb dM_go_5 rfl rfl ?_
  obtain ⟨hin1, hw⟩ := hw
  refine va_iald hx hb hK hP 7 0 gM_7 rfl hin1 dM_go_6 ?_
  refine lv_iconst (v := 1) hx hb dM_go_7 (by decide) ?_
  refine lv_iadd hx hb dM_go_8 ?_
  refine va_iast hx hb hK hP hD hS 7 0 gM_7 rfl hin1 dM_go_9 (fun H locs hP hD hS => ?_)
  rw [sM_7] at hP hD
  refine lv_aload_n hx hb dM_go_10 rfl (lv_at hl 0 rfl) ?_
  refine va_get (D := D) (ci := 5) (v := .ref (ad 7 0)) (C := RM) (T := TM) (N := 26) hx hb hts inM hown hK hP 0 gM_0 rfl 13 (by decide) (hts _ tw_604) (fun _ h9 => h9) rfl dM_go_11 ?_
  refine lv_iload_n hx hb dM_go_14 rfl (lv_at hl 1 rfl) ?_
  refine va_iald hx hb hK hP 7 0 gM_7 rfl hin1 dM_go_15 ?_
  refine lv_bipush (v := 40) hx hb dM_go_16 (by decide) ?_
  refine lv_icmp_le (tgt := 27) hx hb dM_go_18 (by decide) (fun c4 => ?_) (fun c4 => ?_)
  · have hw := hw.1 c4
    refine lv_aload_n hx hb dM_go_27 rfl (lv_at hl 0 rfl) ?_
    refine va_get (D := D) (ci := 5) (v := .ref (ad 8 0)) (C := RM) (T := TM) (N := 26) hx hb hts inM hown hK hP 0 gM_0 rfl 14 (by decide) (hts _ tw_605) (fun _ h9 => h9) rfl dM_go_28 ?_
    refine lv_iload_n hx hb dM_go_31 rfl (lv_at hl 1 rfl) ?_
    refine va_zald hx hb hK hP 8 1 gM_8 rfl hin1 dM_go_32 ?_
    refine lv_if_ne (tgt := 50) hx hb dM_go_33 (by decide) (fun c6 => ?_) (fun c6 => ?_)
    · have hw := hw.1 c6
      refine lv_iconst (v := 0) hx hb dM_go_50 (by decide) ?_
      refine lv_istore_n (lv' := [(2, .int 0), (0, .ref (ad 0 0)), (1, .int a0)]) hx hb dM_go_51 rfl hl (by decide) rfl (fun ls hl => ?_)
      refine lv_bipush (v := 8) hx hb dM_go_52 (by decide) ?_
      refine lv_aload_n hx hb dM_go_54 rfl (lv_at hl 1 rfl) ?_
      refine va_get (D := D) (ci := 5) (v := .int (mG σ 4)) (C := RM) (T := TM) (N := 26) hx hb hts inM hown hK hP 0 gM_0 rfl 4 (by decide) (hts _ tw_595) (fun _ h9 => h9) rfl dM_go_55 ?_
      refine lv_bipush (v := 64) hx hb dM_go_58 (by decide) ?_
      refine lv_irem hx hb dM_go_60 (by decide) ?_
      refine lv_imul hx hb dM_go_61 ?_
      refine lv_istore_n (lv' := [(3, .int (8 * ((mG σ 4) - (mG σ 4) / 64 * 64))), (2, .int 0), (0, .ref (ad 0 0)), (1, .int a0)]) hx hb dM_go_62 rfl hl (by decide) rfl (fun ls hl => ?_)
      exact k_m_go_C63 (D := D) (ca := ca) (ad := ad)  hx hb hr hml hts hown hlocks hA hK hE (vA 6 (upd (mA σ 6) (a0).toNatClampNeg (((mA σ 6) (a0).toNatClampNeg) + 1)) σ) a0 0 (8 * ((mG σ 4) - (mG σ 4) / 64 * 64)) hw _ _ hP hD hS ls (lv_sub hl [2, 3, 1, 0] rfl)
    · have hw := hw.2 c6
      refine lv_aload_n hx hb dM_go_36 rfl (lv_at hl 0 rfl) ?_
      refine va_get (D := D) (ci := 5) (v := .ref (ad 9 0)) (C := RM) (T := TM) (N := 26) hx hb hts inM hown hK hP 0 gM_0 rfl 15 (by decide) (hts _ tw_606) (fun _ h9 => h9) rfl dM_go_37 ?_
      refine lv_iload_n hx hb dM_go_40 rfl (lv_at hl 1 rfl) ?_
      refine va_iald hx hb hK hP 9 0 gM_9 rfl hin1 dM_go_41 ?_
      refine lv_iconst (v := 3) hx hb dM_go_42 (by decide) ?_
      refine lv_icmp_ge (tgt := 50) hx hb dM_go_43 (by decide) (fun c8 => ?_) (fun c8 => ?_)
      · have hw := hw.1 c8
        refine lv_iconst (v := 0) hx hb dM_go_50 (by decide) ?_
        refine lv_istore_n (lv' := [(2, .int 0), (0, .ref (ad 0 0)), (1, .int a0)]) hx hb dM_go_51 rfl hl (by decide) rfl (fun ls hl => ?_)
        refine lv_bipush (v := 8) hx hb dM_go_52 (by decide) ?_
        refine lv_aload_n hx hb dM_go_54 rfl (lv_at hl 1 rfl) ?_
        refine va_get (D := D) (ci := 5) (v := .int (mG σ 4)) (C := RM) (T := TM) (N := 26) hx hb hts inM hown hK hP 0 gM_0 rfl 4 (by decide) (hts _ tw_595) (fun _ h9 => h9) rfl dM_go_55 ?_
        refine lv_bipush (v := 64) hx hb dM_go_58 (by decide) ?_
        refine lv_irem hx hb dM_go_60 (by decide) ?_
        refine lv_imul hx hb dM_go_61 ?_
        refine lv_istore_n (lv' := [(3, .int (8 * ((mG σ 4) - (mG σ 4) / 64 * 64))), (2, .int 0), (0, .ref (ad 0 0)), (1, .int a0)]) hx hb dM_go_62 rfl hl (by decide) rfl (fun ls hl => ?_)
        exact k_m_go_C63 (D := D) (ca := ca) (ad := ad)  hx hb hr hml hts hown hlocks hA hK hE (vA 6 (upd (mA σ 6) (a0).toNatClampNeg (((mA σ 6) (a0).toNatClampNeg) + 1)) σ) a0 0 (8 * ((mG σ 4) - (mG σ 4) / 64 * 64)) hw _ _ hP hD hS ls (lv_sub hl [2, 3, 1, 0] rfl)
      · have hw := hw.2 c8
        refine lv_iconst (v := 1) hx hb dM_go_46 (by decide) ?_
        refine lv_goto (tgt := 51) hx hb dM_go_47 (by decide) ?_
        refine lv_istore_n (lv' := [(2, .int 1), (0, .ref (ad 0 0)), (1, .int a0)]) hx hb dM_go_51 rfl hl (by decide) rfl (fun ls hl => ?_)
        refine lv_bipush (v := 8) hx hb dM_go_52 (by decide) ?_
        refine lv_aload_n hx hb dM_go_54 rfl (lv_at hl 1 rfl) ?_
        refine va_get (D := D) (ci := 5) (v := .int (mG σ 4)) (C := RM) (T := TM) (N := 26) hx hb hts inM hown hK hP 0 gM_0 rfl 4 (by decide) (hts _ tw_595) (fun _ h9 => h9) rfl dM_go_55 ?_
        refine lv_bipush (v := 64) hx hb dM_go_58 (by decide) ?_
        refine lv_irem hx hb dM_go_60 (by decide) ?_
        refine lv_imul hx hb dM_go_61 ?_
        refine lv_istore_n (lv' := [(3, .int (8 * ((mG σ 4) - (mG σ 4) / 64 * 64))), (2, .int 1), (0, .ref (ad 0 0)), (1, .int a0)]) hx hb dM_go_62 rfl hl (by decide) rfl (fun ls hl => ?_)
        exact k_m_go_C63 (D := D) (ca := ca) (ad := ad)  hx hb hr hml hts hown hlocks hA hK hE (vA 6 (upd (mA σ 6) (a0).toNatClampNeg (((mA σ 6) (a0).toNatClampNeg) + 1)) σ) a0 1 (8 * ((mG σ 4) - (mG σ 4) / 64 * 64)) hw _ _ hP hD hS ls (lv_sub hl [2, 3, 1, 0] rfl)
  · have hw := hw.2 c4
    refine lv_aload_n hx hb dM_go_21 rfl (lv_at hl 0 rfl) ?_
    refine lv_iload_n hx hb dM_go_22 rfl (lv_at hl 1 rfl) ?_
    have hFc := px_free hD hS hA
    refine va_callv (va_runV (As := [.int a0]) (rest := []) ⟨hx, hb, hml, hown, hts⟩ (c_m_stop l D ca ad (vA 6 (upd (mA σ 6) (a0).toNatClampNeg (((mA σ 6) (a0).toNatClampNeg) + 1)) σ) a0 _ _ hw) (cwV 1 hts (gV tw_705 tw_707 tp_21 tw_7 tw_708) rfl rfl rfl (by decide +kernel) ⟨Nat.le_of_ble_eq_true rfl, Nat.le_of_ble_eq_true rfl⟩) ⟨pm_blind, (px_recv hK hP gM_0 rfl), fun U hU hW => pm_pre hP hK hD hE hS hFc hU hW⟩ rfl rfl hl.1 rfl (lv_room (Nat.le_of_ble_eq_true rfl)) dM_go_23 ⟨Nat.le_of_ble_eq_true rfl, Nat.le_of_ble_eq_true rfl⟩) hS (fun q _ h => hFc q h) hFc (fun s9 t H locs ht hvm hw hB _ _ hS => ?_)
    obtain ⟨hP, -, hD⟩ := hB
    rw [ht] at hP
    have hD := hD.weaken (fun _ _ _ h9 => hFc _ h9)
    exact W.vret hx hb hr (fun t ht hW => ⟨⟨s9, rfl, hw, by rw [ht]; exact hP, va_K.moved hW.alike hK, hD⟩, hS.F ht⟩) hS.2.2 dM_go_26
theorem dM_begin_0 : decode cM_begin 0 = .ok (.aload_n 0, 1) := by decide +kernel
theorem dM_begin_1 : decode cM_begin 1 = .ok (.getfield 32, 3) := by decide +kernel
theorem dM_begin_4 : decode cM_begin 4 = .ok (.iload_n 1, 1) := by decide +kernel
theorem dM_begin_5 : decode cM_begin 5 = .ok (.aload_n 0, 1) := by decide +kernel
theorem dM_begin_6 : decode cM_begin 6 = .ok (.getfield 35, 3) := by decide +kernel
theorem dM_begin_9 : decode cM_begin 9 = .ok (.iload_n 1, 1) := by decide +kernel
theorem dM_begin_10 : decode cM_begin 10 = .ok (.iaload, 1) := by decide +kernel
theorem dM_begin_11 : decode cM_begin 11 = .ok (.iconst 3, 1) := by decide +kernel
theorem dM_begin_12 : decode cM_begin 12 = .ok (.if_icmp .ge 16, 3) := by decide +kernel
theorem dM_begin_15 : decode cM_begin 15 = .ok (.aload_n 0, 1) := by decide +kernel
theorem dM_begin_16 : decode cM_begin 16 = .ok (.getfield 20, 3) := by decide +kernel
theorem dM_begin_19 : decode cM_begin 19 = .ok (.iload_n 1, 1) := by decide +kernel
theorem dM_begin_20 : decode cM_begin 20 = .ok (.iaload, 1) := by decide +kernel
theorem dM_begin_21 : decode cM_begin 21 = .ok (.ifCond .ge 7, 3) := by decide +kernel
theorem dM_begin_24 : decode cM_begin 24 = .ok (.iconst 1, 1) := by decide +kernel
theorem dM_begin_25 : decode cM_begin 25 = .ok (.goto 4, 3) := by decide +kernel
theorem dM_begin_28 : decode cM_begin 28 = .ok (.iconst 0, 1) := by decide +kernel
theorem dM_begin_29 : decode cM_begin 29 = .ok (.bastore, 1) := by decide +kernel
theorem dM_begin_30 : decode cM_begin 30 = .ok (.aload_n 0, 1) := by decide +kernel
theorem dM_begin_31 : decode cM_begin 31 = .ok (.getfield 35, 3) := by decide +kernel
theorem dM_begin_34 : decode cM_begin 34 = .ok (.iload_n 1, 1) := by decide +kernel
theorem dM_begin_35 : decode cM_begin 35 = .ok (.iaload, 1) := by decide +kernel
theorem dM_begin_36 : decode cM_begin 36 = .ok (.iconst 3, 1) := by decide +kernel
theorem dM_begin_37 : decode cM_begin 37 = .ok (.if_icmp .ge 22, 3) := by decide +kernel
theorem dM_begin_40 : decode cM_begin 40 = .ok (.aload_n 0, 1) := by decide +kernel
theorem dM_begin_41 : decode cM_begin 41 = .ok (.getfield 32, 3) := by decide +kernel
theorem dM_begin_44 : decode cM_begin 44 = .ok (.iload_n 1, 1) := by decide +kernel
theorem dM_begin_45 : decode cM_begin 45 = .ok (.baload, 1) := by decide +kernel
theorem dM_begin_46 : decode cM_begin 46 = .ok (.ifCond .ne 13, 3) := by decide +kernel
theorem dM_begin_49 : decode cM_begin 49 = .ok (.aload_n 0, 1) := by decide +kernel
theorem dM_begin_50 : decode cM_begin 50 = .ok (.getfield 23, 3) := by decide +kernel
theorem dM_begin_53 : decode cM_begin 53 = .ok (.iload_n 1, 1) := by decide +kernel
theorem dM_begin_54 : decode cM_begin 54 = .ok (.dup2, 1) := by decide +kernel
theorem dM_begin_55 : decode cM_begin 55 = .ok (.iaload, 1) := by decide +kernel
theorem dM_begin_56 : decode cM_begin 56 = .ok (.iconst 1, 1) := by decide +kernel
theorem dM_begin_57 : decode cM_begin 57 = .ok (.iadd, 1) := by decide +kernel
theorem dM_begin_58 : decode cM_begin 58 = .ok (.iastore, 1) := by decide +kernel
theorem dM_begin_59 : decode cM_begin 59 = .ok (.aload_n 0, 1) := by decide +kernel
theorem dM_begin_60 : decode cM_begin 60 = .ok (.getfield 26, 3) := by decide +kernel
theorem dM_begin_63 : decode cM_begin 63 = .ok (.iload_n 1, 1) := by decide +kernel
theorem dM_begin_64 : decode cM_begin 64 = .ok (.dup2, 1) := by decide +kernel
theorem dM_begin_65 : decode cM_begin 65 = .ok (.iaload, 1) := by decide +kernel
theorem dM_begin_66 : decode cM_begin 66 = .ok (.iconst 1, 1) := by decide +kernel
theorem dM_begin_67 : decode cM_begin 67 = .ok (.iadd, 1) := by decide +kernel
theorem dM_begin_68 : decode cM_begin 68 = .ok (.iastore, 1) := by decide +kernel
theorem dM_begin_69 : decode cM_begin 69 = .ok (.aload_n 0, 1) := by decide +kernel
theorem dM_begin_70 : decode cM_begin 70 = .ok (.iload_n 1, 1) := by decide +kernel
theorem dM_begin_71 : decode cM_begin 71 = .ok (.invokevirtual 112, 3) := by decide +kernel
theorem dM_begin_74 : decode cM_begin 74 = .ok (.return_, 1) := by decide +kernel
def wp_m_begin (post : Sm → Prop) (σ : Sm) (a0 : Int32) : Prop := (vp_in a0 8 ∧ (((3 ≤ ((mA σ 8) (a0).toNatClampNeg)) → wp_m_go (fun s7 => post s7) (vA 5 (upd (mA σ 5) (a0).toNatClampNeg (((mA σ 5) (a0).toNatClampNeg) + 1)) (vA 7 (upd (mA σ 7) (a0).toNatClampNeg (vp_nar .boolean 0)) σ)) a0) ∧ (¬ (3 ≤ ((mA σ 8) (a0).toNatClampNeg)) → (((0 ≤ ((mA σ 3) (a0).toNatClampNeg)) → ((¬ (((upd (mA σ 7) (a0).toNatClampNeg (vp_nar .boolean 0)) (a0).toNatClampNeg) = 0) → wp_m_go (fun s17 => post s17) (vA 5 (upd (mA σ 5) (a0).toNatClampNeg (((mA σ 5) (a0).toNatClampNeg) + 1)) (vA 7 (upd (mA σ 7) (a0).toNatClampNeg (vp_nar .boolean 0)) σ)) a0) ∧ ((((upd (mA σ 7) (a0).toNatClampNeg (vp_nar .boolean 0)) (a0).toNatClampNeg) = 0) → wp_m_go (fun s23 => post s23) (vA 5 (upd (mA σ 5) (a0).toNatClampNeg (((mA σ 5) (a0).toNatClampNeg) + 1)) (vA 4 (upd (mA σ 4) (a0).toNatClampNeg (((mA σ 4) (a0).toNatClampNeg) + 1)) (vA 7 (upd (mA σ 7) (a0).toNatClampNeg (vp_nar .boolean 0)) σ))) a0))) ∧ (¬ (0 ≤ ((mA σ 3) (a0).toNatClampNeg)) → ((¬ (((upd (mA σ 7) (a0).toNatClampNeg (vp_nar .boolean 1)) (a0).toNatClampNeg) = 0) → wp_m_go (fun s31 => post s31) (vA 5 (upd (mA σ 5) (a0).toNatClampNeg (((mA σ 5) (a0).toNatClampNeg) + 1)) (vA 7 (upd (mA σ 7) (a0).toNatClampNeg (vp_nar .boolean 1)) σ)) a0) ∧ ((((upd (mA σ 7) (a0).toNatClampNeg (vp_nar .boolean 1)) (a0).toNatClampNeg) = 0) → wp_m_go (fun s37 => post s37) (vA 5 (upd (mA σ 5) (a0).toNatClampNeg (((mA σ 5) (a0).toNatClampNeg) + 1)) (vA 4 (upd (mA σ 4) (a0).toNatClampNeg (((mA σ 4) (a0).toNatClampNeg) + 1)) (vA 7 (upd (mA σ 7) (a0).toNatClampNeg (vp_nar .boolean 1)) σ))) a0)))))))
set_option maxHeartbeats 4000000 in
set_option maxRecDepth 100000 in
theorem c_m_begin (l : Launch) (D : va_G) (ca : Nat → ClassId) (ad : Nat → Nat → Nat) (σ : Sm) (a0 : Int32) (sz : Nat) (post : Sm → Prop) (hw : wp_m_begin post σ a0) : Met l yM_begin wsM_begin ({ frames := 4, cells := 0, slots := 0, locals := 89 }) (va_Pc [.ref (ad 0 0), .int a0] (preM D ca ad σ sz)) (va_Qv post (atM D ca ad (va_A (wM ca ad σ) sz)) (va_A (wM ca ad σ) sz)) 0 0 (va_A (wM ca ad σ) sz) := by
  refine Met.ofW (cc := cM_begin) (maxL := 2) (ret := none) (by decide) rfl ?_
  intro p e s m args below meth c s₁ B hml hv
  obtain ⟨rfl, hsz, hP, hK, hD0, hE⟩ := hv
  have hx := B.exec
  have hb := B.bytes
  have hr := B.returns
  have hts : ∀ w ∈ tbG, w.before _ s = true := fun w h => atoms_spec (ws := wsM_begin) B.pre w (List.mem_cons_of_mem _ h)
  have hown : s.vm.findClass RM = some m.cls := findClass_of_methodNamed B.named
  have hlocks := B.notSynchronized
  subst hsz
  have hD := hD0.self (sz := s.heap.size)
  generalize hAe : va_A (wM ca ad σ) s.heap.size = A at hD hE ⊢
  have hA : ∀ q : Nat, s.heap.size ≤ q → A q := fun q h => by rw [← hAe]; exact Or.inr h
  clear hAe
  have hS : va_S A s.heap s.heap [] := va_S.rf
  have hl := lv_entry ([.ref (ad 0 0), .int a0]) (n := 2) (Nat.le_of_ble_eq_true rfl)
  rw [lg_entry_eq]
  generalize (lg_sl ([.ref (ad 0 0), .int a0]) ++ List.replicate (2 - (lg_sl ([.ref (ad 0 0), .int a0])).length) Slot.unset).toArray = ls at hl ⊢
  have hl : lv_has ls 2 [(0, .ref (ad 0 0)), (1, .int a0)] := hl
  unfold wp_m_begin at hw
  have hP : va_P D clX (wM ca ad σ) s.heap := hP
  refine lv_aload_n hx hb dM_begin_0 rfl (lv_at hl 0 rfl) ?_
  refine va_get (D := D) (ci := 5) (v := .ref (ad 8 0)) (C := RM) (T := TM) (N := 26) hx hb hts inM hown hK hP 0 gM_0 rfl 14 (by decide) (hts _ tw_605) (fun _ h9 => h9) rfl dM_begin_1 ?_
  refine lv_iload_n hx hb dM_begin_4 rfl (lv_at hl 1 rfl) ?_
  refine lv_aload_n hx hb dM_begin_5 rfl (lv_at hl 0 rfl) ?_
  refine va_get (D := D) (ci := 5) (v := .ref (ad 9 0)) (C := RM) (T := TM) (N := 26) hx hb hts inM hown hK hP 0 gM_0 rfl 15 (by decide) (hts _ tw_606) (fun _ h9 => h9) rfl dM_begin_6 ?_
  refine lv_iload_n hx hb dM_begin_9 rfl (lv_at hl 1 rfl) ?_
  obtain ⟨hin1, hw⟩ := hw
  refine va_iald hx hb hK hP 9 0 gM_9 rfl hin1 dM_begin_10 ?_
  refine lv_iconst (v := 3) hx hb dM_begin_11 (by decide) ?_
  refine lv_icmp_ge (tgt := 28) hx hb dM_begin_12 (by decide) (fun c2 => ?_) (fun c2 => ?_)
  · have hw := hw.1 c2
    refine lv_iconst (v := 0) hx hb dM_begin_28 (by decide) ?_
    refine va_zast hx hb hK hP hD hS 8 1 gM_8 rfl hin1 dM_begin_29 (fun H locs hP hD hS => ?_)
    rw [sM_8] at hP hD
    refine lv_aload_n hx hb dM_begin_30 rfl (lv_at hl 0 rfl) ?_
    refine va_get (D := D) (ci := 5) (v := .ref (ad 9 0)) (C := RM) (T := TM) (N := 26) hx hb hts inM hown hK hP 0 gM_0 rfl 15 (by decide) (hts _ tw_606) (fun _ h9 => h9) rfl dM_begin_31 ?_
    refine lv_iload_n hx hb dM_begin_34 rfl (lv_at hl 1 rfl) ?_
    refine va_iald hx hb hK hP 9 0 gM_9 rfl hin1 dM_begin_35 ?_
    refine lv_iconst (v := 3) hx hb dM_begin_36 (by decide) ?_
    refine lv_icmp_ge (tgt := 59) hx hb dM_begin_37 (by decide) (fun _ => ?_) (fun z9 => absurd c2 z9)
    refine lv_aload_n hx hb dM_begin_59 rfl (lv_at hl 0 rfl) ?_
    refine va_get (D := D) (ci := 5) (v := .ref (ad 6 0)) (C := RM) (T := TM) (N := 26) hx hb hts inM hown hK hP 0 gM_0 rfl 12 (by decide) (hts _ tw_603) (fun _ h9 => h9) rfl dM_begin_60 ?_
    refine lv_iload_n hx hb dM_begin_63 rfl (lv_at hl 1 rfl) ?_
    refine lv_dup2_11 hx hb dM_begin_64 rfl rfl ?_
    refine va_iald hx hb hK hP 6 0 gM_6 rfl hin1 dM_begin_65 ?_
    refine lv_iconst (v := 1) hx hb dM_begin_66 (by decide) ?_
    refine lv_iadd hx hb dM_begin_67 ?_
    refine va_iast hx hb hK hP hD hS 6 0 gM_6 rfl hin1 dM_begin_68 (fun H locs hP hD hS => ?_)
    rw [sM_6] at hP hD
    refine lv_aload_n hx hb dM_begin_69 rfl (lv_at hl 0 rfl) ?_
    refine lv_iload_n hx hb dM_begin_70 rfl (lv_at hl 1 rfl) ?_
    have hFc := px_free hD hS hA
    refine va_callv (va_runV (As := [.int a0]) (rest := []) ⟨hx, hb, hml, hown, hts⟩ (c_m_go l D ca ad (vA 5 (upd (mA σ 5) (a0).toNatClampNeg (((mA σ 5) (a0).toNatClampNeg) + 1)) (vA 7 (upd (mA σ 7) (a0).toNatClampNeg (vp_nar .boolean 0)) σ)) a0 _ _ hw) (cwV 1 hts (gV tw_701 tw_703 tp_20 tw_7 tw_704) rfl rfl rfl (by decide +kernel) ⟨Nat.le_of_ble_eq_true rfl, Nat.le_of_ble_eq_true rfl⟩) ⟨pm_blind, (px_recv hK hP gM_0 rfl), fun U hU hW => pm_pre hP hK hD hE hS hFc hU hW⟩ rfl rfl hl.1 rfl (lv_room (Nat.le_of_ble_eq_true rfl)) dM_begin_71 ⟨Nat.le_of_ble_eq_true rfl, Nat.le_of_ble_eq_true rfl⟩) hS (fun q _ h => hFc q h) hFc (fun s7 t H locs ht hvm hw hB _ _ hS => ?_)
    obtain ⟨hP, -, hD⟩ := hB
    rw [ht] at hP
    have hD := hD.weaken (fun _ _ _ h9 => hFc _ h9)
    exact W.vret hx hb hr (fun t ht hW => ⟨⟨s7, rfl, hw, by rw [ht]; exact hP, va_K.moved hW.alike hK, hD⟩, hS.F ht⟩) hS.2.2 dM_begin_74
  · have hw := hw.2 c2
    refine lv_aload_n hx hb dM_begin_15 rfl (lv_at hl 0 rfl) ?_
    refine va_get (D := D) (ci := 5) (v := .ref (ad 4 0)) (C := RM) (T := TM) (N := 26) hx hb hts inM hown hK hP 0 gM_0 rfl 10 (by decide) (hts _ tw_601) (fun _ h9 => h9) rfl dM_begin_16 ?_
    refine lv_iload_n hx hb dM_begin_19 rfl (lv_at hl 1 rfl) ?_
    refine va_iald hx hb hK hP 4 0 gM_4 rfl hin1 dM_begin_20 ?_
    refine lv_if_ge (tgt := 28) hx hb dM_begin_21 (by decide) (fun c10 => ?_) (fun c10 => ?_)
    · have hw := hw.1 c10
      refine lv_iconst (v := 0) hx hb dM_begin_28 (by decide) ?_
      refine va_zast hx hb hK hP hD hS 8 1 gM_8 rfl hin1 dM_begin_29 (fun H locs hP hD hS => ?_)
      rw [sM_8] at hP hD
      refine lv_aload_n hx hb dM_begin_30 rfl (lv_at hl 0 rfl) ?_
      refine va_get (D := D) (ci := 5) (v := .ref (ad 9 0)) (C := RM) (T := TM) (N := 26) hx hb hts inM hown hK hP 0 gM_0 rfl 15 (by decide) (hts _ tw_606) (fun _ h9 => h9) rfl dM_begin_31 ?_
      refine lv_iload_n hx hb dM_begin_34 rfl (lv_at hl 1 rfl) ?_
      refine va_iald hx hb hK hP 9 0 gM_9 rfl hin1 dM_begin_35 ?_
      refine lv_iconst (v := 3) hx hb dM_begin_36 (by decide) ?_
      refine lv_icmp_ge (tgt := 59) hx hb dM_begin_37 (by decide) (fun z9 => absurd z9 c2) (fun _ => ?_)
      refine lv_aload_n hx hb dM_begin_40 rfl (lv_at hl 0 rfl) ?_
      refine va_get (D := D) (ci := 5) (v := .ref (ad 8 0)) (C := RM) (T := TM) (N := 26) hx hb hts inM hown hK hP 0 gM_0 rfl 14 (by decide) (hts _ tw_605) (fun _ h9 => h9) rfl dM_begin_41 ?_
      refine lv_iload_n hx hb dM_begin_44 rfl (lv_at hl 1 rfl) ?_
      refine va_zald hx hb hK hP 8 1 gM_8 rfl hin1 dM_begin_45 ?_
      refine lv_if_ne (tgt := 59) hx hb dM_begin_46 (by decide) (fun c14 => ?_) (fun c14 => ?_)
      · have hw := hw.1 c14
        refine lv_aload_n hx hb dM_begin_59 rfl (lv_at hl 0 rfl) ?_
        refine va_get (D := D) (ci := 5) (v := .ref (ad 6 0)) (C := RM) (T := TM) (N := 26) hx hb hts inM hown hK hP 0 gM_0 rfl 12 (by decide) (hts _ tw_603) (fun _ h9 => h9) rfl dM_begin_60 ?_
        refine lv_iload_n hx hb dM_begin_63 rfl (lv_at hl 1 rfl) ?_
        refine lv_dup2_11 hx hb dM_begin_64 rfl rfl ?_
        refine va_iald hx hb hK hP 6 0 gM_6 rfl hin1 dM_begin_65 ?_
        refine lv_iconst (v := 1) hx hb dM_begin_66 (by decide) ?_
        refine lv_iadd hx hb dM_begin_67 ?_
        refine va_iast hx hb hK hP hD hS 6 0 gM_6 rfl hin1 dM_begin_68 (fun H locs hP hD hS => ?_)
        rw [sM_6] at hP hD
        refine lv_aload_n hx hb dM_begin_69 rfl (lv_at hl 0 rfl) ?_
        refine lv_iload_n hx hb dM_begin_70 rfl (lv_at hl 1 rfl) ?_
        have hFc := px_free hD hS hA
        refine va_callv (va_runV (As := [.int a0]) (rest := []) ⟨hx, hb, hml, hown, hts⟩ (c_m_go l D ca ad (vA 5 (upd (mA σ 5) (a0).toNatClampNeg (((mA σ 5) (a0).toNatClampNeg) + 1)) (vA 7 (upd (mA σ 7) (a0).toNatClampNeg (vp_nar .boolean 0)) σ)) a0 _ _ hw) (cwV 1 hts (gV tw_701 tw_703 tp_20 tw_7 tw_704) rfl rfl rfl (by decide +kernel) ⟨Nat.le_of_ble_eq_true rfl, Nat.le_of_ble_eq_true rfl⟩) ⟨pm_blind, (px_recv hK hP gM_0 rfl), fun U hU hW => pm_pre hP hK hD hE hS hFc hU hW⟩ rfl rfl hl.1 rfl (lv_room (Nat.le_of_ble_eq_true rfl)) dM_begin_71 ⟨Nat.le_of_ble_eq_true rfl, Nat.le_of_ble_eq_true rfl⟩) hS (fun q _ h => hFc q h) hFc (fun s17 t H locs ht hvm hw hB _ _ hS => ?_)
        obtain ⟨hP, -, hD⟩ := hB
        rw [ht] at hP
        have hD := hD.weaken (fun _ _ _ h9 => hFc _ h9)
        exact W.vret hx hb hr (fun t ht hW => ⟨⟨s17, rfl, hw, by rw [ht]; exact hP, va_K.moved hW.alike hK, hD⟩, hS.F ht⟩) hS.2.2 dM_begin_74
      · have hw := hw.2 c14
        refine lv_aload_n hx hb dM_begin_49 rfl (lv_at hl 0 rfl) ?_
        refine va_get (D := D) (ci := 5) (v := .ref (ad 5 0)) (C := RM) (T := TM) (N := 26) hx hb hts inM hown hK hP 0 gM_0 rfl 11 (by decide) (hts _ tw_602) (fun _ h9 => h9) rfl dM_begin_50 ?_
        refine lv_iload_n hx hb dM_begin_53 rfl (lv_at hl 1 rfl) ?_
        refine lv_dup2_11 hx hb dM_begin_54 rfl rfl ?_
        refine va_iald hx hb hK hP 5 0 gM_5 rfl hin1 dM_begin_55 ?_
        refine lv_iconst (v := 1) hx hb dM_begin_56 (by decide) ?_
        refine lv_iadd hx hb dM_begin_57 ?_
        refine va_iast hx hb hK hP hD hS 5 0 gM_5 rfl hin1 dM_begin_58 (fun H locs hP hD hS => ?_)
        rw [sM_5] at hP hD
        refine lv_aload_n hx hb dM_begin_59 rfl (lv_at hl 0 rfl) ?_
        refine va_get (D := D) (ci := 5) (v := .ref (ad 6 0)) (C := RM) (T := TM) (N := 26) hx hb hts inM hown hK hP 0 gM_0 rfl 12 (by decide) (hts _ tw_603) (fun _ h9 => h9) rfl dM_begin_60 ?_
        refine lv_iload_n hx hb dM_begin_63 rfl (lv_at hl 1 rfl) ?_
        refine lv_dup2_11 hx hb dM_begin_64 rfl rfl ?_
        refine va_iald hx hb hK hP 6 0 gM_6 rfl hin1 dM_begin_65 ?_
        refine lv_iconst (v := 1) hx hb dM_begin_66 (by decide) ?_
        refine lv_iadd hx hb dM_begin_67 ?_
        refine va_iast hx hb hK hP hD hS 6 0 gM_6 rfl hin1 dM_begin_68 (fun H locs hP hD hS => ?_)
        rw [sM_6] at hP hD
        refine lv_aload_n hx hb dM_begin_69 rfl (lv_at hl 0 rfl) ?_
        refine lv_iload_n hx hb dM_begin_70 rfl (lv_at hl 1 rfl) ?_
        have hFc := px_free hD hS hA
        refine va_callv (va_runV (As := [.int a0]) (rest := []) ⟨hx, hb, hml, hown, hts⟩ (c_m_go l D ca ad (vA 5 (upd (mA σ 5) (a0).toNatClampNeg (((mA σ 5) (a0).toNatClampNeg) + 1)) (vA 4 (upd (mA σ 4) (a0).toNatClampNeg (((mA σ 4) (a0).toNatClampNeg) + 1)) (vA 7 (upd (mA σ 7) (a0).toNatClampNeg (vp_nar .boolean 0)) σ))) a0 _ _ hw) (cwV 1 hts (gV tw_701 tw_703 tp_20 tw_7 tw_704) rfl rfl rfl (by decide +kernel) ⟨Nat.le_of_ble_eq_true rfl, Nat.le_of_ble_eq_true rfl⟩) ⟨pm_blind, (px_recv hK hP gM_0 rfl), fun U hU hW => pm_pre hP hK hD hE hS hFc hU hW⟩ rfl rfl hl.1 rfl (lv_room (Nat.le_of_ble_eq_true rfl)) dM_begin_71 ⟨Nat.le_of_ble_eq_true rfl, Nat.le_of_ble_eq_true rfl⟩) hS (fun q _ h => hFc q h) hFc (fun s23 t H locs ht hvm hw hB _ _ hS => ?_)
        obtain ⟨hP, -, hD⟩ := hB
        rw [ht] at hP
        have hD := hD.weaken (fun _ _ _ h9 => hFc _ h9)
        exact W.vret hx hb hr (fun t ht hW => ⟨⟨s23, rfl, hw, by rw [ht]; exact hP, va_K.moved hW.alike hK, hD⟩, hS.F ht⟩) hS.2.2 dM_begin_74
    · have hw := hw.2 c10
      refine lv_iconst (v := 1) hx hb dM_begin_24 (by decide) ?_
      refine lv_goto (tgt := 29) hx hb dM_begin_25 (by decide) ?_
      refine va_zast hx hb hK hP hD hS 8 1 gM_8 rfl hin1 dM_begin_29 (fun H locs hP hD hS => ?_)
      rw [sM_8] at hP hD
      refine lv_aload_n hx hb dM_begin_30 rfl (lv_at hl 0 rfl) ?_
      refine va_get (D := D) (ci := 5) (v := .ref (ad 9 0)) (C := RM) (T := TM) (N := 26) hx hb hts inM hown hK hP 0 gM_0 rfl 15 (by decide) (hts _ tw_606) (fun _ h9 => h9) rfl dM_begin_31 ?_
      refine lv_iload_n hx hb dM_begin_34 rfl (lv_at hl 1 rfl) ?_
      refine va_iald hx hb hK hP 9 0 gM_9 rfl hin1 dM_begin_35 ?_
      refine lv_iconst (v := 3) hx hb dM_begin_36 (by decide) ?_
      refine lv_icmp_ge (tgt := 59) hx hb dM_begin_37 (by decide) (fun z9 => absurd z9 c2) (fun _ => ?_)
      refine lv_aload_n hx hb dM_begin_40 rfl (lv_at hl 0 rfl) ?_
      refine va_get (D := D) (ci := 5) (v := .ref (ad 8 0)) (C := RM) (T := TM) (N := 26) hx hb hts inM hown hK hP 0 gM_0 rfl 14 (by decide) (hts _ tw_605) (fun _ h9 => h9) rfl dM_begin_41 ?_
      refine lv_iload_n hx hb dM_begin_44 rfl (lv_at hl 1 rfl) ?_
      refine va_zald hx hb hK hP 8 1 gM_8 rfl hin1 dM_begin_45 ?_
      refine lv_if_ne (tgt := 59) hx hb dM_begin_46 (by decide) (fun c28 => ?_) (fun c28 => ?_)
      · have hw := hw.1 c28
        refine lv_aload_n hx hb dM_begin_59 rfl (lv_at hl 0 rfl) ?_
        refine va_get (D := D) (ci := 5) (v := .ref (ad 6 0)) (C := RM) (T := TM) (N := 26) hx hb hts inM hown hK hP 0 gM_0 rfl 12 (by decide) (hts _ tw_603) (fun _ h9 => h9) rfl dM_begin_60 ?_
        refine lv_iload_n hx hb dM_begin_63 rfl (lv_at hl 1 rfl) ?_
        refine lv_dup2_11 hx hb dM_begin_64 rfl rfl ?_
        refine va_iald hx hb hK hP 6 0 gM_6 rfl hin1 dM_begin_65 ?_
        refine lv_iconst (v := 1) hx hb dM_begin_66 (by decide) ?_
        refine lv_iadd hx hb dM_begin_67 ?_
        refine va_iast hx hb hK hP hD hS 6 0 gM_6 rfl hin1 dM_begin_68 (fun H locs hP hD hS => ?_)
        rw [sM_6] at hP hD
        refine lv_aload_n hx hb dM_begin_69 rfl (lv_at hl 0 rfl) ?_
        refine lv_iload_n hx hb dM_begin_70 rfl (lv_at hl 1 rfl) ?_
        have hFc := px_free hD hS hA
        refine va_callv (va_runV (As := [.int a0]) (rest := []) ⟨hx, hb, hml, hown, hts⟩ (c_m_go l D ca ad (vA 5 (upd (mA σ 5) (a0).toNatClampNeg (((mA σ 5) (a0).toNatClampNeg) + 1)) (vA 7 (upd (mA σ 7) (a0).toNatClampNeg (vp_nar .boolean 1)) σ)) a0 _ _ hw) (cwV 1 hts (gV tw_701 tw_703 tp_20 tw_7 tw_704) rfl rfl rfl (by decide +kernel) ⟨Nat.le_of_ble_eq_true rfl, Nat.le_of_ble_eq_true rfl⟩) ⟨pm_blind, (px_recv hK hP gM_0 rfl), fun U hU hW => pm_pre hP hK hD hE hS hFc hU hW⟩ rfl rfl hl.1 rfl (lv_room (Nat.le_of_ble_eq_true rfl)) dM_begin_71 ⟨Nat.le_of_ble_eq_true rfl, Nat.le_of_ble_eq_true rfl⟩) hS (fun q _ h => hFc q h) hFc (fun s31 t H locs ht hvm hw hB _ _ hS => ?_)
        obtain ⟨hP, -, hD⟩ := hB
        rw [ht] at hP
        have hD := hD.weaken (fun _ _ _ h9 => hFc _ h9)
        exact W.vret hx hb hr (fun t ht hW => ⟨⟨s31, rfl, hw, by rw [ht]; exact hP, va_K.moved hW.alike hK, hD⟩, hS.F ht⟩) hS.2.2 dM_begin_74
      · have hw := hw.2 c28
        refine lv_aload_n hx hb dM_begin_49 rfl (lv_at hl 0 rfl) ?_
        refine va_get (D := D) (ci := 5) (v := .ref (ad 5 0)) (C := RM) (T := TM) (N := 26) hx hb hts inM hown hK hP 0 gM_0 rfl 11 (by decide) (hts _ tw_602) (fun _ h9 => h9) rfl dM_begin_50 ?_
        refine lv_iload_n hx hb dM_begin_53 rfl (lv_at hl 1 rfl) ?_
        refine lv_dup2_11 hx hb dM_begin_54 rfl rfl ?_
        refine va_iald hx hb hK hP 5 0 gM_5 rfl hin1 dM_begin_55 ?_
        refine lv_iconst (v := 1) hx hb dM_begin_56 (by decide) ?_
        refine lv_iadd hx hb dM_begin_57 ?_
        refine va_iast hx hb hK hP hD hS 5 0 gM_5 rfl hin1 dM_begin_58 (fun H locs hP hD hS => ?_)
        rw [sM_5] at hP hD
        refine lv_aload_n hx hb dM_begin_59 rfl (lv_at hl 0 rfl) ?_
        refine va_get (D := D) (ci := 5) (v := .ref (ad 6 0)) (C := RM) (T := TM) (N := 26) hx hb hts inM hown hK hP 0 gM_0 rfl 12 (by decide) (hts _ tw_603) (fun _ h9 => h9) rfl dM_begin_60 ?_
        refine lv_iload_n hx hb dM_begin_63 rfl (lv_at hl 1 rfl) ?_
        refine lv_dup2_11 hx hb dM_begin_64 rfl rfl ?_
        refine va_iald hx hb hK hP 6 0 gM_6 rfl hin1 dM_begin_65 ?_
        refine lv_iconst (v := 1) hx hb dM_begin_66 (by decide) ?_
        refine lv_iadd hx hb dM_begin_67 ?_
        refine va_iast hx hb hK hP hD hS 6 0 gM_6 rfl hin1 dM_begin_68 (fun H locs hP hD hS => ?_)
        rw [sM_6] at hP hD
        refine lv_aload_n hx hb dM_begin_69 rfl (lv_at hl 0 rfl) ?_
        refine lv_iload_n hx hb dM_begin_70 rfl (lv_at hl 1 rfl) ?_
        have hFc := px_free hD hS hA
        refine va_callv (va_runV (As := [.int a0]) (rest := []) ⟨hx, hb, hml, hown, hts⟩ (c_m_go l D ca ad (vA 5 (upd (mA σ 5) (a0).toNatClampNeg (((mA σ 5) (a0).toNatClampNeg) + 1)) (vA 4 (upd (mA σ 4) (a0).toNatClampNeg (((mA σ 4) (a0).toNatClampNeg) + 1)) (vA 7 (upd (mA σ 7) (a0).toNatClampNeg (vp_nar .boolean 1)) σ))) a0 _ _ hw) (cwV 1 hts (gV tw_701 tw_703 tp_20 tw_7 tw_704) rfl rfl rfl (by decide +kernel) ⟨Nat.le_of_ble_eq_true rfl, Nat.le_of_ble_eq_true rfl⟩) ⟨pm_blind, (px_recv hK hP gM_0 rfl), fun U hU hW => pm_pre hP hK hD hE hS hFc hU hW⟩ rfl rfl hl.1 rfl (lv_room (Nat.le_of_ble_eq_true rfl)) dM_begin_71 ⟨Nat.le_of_ble_eq_true rfl, Nat.le_of_ble_eq_true rfl⟩) hS (fun q _ h => hFc q h) hFc (fun s37 t H locs ht hvm hw hB _ _ hS => ?_)
        obtain ⟨hP, -, hD⟩ := hB
        rw [ht] at hP
        have hD := hD.weaken (fun _ _ _ h9 => hFc _ h9)
        exact W.vret hx hb hr (fun t ht hW => ⟨⟨s37, rfl, hw, by rw [ht]; exact hP, va_K.moved hW.alike hK, hD⟩, hS.F ht⟩) hS.2.2 dM_begin_74
theorem dM_next_0 : decode cM_next 0 = .ok (.iconst (-1), 1) := by decide +kernel
theorem dM_next_1 : decode cM_next 1 = .ok (.istore_n 2, 1) := by decide +kernel
theorem dM_next_2 : decode cM_next 2 = .ok (.iconst 0, 1) := by decide +kernel
theorem dM_next_3 : decode cM_next 3 = .ok (.istore_n 3, 1) := by decide +kernel
theorem dM_next_4 : decode cM_next 4 = .ok (.iload_n 3, 1) := by decide +kernel
theorem dM_next_5 : decode cM_next 5 = .ok (.bipush 8, 2) := by decide +kernel
theorem dM_next_7 : decode cM_next 7 = .ok (.if_icmp .ge 91, 3) := by decide +kernel
theorem dM_next_10 : decode cM_next 10 = .ok (.aload_n 0, 1) := by decide +kernel
theorem dM_next_11 : decode cM_next 11 = .ok (.getfield 44, 3) := by decide +kernel
theorem dM_next_14 : decode cM_next 14 = .ok (.iload_n 3, 1) := by decide +kernel
theorem dM_next_15 : decode cM_next 15 = .ok (.iaload, 1) := by decide +kernel
theorem dM_next_16 : decode cM_next 16 = .ok (.ifCond .le 17, 3) := by decide +kernel
theorem dM_next_19 : decode cM_next 19 = .ok (.aload_n 0, 1) := by decide +kernel
theorem dM_next_20 : decode cM_next 20 = .ok (.getfield 41, 3) := by decide +kernel
theorem dM_next_23 : decode cM_next 23 = .ok (.iload_n 3, 1) := by decide +kernel
theorem dM_next_24 : decode cM_next 24 = .ok (.iaload, 1) := by decide +kernel
theorem dM_next_25 : decode cM_next 25 = .ok (.iload_n 1, 1) := by decide +kernel
theorem dM_next_26 : decode cM_next 26 = .ok (.if_icmp .gt 7, 3) := by decide +kernel
theorem dM_next_29 : decode cM_next 29 = .ok (.iconst 1, 1) := by decide +kernel
theorem dM_next_30 : decode cM_next 30 = .ok (.goto 4, 3) := by decide +kernel
theorem dM_next_33 : decode cM_next 33 = .ok (.iconst 0, 1) := by decide +kernel
theorem dM_next_34 : decode cM_next 34 = .ok (.istore 4, 2) := by decide +kernel
theorem dM_next_36 : decode cM_next 36 = .ok (.iload 4, 2) := by decide +kernel
theorem dM_next_38 : decode cM_next 38 = .ok (.ifCond .eq 54, 3) := by decide +kernel
theorem dM_next_41 : decode cM_next 41 = .ok (.iload_n 2, 1) := by decide +kernel
theorem dM_next_42 : decode cM_next 42 = .ok (.ifCond .lt 48, 3) := by decide +kernel
theorem dM_next_45 : decode cM_next 45 = .ok (.aload_n 0, 1) := by decide +kernel
theorem dM_next_46 : decode cM_next 46 = .ok (.getfield 41, 3) := by decide +kernel
theorem dM_next_49 : decode cM_next 49 = .ok (.iload_n 3, 1) := by decide +kernel
theorem dM_next_50 : decode cM_next 50 = .ok (.iaload, 1) := by decide +kernel
theorem dM_next_51 : decode cM_next 51 = .ok (.aload_n 0, 1) := by decide +kernel
theorem dM_next_52 : decode cM_next 52 = .ok (.getfield 41, 3) := by decide +kernel
theorem dM_next_55 : decode cM_next 55 = .ok (.iload_n 2, 1) := by decide +kernel
theorem dM_next_56 : decode cM_next 56 = .ok (.iaload, 1) := by decide +kernel
theorem dM_next_57 : decode cM_next 57 = .ok (.if_icmp .lt 33, 3) := by decide +kernel
theorem dM_next_60 : decode cM_next 60 = .ok (.aload_n 0, 1) := by decide +kernel
theorem dM_next_61 : decode cM_next 61 = .ok (.getfield 41, 3) := by decide +kernel
theorem dM_next_64 : decode cM_next 64 = .ok (.iload_n 3, 1) := by decide +kernel
theorem dM_next_65 : decode cM_next 65 = .ok (.iaload, 1) := by decide +kernel
theorem dM_next_66 : decode cM_next 66 = .ok (.aload_n 0, 1) := by decide +kernel
theorem dM_next_67 : decode cM_next 67 = .ok (.getfield 41, 3) := by decide +kernel
theorem dM_next_70 : decode cM_next 70 = .ok (.iload_n 2, 1) := by decide +kernel
theorem dM_next_71 : decode cM_next 71 = .ok (.iaload, 1) := by decide +kernel
theorem dM_next_72 : decode cM_next 72 = .ok (.if_icmp .ne 20, 3) := by decide +kernel
theorem dM_next_75 : decode cM_next 75 = .ok (.aload_n 0, 1) := by decide +kernel
theorem dM_next_76 : decode cM_next 76 = .ok (.getfield 44, 3) := by decide +kernel
theorem dM_next_79 : decode cM_next 79 = .ok (.iload_n 3, 1) := by decide +kernel
theorem dM_next_80 : decode cM_next 80 = .ok (.iaload, 1) := by decide +kernel
theorem dM_next_81 : decode cM_next 81 = .ok (.aload_n 0, 1) := by decide +kernel
theorem dM_next_82 : decode cM_next 82 = .ok (.getfield 44, 3) := by decide +kernel
theorem dM_next_85 : decode cM_next 85 = .ok (.iload_n 2, 1) := by decide +kernel
theorem dM_next_86 : decode cM_next 86 = .ok (.iaload, 1) := by decide +kernel
theorem dM_next_87 : decode cM_next 87 = .ok (.if_icmp .ge 5, 3) := by decide +kernel
theorem dM_next_90 : decode cM_next 90 = .ok (.iload_n 3, 1) := by decide +kernel
theorem dM_next_91 : decode cM_next 91 = .ok (.istore_n 2, 1) := by decide +kernel
theorem dM_next_92 : decode cM_next 92 = .ok (.iinc 3 1, 3) := by decide +kernel
theorem dM_next_95 : decode cM_next 95 = .ok (.goto (-91), 3) := by decide +kernel
theorem dM_next_98 : decode cM_next 98 = .ok (.iload_n 2, 1) := by decide +kernel
theorem dM_next_99 : decode cM_next 99 = .ok (.ireturn, 1) := by decide +kernel
def wpl_m_next_L4 : Nat → (Int32 → Sm → Prop) → Sm → Int32 → Int32 → Int32 → Prop
  | 0, _, _, _, _, _ => False
  | n + 1, post, σ, x1, x2, x3 => (((8 ≤ x3) → post x2 σ) ∧ (¬ (8 ≤ x3) → (vp_in x3 8 ∧ (((((mA σ 11) (x3).toNatClampNeg) ≤ 0) → wpl_m_next_L4 n post σ x1 x2 (x3 + 1)) ∧ (¬ (((mA σ 11) (x3).toNatClampNeg) ≤ 0) → (((x1 < ((mA σ 10) (x3).toNatClampNeg)) → wpl_m_next_L4 n post σ x1 x2 (x3 + 1)) ∧ (¬ (x1 < ((mA σ 10) (x3).toNatClampNeg)) → (((x2 < 0) → wpl_m_next_L4 n post σ x1 x3 (x3 + 1)) ∧ (¬ (x2 < 0) → (vp_in x2 8 ∧ (((((mA σ 10) (x3).toNatClampNeg) < ((mA σ 10) (x2).toNatClampNeg)) → wpl_m_next_L4 n post σ x1 x3 (x3 + 1)) ∧ (¬ (((mA σ 10) (x3).toNatClampNeg) < ((mA σ 10) (x2).toNatClampNeg)) → ((¬ (((mA σ 10) (x3).toNatClampNeg) = ((mA σ 10) (x2).toNatClampNeg)) → wpl_m_next_L4 n post σ x1 x2 (x3 + 1)) ∧ ((((mA σ 10) (x3).toNatClampNeg) = ((mA σ 10) (x2).toNatClampNeg)) → (((((mA σ 11) (x2).toNatClampNeg) ≤ ((mA σ 11) (x3).toNatClampNeg)) → wpl_m_next_L4 n post σ x1 x2 (x3 + 1)) ∧ (¬ (((mA σ 11) (x2).toNatClampNeg) ≤ ((mA σ 11) (x3).toNatClampNeg)) → wpl_m_next_L4 n post σ x1 x3 (x3 + 1)))))))))))))))))
set_option maxHeartbeats 4000000 in
set_option maxRecDepth 100000 in
theorem l_m_next_L4 {p : Program} {l : Launch} {e : Env} {s : State} {m : MethodId} {args : Array Value} {below : List Frame} {meth : Method} {c : Code} {D : va_G} {ca : Nat → ClassId} {ad : Nat → Nat → Nat} {A : Nat → Prop}  {post : Int32 → Sm → Prop} (hx : p.tables.exec = Jvm.exec) (hb : c.code = cM_next) (hr : meth.sig.returnType = (some .int)) (hml : c.maxLocals = 5) (hts : ∀ w ∈ tbG, w.before args s = true) (hown : s.vm.findClass RM = some m.cls) (hlocks : meth.locks = false) (hA : ∀ q : Nat, s.heap.size ≤ q → A q) (hK : va_K D clX (tyM9 ca) s) (hE : eM A s) : ∀ (n : Nat) (σ : Sm) (x1 : Int32) (x2 : Int32) (x3 : Int32), wpl_m_next_L4 n post σ x1 x2 x3 → ∀ (H : Heap) (locs : List Loc), va_P D clX (wM ca ad σ) H → va_D A (wM ca ad σ) → va_S A s.heap H locs → ∀ ls : Array Slot, lv_has ls 5 [(0, .ref (ad 0 0)), (1, .int x1), (2, .int x2), (3, .int x3)] → W p l e (headSpec wsM_next ({ frames := 0, cells := 0, slots := 0, locals := 0 })).room s m args below meth c H locs 0 0 (MQ below (va_Qi post (atM D ca ad A) A) args s 0 0 A) (F0 m 4 ls []) := by
  intro n
  induction n with
  | zero => intro σ x1 x2 x3 hw; exact hw.elim
  | succ n ih =>
    intro σ x1 x2 x3 hw H locs hP hD hS ls hl
    refine lv_iload_n hx hb dM_next_4 rfl (lv_at hl 3 rfl) ?_
    refine lv_bipush (v := 8) hx hb dM_next_5 (by decide) ?_
    refine lv_icmp_ge (tgt := 98) hx hb dM_next_7 (by decide) (fun c1 => ?_) (fun c1 => ?_)
    · have hw := hw.1 c1
      refine lv_iload_n hx hb dM_next_98 rfl (lv_at hl 2 rfl) ?_
      exact W.iret (v := x2) hx hb hr (fun t ht hW => ⟨⟨x2, σ, rfl, hw, by rw [ht]; exact hP, va_K.moved hW.alike hK, hD⟩, hS.F ht⟩) hS.2.2 dM_next_99
    · have hw := hw.2 c1
      refine lv_aload_n hx hb dM_next_10 rfl (lv_at hl 0 rfl) ?_
      refine va_get (D := D) (ci := 5) (v := .ref (ad 12 0)) (C := RM) (T := TM) (N := 26) hx hb hts inM hown hK hP 0 gM_0 rfl 18 (by decide) (hts _ tw_609) (fun _ h9 => h9) rfl dM_next_11 ?_
      refine lv_iload_n hx hb dM_next_14 rfl (lv_at hl 3 rfl) ?_
      obtain ⟨hin2, hw⟩ := hw
      refine va_iald hx hb hK hP 12 0 gM_12 rfl hin2 dM_next_15 ?_
      refine lv_if_le (tgt := 33) hx hb dM_next_16 (by decide) (fun c3 => ?_) (fun c3 => ?_)
      · have hw := hw.1 c3
        refine lv_iconst (v := 0) hx hb dM_next_33 (by decide) ?_
        refine lv_istore (lv' := [(4, .int 0), (0, .ref (ad 0 0)), (1, .int x1), (2, .int x2), (3, .int x3)]) hx hb dM_next_34 hl (by decide) rfl (fun ls hl => ?_)
        refine lv_iload hx hb dM_next_36 (lv_at hl 0 rfl) ?_
        refine lv_if_eq (tgt := 92) hx hb dM_next_38 (by decide) (fun _ => ?_) (fun z9 => absurd z9 (by decide))
        refine lv_iinc (v := x3 + 1) (lv' := [(3, .int (x3 + 1)), (4, .int 0), (0, .ref (ad 0 0)), (1, .int x1), (2, .int x2)]) hx hb dM_next_92 hl (k := 4) rfl rfl (by decide) rfl (fun ls hl => ?_)
        refine lv_goto (tgt := 4) hx hb dM_next_95 (by decide) ?_
        exact ih σ x1 x2 (x3 + 1) hw _ _ hP hD hS ls (lv_sub hl [2, 3, 4, 0] rfl)
      · have hw := hw.2 c3
        refine lv_aload_n hx hb dM_next_19 rfl (lv_at hl 0 rfl) ?_
        refine va_get (D := D) (ci := 5) (v := .ref (ad 11 0)) (C := RM) (T := TM) (N := 26) hx hb hts inM hown hK hP 0 gM_0 rfl 17 (by decide) (hts _ tw_608) (fun _ h9 => h9) rfl dM_next_20 ?_
        refine lv_iload_n hx hb dM_next_23 rfl (lv_at hl 3 rfl) ?_
        refine va_iald hx hb hK hP 11 0 gM_11 rfl hin2 dM_next_24 ?_
        refine lv_iload_n hx hb dM_next_25 rfl (lv_at hl 1 rfl) ?_
        refine lv_icmp_gt (tgt := 33) hx hb dM_next_26 (by decide) (fun c5 => ?_) (fun c5 => ?_)
        · have hw := hw.1 c5
          refine lv_iconst (v := 0) hx hb dM_next_33 (by decide) ?_
          refine lv_istore (lv' := [(4, .int 0), (0, .ref (ad 0 0)), (1, .int x1), (2, .int x2), (3, .int x3)]) hx hb dM_next_34 hl (by decide) rfl (fun ls hl => ?_)
          refine lv_iload hx hb dM_next_36 (lv_at hl 0 rfl) ?_
          refine lv_if_eq (tgt := 92) hx hb dM_next_38 (by decide) (fun _ => ?_) (fun z9 => absurd z9 (by decide))
          refine lv_iinc (v := x3 + 1) (lv' := [(3, .int (x3 + 1)), (4, .int 0), (0, .ref (ad 0 0)), (1, .int x1), (2, .int x2)]) hx hb dM_next_92 hl (k := 4) rfl rfl (by decide) rfl (fun ls hl => ?_)
          refine lv_goto (tgt := 4) hx hb dM_next_95 (by decide) ?_
          exact ih σ x1 x2 (x3 + 1) hw _ _ hP hD hS ls (lv_sub hl [2, 3, 4, 0] rfl)
        · have hw := hw.2 c5
          refine lv_iconst (v := 1) hx hb dM_next_29 (by decide) ?_
          refine lv_goto (tgt := 34) hx hb dM_next_30 (by decide) ?_
          refine lv_istore (lv' := [(4, .int 1), (0, .ref (ad 0 0)), (1, .int x1), (2, .int x2), (3, .int x3)]) hx hb dM_next_34 hl (by decide) rfl (fun ls hl => ?_)
          refine lv_iload hx hb dM_next_36 (lv_at hl 0 rfl) ?_
          refine lv_if_eq (tgt := 92) hx hb dM_next_38 (by decide) (fun z9 => absurd z9 (by decide)) (fun _ => ?_)
          refine lv_iload_n hx hb dM_next_41 rfl (lv_at hl 3 rfl) ?_
          refine lv_if_lt (tgt := 90) hx hb dM_next_42 (by decide) (fun c6 => ?_) (fun c6 => ?_)
          · have hw := hw.1 c6
            refine lv_iload_n hx hb dM_next_90 rfl (lv_at hl 4 rfl) ?_
            refine lv_istore_n (lv' := [(2, .int x3), (4, .int 1), (0, .ref (ad 0 0)), (1, .int x1), (3, .int x3)]) hx hb dM_next_91 rfl hl (by decide) rfl (fun ls hl => ?_)
            refine lv_iinc (v := x3 + 1) (lv' := [(3, .int (x3 + 1)), (2, .int x3), (4, .int 1), (0, .ref (ad 0 0)), (1, .int x1)]) hx hb dM_next_92 hl (k := 4) rfl rfl (by decide) rfl (fun ls hl => ?_)
            refine lv_goto (tgt := 4) hx hb dM_next_95 (by decide) ?_
            exact ih σ x1 x3 (x3 + 1) hw _ _ hP hD hS ls (lv_sub hl [3, 4, 1, 0] rfl)
          · have hw := hw.2 c6
            refine lv_aload_n hx hb dM_next_45 rfl (lv_at hl 1 rfl) ?_
            refine va_get (D := D) (ci := 5) (v := .ref (ad 11 0)) (C := RM) (T := TM) (N := 26) hx hb hts inM hown hK hP 0 gM_0 rfl 17 (by decide) (hts _ tw_608) (fun _ h9 => h9) rfl dM_next_46 ?_
            refine lv_iload_n hx hb dM_next_49 rfl (lv_at hl 4 rfl) ?_
            refine va_iald hx hb hK hP 11 0 gM_11 rfl hin2 dM_next_50 ?_
            refine lv_aload_n hx hb dM_next_51 rfl (lv_at hl 1 rfl) ?_
            refine va_get (D := D) (ci := 5) (v := .ref (ad 11 0)) (C := RM) (T := TM) (N := 26) hx hb hts inM hown hK hP 0 gM_0 rfl 17 (by decide) (hts _ tw_608) (fun _ h9 => h9) rfl dM_next_52 ?_
            refine lv_iload_n hx hb dM_next_55 rfl (lv_at hl 3 rfl) ?_
            obtain ⟨hin8, hw⟩ := hw
            refine va_iald hx hb hK hP 11 0 gM_11 rfl hin8 dM_next_56 ?_
            refine lv_icmp_lt (tgt := 90) hx hb dM_next_57 (by decide) (fun c9 => ?_) (fun c9 => ?_)
            · have hw := hw.1 c9
              refine lv_iload_n hx hb dM_next_90 rfl (lv_at hl 4 rfl) ?_
              refine lv_istore_n (lv' := [(2, .int x3), (4, .int 1), (0, .ref (ad 0 0)), (1, .int x1), (3, .int x3)]) hx hb dM_next_91 rfl hl (by decide) rfl (fun ls hl => ?_)
              refine lv_iinc (v := x3 + 1) (lv' := [(3, .int (x3 + 1)), (2, .int x3), (4, .int 1), (0, .ref (ad 0 0)), (1, .int x1)]) hx hb dM_next_92 hl (k := 4) rfl rfl (by decide) rfl (fun ls hl => ?_)
              refine lv_goto (tgt := 4) hx hb dM_next_95 (by decide) ?_
              exact ih σ x1 x3 (x3 + 1) hw _ _ hP hD hS ls (lv_sub hl [3, 4, 1, 0] rfl)
            · have hw := hw.2 c9
              refine lv_aload_n hx hb dM_next_60 rfl (lv_at hl 1 rfl) ?_
              refine va_get (D := D) (ci := 5) (v := .ref (ad 11 0)) (C := RM) (T := TM) (N := 26) hx hb hts inM hown hK hP 0 gM_0 rfl 17 (by decide) (hts _ tw_608) (fun _ h9 => h9) rfl dM_next_61 ?_
              refine lv_iload_n hx hb dM_next_64 rfl (lv_at hl 4 rfl) ?_
              refine va_iald hx hb hK hP 11 0 gM_11 rfl hin2 dM_next_65 ?_
              refine lv_aload_n hx hb dM_next_66 rfl (lv_at hl 1 rfl) ?_
              refine va_get (D := D) (ci := 5) (v := .ref (ad 11 0)) (C := RM) (T := TM) (N := 26) hx hb hts inM hown hK hP 0 gM_0 rfl 17 (by decide) (hts _ tw_608) (fun _ h9 => h9) rfl dM_next_67 ?_
              refine lv_iload_n hx hb dM_next_70 rfl (lv_at hl 3 rfl) ?_
              refine va_iald hx hb hK hP 11 0 gM_11 rfl hin8 dM_next_71 ?_
              refine lv_icmp_ne (tgt := 92) hx hb dM_next_72 (by decide) (fun c12 => ?_) (fun c12 => ?_)
              · have hw := hw.1 c12
                refine lv_iinc (v := x3 + 1) (lv' := [(3, .int (x3 + 1)), (4, .int 1), (0, .ref (ad 0 0)), (1, .int x1), (2, .int x2)]) hx hb dM_next_92 hl (k := 4) rfl rfl (by decide) rfl (fun ls hl => ?_)
                refine lv_goto (tgt := 4) hx hb dM_next_95 (by decide) ?_
                exact ih σ x1 x2 (x3 + 1) hw _ _ hP hD hS ls (lv_sub hl [2, 3, 4, 0] rfl)
              · have hw := hw.2 c12
                refine lv_aload_n hx hb dM_next_75 rfl (lv_at hl 1 rfl) ?_
                refine va_get (D := D) (ci := 5) (v := .ref (ad 12 0)) (C := RM) (T := TM) (N := 26) hx hb hts inM hown hK hP 0 gM_0 rfl 18 (by decide) (hts _ tw_609) (fun _ h9 => h9) rfl dM_next_76 ?_
                refine lv_iload_n hx hb dM_next_79 rfl (lv_at hl 4 rfl) ?_
                refine va_iald hx hb hK hP 12 0 gM_12 rfl hin2 dM_next_80 ?_
                refine lv_aload_n hx hb dM_next_81 rfl (lv_at hl 1 rfl) ?_
                refine va_get (D := D) (ci := 5) (v := .ref (ad 12 0)) (C := RM) (T := TM) (N := 26) hx hb hts inM hown hK hP 0 gM_0 rfl 18 (by decide) (hts _ tw_609) (fun _ h9 => h9) rfl dM_next_82 ?_
                refine lv_iload_n hx hb dM_next_85 rfl (lv_at hl 3 rfl) ?_
                refine va_iald hx hb hK hP 12 0 gM_12 rfl hin8 dM_next_86 ?_
                refine lv_icmp_ge (tgt := 92) hx hb dM_next_87 (by decide) (fun c15 => ?_) (fun c15 => ?_)
                · have hw := hw.1 c15
                  refine lv_iinc (v := x3 + 1) (lv' := [(3, .int (x3 + 1)), (4, .int 1), (0, .ref (ad 0 0)), (1, .int x1), (2, .int x2)]) hx hb dM_next_92 hl (k := 4) rfl rfl (by decide) rfl (fun ls hl => ?_)
                  refine lv_goto (tgt := 4) hx hb dM_next_95 (by decide) ?_
                  exact ih σ x1 x2 (x3 + 1) hw _ _ hP hD hS ls (lv_sub hl [2, 3, 4, 0] rfl)
                · have hw := hw.2 c15
                  refine lv_iload_n hx hb dM_next_90 rfl (lv_at hl 4 rfl) ?_
                  refine lv_istore_n (lv' := [(2, .int x3), (4, .int 1), (0, .ref (ad 0 0)), (1, .int x1), (3, .int x3)]) hx hb dM_next_91 rfl hl (by decide) rfl (fun ls hl => ?_)
                  refine lv_iinc (v := x3 + 1) (lv' := [(3, .int (x3 + 1)), (2, .int x3), (4, .int 1), (0, .ref (ad 0 0)), (1, .int x1)]) hx hb dM_next_92 hl (k := 4) rfl rfl (by decide) rfl (fun ls hl => ?_)
                  refine lv_goto (tgt := 4) hx hb dM_next_95 (by decide) ?_
                  exact ih σ x1 x3 (x3 + 1) hw _ _ hP hD hS ls (lv_sub hl [3, 4, 1, 0] rfl)
def wp_m_next (post : Int32 → Sm → Prop) (σ : Sm) (a0 : Int32) : Prop := (∃ n : Nat, wpl_m_next_L4 n post σ a0 (-1) 0)
set_option maxHeartbeats 4000000 in
set_option maxRecDepth 100000 in
theorem c_m_next (l : Launch) (D : va_G) (ca : Nat → ClassId) (ad : Nat → Nat → Nat) (σ : Sm) (a0 : Int32) (sz : Nat) (post : Int32 → Sm → Prop) (hw : wp_m_next post σ a0) : Met l yM_next wsM_next ({ frames := 0, cells := 0, slots := 0, locals := 0 }) (va_Pc [.ref (ad 0 0), .int a0] (preM D ca ad σ sz)) (va_Qi post (atM D ca ad (va_A (wM ca ad σ) sz)) (va_A (wM ca ad σ) sz)) 0 0 (va_A (wM ca ad σ) sz) := by
  refine Met.ofW (cc := cM_next) (maxL := 5) (ret := (some .int)) (by decide) rfl ?_
  intro p e s m args below meth c s₁ B hml hv
  obtain ⟨rfl, hsz, hP, hK, hD0, hE⟩ := hv
  have hx := B.exec
  have hb := B.bytes
  have hr := B.returns
  have hts : ∀ w ∈ tbG, w.before _ s = true := fun w h => atoms_spec (ws := wsM_next) B.pre w (List.mem_cons_of_mem _ h)
  have hown : s.vm.findClass RM = some m.cls := findClass_of_methodNamed B.named
  have hlocks := B.notSynchronized
  subst hsz
  have hD := hD0.self (sz := s.heap.size)
  generalize hAe : va_A (wM ca ad σ) s.heap.size = A at hD hE ⊢
  have hA : ∀ q : Nat, s.heap.size ≤ q → A q := fun q h => by rw [← hAe]; exact Or.inr h
  clear hAe
  have hS : va_S A s.heap s.heap [] := va_S.rf
  have hl := lv_entry ([.ref (ad 0 0), .int a0]) (n := 5) (Nat.le_of_ble_eq_true rfl)
  rw [lg_entry_eq]
  generalize (lg_sl ([.ref (ad 0 0), .int a0]) ++ List.replicate (5 - (lg_sl ([.ref (ad 0 0), .int a0])).length) Slot.unset).toArray = ls at hl ⊢
  have hl : lv_has ls 5 [(0, .ref (ad 0 0)), (1, .int a0)] := hl
  unfold wp_m_next at hw
  have hP : va_P D clX (wM ca ad σ) s.heap := hP
  refine lv_iconst (v := (-1)) hx hb dM_next_0 (by decide) ?_
  refine lv_istore_n (lv' := [(2, .int (-1)), (0, .ref (ad 0 0)), (1, .int a0)]) hx hb dM_next_1 rfl hl (by decide) rfl (fun ls hl => ?_)
  refine lv_iconst (v := 0) hx hb dM_next_2 (by decide) ?_
  refine lv_istore_n (lv' := [(3, .int 0), (2, .int (-1)), (0, .ref (ad 0 0)), (1, .int a0)]) hx hb dM_next_3 rfl hl (by decide) rfl (fun ls hl => ?_)
  obtain ⟨n, hw⟩ := hw
  exact l_m_next_L4 (D := D) (ca := ca) (ad := ad)  hx hb hr hml hts hown hlocks hA hK hE n σ a0 (-1) 0 hw _ _ hP hD hS ls (lv_sub hl [2, 3, 1, 0] rfl)
