theorem dH_feed_0 : decode cH_feed 0 = .ok (.iload_n 3, 1) := by decide +kernel
theorem dH_feed_1 : decode cH_feed 1 = .ok (.iconst 1, 1) := by decide +kernel
theorem dH_feed_2 : decode cH_feed 2 = .ok (.if_icmp .lt 9, 3) := by decide +kernel
theorem dH_feed_5 : decode cH_feed 5 = .ok (.iload_n 3, 1) := by decide +kernel
theorem dH_feed_6 : decode cH_feed 6 = .ok (.bipush 8, 2) := by decide +kernel
theorem dH_feed_8 : decode cH_feed 8 = .ok (.if_icmp .le 13, 3) := by decide +kernel
theorem dH_feed_11 : decode cH_feed 11 = .ok (.new 49, 3) := by decide +kernel
theorem dH_feed_14 : decode cH_feed 14 = .ok (.dup, 1) := by decide +kernel
theorem dH_feed_15 : decode cH_feed 15 = .ok (.ldc 51, 2) := by decide +kernel
theorem dH_feed_17 : decode cH_feed 17 = .ok (.invokespecial 53, 3) := by decide +kernel
theorem dH_feed_20 : decode cH_feed 20 = .ok (.athrow, 1) := by decide +kernel
theorem dH_feed_21 : decode cH_feed 21 = .ok (.aload_n 0, 1) := by decide +kernel
theorem dH_feed_22 : decode cH_feed 22 = .ok (.getfield 33, 3) := by decide +kernel
theorem dH_feed_25 : decode cH_feed 25 = .ok (.sipush 240, 3) := by decide +kernel
theorem dH_feed_28 : decode cH_feed 28 = .ok (.iload_n 3, 1) := by decide +kernel
theorem dH_feed_29 : decode cH_feed 29 = .ok (.isub, 1) := by decide +kernel
theorem dH_feed_30 : decode cH_feed 30 = .ok (.if_icmp .le 13, 3) := by decide +kernel
theorem dH_feed_33 : decode cH_feed 33 = .ok (.new 56, 3) := by decide +kernel
theorem dH_feed_36 : decode cH_feed 36 = .ok (.dup, 1) := by decide +kernel
theorem dH_feed_37 : decode cH_feed 37 = .ok (.ldc 58, 2) := by decide +kernel
theorem dH_feed_39 : decode cH_feed 39 = .ok (.invokespecial 60, 3) := by decide +kernel
theorem dH_feed_42 : decode cH_feed 42 = .ok (.athrow, 1) := by decide +kernel
theorem dH_feed_43 : decode cH_feed 43 = .ok (.iconst 0, 1) := by decide +kernel
theorem dH_feed_44 : decode cH_feed 44 = .ok (.istore 4, 2) := by decide +kernel
theorem dH_feed_46 : decode cH_feed 46 = .ok (.iload 4, 2) := by decide +kernel
theorem dH_feed_48 : decode cH_feed 48 = .ok (.iload_n 3, 1) := by decide +kernel
theorem dH_feed_49 : decode cH_feed 49 = .ok (.if_icmp .ge 30, 3) := by decide +kernel
theorem dH_feed_52 : decode cH_feed 52 = .ok (.aload_n 0, 1) := by decide +kernel
theorem dH_feed_53 : decode cH_feed 53 = .ok (.getfield 29, 3) := by decide +kernel
theorem dH_feed_56 : decode cH_feed 56 = .ok (.aload_n 0, 1) := by decide +kernel
theorem dH_feed_57 : decode cH_feed 57 = .ok (.getfield 33, 3) := by decide +kernel
theorem dH_feed_60 : decode cH_feed 60 = .ok (.iload 4, 2) := by decide +kernel
theorem dH_feed_62 : decode cH_feed 62 = .ok (.iadd, 1) := by decide +kernel
theorem dH_feed_63 : decode cH_feed 63 = .ok (.lload_n 1, 1) := by decide +kernel
theorem dH_feed_64 : decode cH_feed 64 = .ok (.bipush 8, 2) := by decide +kernel
theorem dH_feed_66 : decode cH_feed 66 = .ok (.iload 4, 2) := by decide +kernel
theorem dH_feed_68 : decode cH_feed 68 = .ok (.imul, 1) := by decide +kernel
theorem dH_feed_69 : decode cH_feed 69 = .ok (.lushr, 1) := by decide +kernel
theorem dH_feed_70 : decode cH_feed 70 = .ok (.l2i, 1) := by decide +kernel
theorem dH_feed_71 : decode cH_feed 71 = .ok (.i2b, 1) := by decide +kernel
theorem dH_feed_72 : decode cH_feed 72 = .ok (.bastore, 1) := by decide +kernel
theorem dH_feed_73 : decode cH_feed 73 = .ok (.iinc 4 1, 3) := by decide +kernel
theorem dH_feed_76 : decode cH_feed 76 = .ok (.goto (-30), 3) := by decide +kernel
theorem dH_feed_79 : decode cH_feed 79 = .ok (.aload_n 0, 1) := by decide +kernel
theorem dH_feed_80 : decode cH_feed 80 = .ok (.dup, 1) := by decide +kernel
theorem dH_feed_81 : decode cH_feed 81 = .ok (.getfield 33, 3) := by decide +kernel
theorem dH_feed_84 : decode cH_feed 84 = .ok (.iload_n 3, 1) := by decide +kernel
theorem dH_feed_85 : decode cH_feed 85 = .ok (.iadd, 1) := by decide +kernel
theorem dH_feed_86 : decode cH_feed 86 = .ok (.putfield 33, 3) := by decide +kernel
theorem dH_feed_89 : decode cH_feed 89 = .ok (.aload_n 0, 1) := by decide +kernel
theorem dH_feed_90 : decode cH_feed 90 = .ok (.getfield 33, 3) := by decide +kernel
theorem dH_feed_93 : decode cH_feed 93 = .ok (.ireturn, 1) := by decide +kernel
def wpl_feed_L46 : Nat → (Int32 → Sg → Prop) → (String → Sg → Prop) → Sg → Int64 → Int32 → Int32 → Prop
  | 0, _, _, _, _, _, _ => False
  | n + 1, post, px, σ, x1, x3, x4 => (((x3 ≤ x4) → post ((sG σ 0) + x3) (uG 0 ((sG σ 0) + x3) σ)) ∧ (¬ (x3 ≤ x4) → (vp_in ((sG σ 0) + x4) 240 ∧ wpl_feed_L46 n post px (uA 0 (upd (sA σ 0) ((sG σ 0) + x4).toNatClampNeg (vp_nar .byte ((((x1.toUInt64 >>> ((8 * x4).toInt64.toUInt64 &&& Int64.toUInt64 63)).toInt64).toInt32).toInt8.toInt32))) σ) x1 x3 (x4 + 1))))
set_option maxHeartbeats 4000000 in
set_option maxRecDepth 100000 in
theorem l_feed_L46 {p : Program} {l : Launch} {e : Env} {s : State} {m : MethodId} {args : Array Value} {below : List Frame} {meth : Method} {c : Code} {D : va_G} {ca : Nat → ClassId} {ad : Nat → Nat → Nat} {A : Nat → Prop}  {post : Int32 → Sg → Prop} {px : String → Sg → Prop} (hx : p.tables.exec = Jvm.exec) (hb : c.code = cH_feed) (hr : meth.sig.returnType = (some .int)) (hml : c.maxLocals = 5) (hts : ∀ w ∈ tbG, w.before args s = true) (hown : s.vm.findClass RH = some m.cls) (hlocks : meth.locks = false) (hA : ∀ q : Nat, s.heap.size ≤ q → A q) (hK : va_K D clX (tyA ca) s) (hE : eX A s) (hl0 : l.stackTraces = false) (hexc : ∀ x ∈ c.exceptionTable.toList, False) : ∀ (n : Nat) (σ : Sg) (x1 : Int64) (x3 : Int32) (x4 : Int32), wpl_feed_L46 n post px σ x1 x3 x4 → ∀ (H : Heap) (locs : List Loc), va_P D clX (wX ca ad σ) H → va_D A (wX ca ad σ) → va_S A s.heap H locs → ∀ ls : Array Slot, lv_has ls 5 [(0, .ref (ad 0 0)), (1, .long x1), (3, .int x3), (4, .int x4)] → W p l e (headSpec wsH_feed ({ frames := 8, cells := 1, slots := 6, locals := 120 })).room s m args below meth c H locs 0 0 (vx_MQ below (va_Qi post (atX D ca ad A) A) (vx_X (fun u : String × Sg => px u.1 u.2) (atXx D ca ad A) A) args s 1 6 A) (F0 m 46 ls []) := by
  intro n
  induction n with
  | zero => intro σ x1 x3 x4 hw; exact hw.elim
  | succ n ih =>
    intro σ x1 x3 x4 hw H locs hP hD hS ls hl
    refine lv_iload hx hb dH_feed_46 (lv_at hl 3 rfl) ?_
    refine lv_iload_n hx hb dH_feed_48 rfl (lv_at hl 2 rfl) ?_
    refine lv_icmp_ge (tgt := 79) hx hb dH_feed_49 (by decide) (fun c4 => ?_) (fun c4 => ?_)
    · have hw := hw.1 c4
      refine lv_aload_n hx hb dH_feed_79 rfl (lv_at hl 0 rfl) ?_
      refine lv_dup hx hb dH_feed_80 rfl ?_
      refine va_get (D := D) (ci := 0) (v := .int (sG σ 0)) (C := RH) (T := TH) (N := 8) hx hb hts inH hown hK hP 0 gX_0 rfl 4 (by decide) (hts _ tw_154) (fun _ h9 => h9) rfl dH_feed_81 ?_
      refine lv_iload_n hx hb dH_feed_84 rfl (lv_at hl 2 rfl) ?_
      refine lv_iadd hx hb dH_feed_85 ?_
      refine va_put (D := D) (ci := 0) (v := .int ((sG σ 0) + x3)) (ty := .int) (C := RH) (T := TH) (N := 8) hx hb hts inH tyH tyH_ok nmH hown hK hP hD hS 0 gX_0 rfl 4 (by decide) (hts _ tw_154) (fun _ h9 => h9) rfl (by decide +kernel) rfl rfl (Nat.le_of_ble_eq_true rfl) dH_feed_86 (fun H locs hP hD hS => ?_)
      rw [sX_0_4] at hP hD
      refine lv_aload_n hx hb dH_feed_89 rfl (lv_at hl 0 rfl) ?_
      refine va_get (D := D) (ci := 0) (v := .int ((sG σ 0) + x3)) (C := RH) (T := TH) (N := 8) hx hb hts inH hown hK hP 0 gX_0 rfl 4 (by decide) (hts _ tw_154) (fun _ h9 => h9) rfl dH_feed_90 ?_
      refine W.widen (k := 1) (n := 6) (by decide) (by decide) ?_
      exact vx_ret (W.iret (v := ((sG σ 0) + x3)) hx hb hr (fun t ht hW => ⟨⟨((sG σ 0) + x3), (uG 0 ((sG σ 0) + x3) σ), rfl, hw, by rw [ht]; exact hP, va_K.moved hW.alike hK, hD⟩, hS.F ht⟩) hS.2.2 dH_feed_93)
    · have hw := hw.2 c4
      refine lv_aload_n hx hb dH_feed_52 rfl (lv_at hl 0 rfl) ?_
      refine va_get (D := D) (ci := 0) (v := .ref (ad 4 0)) (C := RH) (T := TH) (N := 8) hx hb hts inH hown hK hP 0 gX_0 rfl 3 (by decide) (hts _ tw_153) (fun _ h9 => h9) rfl dH_feed_53 ?_
      refine lv_aload_n hx hb dH_feed_56 rfl (lv_at hl 0 rfl) ?_
      refine va_get (D := D) (ci := 0) (v := .int (sG σ 0)) (C := RH) (T := TH) (N := 8) hx hb hts inH hown hK hP 0 gX_0 rfl 4 (by decide) (hts _ tw_154) (fun _ h9 => h9) rfl dH_feed_57 ?_
      refine lv_iload hx hb dH_feed_60 (lv_at hl 3 rfl) ?_
      refine lv_iadd hx hb dH_feed_62 ?_
      refine lv_lload_n hx hb dH_feed_63 rfl (lv_at hl 1 rfl) ?_
      refine lv_bipush (v := 8) hx hb dH_feed_64 (by decide) ?_
      refine lv_iload hx hb dH_feed_66 (lv_at hl 3 rfl) ?_
      refine lv_imul hx hb dH_feed_68 ?_
      refine lv_lushr hx hb dH_feed_69 rfl ?_
      refine lv_l2i hx hb dH_feed_70 rfl ?_
      refine lv_i2b hx hb dH_feed_71 rfl ?_
      obtain ⟨hin5, hw⟩ := hw
      refine va_bast hx hb hK hP hD hS 4 1 gX_4 rfl hin5 dH_feed_72 (fun H locs hP hD hS => ?_)
      rw [sX_4] at hP hD
      refine lv_iinc (v := x4 + 1) (lv' := [(4, .int (x4 + 1)), (0, .ref (ad 0 0)), (1, .long x1), (3, .int x3)]) hx hb dH_feed_73 hl (k := 3) rfl rfl (by decide) rfl (fun ls hl => ?_)
      refine lv_goto (tgt := 46) hx hb dH_feed_76 (by decide) ?_
      exact ih (uA 0 (upd (sA σ 0) ((sG σ 0) + x4).toNatClampNeg (vp_nar .byte ((((x1.toUInt64 >>> ((8 * x4).toInt64.toUInt64 &&& Int64.toUInt64 63)).toInt64).toInt32).toInt8.toInt32))) σ) x1 x3 (x4 + 1) hw _ _ hP hD hS ls (lv_sub hl [1, 2, 3, 0] rfl)
def wp_feed (post : Int32 → Sg → Prop) (px : String → Sg → Prop) (σ : Sg) (a0 : Int64) (a1 : Int32) : Prop := (((a1 < 1) → px "java/lang/IllegalArgumentException" σ) ∧ (¬ (a1 < 1) → (((a1 ≤ 8) → ((((sG σ 0) ≤ (240 - a1)) → (∃ n : Nat, wpl_feed_L46 n post px σ a0 a1 0)) ∧ (¬ ((sG σ 0) ≤ (240 - a1)) → px "java/lang/IllegalStateException" σ))) ∧ (¬ (a1 ≤ 8) → px "java/lang/IllegalArgumentException" σ))))
set_option maxHeartbeats 4000000 in
set_option maxRecDepth 100000 in
theorem c_feed (l : Launch) (D : va_G) (ca : Nat → ClassId) (ad : Nat → Nat → Nat) (σ : Sg) (a0 : Int64) (a1 : Int32) (sz : Nat) (post : Int32 → Sg → Prop) (px : String → Sg → Prop) (hl0 : l.stackTraces = false) (hw : wp_feed post px σ a0 a1) : vx_Met l yH_feed wsH_feed ({ frames := 8, cells := 1, slots := 6, locals := 120 }) (va_Pc [.ref (ad 0 0), .long a0, .int a1] (preX D ca ad σ sz)) (va_Qi post (atX D ca ad (va_A (wX ca ad σ) sz)) (va_A (wX ca ad σ) sz)) (vx_X (fun u : String × Sg => px u.1 u.2) (atXx D ca ad (va_A (wX ca ad σ) sz)) (va_A (wX ca ad σ) sz)) 1 6 (va_A (wX ca ad σ) sz) := by
  refine vx_ofW (cc := cH_feed) (maxL := 5) (ret := (some .int)) (by decide) rfl ?_
  intro p e s m args below meth c s₁ B hml hexc hv
  obtain ⟨rfl, hsz, hP, hK, hD0, hE⟩ := hv
  have hx := B.exec
  have hb := B.bytes
  have hr := B.returns
  have hts : ∀ w ∈ tbG, w.before _ s = true := fun w h => atoms_spec (ws := wsH_feed) B.pre w (List.mem_cons_of_mem _ h)
  have hown : s.vm.findClass RH = some m.cls := findClass_of_methodNamed B.named
  have hlocks := B.notSynchronized
  subst hsz
  have hD := hD0.self (sz := s.heap.size)
  generalize hAe : va_A (wX ca ad σ) s.heap.size = A at hD hE ⊢
  have hA : ∀ q : Nat, s.heap.size ≤ q → A q := fun q h => by rw [← hAe]; exact Or.inr h
  clear hAe
  have hS : va_S A s.heap s.heap [] := va_S.rf
  have hl := lv_entry ([.ref (ad 0 0), .long a0, .int a1]) (n := 5) (Nat.le_of_ble_eq_true rfl)
  rw [lg_entry_eq]
  generalize (lg_sl ([.ref (ad 0 0), .long a0, .int a1]) ++ List.replicate (5 - (lg_sl ([.ref (ad 0 0), .long a0, .int a1])).length) Slot.unset).toArray = ls at hl ⊢
  have hl : lv_has ls 5 [(0, .ref (ad 0 0)), (1, .long a0), (3, .int a1)] := hl
  unfold wp_feed at hw
  have hP : va_P D clX (wX ca ad σ) s.heap := hP
  refine lv_iload_n hx hb dH_feed_0 rfl (lv_at hl 2 rfl) ?_
  refine lv_iconst (v := 1) hx hb dH_feed_1 (by decide) ?_
  refine lv_icmp_lt (tgt := 11) hx hb dH_feed_2 (by decide) (fun c1 => ?_) (fun c1 => ?_)
  · have hw := hw.1 c1
    obtain ⟨sa9, hstr⟩ := hE.str 0 _ rfl
    exact vx_throwS (names := ["java/lang/RuntimeException", "java/lang/Exception"]) hx hb hl0 hown (by decide +kernel) (by decide +kernel) (hts _ tw_214) (hts _ tw_11) hstr (hE.hat53 hts) gd_53 hE.1 hE.2.1 hS (hl.1.trans hml.symm) dH_feed_11 dH_feed_14 dH_feed_15 dH_feed_17 dH_feed_20 (fun x9 h9 => (hexc x9 h9).elim) (by decide) (by decide) (by decide) (by decide) hlocks (fun t hv hz hk => ⟨(_, σ), hw, ⟨rfl, hP.kept (fun k9 q9 h9 => hk _ (va_at.lt (hP k9 q9 h9))), va_K.moved hv hK, hD⟩, va_S.F2 hS hz hk⟩) hS.2.2 (by decide) (by decide)
  · have hw := hw.2 c1
    refine lv_iload_n hx hb dH_feed_5 rfl (lv_at hl 2 rfl) ?_
    refine lv_bipush (v := 8) hx hb dH_feed_6 (by decide) ?_
    refine lv_icmp_le (tgt := 21) hx hb dH_feed_8 (by decide) (fun c2 => ?_) (fun c2 => ?_)
    · have hw := hw.1 c2
      refine lv_aload_n hx hb dH_feed_21 rfl (lv_at hl 0 rfl) ?_
      refine va_get (D := D) (ci := 0) (v := .int (sG σ 0)) (C := RH) (T := TH) (N := 8) hx hb hts inH hown hK hP 0 gX_0 rfl 4 (by decide) (hts _ tw_154) (fun _ h9 => h9) rfl dH_feed_22 ?_
      refine lv_sipush (v := 240) hx hb dH_feed_25 (by decide) ?_
      refine lv_iload_n hx hb dH_feed_28 rfl (lv_at hl 2 rfl) ?_
      refine lv_isub hx hb dH_feed_29 ?_
      refine lv_icmp_le (tgt := 43) hx hb dH_feed_30 (by decide) (fun c3 => ?_) (fun c3 => ?_)
      · have hw := hw.1 c3
        refine lv_iconst (v := 0) hx hb dH_feed_43 (by decide) ?_
        refine lv_istore (lv' := [(4, .int 0), (0, .ref (ad 0 0)), (1, .long a0), (3, .int a1)]) hx hb dH_feed_44 hl (by decide) rfl (fun ls hl => ?_)
        obtain ⟨n, hw⟩ := hw
        exact l_feed_L46 (D := D) (ca := ca) (ad := ad)  hx hb hr hml hts hown hlocks hA hK hE hl0 hexc n σ a0 a1 0 hw _ _ hP hD hS ls (lv_sub hl [1, 2, 3, 0] rfl)
      · have hw := hw.2 c3
        obtain ⟨sa9, hstr⟩ := hE.str 1 _ rfl
        exact vx_throwS (names := ["java/lang/RuntimeException", "java/lang/Exception"]) hx hb hl0 hown (by decide +kernel) (by decide +kernel) (hts _ tw_281) (hts _ tw_12) hstr (hE.hat60 hts) gd_60 hE.1 hE.2.1 hS (hl.1.trans hml.symm) dH_feed_33 dH_feed_36 dH_feed_37 dH_feed_39 dH_feed_42 (fun x9 h9 => (hexc x9 h9).elim) (by decide) (by decide) (by decide) (by decide) hlocks (fun t hv hz hk => ⟨(_, σ), hw, ⟨rfl, hP.kept (fun k9 q9 h9 => hk _ (va_at.lt (hP k9 q9 h9))), va_K.moved hv hK, hD⟩, va_S.F2 hS hz hk⟩) hS.2.2 (by decide) (by decide)
    · have hw := hw.2 c2
      obtain ⟨sa9, hstr⟩ := hE.str 0 _ rfl
      exact vx_throwS (names := ["java/lang/RuntimeException", "java/lang/Exception"]) hx hb hl0 hown (by decide +kernel) (by decide +kernel) (hts _ tw_214) (hts _ tw_11) hstr (hE.hat53 hts) gd_53 hE.1 hE.2.1 hS (hl.1.trans hml.symm) dH_feed_11 dH_feed_14 dH_feed_15 dH_feed_17 dH_feed_20 (fun x9 h9 => (hexc x9 h9).elim) (by decide) (by decide) (by decide) (by decide) hlocks (fun t hv hz hk => ⟨(_, σ), hw, ⟨rfl, hP.kept (fun k9 q9 h9 => hk _ (va_at.lt (hP k9 q9 h9))), va_K.moved hv hK, hD⟩, va_S.F2 hS hz hk⟩) hS.2.2 (by decide) (by decide)
theorem dH_tick_0 : decode cH_tick 0 = .ok (.iload_n 1, 1) := by decide +kernel
theorem dH_tick_1 : decode cH_tick 1 = .ok (.iconst 1, 1) := by decide +kernel
theorem dH_tick_2 : decode cH_tick 2 = .ok (.if_icmp .lt 10, 3) := by decide +kernel
theorem dH_tick_5 : decode cH_tick 5 = .ok (.iload_n 1, 1) := by decide +kernel
theorem dH_tick_6 : decode cH_tick 6 = .ok (.sipush 1000, 3) := by decide +kernel
theorem dH_tick_9 : decode cH_tick 9 = .ok (.if_icmp .le 13, 3) := by decide +kernel
theorem dH_tick_12 : decode cH_tick 12 = .ok (.new 49, 3) := by decide +kernel
theorem dH_tick_15 : decode cH_tick 15 = .ok (.dup, 1) := by decide +kernel
theorem dH_tick_16 : decode cH_tick 16 = .ok (.ldc 141, 2) := by decide +kernel
theorem dH_tick_18 : decode cH_tick 18 = .ok (.invokespecial 53, 3) := by decide +kernel
theorem dH_tick_21 : decode cH_tick 21 = .ok (.athrow, 1) := by decide +kernel
theorem dH_tick_22 : decode cH_tick 22 = .ok (.aload_n 0, 1) := by decide +kernel
theorem dH_tick_23 : decode cH_tick 23 = .ok (.getfield 37, 3) := by decide +kernel
theorem dH_tick_26 : decode cH_tick 26 = .ok (.iload_n 1, 1) := by decide +kernel
theorem dH_tick_27 : decode cH_tick 27 = .ok (.iadd, 1) := by decide +kernel
theorem dH_tick_28 : decode cH_tick 28 = .ok (.istore_n 2, 1) := by decide +kernel
theorem dH_tick_29 : decode cH_tick 29 = .ok (.iconst 0, 1) := by decide +kernel
theorem dH_tick_30 : decode cH_tick 30 = .ok (.istore_n 3, 1) := by decide +kernel
theorem dH_tick_31 : decode cH_tick 31 = .ok (.sipush 328, 3) := by decide +kernel
theorem dH_tick_34 : decode cH_tick 34 = .ok (.istore 4, 2) := by decide +kernel
theorem dH_tick_36 : decode cH_tick 36 = .ok (.iload_n 3, 1) := by decide +kernel
theorem dH_tick_37 : decode cH_tick 37 = .ok (.iload 4, 2) := by decide +kernel
theorem dH_tick_39 : decode cH_tick 39 = .ok (.if_icmp .ge 39, 3) := by decide +kernel
theorem dH_tick_42 : decode cH_tick 42 = .ok (.aload_n 0, 1) := by decide +kernel
theorem dH_tick_43 : decode cH_tick 43 = .ok (.iload_n 2, 1) := by decide +kernel
theorem dH_tick_44 : decode cH_tick 44 = .ok (.invokevirtual 143, 3) := by decide +kernel
theorem dH_tick_47 : decode cH_tick 47 = .ok (.astore 5, 2) := by decide +kernel
theorem dH_tick_49 : decode cH_tick 49 = .ok (.aload 5, 2) := by decide +kernel
theorem dH_tick_51 : decode cH_tick 51 = .ok (.ifnonnull 6, 3) := by decide +kernel
theorem dH_tick_54 : decode cH_tick 54 = .ok (.goto 24, 3) := by decide +kernel
theorem dH_tick_57 : decode cH_tick 57 = .ok (.aload_n 0, 1) := by decide +kernel
theorem dH_tick_58 : decode cH_tick 58 = .ok (.aload 5, 2) := by decide +kernel
theorem dH_tick_60 : decode cH_tick 60 = .ok (.getfield 146, 3) := by decide +kernel
theorem dH_tick_63 : decode cH_tick 63 = .ok (.putfield 37, 3) := by decide +kernel
theorem dH_tick_66 : decode cH_tick 66 = .ok (.aload_n 0, 1) := by decide +kernel
theorem dH_tick_67 : decode cH_tick 67 = .ok (.aload 5, 2) := by decide +kernel
theorem dH_tick_69 : decode cH_tick 69 = .ok (.invokevirtual 149, 3) := by decide +kernel
theorem dH_tick_72 : decode cH_tick 72 = .ok (.iinc 3 1, 3) := by decide +kernel
theorem dH_tick_75 : decode cH_tick 75 = .ok (.goto (-39), 3) := by decide +kernel
theorem dH_tick_78 : decode cH_tick 78 = .ok (.aload_n 0, 1) := by decide +kernel
theorem dH_tick_79 : decode cH_tick 79 = .ok (.iload_n 2, 1) := by decide +kernel
theorem dH_tick_80 : decode cH_tick 80 = .ok (.putfield 37, 3) := by decide +kernel
theorem dH_tick_83 : decode cH_tick 83 = .ok (.iload_n 3, 1) := by decide +kernel
theorem dH_tick_84 : decode cH_tick 84 = .ok (.ireturn, 1) := by decide +kernel
def wpl_tick_L36 : Nat → (Int32 → Sg → Prop) → (String → Sg → Prop) → Sg → Int32 → Int32 → Int32 → Int32 → Prop
  | 0, _, _, _, _, _, _, _ => False
  | n + 1, post, px, σ, x1, x2, x3, x4 => (((x4 ≤ x3) → post x3 (uG 1 x2 σ)) ∧ (¬ (x4 ≤ x3) → wp_firstToRing (fun r5 s4 => ((r5 = none → post x3 (uG 1 x2 s4)) ∧ (∀ j6 : Nat, r5 = some j6 → (j6 < 8 ∧ wp_ring (fun s9 => wpl_tick_L36 n post px s9 x1 x2 (x3 + 1) x4) (uG 1 (sF s4 13 j6) s4) j6)))) σ x2))
set_option maxHeartbeats 4000000 in
set_option maxRecDepth 100000 in
theorem l_tick_L36 {p : Program} {l : Launch} {e : Env} {s : State} {m : MethodId} {args : Array Value} {below : List Frame} {meth : Method} {c : Code} {D : va_G} {ca : Nat → ClassId} {ad : Nat → Nat → Nat} {A : Nat → Prop}  {post : Int32 → Sg → Prop} {px : String → Sg → Prop} (hx : p.tables.exec = Jvm.exec) (hb : c.code = cH_tick) (hr : meth.sig.returnType = (some .int)) (hml : c.maxLocals = 6) (hts : ∀ w ∈ tbG, w.before args s = true) (hown : s.vm.findClass RH = some m.cls) (hlocks : meth.locks = false) (hA : ∀ q : Nat, s.heap.size ≤ q → A q) (hK : va_K D clX (tyA ca) s) (hE : eX A s) (hl0 : l.stackTraces = false) (hexc : ∀ x ∈ c.exceptionTable.toList, False) : ∀ (n : Nat) (σ : Sg) (x1 : Int32) (x2 : Int32) (x3 : Int32) (x4 : Int32), wpl_tick_L36 n post px σ x1 x2 x3 x4 → ∀ (H : Heap) (locs : List Loc), va_P D clX (wX ca ad σ) H → va_D A (wX ca ad σ) → va_S A s.heap H locs → ∀ ls : Array Slot, lv_has ls 6 [(0, .ref (ad 0 0)), (1, .int x1), (2, .int x2), (3, .int x3), (4, .int x4)] → W p l e (headSpec wsH_tick ({ frames := 8, cells := 1, slots := 6, locals := 120 })).room s m args below meth c H locs 0 0 (vx_MQ below (va_Qi post (atX D ca ad A) A) (vx_X (fun u : String × Sg => px u.1 u.2) (atXx D ca ad A) A) args s 1 6 A) (F0 m 36 ls []) := by
  intro n
  induction n with
  | zero => intro σ x1 x2 x3 x4 hw; exact hw.elim
  | succ n ih =>
    intro σ x1 x2 x3 x4 hw H locs hP hD hS ls hl
    refine lv_iload_n hx hb dH_tick_36 rfl (lv_at hl 3 rfl) ?_
    refine lv_iload hx hb dH_tick_37 (lv_at hl 4 rfl) ?_
    refine lv_icmp_ge (tgt := 78) hx hb dH_tick_39 (by decide) (fun c3 => ?_) (fun c3 => ?_)
    · have hw := hw.1 c3
      refine lv_aload_n hx hb dH_tick_78 rfl (lv_at hl 0 rfl) ?_
      refine lv_iload_n hx hb dH_tick_79 rfl (lv_at hl 2 rfl) ?_
      refine va_put (D := D) (ci := 0) (v := .int x2) (ty := .int) (C := RH) (T := TH) (N := 8) hx hb hts inH tyH tyH_ok nmH hown hK hP hD hS 0 gX_0 rfl 5 (by decide) (hts _ tw_155) (fun _ h9 => h9) rfl (by decide +kernel) rfl rfl (Nat.le_of_ble_eq_true rfl) dH_tick_80 (fun H locs hP hD hS => ?_)
      rw [sX_0_5] at hP hD
      refine lv_iload_n hx hb dH_tick_83 rfl (lv_at hl 3 rfl) ?_
      refine W.widen (k := 1) (n := 6) (by decide) (by decide) ?_
      exact vx_ret (W.iret (v := x3) hx hb hr (fun t ht hW => ⟨⟨x3, (uG 1 x2 σ), rfl, hw, by rw [ht]; exact hP, va_K.moved hW.alike hK, hD⟩, hS.F ht⟩) hS.2.2 dH_tick_84)
    · have hw := hw.2 c3
      refine lv_aload_n hx hb dH_tick_42 rfl (lv_at hl 0 rfl) ?_
      refine lv_iload_n hx hb dH_tick_43 rfl (lv_at hl 2 rfl) ?_
      have hFc := px_free hD hS hA
      refine va_calle (va_runV (As := [.int x2]) (rest := []) ⟨hx, hb, hml, hown, hts⟩ (c_firstToRing l D ca ad σ x2 _ _ hw) (cwV 1 hts (gV tw_519 tw_521 tp_16 tw_1 tw_522) rfl rfl rfl (by decide +kernel) ⟨Nat.le_of_ble_eq_true rfl, Nat.le_of_ble_eq_true rfl⟩) ⟨px_blind, (px_recv hK hP gX_0 rfl), fun U hU hW => px_pre hP hK hD hE hS hFc hU hW⟩ rfl rfl hl.1 rfl (lv_room (Nat.le_of_ble_eq_true rfl)) dH_tick_44 ⟨Nat.le_of_ble_eq_true rfl, Nat.le_of_ble_eq_true rfl⟩) hS (fun q _ h => hFc q h) hFc (fun r5 s4 t H locs ht hvm hw hB _ _ hS => ?_)
      obtain ⟨hP, -, hD⟩ := hB
      rw [ht] at hP
      have hD := hD.weaken (fun _ _ _ h9 => hFc _ h9)
      cases e7 : r5 with
      | none =>
        have hw := hw.1 e7
        try rw [e7]
        refine lv_astoreN (lv' := [(5, .null), (0, .ref (ad 0 0)), (1, .int x1), (2, .int x2), (3, .int x3), (4, .int x4)]) hx hb dH_tick_47 hl (by decide) rfl (fun ls hl => ?_)
        refine lv_aloadN hx hb dH_tick_49 (lv_at hl 0 rfl) ?_
        refine lv_ifnonnullN hx hb dH_tick_51 ?_
        refine lv_goto (tgt := 78) hx hb dH_tick_54 (by decide) ?_
        refine lv_aload_n hx hb dH_tick_78 rfl (lv_at hl 1 rfl) ?_
        refine lv_iload_n hx hb dH_tick_79 rfl (lv_at hl 3 rfl) ?_
        refine va_put (D := D) (ci := 0) (v := .int x2) (ty := .int) (C := RH) (T := TH) (N := 8) hx hb hts inH tyH tyH_ok nmH hown hK hP hD hS 0 gX_0 rfl 5 (by decide) (hts _ tw_155) (fun _ h9 => h9) rfl (by decide +kernel) rfl rfl (Nat.le_of_ble_eq_true rfl) dH_tick_80 (fun H locs hP hD hS => ?_)
        rw [sX_0_5] at hP hD
        refine lv_iload_n hx hb dH_tick_83 rfl (lv_at hl 4 rfl) ?_
        refine W.widen (k := 1) (n := 6) (by decide) (by decide) ?_
        exact vx_ret (W.iret (v := x3) hx hb hr (fun t ht hW => ⟨⟨x3, (uG 1 x2 s4), rfl, hw, by rw [ht]; exact hP, va_K.moved hW.alike hK, hD⟩, hS.F ht⟩) hS.2.2 dH_tick_84)
      | some j6 =>
        obtain ⟨hj8, hw⟩ := hw.2 j6 e7
        try rw [e7]
        refine lv_astore (lv' := [(5, .ref (ad 6 j6)), (0, .ref (ad 0 0)), (1, .int x1), (2, .int x2), (3, .int x3), (4, .int x4)]) hx hb dH_tick_47 hl (by decide) rfl (fun ls hl => ?_)
        refine lv_aload hx hb dH_tick_49 (lv_at hl 0 rfl) ?_
        refine lv_ifnonnull (tgt := 57) hx hb dH_tick_51 (by decide) ?_
        refine lv_aload_n hx hb dH_tick_57 rfl (lv_at hl 1 rfl) ?_
        refine lv_aload hx hb dH_tick_58 (lv_at hl 0 rfl) ?_
        refine va_get (D := D) (ci := 1) (v := .int (sF s4 13 j6)) (C := RP) (T := TP) (N := 16) hx hb hts inP hown hK hP (6 + j6) (gX_6 hj8) rfl 13 (by decide) (hts _ tw_111) (fun _ h9 => h9) rfl dH_tick_60 ?_
        refine va_put (D := D) (ci := 0) (v := .int (sF s4 13 j6)) (ty := .int) (C := RH) (T := TH) (N := 8) hx hb hts inH tyH tyH_ok nmH hown hK hP hD hS 0 gX_0 rfl 5 (by decide) (hts _ tw_155) (fun _ h9 => h9) rfl (by decide +kernel) rfl rfl (Nat.le_of_ble_eq_true rfl) dH_tick_63 (fun H locs hP hD hS => ?_)
        rw [sX_0_5] at hP hD
        refine lv_aload_n hx hb dH_tick_66 rfl (lv_at hl 1 rfl) ?_
        refine lv_aload hx hb dH_tick_67 (lv_at hl 0 rfl) ?_
        have hFc := px_free hD hS hA
        refine va_callv (va_runV (As := [.ref (ad 6 j6)]) (rest := []) ⟨hx, hb, hml, hown, hts⟩ (c_ring l D ca ad (uG 1 (sF s4 13 j6) s4) j6 hj8 _ _ hw) (cwV 1 hts (gV tw_527 tw_529 tp_17 tw_1 tw_530) rfl rfl rfl (by decide +kernel) ⟨Nat.le_of_ble_eq_true rfl, Nat.le_of_ble_eq_true rfl⟩) ⟨px_blind, (px_recv hK hP gX_0 rfl), fun U hU hW => px_pre hP hK hD hE hS hFc hU hW⟩ rfl rfl hl.1 rfl (lv_room (Nat.le_of_ble_eq_true rfl)) dH_tick_69 ⟨Nat.le_of_ble_eq_true rfl, Nat.le_of_ble_eq_true rfl⟩) hS (fun q _ h => hFc q h) hFc (fun s9 t H locs ht hvm hw hB _ _ hS => ?_)
        obtain ⟨hP, -, hD⟩ := hB
        rw [ht] at hP
        have hD := hD.weaken (fun _ _ _ h9 => hFc _ h9)
        refine lv_iinc (v := x3 + 1) (lv' := [(3, .int (x3 + 1)), (5, .ref (ad 6 j6)), (0, .ref (ad 0 0)), (1, .int x1), (2, .int x2), (4, .int x4)]) hx hb dH_tick_72 hl (k := 4) rfl rfl (by decide) rfl (fun ls hl => ?_)
        refine lv_goto (tgt := 36) hx hb dH_tick_75 (by decide) ?_
        exact ih s9 x1 x2 (x3 + 1) x4 hw _ _ hP hD hS ls (lv_sub hl [2, 3, 4, 0, 5] rfl)
def wp_tick (post : Int32 → Sg → Prop) (px : String → Sg → Prop) (σ : Sg) (a0 : Int32) : Prop := (((a0 < 1) → px "java/lang/IllegalArgumentException" σ) ∧ (¬ (a0 < 1) → (((a0 ≤ 1000) → (∃ n : Nat, wpl_tick_L36 n post px σ a0 ((sG σ 1) + a0) 0 328)) ∧ (¬ (a0 ≤ 1000) → px "java/lang/IllegalArgumentException" σ))))
set_option maxHeartbeats 4000000 in
set_option maxRecDepth 100000 in
theorem c_tick (l : Launch) (D : va_G) (ca : Nat → ClassId) (ad : Nat → Nat → Nat) (σ : Sg) (a0 : Int32) (sz : Nat) (post : Int32 → Sg → Prop) (px : String → Sg → Prop) (hl0 : l.stackTraces = false) (hw : wp_tick post px σ a0) : vx_Met l yH_tick wsH_tick ({ frames := 8, cells := 1, slots := 6, locals := 120 }) (va_Pc [.ref (ad 0 0), .int a0] (preX D ca ad σ sz)) (va_Qi post (atX D ca ad (va_A (wX ca ad σ) sz)) (va_A (wX ca ad σ) sz)) (vx_X (fun u : String × Sg => px u.1 u.2) (atXx D ca ad (va_A (wX ca ad σ) sz)) (va_A (wX ca ad σ) sz)) 1 6 (va_A (wX ca ad σ) sz) := by
  refine vx_ofW (cc := cH_tick) (maxL := 6) (ret := (some .int)) (by decide) rfl ?_
  intro p e s m args below meth c s₁ B hml hexc hv
  obtain ⟨rfl, hsz, hP, hK, hD0, hE⟩ := hv
  have hx := B.exec
  have hb := B.bytes
  have hr := B.returns
  have hts : ∀ w ∈ tbG, w.before _ s = true := fun w h => atoms_spec (ws := wsH_tick) B.pre w (List.mem_cons_of_mem _ h)
  have hown : s.vm.findClass RH = some m.cls := findClass_of_methodNamed B.named
  have hlocks := B.notSynchronized
  subst hsz
  have hD := hD0.self (sz := s.heap.size)
  generalize hAe : va_A (wX ca ad σ) s.heap.size = A at hD hE ⊢
  have hA : ∀ q : Nat, s.heap.size ≤ q → A q := fun q h => by rw [← hAe]; exact Or.inr h
  clear hAe
  have hS : va_S A s.heap s.heap [] := va_S.rf
  have hl := lv_entry ([.ref (ad 0 0), .int a0]) (n := 6) (Nat.le_of_ble_eq_true rfl)
  rw [lg_entry_eq]
  generalize (lg_sl ([.ref (ad 0 0), .int a0]) ++ List.replicate (6 - (lg_sl ([.ref (ad 0 0), .int a0])).length) Slot.unset).toArray = ls at hl ⊢
  have hl : lv_has ls 6 [(0, .ref (ad 0 0)), (1, .int a0)] := hl
  unfold wp_tick at hw
  have hP : va_P D clX (wX ca ad σ) s.heap := hP
  refine lv_iload_n hx hb dH_tick_0 rfl (lv_at hl 1 rfl) ?_
  refine lv_iconst (v := 1) hx hb dH_tick_1 (by decide) ?_
  refine lv_icmp_lt (tgt := 12) hx hb dH_tick_2 (by decide) (fun c1 => ?_) (fun c1 => ?_)
  · have hw := hw.1 c1
    obtain ⟨sa9, hstr⟩ := hE.str 6 _ rfl
    exact vx_throwS (names := ["java/lang/RuntimeException", "java/lang/Exception"]) hx hb hl0 hown (by decide +kernel) (by decide +kernel) (hts _ tw_214) (hts _ tw_11) hstr (hE.hat53 hts) gd_53 hE.1 hE.2.1 hS (hl.1.trans hml.symm) dH_tick_12 dH_tick_15 dH_tick_16 dH_tick_18 dH_tick_21 (fun x9 h9 => (hexc x9 h9).elim) (by decide) (by decide) (by decide) (by decide) hlocks (fun t hv hz hk => ⟨(_, σ), hw, ⟨rfl, hP.kept (fun k9 q9 h9 => hk _ (va_at.lt (hP k9 q9 h9))), va_K.moved hv hK, hD⟩, va_S.F2 hS hz hk⟩) hS.2.2 (by decide) (by decide)
  · have hw := hw.2 c1
    refine lv_iload_n hx hb dH_tick_5 rfl (lv_at hl 1 rfl) ?_
    refine lv_sipush (v := 1000) hx hb dH_tick_6 (by decide) ?_
    refine lv_icmp_le (tgt := 22) hx hb dH_tick_9 (by decide) (fun c2 => ?_) (fun c2 => ?_)
    · have hw := hw.1 c2
      refine lv_aload_n hx hb dH_tick_22 rfl (lv_at hl 0 rfl) ?_
      refine va_get (D := D) (ci := 0) (v := .int (sG σ 1)) (C := RH) (T := TH) (N := 8) hx hb hts inH hown hK hP 0 gX_0 rfl 5 (by decide) (hts _ tw_155) (fun _ h9 => h9) rfl dH_tick_23 ?_
      refine lv_iload_n hx hb dH_tick_26 rfl (lv_at hl 1 rfl) ?_
      refine lv_iadd hx hb dH_tick_27 ?_
      refine lv_istore_n (lv' := [(2, .int ((sG σ 1) + a0)), (0, .ref (ad 0 0)), (1, .int a0)]) hx hb dH_tick_28 rfl hl (by decide) rfl (fun ls hl => ?_)
      refine lv_iconst (v := 0) hx hb dH_tick_29 (by decide) ?_
      refine lv_istore_n (lv' := [(3, .int 0), (2, .int ((sG σ 1) + a0)), (0, .ref (ad 0 0)), (1, .int a0)]) hx hb dH_tick_30 rfl hl (by decide) rfl (fun ls hl => ?_)
      refine lv_sipush (v := 328) hx hb dH_tick_31 (by decide) ?_
      refine lv_istore (lv' := [(4, .int 328), (3, .int 0), (2, .int ((sG σ 1) + a0)), (0, .ref (ad 0 0)), (1, .int a0)]) hx hb dH_tick_34 hl (by decide) rfl (fun ls hl => ?_)
      obtain ⟨n, hw⟩ := hw
      exact l_tick_L36 (D := D) (ca := ca) (ad := ad)  hx hb hr hml hts hown hlocks hA hK hE hl0 hexc n σ a0 ((sG σ 1) + a0) 0 328 hw _ _ hP hD hS ls (lv_sub hl [3, 4, 2, 1, 0] rfl)
    · have hw := hw.2 c2
      obtain ⟨sa9, hstr⟩ := hE.str 6 _ rfl
      exact vx_throwS (names := ["java/lang/RuntimeException", "java/lang/Exception"]) hx hb hl0 hown (by decide +kernel) (by decide +kernel) (hts _ tw_214) (hts _ tw_11) hstr (hE.hat53 hts) gd_53 hE.1 hE.2.1 hS (hl.1.trans hml.symm) dH_tick_12 dH_tick_15 dH_tick_16 dH_tick_18 dH_tick_21 (fun x9 h9 => (hexc x9 h9).elim) (by decide) (by decide) (by decide) (by decide) hlocks (fun t hv hz hk => ⟨(_, σ), hw, ⟨rfl, hP.kept (fun k9 q9 h9 => hk _ (va_at.lt (hP k9 q9 h9))), va_K.moved hv hK, hD⟩, va_S.F2 hS hz hk⟩) hS.2.2 (by decide) (by decide)
theorem dH_reply_0 : decode cH_reply 0 = .ok (.aload_n 0, 1) := by decide +kernel
theorem dH_reply_1 : decode cH_reply 1 = .ok (.invokevirtual 61, 3) := by decide +kernel
theorem dH_reply_4 : decode cH_reply 4 = .ok (.istore 5, 2) := by decide +kernel
theorem dH_reply_6 : decode cH_reply 6 = .ok (.aload_n 0, 1) := by decide +kernel
theorem dH_reply_7 : decode cH_reply 7 = .ok (.iload_n 1, 1) := by decide +kernel
theorem dH_reply_8 : decode cH_reply 8 = .ok (.invokevirtual 65, 3) := by decide +kernel
theorem dH_reply_11 : decode cH_reply 11 = .ok (.astore 6, 2) := by decide +kernel
theorem dH_reply_13 : decode cH_reply 13 = .ok (.iload_n 3, 1) := by decide +kernel
theorem dH_reply_14 : decode cH_reply 14 = .ok (.iload 4, 2) := by decide +kernel
theorem dH_reply_16 : decode cH_reply 16 = .ok (.iload 5, 2) := by decide +kernel
theorem dH_reply_18 : decode cH_reply 18 = .ok (.invokestatic 117, 3) := by decide +kernel
theorem dH_reply_21 : decode cH_reply 21 = .ok (.ifCond .ne 13, 3) := by decide +kernel
theorem dH_reply_24 : decode cH_reply 24 = .ok (.new 49, 3) := by decide +kernel
theorem dH_reply_27 : decode cH_reply 27 = .ok (.dup, 1) := by decide +kernel
theorem dH_reply_28 : decode cH_reply 28 = .ok (.ldc 121, 2) := by decide +kernel
theorem dH_reply_30 : decode cH_reply 30 = .ok (.invokespecial 53, 3) := by decide +kernel
theorem dH_reply_33 : decode cH_reply 33 = .ok (.athrow, 1) := by decide +kernel
theorem dH_reply_34 : decode cH_reply 34 = .ok (.aload 6, 2) := by decide +kernel
theorem dH_reply_36 : decode cH_reply 36 = .ok (.invokevirtual 78, 3) := by decide +kernel
theorem dH_reply_39 : decode cH_reply 39 = .ok (.ifCond .eq 12, 3) := by decide +kernel
theorem dH_reply_42 : decode cH_reply 42 = .ok (.iload_n 2, 1) := by decide +kernel
theorem dH_reply_43 : decode cH_reply 43 = .ok (.aload 6, 2) := by decide +kernel
theorem dH_reply_45 : decode cH_reply 45 = .ok (.getfield 123, 3) := by decide +kernel
theorem dH_reply_48 : decode cH_reply 48 = .ok (.if_icmp .eq 5, 3) := by decide +kernel
theorem dH_reply_51 : decode cH_reply 51 = .ok (.iconst 0, 1) := by decide +kernel
theorem dH_reply_52 : decode cH_reply 52 = .ok (.ireturn, 1) := by decide +kernel
theorem dH_reply_53 : decode cH_reply 53 = .ok (.iload_n 3, 1) := by decide +kernel
theorem dH_reply_54 : decode cH_reply 54 = .ok (.tableswitch 67 0 2 #[26, 39, 50], 26) := by decide +kernel
theorem dH_reply_80 : decode cH_reply 80 = .ok (.aload_n 0, 1) := by decide +kernel
theorem dH_reply_81 : decode cH_reply 81 = .ok (.aload 6, 2) := by decide +kernel
theorem dH_reply_83 : decode cH_reply 83 = .ok (.iload 4, 2) := by decide +kernel
theorem dH_reply_85 : decode cH_reply 85 = .ok (.iload 5, 2) := by decide +kernel
theorem dH_reply_87 : decode cH_reply 87 = .ok (.invokevirtual 126, 3) := by decide +kernel
theorem dH_reply_90 : decode cH_reply 90 = .ok (.goto 40, 3) := by decide +kernel
theorem dH_reply_93 : decode cH_reply 93 = .ok (.aload_n 0, 1) := by decide +kernel
theorem dH_reply_94 : decode cH_reply 94 = .ok (.aload 6, 2) := by decide +kernel
theorem dH_reply_96 : decode cH_reply 96 = .ok (.iload 4, 2) := by decide +kernel
theorem dH_reply_98 : decode cH_reply 98 = .ok (.invokevirtual 130, 3) := by decide +kernel
theorem dH_reply_101 : decode cH_reply 101 = .ok (.goto 29, 3) := by decide +kernel
theorem dH_reply_104 : decode cH_reply 104 = .ok (.aload 6, 2) := by decide +kernel
theorem dH_reply_106 : decode cH_reply 106 = .ok (.iconst (-1), 1) := by decide +kernel
theorem dH_reply_107 : decode cH_reply 107 = .ok (.putfield 104, 3) := by decide +kernel
theorem dH_reply_110 : decode cH_reply 110 = .ok (.aload_n 0, 1) := by decide +kernel
theorem dH_reply_111 : decode cH_reply 111 = .ok (.aload 6, 2) := by decide +kernel
theorem dH_reply_113 : decode cH_reply 113 = .ok (.iconst 2, 1) := by decide +kernel
theorem dH_reply_114 : decode cH_reply 114 = .ok (.iconst (-1), 1) := by decide +kernel
theorem dH_reply_115 : decode cH_reply 115 = .ok (.invokevirtual 134, 3) := by decide +kernel
theorem dH_reply_118 : decode cH_reply 118 = .ok (.goto 12, 3) := by decide +kernel
theorem dH_reply_121 : decode cH_reply 121 = .ok (.aload_n 0, 1) := by decide +kernel
theorem dH_reply_122 : decode cH_reply 122 = .ok (.aload 6, 2) := by decide +kernel
theorem dH_reply_124 : decode cH_reply 124 = .ok (.bipush 20, 2) := by decide +kernel
theorem dH_reply_126 : decode cH_reply 126 = .ok (.iconst 0, 1) := by decide +kernel
theorem dH_reply_127 : decode cH_reply 127 = .ok (.invokevirtual 137, 3) := by decide +kernel
theorem dH_reply_130 : decode cH_reply 130 = .ok (.iconst 1, 1) := by decide +kernel
theorem dH_reply_131 : decode cH_reply 131 = .ok (.ireturn, 1) := by decide +kernel
def wp_reply (post : Int32 → Sg → Prop) (px : String → Sg → Prop) (σ : Sg) (a0 : Int32) (a1 : Int32) (a2 : Int32) (a3 : Int32) : Prop := wp_takeTape (fun r2 s1 => wp_patronOf (fun r4 s3 => (∃ j5 : Nat, r4 = some j5 ∧ j5 < 8 ∧ wp_canBeReplied (fun r9 s8 => ((¬ (r9 = 0) → wp_waits (fun r12 s11 => (((r12 = 0) → post 0 s11) ∧ (¬ (r12 = 0) → (((a1 = (sF s11 10 j5)) → ((a2 = 0 → wp_hearAnswer (fun s16 => post 1 s16) s11 j5 a3 r2) ∧ (¬ (a2 = 0) → ((a2 = 1 → wp_hearWhoLeads (fun s19 => post 1 s19) s11 j5 a3) ∧ (¬ (a2 = 1) → ((a2 = 2 → wp_tell (fun s22 => post 1 s22) (uF 8 j5 (-1) s11) j5 2 (-1)) ∧ (¬ (a2 = 2) → wp_makeAlarm (fun s24 => post 1 s24) s11 j5 20 0))))))) ∧ (¬ (a1 = (sF s11 10 j5)) → post 0 s11))))) s8 j5) ∧ ((r9 = 0) → px "java/lang/IllegalArgumentException" s8))) s3 a2 a3 r2)) px s1 a0) σ
set_option maxHeartbeats 4000000 in
set_option maxRecDepth 100000 in
theorem c_reply (l : Launch) (D : va_G) (ca : Nat → ClassId) (ad : Nat → Nat → Nat) (σ : Sg) (a0 : Int32) (a1 : Int32) (a2 : Int32) (a3 : Int32) (sz : Nat) (post : Int32 → Sg → Prop) (px : String → Sg → Prop) (hl0 : l.stackTraces = false) (hw : wp_reply post px σ a0 a1 a2 a3) : vx_Met l yH_reply wsH_reply ({ frames := 9, cells := 2, slots := 12, locals := 141 }) (va_Pc [.ref (ad 0 0), .int a0, .int a1, .int a2, .int a3] (preX D ca ad σ sz)) (va_Qi post (atX D ca ad (va_A (wX ca ad σ) sz)) (va_A (wX ca ad σ) sz)) (vx_X (fun u : String × Sg => px u.1 u.2) (atXx D ca ad (va_A (wX ca ad σ) sz)) (va_A (wX ca ad σ) sz)) 2 12 (va_A (wX ca ad σ) sz) := by
  refine vx_ofW (cc := cH_reply) (maxL := 7) (ret := (some .boolean)) (by decide) rfl ?_
  intro p e s m args below meth c s₁ B hml hexc hv
  obtain ⟨rfl, hsz, hP, hK, hD0, hE⟩ := hv
  have hx := B.exec
  have hb := B.bytes
  have hr := B.returns
  have hts : ∀ w ∈ tbG, w.before _ s = true := fun w h => atoms_spec (ws := wsH_reply) B.pre w (List.mem_cons_of_mem _ h)
  have hown : s.vm.findClass RH = some m.cls := findClass_of_methodNamed B.named
  have hlocks := B.notSynchronized
  subst hsz
  have hD := hD0.self (sz := s.heap.size)
  generalize hAe : va_A (wX ca ad σ) s.heap.size = A at hD hE ⊢
  have hA : ∀ q : Nat, s.heap.size ≤ q → A q := fun q h => by rw [← hAe]; exact Or.inr h
  clear hAe
  have hS : va_S A s.heap s.heap [] := va_S.rf
  have hl := lv_entry ([.ref (ad 0 0), .int a0, .int a1, .int a2, .int a3]) (n := 7) (Nat.le_of_ble_eq_true rfl)
  rw [lg_entry_eq]
  generalize (lg_sl ([.ref (ad 0 0), .int a0, .int a1, .int a2, .int a3]) ++ List.replicate (7 - (lg_sl ([.ref (ad 0 0), .int a0, .int a1, .int a2, .int a3])).length) Slot.unset).toArray = ls at hl ⊢
  have hl : lv_has ls 7 [(0, .ref (ad 0 0)), (1, .int a0), (2, .int a1), (3, .int a2), (4, .int a3)] := hl
  unfold wp_reply at hw
  have hP : va_P D clX (wX ca ad σ) s.heap := hP
  refine lv_aload_n hx hb dH_reply_0 rfl (lv_at hl 0 rfl) ?_
  have hFc := px_free hD hS hA
  refine va_calli (va_runV (As := []) (rest := []) ⟨hx, hb, hml, hown, hts⟩ (c_takeTape l D ca ad σ  _ _ hw) (cwV 0 hts (gV tw_305 tw_307 tp_2 tw_1 tw_308) rfl rfl rfl (by decide +kernel) ⟨Nat.le_of_ble_eq_true rfl, Nat.le_of_ble_eq_true rfl⟩) ⟨px_blind, (px_recv hK hP gX_0 rfl), fun U hU hW => px_pre hP hK hD hE hS hFc hU hW⟩ rfl rfl hl.1 rfl (lv_room (Nat.le_of_ble_eq_true rfl)) dH_reply_1 ⟨Nat.le_of_ble_eq_true rfl, Nat.le_of_ble_eq_true rfl⟩) hS (fun q _ h => hFc q h) hFc (fun r2 s1 t H locs ht hvm hw hB _ _ hS => ?_)
  obtain ⟨hP, -, hD⟩ := hB
  rw [ht] at hP
  have hD := hD.weaken (fun _ _ _ h9 => hFc _ h9)
  refine lv_istore (lv' := [(5, .int r2), (0, .ref (ad 0 0)), (1, .int a0), (2, .int a1), (3, .int a2), (4, .int a3)]) hx hb dH_reply_4 hl (by decide) rfl (fun ls hl => ?_)
  refine lv_aload_n hx hb dH_reply_6 rfl (lv_at hl 1 rfl) ?_
  refine lv_iload_n hx hb dH_reply_7 rfl (lv_at hl 2 rfl) ?_
  have hFc := px_free hD hS hA
  refine vx_calle (vx_runV (As := [.int a0]) (rest := []) ⟨hx, hb, hml, hown, hts⟩ (c_patronOf l D ca ad s1 a0 _ _ _ hl0 hw) (cwV 1 hts (gV tw_309 tw_311 tp_3 tw_1 tw_312) rfl rfl rfl (by decide +kernel) ⟨Nat.le_of_ble_eq_true rfl, Nat.le_of_ble_eq_true rfl⟩) ⟨px_blind, (px_recv hK hP gX_0 rfl), fun U hU hW => px_pre hP hK hD hE hS hFc hU hW⟩ rfl rfl hl.1 rfl (lv_room (Nat.le_of_ble_eq_true rfl)) dH_reply_8 ⟨Nat.le_of_ble_eq_true rfl, Nat.le_of_ble_eq_true rfl⟩) hS (fun q _ h => hFc q h) hFc (fun q _ h => hFc q h) (fun E9 ce9 q9 u9 t9 H locs ht hvm hw hB _ _ hS hce hcv hcl => ?_) (fun r4 s3 t H locs ht hvm hw hB _ _ hS => ?_)
  · obtain ⟨rfl, hP, -, hD⟩ := hB
    rw [ht] at hP
    exact vx_out (fun x9 h9 => (hexc x9 h9).elim) hlocks hce hcv hcl (fun t8 h8 hv8 => ⟨u9, hw, ⟨rfl, by rw [h8]; exact hP, va_K.moved hv8 hK, hD.weaken (fun _ _ _ h7 => hFc _ h7)⟩, hS.F h8⟩) hS.2.2 (by decide) (by decide)
  obtain ⟨hP, -, hD⟩ := hB
  rw [ht] at hP
  have hD := hD.weaken (fun _ _ _ h9 => hFc _ h9)
  refine W.widen (k := 1) (n := 6) (by decide) (by decide) ?_
  obtain ⟨j5, e6, hj7, hw⟩ := hw
  subst e6
  refine lv_astore (lv' := [(6, .ref (ad 6 j5)), (5, .int r2), (0, .ref (ad 0 0)), (1, .int a0), (2, .int a1), (3, .int a2), (4, .int a3)]) hx hb dH_reply_11 hl (by decide) rfl (fun ls hl => ?_)
  refine lv_iload_n hx hb dH_reply_13 rfl (lv_at hl 5 rfl) ?_
  refine lv_iload hx hb dH_reply_14 (lv_at hl 6 rfl) ?_
  refine lv_iload hx hb dH_reply_16 (lv_at hl 1 rfl) ?_
  have hFc := px_free hD hS hA
  refine va_calli (va_runS (As := [.int a2, .int a3, .int r2]) (rest := []) ⟨hx, hb, hml, hown, hts⟩ (c_canBeReplied l D ca ad s3 a2 a3 r2 _ _ hw) (va_cwS 3 hts (gS tw_490 tw_491 tw_1 tw_492) rfl rfl rfl (by decide +kernel) ⟨Nat.le_of_ble_eq_true rfl, Nat.le_of_ble_eq_true rfl⟩) ⟨px_blind, fun U hU hW => px_pre hP hK hD hE hS hFc hU hW⟩ rfl rfl hl.1 rfl (lv_room (Nat.le_of_ble_eq_true rfl)) dH_reply_18 ⟨Nat.le_of_ble_eq_true rfl, Nat.le_of_ble_eq_true rfl⟩) hS (fun q _ h => hFc q h) hFc (fun r9 s8 t H locs ht hvm hw hB _ _ hS => ?_)
  obtain ⟨hP, -, hD⟩ := hB
  rw [ht] at hP
  have hD := hD.weaken (fun _ _ _ h9 => hFc _ h9)
  refine W.widen (k := 1) (n := 6) (by decide) (by decide) ?_
  refine lv_if_ne (tgt := 34) hx hb dH_reply_21 (by decide) (fun c10 => ?_) (fun c10 => ?_)
  · have hw := hw.1 c10
    refine lv_aload hx hb dH_reply_34 (lv_at hl 0 rfl) ?_
    have hFc := px_free hD hS hA
    refine va_calli (va_runV (As := []) (rest := []) ⟨hx, hb, hml, hown, hts⟩ (c_waits l D ca ad s8 j5 hj7 _ _ hw) (cwV 0 hts (gV tw_198 tw_199 tw_200 tw_6 tw_201) rfl rfl rfl (by decide +kernel) ⟨Nat.le_of_ble_eq_true rfl, Nat.le_of_ble_eq_true rfl⟩) ⟨px_blind, (px_recv hK hP (gX_6 hj7) rfl), fun U hU hW => px_pre hP hK hD hE hS hFc hU hW⟩ rfl rfl hl.1 rfl (lv_room (Nat.le_of_ble_eq_true rfl)) dH_reply_36 ⟨Nat.le_of_ble_eq_true rfl, Nat.le_of_ble_eq_true rfl⟩) hS (fun q _ h => hFc q h) hFc (fun r12 s11 t H locs ht hvm hw hB _ _ hS => ?_)
    obtain ⟨hP, -, hD⟩ := hB
    rw [ht] at hP
    have hD := hD.weaken (fun _ _ _ h9 => hFc _ h9)
    refine W.widen (k := 1) (n := 6) (by decide) (by decide) ?_
    refine lv_if_eq (tgt := 51) hx hb dH_reply_39 (by decide) (fun c13 => ?_) (fun c13 => ?_)
    · have hw := hw.1 c13
      refine lv_iconst (v := 0) hx hb dH_reply_51 (by decide) ?_
      refine W.widen (k := 2) (n := 12) (by decide) (by decide) ?_
      exact vx_ret (W.zret (ty := .boolean) (v := 0) hx hb hr (by decide) (fun t ht hW => ⟨⟨0, s11, rfl, hw, by rw [ht]; exact hP, va_K.moved hW.alike hK, hD⟩, hS.F ht⟩) hS.2.2 dH_reply_52)
    · have hw := hw.2 c13
      refine lv_iload_n hx hb dH_reply_42 rfl (lv_at hl 4 rfl) ?_
      refine lv_aload hx hb dH_reply_43 (lv_at hl 0 rfl) ?_
      refine va_get (D := D) (ci := 1) (v := .int (sF s11 10 j5)) (C := RP) (T := TP) (N := 16) hx hb hts inP hown hK hP (6 + j5) (gX_6 hj7) rfl 10 (by decide) (hts _ tw_104) (fun _ h9 => h9) rfl dH_reply_45 ?_
      refine lv_icmp_eq (tgt := 53) hx hb dH_reply_48 (by decide) (fun c14 => ?_) (fun c14 => ?_)
      · have hw := hw.1 c14
        refine lv_iload_n hx hb dH_reply_53 rfl (lv_at hl 5 rfl) ?_
        by_cases c15 : a2 = 0
        · have hw := hw.1 c15
          refine lv_tableIn (tgt := 80) hx hb dH_reply_54 (by rw [c15]; decide) (by rw [c15]; decide) (by rw [c15]; rfl) (by decide) ?_
          refine lv_aload_n hx hb dH_reply_80 rfl (lv_at hl 2 rfl) ?_
          refine lv_aload hx hb dH_reply_81 (lv_at hl 0 rfl) ?_
          refine lv_iload hx hb dH_reply_83 (lv_at hl 6 rfl) ?_
          refine lv_iload hx hb dH_reply_85 (lv_at hl 1 rfl) ?_
          have hFc := px_free hD hS hA
          refine va_callv (va_runV (As := [.ref (ad 6 j5), .int a3, .int r2]) (rest := []) ⟨hx, hb, hml, hown, hts⟩ (c_hearAnswer l D ca ad s11 j5 hj7 a3 r2 _ _ hw) (cwV 3 hts (gV tw_495 tw_497 tp_14 tw_1 tw_498) rfl rfl rfl (by decide +kernel) ⟨Nat.le_of_ble_eq_true rfl, Nat.le_of_ble_eq_true rfl⟩) ⟨px_blind, (px_recv hK hP gX_0 rfl), fun U hU hW => px_pre hP hK hD hE hS hFc hU hW⟩ rfl rfl hl.1 rfl (lv_room (Nat.le_of_ble_eq_true rfl)) dH_reply_87 ⟨Nat.le_of_ble_eq_true rfl, Nat.le_of_ble_eq_true rfl⟩) hS (fun q _ h => hFc q h) hFc (fun s16 t H locs ht hvm hw hB _ _ hS => ?_)
          obtain ⟨hP, -, hD⟩ := hB
          rw [ht] at hP
          have hD := hD.weaken (fun _ _ _ h9 => hFc _ h9)
          refine W.widen (k := 1) (n := 6) (by decide) (by decide) ?_
          refine lv_goto (tgt := 130) hx hb dH_reply_90 (by decide) ?_
          refine lv_iconst (v := 1) hx hb dH_reply_130 (by decide) ?_
          refine W.widen (k := 2) (n := 12) (by decide) (by decide) ?_
          exact vx_ret (W.zret (ty := .boolean) (v := 1) hx hb hr (by decide) (fun t ht hW => ⟨⟨1, s16, rfl, hw, by rw [ht]; exact hP, va_K.moved hW.alike hK, hD⟩, hS.F ht⟩) hS.2.2 dH_reply_131)
        · have hw := hw.2 c15
          by_cases c18 : a2 = 1
          · have hw := hw.1 c18
            refine lv_tableIn (tgt := 93) hx hb dH_reply_54 (by rw [c18]; decide) (by rw [c18]; decide) (by rw [c18]; rfl) (by decide) ?_
            refine lv_aload_n hx hb dH_reply_93 rfl (lv_at hl 2 rfl) ?_
            refine lv_aload hx hb dH_reply_94 (lv_at hl 0 rfl) ?_
            refine lv_iload hx hb dH_reply_96 (lv_at hl 6 rfl) ?_
            have hFc := px_free hD hS hA
            refine va_callv (va_runV (As := [.ref (ad 6 j5), .int a3]) (rest := []) ⟨hx, hb, hml, hown, hts⟩ (c_hearWhoLeads l D ca ad s11 j5 hj7 a3 _ _ hw) (cwV 2 hts (gV tw_503 tw_505 tp_15 tw_1 tw_506) rfl rfl rfl (by decide +kernel) ⟨Nat.le_of_ble_eq_true rfl, Nat.le_of_ble_eq_true rfl⟩) ⟨px_blind, (px_recv hK hP gX_0 rfl), fun U hU hW => px_pre hP hK hD hE hS hFc hU hW⟩ rfl rfl hl.1 rfl (lv_room (Nat.le_of_ble_eq_true rfl)) dH_reply_98 ⟨Nat.le_of_ble_eq_true rfl, Nat.le_of_ble_eq_true rfl⟩) hS (fun q _ h => hFc q h) hFc (fun s19 t H locs ht hvm hw hB _ _ hS => ?_)
            obtain ⟨hP, -, hD⟩ := hB
            rw [ht] at hP
            have hD := hD.weaken (fun _ _ _ h9 => hFc _ h9)
            refine W.widen (k := 1) (n := 6) (by decide) (by decide) ?_
            refine lv_goto (tgt := 130) hx hb dH_reply_101 (by decide) ?_
            refine lv_iconst (v := 1) hx hb dH_reply_130 (by decide) ?_
            refine W.widen (k := 2) (n := 12) (by decide) (by decide) ?_
            exact vx_ret (W.zret (ty := .boolean) (v := 1) hx hb hr (by decide) (fun t ht hW => ⟨⟨1, s19, rfl, hw, by rw [ht]; exact hP, va_K.moved hW.alike hK, hD⟩, hS.F ht⟩) hS.2.2 dH_reply_131)
          · have hw := hw.2 c18
            by_cases c21 : a2 = 2
            · have hw := hw.1 c21
              refine lv_tableIn (tgt := 104) hx hb dH_reply_54 (by rw [c21]; decide) (by rw [c21]; decide) (by rw [c21]; rfl) (by decide) ?_
              refine lv_aload hx hb dH_reply_104 (lv_at hl 0 rfl) ?_
              refine lv_iconst (v := (-1)) hx hb dH_reply_106 (by decide) ?_
              refine va_put (D := D) (ci := 1) (v := .int (-1)) (ty := .int) (C := RP) (T := TP) (N := 16) hx hb hts inP tyP tyP_ok nmP hown hK hP hD hS (6 + j5) (gX_6 hj7) rfl 8 (by decide) (hts _ tw_98) (fun _ h9 => h9) rfl (by decide +kernel) rfl rfl (Nat.le_of_ble_eq_true rfl) dH_reply_107 (fun H locs hP hD hS => ?_)
              rw [sX_6_8 hj7] at hP hD
              refine lv_aload_n hx hb dH_reply_110 rfl (lv_at hl 2 rfl) ?_
              refine lv_aload hx hb dH_reply_111 (lv_at hl 0 rfl) ?_
              refine lv_iconst (v := 2) hx hb dH_reply_113 (by decide) ?_
              refine lv_iconst (v := (-1)) hx hb dH_reply_114 (by decide) ?_
              have hFc := px_free hD hS hA
              refine va_callv (va_runV (As := [.ref (ad 6 j5), .int 2, .int (-1)]) (rest := []) ⟨hx, hb, hml, hown, hts⟩ (c_tell l D ca ad (uF 8 j5 (-1) s11) j5 hj7 2 (-1) _ _ hw) (cwV 3 hts (gV tw_455 tw_457 tp_11 tw_1 tw_458) rfl rfl rfl (by decide +kernel) ⟨Nat.le_of_ble_eq_true rfl, Nat.le_of_ble_eq_true rfl⟩) ⟨px_blind, (px_recv hK hP gX_0 rfl), fun U hU hW => px_pre hP hK hD hE hS hFc hU hW⟩ rfl rfl hl.1 rfl (lv_room (Nat.le_of_ble_eq_true rfl)) dH_reply_115 ⟨Nat.le_of_ble_eq_true rfl, Nat.le_of_ble_eq_true rfl⟩) hS (fun q _ h => hFc q h) hFc (fun s22 t H locs ht hvm hw hB _ _ hS => ?_)
              obtain ⟨hP, -, hD⟩ := hB
              rw [ht] at hP
              have hD := hD.weaken (fun _ _ _ h9 => hFc _ h9)
              refine W.widen (k := 1) (n := 6) (by decide) (by decide) ?_
              refine lv_goto (tgt := 130) hx hb dH_reply_118 (by decide) ?_
              refine lv_iconst (v := 1) hx hb dH_reply_130 (by decide) ?_
              refine W.widen (k := 2) (n := 12) (by decide) (by decide) ?_
              exact vx_ret (W.zret (ty := .boolean) (v := 1) hx hb hr (by decide) (fun t ht hW => ⟨⟨1, s22, rfl, hw, by rw [ht]; exact hP, va_K.moved hW.alike hK, hD⟩, hS.F ht⟩) hS.2.2 dH_reply_131)
            · have hw := hw.2 c21
              refine lv_tableOut (tgt := 121) hx hb dH_reply_54 (by first | exact px_out3 c15 c18 c21) (by decide) ?_
              refine lv_aload_n hx hb dH_reply_121 rfl (lv_at hl 2 rfl) ?_
              refine lv_aload hx hb dH_reply_122 (lv_at hl 0 rfl) ?_
              refine lv_bipush (v := 20) hx hb dH_reply_124 (by decide) ?_
              refine lv_iconst (v := 0) hx hb dH_reply_126 (by decide) ?_
              have hFc := px_free hD hS hA
              refine va_callv (va_runV (As := [.ref (ad 6 j5), .int 20, .int 0]) (rest := []) ⟨hx, hb, hml, hown, hts⟩ (c_makeAlarm l D ca ad s11 j5 hj7 20 0 _ _ hw) (cwV 3 hts (gV tw_468 tw_470 tp_12 tw_1 tw_471) rfl rfl rfl (by decide +kernel) ⟨Nat.le_of_ble_eq_true rfl, Nat.le_of_ble_eq_true rfl⟩) ⟨px_blind, (px_recv hK hP gX_0 rfl), fun U hU hW => px_pre hP hK hD hE hS hFc hU hW⟩ rfl rfl hl.1 rfl (lv_room (Nat.le_of_ble_eq_true rfl)) dH_reply_127 ⟨Nat.le_of_ble_eq_true rfl, Nat.le_of_ble_eq_true rfl⟩) hS (fun q _ h => hFc q h) hFc (fun s24 t H locs ht hvm hw hB _ _ hS => ?_)
              obtain ⟨hP, -, hD⟩ := hB
              rw [ht] at hP
              have hD := hD.weaken (fun _ _ _ h9 => hFc _ h9)
              refine W.widen (k := 1) (n := 6) (by decide) (by decide) ?_
              refine lv_iconst (v := 1) hx hb dH_reply_130 (by decide) ?_
              refine W.widen (k := 2) (n := 12) (by decide) (by decide) ?_
              exact vx_ret (W.zret (ty := .boolean) (v := 1) hx hb hr (by decide) (fun t ht hW => ⟨⟨1, s24, rfl, hw, by rw [ht]; exact hP, va_K.moved hW.alike hK, hD⟩, hS.F ht⟩) hS.2.2 dH_reply_131)
      · have hw := hw.2 c14
        refine lv_iconst (v := 0) hx hb dH_reply_51 (by decide) ?_
        refine W.widen (k := 2) (n := 12) (by decide) (by decide) ?_
        exact vx_ret (W.zret (ty := .boolean) (v := 0) hx hb hr (by decide) (fun t ht hW => ⟨⟨0, s11, rfl, hw, by rw [ht]; exact hP, va_K.moved hW.alike hK, hD⟩, hS.F ht⟩) hS.2.2 dH_reply_52)
  · have hw := hw.2 c10
    obtain ⟨sa9, hstr⟩ := hE.str 5 _ rfl
    exact vx_throwS (names := ["java/lang/RuntimeException", "java/lang/Exception"]) hx hb hl0 hown (by decide +kernel) (by decide +kernel) (hts _ tw_214) (hts _ tw_11) hstr (hE.hat53 hts) gd_53 hE.1 hE.2.1 hS (hl.1.trans hml.symm) dH_reply_24 dH_reply_27 dH_reply_28 dH_reply_30 dH_reply_33 (fun x9 h9 => (hexc x9 h9).elim) (by decide) (by decide) (by decide) (by decide) hlocks (fun t hv hz hk => ⟨(_, s8), hw, ⟨rfl, hP.kept (fun k9 q9 h9 => hk _ (va_at.lt (hP k9 q9 h9))), va_K.moved hv hK, hD⟩, va_S.F2 hS hz hk⟩) hS.2.2 (by decide) (by decide)
theorem dH_giveUp_0 : decode cH_giveUp 0 = .ok (.aload_n 0, 1) := by decide +kernel
theorem dH_giveUp_1 : decode cH_giveUp 1 = .ok (.iload_n 1, 1) := by decide +kernel
theorem dH_giveUp_2 : decode cH_giveUp 2 = .ok (.invokevirtual 65, 3) := by decide +kernel
theorem dH_giveUp_5 : decode cH_giveUp 5 = .ok (.astore_n 2, 1) := by decide +kernel
theorem dH_giveUp_6 : decode cH_giveUp 6 = .ok (.aload_n 2, 1) := by decide +kernel
theorem dH_giveUp_7 : decode cH_giveUp 7 = .ok (.invokevirtual 78, 3) := by decide +kernel
theorem dH_giveUp_10 : decode cH_giveUp 10 = .ok (.istore_n 3, 1) := by decide +kernel
theorem dH_giveUp_11 : decode cH_giveUp 11 = .ok (.aload_n 0, 1) := by decide +kernel
theorem dH_giveUp_12 : decode cH_giveUp 12 = .ok (.aload_n 2, 1) := by decide +kernel
theorem dH_giveUp_13 : decode cH_giveUp 13 = .ok (.invokevirtual 114, 3) := by decide +kernel
theorem dH_giveUp_16 : decode cH_giveUp 16 = .ok (.iload_n 3, 1) := by decide +kernel
theorem dH_giveUp_17 : decode cH_giveUp 17 = .ok (.ireturn, 1) := by decide +kernel
def wp_giveUp (post : Int32 → Sg → Prop) (px : String → Sg → Prop) (σ : Sg) (a0 : Int32) : Prop := wp_patronOf (fun r2 s1 => (∃ j3 : Nat, r2 = some j3 ∧ j3 < 8 ∧ wp_waits (fun r7 s6 => wp_abandon (fun s8 => (narrow .boolean (.int r7) = .int r7 ∧ post r7 s8)) s6 j3) s1 j3)) px σ a0
set_option maxHeartbeats 4000000 in
set_option maxRecDepth 100000 in
theorem c_giveUp (l : Launch) (D : va_G) (ca : Nat → ClassId) (ad : Nat → Nat → Nat) (σ : Sg) (a0 : Int32) (sz : Nat) (post : Int32 → Sg → Prop) (px : String → Sg → Prop) (hl0 : l.stackTraces = false) (hw : wp_giveUp post px σ a0) : vx_Met l yH_giveUp wsH_giveUp ({ frames := 9, cells := 1, slots := 6, locals := 141 }) (va_Pc [.ref (ad 0 0), .int a0] (preX D ca ad σ sz)) (va_Qi post (atX D ca ad (va_A (wX ca ad σ) sz)) (va_A (wX ca ad σ) sz)) (vx_X (fun u : String × Sg => px u.1 u.2) (atXx D ca ad (va_A (wX ca ad σ) sz)) (va_A (wX ca ad σ) sz)) 1 6 (va_A (wX ca ad σ) sz) := by
  refine vx_ofW (cc := cH_giveUp) (maxL := 4) (ret := (some .boolean)) (by decide) rfl ?_
  intro p e s m args below meth c s₁ B hml hexc hv
  obtain ⟨rfl, hsz, hP, hK, hD0, hE⟩ := hv
  have hx := B.exec
  have hb := B.bytes
  have hr := B.returns
  have hts : ∀ w ∈ tbG, w.before _ s = true := fun w h => atoms_spec (ws := wsH_giveUp) B.pre w (List.mem_cons_of_mem _ h)
  have hown : s.vm.findClass RH = some m.cls := findClass_of_methodNamed B.named
  have hlocks := B.notSynchronized
  subst hsz
  have hD := hD0.self (sz := s.heap.size)
  generalize hAe : va_A (wX ca ad σ) s.heap.size = A at hD hE ⊢
  have hA : ∀ q : Nat, s.heap.size ≤ q → A q := fun q h => by rw [← hAe]; exact Or.inr h
  clear hAe
  have hS : va_S A s.heap s.heap [] := va_S.rf
  have hl := lv_entry ([.ref (ad 0 0), .int a0]) (n := 4) (Nat.le_of_ble_eq_true rfl)
  rw [lg_entry_eq]
  generalize (lg_sl ([.ref (ad 0 0), .int a0]) ++ List.replicate (4 - (lg_sl ([.ref (ad 0 0), .int a0])).length) Slot.unset).toArray = ls at hl ⊢
  have hl : lv_has ls 4 [(0, .ref (ad 0 0)), (1, .int a0)] := hl
  unfold wp_giveUp at hw
  have hP : va_P D clX (wX ca ad σ) s.heap := hP
  refine lv_aload_n hx hb dH_giveUp_0 rfl (lv_at hl 0 rfl) ?_
  refine lv_iload_n hx hb dH_giveUp_1 rfl (lv_at hl 1 rfl) ?_
  have hFc := px_free hD hS hA
  refine vx_calle (vx_runV (As := [.int a0]) (rest := []) ⟨hx, hb, hml, hown, hts⟩ (c_patronOf l D ca ad σ a0 _ _ _ hl0 hw) (cwV 1 hts (gV tw_309 tw_311 tp_3 tw_1 tw_312) rfl rfl rfl (by decide +kernel) ⟨Nat.le_of_ble_eq_true rfl, Nat.le_of_ble_eq_true rfl⟩) ⟨px_blind, (px_recv hK hP gX_0 rfl), fun U hU hW => px_pre hP hK hD hE hS hFc hU hW⟩ rfl rfl hl.1 rfl (lv_room (Nat.le_of_ble_eq_true rfl)) dH_giveUp_2 ⟨Nat.le_of_ble_eq_true rfl, Nat.le_of_ble_eq_true rfl⟩) hS (fun q _ h => hFc q h) hFc (fun q _ h => hFc q h) (fun E9 ce9 q9 u9 t9 H locs ht hvm hw hB _ _ hS hce hcv hcl => ?_) (fun r2 s1 t H locs ht hvm hw hB _ _ hS => ?_)
  · obtain ⟨rfl, hP, -, hD⟩ := hB
    rw [ht] at hP
    exact vx_out (fun x9 h9 => (hexc x9 h9).elim) hlocks hce hcv hcl (fun t8 h8 hv8 => ⟨u9, hw, ⟨rfl, by rw [h8]; exact hP, va_K.moved hv8 hK, hD.weaken (fun _ _ _ h7 => hFc _ h7)⟩, hS.F h8⟩) hS.2.2 (by decide) (by decide)
  obtain ⟨hP, -, hD⟩ := hB
  rw [ht] at hP
  have hD := hD.weaken (fun _ _ _ h9 => hFc _ h9)
  refine W.widen (k := 1) (n := 6) (by decide) (by decide) ?_
  obtain ⟨j3, e4, hj5, hw⟩ := hw
  subst e4
  refine lv_astore_n (lv' := [(2, .ref (ad 6 j3)), (0, .ref (ad 0 0)), (1, .int a0)]) hx hb dH_giveUp_5 rfl hl (by decide) rfl (fun ls hl => ?_)
  refine lv_aload_n hx hb dH_giveUp_6 rfl (lv_at hl 0 rfl) ?_
  have hFc := px_free hD hS hA
  refine va_calli (va_runV (As := []) (rest := []) ⟨hx, hb, hml, hown, hts⟩ (c_waits l D ca ad s1 j3 hj5 _ _ hw) (cwV 0 hts (gV tw_198 tw_199 tw_200 tw_6 tw_201) rfl rfl rfl (by decide +kernel) ⟨Nat.le_of_ble_eq_true rfl, Nat.le_of_ble_eq_true rfl⟩) ⟨px_blind, (px_recv hK hP (gX_6 hj5) rfl), fun U hU hW => px_pre hP hK hD hE hS hFc hU hW⟩ rfl rfl hl.1 rfl (lv_room (Nat.le_of_ble_eq_true rfl)) dH_giveUp_7 ⟨Nat.le_of_ble_eq_true rfl, Nat.le_of_ble_eq_true rfl⟩) hS (fun q _ h => hFc q h) hFc (fun r7 s6 t H locs ht hvm hw hB _ _ hS => ?_)
  obtain ⟨hP, -, hD⟩ := hB
  rw [ht] at hP
  have hD := hD.weaken (fun _ _ _ h9 => hFc _ h9)
  refine W.widen (k := 1) (n := 6) (by decide) (by decide) ?_
  refine lv_istore_n (lv' := [(3, .int r7), (2, .ref (ad 6 j3)), (0, .ref (ad 0 0)), (1, .int a0)]) hx hb dH_giveUp_10 rfl hl (by decide) rfl (fun ls hl => ?_)
  refine lv_aload_n hx hb dH_giveUp_11 rfl (lv_at hl 2 rfl) ?_
  refine lv_aload_n hx hb dH_giveUp_12 rfl (lv_at hl 1 rfl) ?_
  have hFc := px_free hD hS hA
  refine va_callv (va_runV (As := [.ref (ad 6 j3)]) (rest := []) ⟨hx, hb, hml, hown, hts⟩ (c_abandon l D ca ad s6 j3 hj5 _ _ hw) (cwV 1 hts (gV tw_451 tw_453 tp_10 tw_1 tw_454) rfl rfl rfl (by decide +kernel) ⟨Nat.le_of_ble_eq_true rfl, Nat.le_of_ble_eq_true rfl⟩) ⟨px_blind, (px_recv hK hP gX_0 rfl), fun U hU hW => px_pre hP hK hD hE hS hFc hU hW⟩ rfl rfl hl.1 rfl (lv_room (Nat.le_of_ble_eq_true rfl)) dH_giveUp_13 ⟨Nat.le_of_ble_eq_true rfl, Nat.le_of_ble_eq_true rfl⟩) hS (fun q _ h => hFc q h) hFc (fun s8 t H locs ht hvm hw hB _ _ hS => ?_)
  obtain ⟨hP, -, hD⟩ := hB
  rw [ht] at hP
  have hD := hD.weaken (fun _ _ _ h9 => hFc _ h9)
  refine W.widen (k := 1) (n := 6) (by decide) (by decide) ?_
  refine lv_iload_n hx hb dH_giveUp_16 rfl (lv_at hl 0 rfl) ?_
  obtain ⟨hz, hw⟩ := hw
  refine W.widen (k := 1) (n := 6) (by decide) (by decide) ?_
  exact vx_ret (W.zret (ty := .boolean) (v := r7) hx hb hr hz (fun t ht hW => ⟨⟨r7, s8, rfl, hw, by rw [ht]; exact hP, va_K.moved hW.alike hK, hD⟩, hS.F ht⟩) hS.2.2 dH_giveUp_17)
theorem dH_client_0 : decode cH_client 0 = .ok (.aload_n 0, 1) := by decide +kernel
theorem dH_client_1 : decode cH_client 1 = .ok (.iload_n 1, 1) := by decide +kernel
theorem dH_client_2 : decode cH_client 2 = .ok (.invokevirtual 65, 3) := by decide +kernel
theorem dH_client_5 : decode cH_client 5 = .ok (.astore_n 3, 1) := by decide +kernel
theorem dH_client_6 : decode cH_client 6 = .ok (.iload_n 2, 1) := by decide +kernel
theorem dH_client_7 : decode cH_client 7 = .ok (.tableswitch 103 0 8 #[49, 57, 62, 67, 72, 77, 82, 87, 95], 49) := by decide +kernel
theorem dH_client_56 : decode cH_client 56 = .ok (.aload_n 3, 1) := by decide +kernel
theorem dH_client_57 : decode cH_client 57 = .ok (.invokevirtual 78, 3) := by decide +kernel
theorem dH_client_60 : decode cH_client 60 = .ok (.invokestatic 152, 3) := by decide +kernel
theorem dH_client_63 : decode cH_client 63 = .ok (.ireturn, 1) := by decide +kernel
theorem dH_client_64 : decode cH_client 64 = .ok (.aload_n 3, 1) := by decide +kernel
theorem dH_client_65 : decode cH_client 65 = .ok (.getfield 156, 3) := by decide +kernel
theorem dH_client_68 : decode cH_client 68 = .ok (.ireturn, 1) := by decide +kernel
theorem dH_client_69 : decode cH_client 69 = .ok (.aload_n 3, 1) := by decide +kernel
theorem dH_client_70 : decode cH_client 70 = .ok (.getfield 104, 3) := by decide +kernel
theorem dH_client_73 : decode cH_client 73 = .ok (.ireturn, 1) := by decide +kernel
theorem dH_client_74 : decode cH_client 74 = .ok (.aload_n 3, 1) := by decide +kernel
theorem dH_client_75 : decode cH_client 75 = .ok (.getfield 159, 3) := by decide +kernel
theorem dH_client_78 : decode cH_client 78 = .ok (.ireturn, 1) := by decide +kernel
theorem dH_client_79 : decode cH_client 79 = .ok (.aload_n 3, 1) := by decide +kernel
theorem dH_client_80 : decode cH_client 80 = .ok (.getfield 123, 3) := by decide +kernel
theorem dH_client_83 : decode cH_client 83 = .ok (.ireturn, 1) := by decide +kernel
theorem dH_client_84 : decode cH_client 84 = .ok (.aload_n 3, 1) := by decide +kernel
theorem dH_client_85 : decode cH_client 85 = .ok (.getfield 162, 3) := by decide +kernel
theorem dH_client_88 : decode cH_client 88 = .ok (.ireturn, 1) := by decide +kernel
theorem dH_client_89 : decode cH_client 89 = .ok (.aload_n 3, 1) := by decide +kernel
theorem dH_client_90 : decode cH_client 90 = .ok (.getfield 146, 3) := by decide +kernel
theorem dH_client_93 : decode cH_client 93 = .ok (.ireturn, 1) := by decide +kernel
theorem dH_client_94 : decode cH_client 94 = .ok (.aload_n 3, 1) := by decide +kernel
theorem dH_client_95 : decode cH_client 95 = .ok (.getfield 165, 3) := by decide +kernel
theorem dH_client_98 : decode cH_client 98 = .ok (.invokestatic 152, 3) := by decide +kernel
theorem dH_client_101 : decode cH_client 101 = .ok (.ireturn, 1) := by decide +kernel
theorem dH_client_102 : decode cH_client 102 = .ok (.aload_n 3, 1) := by decide +kernel
theorem dH_client_103 : decode cH_client 103 = .ok (.getfield 169, 3) := by decide +kernel
theorem dH_client_106 : decode cH_client 106 = .ok (.invokestatic 152, 3) := by decide +kernel
theorem dH_client_109 : decode cH_client 109 = .ok (.ireturn, 1) := by decide +kernel
theorem dH_client_110 : decode cH_client 110 = .ok (.new 172, 3) := by decide +kernel
theorem dH_client_113 : decode cH_client 113 = .ok (.dup, 1) := by decide +kernel
theorem dH_client_114 : decode cH_client 114 = .ok (.ldc 174, 2) := by decide +kernel
theorem dH_client_116 : decode cH_client 116 = .ok (.invokespecial 176, 3) := by decide +kernel
theorem dH_client_119 : decode cH_client 119 = .ok (.athrow, 1) := by decide +kernel
def wp_client (post : Int32 → Sg → Prop) (px : String → Sg → Prop) (σ : Sg) (a0 : Int32) (a1 : Int32) : Prop := wp_patronOf (fun r2 s1 => (∃ j3 : Nat, r2 = some j3 ∧ j3 < 8 ∧ ((a1 = 0 → wp_waits (fun r8 s7 => wp_asInt (fun r10 s9 => post r10 s9) s7 r8) s1 j3) ∧ (¬ (a1 = 0) → ((a1 = 1 → post (sF s1 7 j3) s1) ∧ (¬ (a1 = 1) → ((a1 = 2 → post (sF s1 8 j3) s1) ∧ (¬ (a1 = 2) → ((a1 = 3 → post (sF s1 9 j3) s1) ∧ (¬ (a1 = 3) → ((a1 = 4 → post (sF s1 10 j3) s1) ∧ (¬ (a1 = 4) → ((a1 = 5 → post (sF s1 11 j3) s1) ∧ (¬ (a1 = 5) → ((a1 = 6 → post (sF s1 13 j3) s1) ∧ (¬ (a1 = 6) → ((a1 = 7 → wp_asInt (fun r19 s18 => post r19 s18) s1 (sF s1 15 j3)) ∧ (¬ (a1 = 7) → ((a1 = 8 → wp_asInt (fun r22 s21 => post r22 s21) s1 (sF s1 12 j3)) ∧ (¬ (a1 = 8) → px "java/lang/IndexOutOfBoundsException" s1)))))))))))))))))))) px σ a0
set_option maxHeartbeats 4000000 in
set_option maxRecDepth 100000 in
theorem c_client (l : Launch) (D : va_G) (ca : Nat → ClassId) (ad : Nat → Nat → Nat) (σ : Sg) (a0 : Int32) (a1 : Int32) (sz : Nat) (post : Int32 → Sg → Prop) (px : String → Sg → Prop) (hl0 : l.stackTraces = false) (hw : wp_client post px σ a0 a1) : vx_Met l yH_client wsH_client ({ frames := 9, cells := 2, slots := 12, locals := 141 }) (va_Pc [.ref (ad 0 0), .int a0, .int a1] (preX D ca ad σ sz)) (va_Qi post (atX D ca ad (va_A (wX ca ad σ) sz)) (va_A (wX ca ad σ) sz)) (vx_X (fun u : String × Sg => px u.1 u.2) (atXx D ca ad (va_A (wX ca ad σ) sz)) (va_A (wX ca ad σ) sz)) 2 12 (va_A (wX ca ad σ) sz) := by
  refine vx_ofW (cc := cH_client) (maxL := 4) (ret := (some .int)) (by decide) rfl ?_
  intro p e s m args below meth c s₁ B hml hexc hv
  obtain ⟨rfl, hsz, hP, hK, hD0, hE⟩ := hv
  have hx := B.exec
  have hb := B.bytes
  have hr := B.returns
  have hts : ∀ w ∈ tbG, w.before _ s = true := fun w h => atoms_spec (ws := wsH_client) B.pre w (List.mem_cons_of_mem _ h)
  have hown : s.vm.findClass RH = some m.cls := findClass_of_methodNamed B.named
  have hlocks := B.notSynchronized
  subst hsz
  have hD := hD0.self (sz := s.heap.size)
  generalize hAe : va_A (wX ca ad σ) s.heap.size = A at hD hE ⊢
  have hA : ∀ q : Nat, s.heap.size ≤ q → A q := fun q h => by rw [← hAe]; exact Or.inr h
  clear hAe
  have hS : va_S A s.heap s.heap [] := va_S.rf
  have hl := lv_entry ([.ref (ad 0 0), .int a0, .int a1]) (n := 4) (Nat.le_of_ble_eq_true rfl)
  rw [lg_entry_eq]
  generalize (lg_sl ([.ref (ad 0 0), .int a0, .int a1]) ++ List.replicate (4 - (lg_sl ([.ref (ad 0 0), .int a0, .int a1])).length) Slot.unset).toArray = ls at hl ⊢
  have hl : lv_has ls 4 [(0, .ref (ad 0 0)), (1, .int a0), (2, .int a1)] := hl
  unfold wp_client at hw
  have hP : va_P D clX (wX ca ad σ) s.heap := hP
  refine lv_aload_n hx hb dH_client_0 rfl (lv_at hl 0 rfl) ?_
  refine lv_iload_n hx hb dH_client_1 rfl (lv_at hl 1 rfl) ?_
  have hFc := px_free hD hS hA
  refine vx_calle (vx_runV (As := [.int a0]) (rest := []) ⟨hx, hb, hml, hown, hts⟩ (c_patronOf l D ca ad σ a0 _ _ _ hl0 hw) (cwV 1 hts (gV tw_309 tw_311 tp_3 tw_1 tw_312) rfl rfl rfl (by decide +kernel) ⟨Nat.le_of_ble_eq_true rfl, Nat.le_of_ble_eq_true rfl⟩) ⟨px_blind, (px_recv hK hP gX_0 rfl), fun U hU hW => px_pre hP hK hD hE hS hFc hU hW⟩ rfl rfl hl.1 rfl (lv_room (Nat.le_of_ble_eq_true rfl)) dH_client_2 ⟨Nat.le_of_ble_eq_true rfl, Nat.le_of_ble_eq_true rfl⟩) hS (fun q _ h => hFc q h) hFc (fun q _ h => hFc q h) (fun E9 ce9 q9 u9 t9 H locs ht hvm hw hB _ _ hS hce hcv hcl => ?_) (fun r2 s1 t H locs ht hvm hw hB _ _ hS => ?_)
  · obtain ⟨rfl, hP, -, hD⟩ := hB
    rw [ht] at hP
    exact vx_out (fun x9 h9 => (hexc x9 h9).elim) hlocks hce hcv hcl (fun t8 h8 hv8 => ⟨u9, hw, ⟨rfl, by rw [h8]; exact hP, va_K.moved hv8 hK, hD.weaken (fun _ _ _ h7 => hFc _ h7)⟩, hS.F h8⟩) hS.2.2 (by decide) (by decide)
  obtain ⟨hP, -, hD⟩ := hB
  rw [ht] at hP
  have hD := hD.weaken (fun _ _ _ h9 => hFc _ h9)
  refine W.widen (k := 1) (n := 6) (by decide) (by decide) ?_
  obtain ⟨j3, e4, hj5, hw⟩ := hw
  subst e4
  refine lv_astore_n (lv' := [(3, .ref (ad 6 j3)), (0, .ref (ad 0 0)), (1, .int a0), (2, .int a1)]) hx hb dH_client_5 rfl hl (by decide) rfl (fun ls hl => ?_)
  refine lv_iload_n hx hb dH_client_6 rfl (lv_at hl 3 rfl) ?_
  by_cases c6 : a1 = 0
  · have hw := hw.1 c6
    refine lv_tableIn (tgt := 56) hx hb dH_client_7 (by rw [c6]; decide) (by rw [c6]; decide) (by rw [c6]; rfl) (by decide) ?_
    refine lv_aload_n hx hb dH_client_56 rfl (lv_at hl 0 rfl) ?_
    have hFc := px_free hD hS hA
    refine va_calli (va_runV (As := []) (rest := []) ⟨hx, hb, hml, hown, hts⟩ (c_waits l D ca ad s1 j3 hj5 _ _ hw) (cwV 0 hts (gV tw_198 tw_199 tw_200 tw_6 tw_201) rfl rfl rfl (by decide +kernel) ⟨Nat.le_of_ble_eq_true rfl, Nat.le_of_ble_eq_true rfl⟩) ⟨px_blind, (px_recv hK hP (gX_6 hj5) rfl), fun U hU hW => px_pre hP hK hD hE hS hFc hU hW⟩ rfl rfl hl.1 rfl (lv_room (Nat.le_of_ble_eq_true rfl)) dH_client_57 ⟨Nat.le_of_ble_eq_true rfl, Nat.le_of_ble_eq_true rfl⟩) hS (fun q _ h => hFc q h) hFc (fun r8 s7 t H locs ht hvm hw hB _ _ hS => ?_)
    obtain ⟨hP, -, hD⟩ := hB
    rw [ht] at hP
    have hD := hD.weaken (fun _ _ _ h9 => hFc _ h9)
    refine W.widen (k := 1) (n := 6) (by decide) (by decide) ?_
    have hFc := px_free hD hS hA
    refine va_calli (va_runS (As := [.int r8]) (rest := []) ⟨hx, hb, hml, hown, hts⟩ (c_asInt l D ca ad s7 r8 _ _ hw) (va_cwS 1 hts (gS tw_202 tw_203 tw_1 tw_204) rfl rfl rfl (by decide +kernel) ⟨Nat.le_of_ble_eq_true rfl, Nat.le_of_ble_eq_true rfl⟩) ⟨px_blind, fun U hU hW => px_pre hP hK hD hE hS hFc hU hW⟩ rfl rfl hl.1 rfl (lv_room (Nat.le_of_ble_eq_true rfl)) dH_client_60 ⟨Nat.le_of_ble_eq_true rfl, Nat.le_of_ble_eq_true rfl⟩) hS (fun q _ h => hFc q h) hFc (fun r10 s9 t H locs ht hvm hw hB _ _ hS => ?_)
    obtain ⟨hP, -, hD⟩ := hB
    rw [ht] at hP
    have hD := hD.weaken (fun _ _ _ h9 => hFc _ h9)
    refine W.widen (k := 1) (n := 6) (by decide) (by decide) ?_
    refine W.widen (k := 2) (n := 12) (by decide) (by decide) ?_
    exact vx_ret (W.iret (v := r10) hx hb hr (fun t ht hW => ⟨⟨r10, s9, rfl, hw, by rw [ht]; exact hP, va_K.moved hW.alike hK, hD⟩, hS.F ht⟩) hS.2.2 dH_client_63)
  · have hw := hw.2 c6
    by_cases c11 : a1 = 1
    · have hw := hw.1 c11
      refine lv_tableIn (tgt := 64) hx hb dH_client_7 (by rw [c11]; decide) (by rw [c11]; decide) (by rw [c11]; rfl) (by decide) ?_
      refine lv_aload_n hx hb dH_client_64 rfl (lv_at hl 0 rfl) ?_
      refine va_get (D := D) (ci := 1) (v := .int (sF s1 7 j3)) (C := RP) (T := TP) (N := 16) hx hb hts inP hown hK hP (6 + j3) (gX_6 hj5) rfl 7 (by decide) (hts _ tw_95) (fun _ h9 => h9) rfl dH_client_65 ?_
      refine W.widen (k := 2) (n := 12) (by decide) (by decide) ?_
      exact vx_ret (W.iret (v := (sF s1 7 j3)) hx hb hr (fun t ht hW => ⟨⟨(sF s1 7 j3), s1, rfl, hw, by rw [ht]; exact hP, va_K.moved hW.alike hK, hD⟩, hS.F ht⟩) hS.2.2 dH_client_68)
    · have hw := hw.2 c11
      by_cases c12 : a1 = 2
      · have hw := hw.1 c12
        refine lv_tableIn (tgt := 69) hx hb dH_client_7 (by rw [c12]; decide) (by rw [c12]; decide) (by rw [c12]; rfl) (by decide) ?_
        refine lv_aload_n hx hb dH_client_69 rfl (lv_at hl 0 rfl) ?_
        refine va_get (D := D) (ci := 1) (v := .int (sF s1 8 j3)) (C := RP) (T := TP) (N := 16) hx hb hts inP hown hK hP (6 + j3) (gX_6 hj5) rfl 8 (by decide) (hts _ tw_98) (fun _ h9 => h9) rfl dH_client_70 ?_
        refine W.widen (k := 2) (n := 12) (by decide) (by decide) ?_
        exact vx_ret (W.iret (v := (sF s1 8 j3)) hx hb hr (fun t ht hW => ⟨⟨(sF s1 8 j3), s1, rfl, hw, by rw [ht]; exact hP, va_K.moved hW.alike hK, hD⟩, hS.F ht⟩) hS.2.2 dH_client_73)
      · have hw := hw.2 c12
        by_cases c13 : a1 = 3
        · have hw := hw.1 c13
          refine lv_tableIn (tgt := 74) hx hb dH_client_7 (by rw [c13]; decide) (by rw [c13]; decide) (by rw [c13]; rfl) (by decide) ?_
          refine lv_aload_n hx hb dH_client_74 rfl (lv_at hl 0 rfl) ?_
          refine va_get (D := D) (ci := 1) (v := .int (sF s1 9 j3)) (C := RP) (T := TP) (N := 16) hx hb hts inP hown hK hP (6 + j3) (gX_6 hj5) rfl 9 (by decide) (hts _ tw_101) (fun _ h9 => h9) rfl dH_client_75 ?_
          refine W.widen (k := 2) (n := 12) (by decide) (by decide) ?_
          exact vx_ret (W.iret (v := (sF s1 9 j3)) hx hb hr (fun t ht hW => ⟨⟨(sF s1 9 j3), s1, rfl, hw, by rw [ht]; exact hP, va_K.moved hW.alike hK, hD⟩, hS.F ht⟩) hS.2.2 dH_client_78)
        · have hw := hw.2 c13
          by_cases c14 : a1 = 4
          · have hw := hw.1 c14
            refine lv_tableIn (tgt := 79) hx hb dH_client_7 (by rw [c14]; decide) (by rw [c14]; decide) (by rw [c14]; rfl) (by decide) ?_
            refine lv_aload_n hx hb dH_client_79 rfl (lv_at hl 0 rfl) ?_
            refine va_get (D := D) (ci := 1) (v := .int (sF s1 10 j3)) (C := RP) (T := TP) (N := 16) hx hb hts inP hown hK hP (6 + j3) (gX_6 hj5) rfl 10 (by decide) (hts _ tw_104) (fun _ h9 => h9) rfl dH_client_80 ?_
            refine W.widen (k := 2) (n := 12) (by decide) (by decide) ?_
            exact vx_ret (W.iret (v := (sF s1 10 j3)) hx hb hr (fun t ht hW => ⟨⟨(sF s1 10 j3), s1, rfl, hw, by rw [ht]; exact hP, va_K.moved hW.alike hK, hD⟩, hS.F ht⟩) hS.2.2 dH_client_83)
          · have hw := hw.2 c14
            by_cases c15 : a1 = 5
            · have hw := hw.1 c15
              refine lv_tableIn (tgt := 84) hx hb dH_client_7 (by rw [c15]; decide) (by rw [c15]; decide) (by rw [c15]; rfl) (by decide) ?_
              refine lv_aload_n hx hb dH_client_84 rfl (lv_at hl 0 rfl) ?_
              refine va_get (D := D) (ci := 1) (v := .int (sF s1 11 j3)) (C := RP) (T := TP) (N := 16) hx hb hts inP hown hK hP (6 + j3) (gX_6 hj5) rfl 11 (by decide) (hts _ tw_106) (fun _ h9 => h9) rfl dH_client_85 ?_
              refine W.widen (k := 2) (n := 12) (by decide) (by decide) ?_
              exact vx_ret (W.iret (v := (sF s1 11 j3)) hx hb hr (fun t ht hW => ⟨⟨(sF s1 11 j3), s1, rfl, hw, by rw [ht]; exact hP, va_K.moved hW.alike hK, hD⟩, hS.F ht⟩) hS.2.2 dH_client_88)
            · have hw := hw.2 c15
              by_cases c16 : a1 = 6
              · have hw := hw.1 c16
                refine lv_tableIn (tgt := 89) hx hb dH_client_7 (by rw [c16]; decide) (by rw [c16]; decide) (by rw [c16]; rfl) (by decide) ?_
                refine lv_aload_n hx hb dH_client_89 rfl (lv_at hl 0 rfl) ?_
                refine va_get (D := D) (ci := 1) (v := .int (sF s1 13 j3)) (C := RP) (T := TP) (N := 16) hx hb hts inP hown hK hP (6 + j3) (gX_6 hj5) rfl 13 (by decide) (hts _ tw_111) (fun _ h9 => h9) rfl dH_client_90 ?_
                refine W.widen (k := 2) (n := 12) (by decide) (by decide) ?_
                exact vx_ret (W.iret (v := (sF s1 13 j3)) hx hb hr (fun t ht hW => ⟨⟨(sF s1 13 j3), s1, rfl, hw, by rw [ht]; exact hP, va_K.moved hW.alike hK, hD⟩, hS.F ht⟩) hS.2.2 dH_client_93)
              · have hw := hw.2 c16
                by_cases c17 : a1 = 7
                · have hw := hw.1 c17
                  refine lv_tableIn (tgt := 94) hx hb dH_client_7 (by rw [c17]; decide) (by rw [c17]; decide) (by rw [c17]; rfl) (by decide) ?_
                  refine lv_aload_n hx hb dH_client_94 rfl (lv_at hl 0 rfl) ?_
                  refine va_get (D := D) (ci := 1) (v := .int (sF s1 15 j3)) (C := RP) (T := TP) (N := 16) hx hb hts inP hown hK hP (6 + j3) (gX_6 hj5) rfl 15 (by decide) (hts _ tw_115) (fun _ h9 => h9) rfl dH_client_95 ?_
                  have hFc := px_free hD hS hA
                  refine va_calli (va_runS (As := [.int (sF s1 15 j3)]) (rest := []) ⟨hx, hb, hml, hown, hts⟩ (c_asInt l D ca ad s1 (sF s1 15 j3) _ _ hw) (va_cwS 1 hts (gS tw_202 tw_203 tw_1 tw_204) rfl rfl rfl (by decide +kernel) ⟨Nat.le_of_ble_eq_true rfl, Nat.le_of_ble_eq_true rfl⟩) ⟨px_blind, fun U hU hW => px_pre hP hK hD hE hS hFc hU hW⟩ rfl rfl hl.1 rfl (lv_room (Nat.le_of_ble_eq_true rfl)) dH_client_98 ⟨Nat.le_of_ble_eq_true rfl, Nat.le_of_ble_eq_true rfl⟩) hS (fun q _ h => hFc q h) hFc (fun r19 s18 t H locs ht hvm hw hB _ _ hS => ?_)
                  obtain ⟨hP, -, hD⟩ := hB
                  rw [ht] at hP
                  have hD := hD.weaken (fun _ _ _ h9 => hFc _ h9)
                  refine W.widen (k := 1) (n := 6) (by decide) (by decide) ?_
                  refine W.widen (k := 2) (n := 12) (by decide) (by decide) ?_
                  exact vx_ret (W.iret (v := r19) hx hb hr (fun t ht hW => ⟨⟨r19, s18, rfl, hw, by rw [ht]; exact hP, va_K.moved hW.alike hK, hD⟩, hS.F ht⟩) hS.2.2 dH_client_101)
                · have hw := hw.2 c17
                  by_cases c20 : a1 = 8
                  · have hw := hw.1 c20
                    refine lv_tableIn (tgt := 102) hx hb dH_client_7 (by rw [c20]; decide) (by rw [c20]; decide) (by rw [c20]; rfl) (by decide) ?_
                    refine lv_aload_n hx hb dH_client_102 rfl (lv_at hl 0 rfl) ?_
                    refine va_get (D := D) (ci := 1) (v := .int (sF s1 12 j3)) (C := RP) (T := TP) (N := 16) hx hb hts inP hown hK hP (6 + j3) (gX_6 hj5) rfl 12 (by decide) (hts _ tw_109) (fun _ h9 => h9) rfl dH_client_103 ?_
                    have hFc := px_free hD hS hA
                    refine va_calli (va_runS (As := [.int (sF s1 12 j3)]) (rest := []) ⟨hx, hb, hml, hown, hts⟩ (c_asInt l D ca ad s1 (sF s1 12 j3) _ _ hw) (va_cwS 1 hts (gS tw_202 tw_203 tw_1 tw_204) rfl rfl rfl (by decide +kernel) ⟨Nat.le_of_ble_eq_true rfl, Nat.le_of_ble_eq_true rfl⟩) ⟨px_blind, fun U hU hW => px_pre hP hK hD hE hS hFc hU hW⟩ rfl rfl hl.1 rfl (lv_room (Nat.le_of_ble_eq_true rfl)) dH_client_106 ⟨Nat.le_of_ble_eq_true rfl, Nat.le_of_ble_eq_true rfl⟩) hS (fun q _ h => hFc q h) hFc (fun r22 s21 t H locs ht hvm hw hB _ _ hS => ?_)
                    obtain ⟨hP, -, hD⟩ := hB
                    rw [ht] at hP
                    have hD := hD.weaken (fun _ _ _ h9 => hFc _ h9)
                    refine W.widen (k := 1) (n := 6) (by decide) (by decide) ?_
                    refine W.widen (k := 2) (n := 12) (by decide) (by decide) ?_
                    exact vx_ret (W.iret (v := r22) hx hb hr (fun t ht hW => ⟨⟨r22, s21, rfl, hw, by rw [ht]; exact hP, va_K.moved hW.alike hK, hD⟩, hS.F ht⟩) hS.2.2 dH_client_109)
                  · have hw := hw.2 c20
                    refine lv_tableOut (tgt := 110) hx hb dH_client_7 (by first | exact px_out9 c6 c11 c12 c13 c14 c15 c16 c17 c20) (by decide) ?_
                    obtain ⟨sa9, hstr⟩ := hE.str 7 _ rfl
                    exact vx_throwS (names := ["java/lang/RuntimeException", "java/lang/Exception"]) hx hb hl0 hown (by decide +kernel) (by decide +kernel) (hts _ tw_313) (hts _ tw_13) hstr (hE.hat176 hts) gd_176 hE.1 hE.2.1 hS (hl.1.trans hml.symm) dH_client_110 dH_client_113 dH_client_114 dH_client_116 dH_client_119 (fun x9 h9 => (hexc x9 h9).elim) (by decide) (by decide) (by decide) (by decide) hlocks (fun t hv hz hk => ⟨(_, s1), hw, ⟨rfl, hP.kept (fun k9 q9 h9 => hk _ (va_at.lt (hP k9 q9 h9))), va_K.moved hv hK, hD⟩, va_S.F2 hS hz hk⟩) hS.2.2 (by decide) (by decide)
theorem dH_request_0 : decode cH_request 0 = .ok (.aload_n 0, 1) := by decide +kernel
theorem dH_request_1 : decode cH_request 1 = .ok (.getfield 25, 3) := by decide +kernel
theorem dH_request_4 : decode cH_request 4 = .ok (.iload_n 1, 1) := by decide +kernel
theorem dH_request_5 : decode cH_request 5 = .ok (.iload_n 2, 1) := by decide +kernel
theorem dH_request_6 : decode cH_request 6 = .ok (.invokevirtual 177, 3) := by decide +kernel
theorem dH_request_9 : decode cH_request 9 = .ok (.ireturn, 1) := by decide +kernel
def wp_request (post : Int32 → Sg → Prop) (σ : Sg) (a0 : Int32) (a1 : Int32) : Prop := wp_cell (fun r2 s1 => post r2 s1) σ a0 a1
set_option maxHeartbeats 4000000 in
set_option maxRecDepth 100000 in
theorem c_request (l : Launch) (D : va_G) (ca : Nat → ClassId) (ad : Nat → Nat → Nat) (σ : Sg) (a0 : Int32) (a1 : Int32) (sz : Nat) (post : Int32 → Sg → Prop) (hw : wp_request post σ a0 a1) : Met l yH_request wsH_request ({ frames := 2, cells := 0, slots := 0, locals := 42 }) (va_Pc [.ref (ad 0 0), .int a0, .int a1] (preX D ca ad σ sz)) (va_Qi post (atX D ca ad (va_A (wX ca ad σ) sz)) (va_A (wX ca ad σ) sz)) 0 0 (va_A (wX ca ad σ) sz) := by
  refine Met.ofW (cc := cH_request) (maxL := 3) (ret := (some .int)) (by decide) rfl ?_
  intro p e s m args below meth c s₁ B hml hv
  obtain ⟨rfl, hsz, hP, hK, hD0, hE⟩ := hv
  have hx := B.exec
  have hb := B.bytes
  have hr := B.returns
  have hts : ∀ w ∈ tbG, w.before _ s = true := fun w h => atoms_spec (ws := wsH_request) B.pre w (List.mem_cons_of_mem _ h)
  have hown : s.vm.findClass RH = some m.cls := findClass_of_methodNamed B.named
  have hlocks := B.notSynchronized
  subst hsz
  have hD := hD0.self (sz := s.heap.size)
  generalize hAe : va_A (wX ca ad σ) s.heap.size = A at hD hE ⊢
  have hA : ∀ q : Nat, s.heap.size ≤ q → A q := fun q h => by rw [← hAe]; exact Or.inr h
  clear hAe
  have hS : va_S A s.heap s.heap [] := va_S.rf
  have hl := lv_entry ([.ref (ad 0 0), .int a0, .int a1]) (n := 3) (Nat.le_of_ble_eq_true rfl)
  rw [lg_entry_eq]
  generalize (lg_sl ([.ref (ad 0 0), .int a0, .int a1]) ++ List.replicate (3 - (lg_sl ([.ref (ad 0 0), .int a0, .int a1])).length) Slot.unset).toArray = ls at hl ⊢
  have hl : lv_has ls 3 [(0, .ref (ad 0 0)), (1, .int a0), (2, .int a1)] := hl
  unfold wp_request at hw
  have hP : va_P D clX (wX ca ad σ) s.heap := hP
  refine lv_aload_n hx hb dH_request_0 rfl (lv_at hl 0 rfl) ?_
  refine va_get (D := D) (ci := 0) (v := .ref (ad 3 0)) (C := RH) (T := TH) (N := 8) hx hb hts inH hown hK hP 0 gX_0 rfl 2 (by decide) (hts _ tw_152) (fun _ h9 => h9) rfl dH_request_1 ?_
  refine lv_iload_n hx hb dH_request_4 rfl (lv_at hl 1 rfl) ?_
  refine lv_iload_n hx hb dH_request_5 rfl (lv_at hl 2 rfl) ?_
  have hFc := px_free hD hS hA
  refine va_calli (va_runV (As := [.int a0, .int a1]) (rest := []) ⟨hx, hb, hml, hown, hts⟩ (c_cell l D ca ad σ a0 a1 _ _ hw) (cwV 2 hts (gV tw_179 tw_180 tw_181 tw_5 tw_182) rfl rfl rfl (by decide +kernel) ⟨Nat.le_of_ble_eq_true rfl, Nat.le_of_ble_eq_true rfl⟩) ⟨px_blind, (px_recv hK hP gX_3 rfl), fun U hU hW => px_pre hP hK hD hE hS hFc hU hW⟩ rfl rfl hl.1 rfl (lv_room (Nat.le_of_ble_eq_true rfl)) dH_request_6 ⟨Nat.le_of_ble_eq_true rfl, Nat.le_of_ble_eq_true rfl⟩) hS (fun q _ h => hFc q h) hFc (fun r2 s1 t H locs ht hvm hw hB _ _ hS => ?_)
  obtain ⟨hP, -, hD⟩ := hB
  rw [ht] at hP
  have hD := hD.weaken (fun _ _ _ h9 => hFc _ h9)
  exact W.iret (v := r2) hx hb hr (fun t ht hW => ⟨⟨r2, s1, rfl, hw, by rw [ht]; exact hP, va_K.moved hW.alike hK, hD⟩, hS.F ht⟩) hS.2.2 dH_request_9
theorem dH_dataAt_0 : decode cH_dataAt 0 = .ok (.aload_n 0, 1) := by decide +kernel
theorem dH_dataAt_1 : decode cH_dataAt 1 = .ok (.iload_n 1, 1) := by decide +kernel
theorem dH_dataAt_2 : decode cH_dataAt 2 = .ok (.invokevirtual 65, 3) := by decide +kernel
theorem dH_dataAt_5 : decode cH_dataAt 5 = .ok (.astore_n 3, 1) := by decide +kernel
theorem dH_dataAt_6 : decode cH_dataAt 6 = .ok (.iload_n 2, 1) := by decide +kernel
theorem dH_dataAt_7 : decode cH_dataAt 7 = .ok (.ifCond .lt 11, 3) := by decide +kernel
theorem dH_dataAt_10 : decode cH_dataAt 10 = .ok (.iload_n 2, 1) := by decide +kernel
theorem dH_dataAt_11 : decode cH_dataAt 11 = .ok (.aload_n 3, 1) := by decide +kernel
theorem dH_dataAt_12 : decode cH_dataAt 12 = .ok (.getfield 181, 3) := by decide +kernel
theorem dH_dataAt_15 : decode cH_dataAt 15 = .ok (.if_icmp .lt 13, 3) := by decide +kernel
theorem dH_dataAt_18 : decode cH_dataAt 18 = .ok (.new 172, 3) := by decide +kernel
theorem dH_dataAt_21 : decode cH_dataAt 21 = .ok (.dup, 1) := by decide +kernel
theorem dH_dataAt_22 : decode cH_dataAt 22 = .ok (.ldc 184, 2) := by decide +kernel
theorem dH_dataAt_24 : decode cH_dataAt 24 = .ok (.invokespecial 176, 3) := by decide +kernel
theorem dH_dataAt_27 : decode cH_dataAt 27 = .ok (.athrow, 1) := by decide +kernel
theorem dH_dataAt_28 : decode cH_dataAt 28 = .ok (.aload_n 3, 1) := by decide +kernel
theorem dH_dataAt_29 : decode cH_dataAt 29 = .ok (.getfield 186, 3) := by decide +kernel
theorem dH_dataAt_32 : decode cH_dataAt 32 = .ok (.iload_n 2, 1) := by decide +kernel
theorem dH_dataAt_33 : decode cH_dataAt 33 = .ok (.baload, 1) := by decide +kernel
theorem dH_dataAt_34 : decode cH_dataAt 34 = .ok (.sipush 255, 3) := by decide +kernel
theorem dH_dataAt_37 : decode cH_dataAt 37 = .ok (.iand, 1) := by decide +kernel
theorem dH_dataAt_38 : decode cH_dataAt 38 = .ok (.ireturn, 1) := by decide +kernel
def wp_dataAt (post : Int32 → Sg → Prop) (px : String → Sg → Prop) (σ : Sg) (a0 : Int32) (a1 : Int32) : Prop := wp_patronOf (fun r2 s1 => (∃ j3 : Nat, r2 = some j3 ∧ j3 < 8 ∧ (((a1 < 0) → px "java/lang/IndexOutOfBoundsException" s1) ∧ (¬ (a1 < 0) → (((a1 < (sF s1 3 j3)) → (j3 < 8 ∧ (vp_in a1 232 ∧ post (((sB s1 0 j3) (a1).toNatClampNeg) &&& 255) s1))) ∧ (¬ (a1 < (sF s1 3 j3)) → px "java/lang/IndexOutOfBoundsException" s1)))))) px σ a0
set_option maxHeartbeats 4000000 in
set_option maxRecDepth 100000 in
theorem c_dataAt (l : Launch) (D : va_G) (ca : Nat → ClassId) (ad : Nat → Nat → Nat) (σ : Sg) (a0 : Int32) (a1 : Int32) (sz : Nat) (post : Int32 → Sg → Prop) (px : String → Sg → Prop) (hl0 : l.stackTraces = false) (hw : wp_dataAt post px σ a0 a1) : vx_Met l yH_dataAt wsH_dataAt ({ frames := 9, cells := 2, slots := 12, locals := 141 }) (va_Pc [.ref (ad 0 0), .int a0, .int a1] (preX D ca ad σ sz)) (va_Qi post (atX D ca ad (va_A (wX ca ad σ) sz)) (va_A (wX ca ad σ) sz)) (vx_X (fun u : String × Sg => px u.1 u.2) (atXx D ca ad (va_A (wX ca ad σ) sz)) (va_A (wX ca ad σ) sz)) 2 12 (va_A (wX ca ad σ) sz) := by
  refine vx_ofW (cc := cH_dataAt) (maxL := 4) (ret := (some .int)) (by decide) rfl ?_
  intro p e s m args below meth c s₁ B hml hexc hv
  obtain ⟨rfl, hsz, hP, hK, hD0, hE⟩ := hv
  have hx := B.exec
  have hb := B.bytes
  have hr := B.returns
  have hts : ∀ w ∈ tbG, w.before _ s = true := fun w h => atoms_spec (ws := wsH_dataAt) B.pre w (List.mem_cons_of_mem _ h)
  have hown : s.vm.findClass RH = some m.cls := findClass_of_methodNamed B.named
  have hlocks := B.notSynchronized
  subst hsz
  have hD := hD0.self (sz := s.heap.size)
  generalize hAe : va_A (wX ca ad σ) s.heap.size = A at hD hE ⊢
  have hA : ∀ q : Nat, s.heap.size ≤ q → A q := fun q h => by rw [← hAe]; exact Or.inr h
  clear hAe
  have hS : va_S A s.heap s.heap [] := va_S.rf
  have hl := lv_entry ([.ref (ad 0 0), .int a0, .int a1]) (n := 4) (Nat.le_of_ble_eq_true rfl)
  rw [lg_entry_eq]
  generalize (lg_sl ([.ref (ad 0 0), .int a0, .int a1]) ++ List.replicate (4 - (lg_sl ([.ref (ad 0 0), .int a0, .int a1])).length) Slot.unset).toArray = ls at hl ⊢
  have hl : lv_has ls 4 [(0, .ref (ad 0 0)), (1, .int a0), (2, .int a1)] := hl
  unfold wp_dataAt at hw
  have hP : va_P D clX (wX ca ad σ) s.heap := hP
  refine lv_aload_n hx hb dH_dataAt_0 rfl (lv_at hl 0 rfl) ?_
  refine lv_iload_n hx hb dH_dataAt_1 rfl (lv_at hl 1 rfl) ?_
  have hFc := px_free hD hS hA
  refine vx_calle (vx_runV (As := [.int a0]) (rest := []) ⟨hx, hb, hml, hown, hts⟩ (c_patronOf l D ca ad σ a0 _ _ _ hl0 hw) (cwV 1 hts (gV tw_309 tw_311 tp_3 tw_1 tw_312) rfl rfl rfl (by decide +kernel) ⟨Nat.le_of_ble_eq_true rfl, Nat.le_of_ble_eq_true rfl⟩) ⟨px_blind, (px_recv hK hP gX_0 rfl), fun U hU hW => px_pre hP hK hD hE hS hFc hU hW⟩ rfl rfl hl.1 rfl (lv_room (Nat.le_of_ble_eq_true rfl)) dH_dataAt_2 ⟨Nat.le_of_ble_eq_true rfl, Nat.le_of_ble_eq_true rfl⟩) hS (fun q _ h => hFc q h) hFc (fun q _ h => hFc q h) (fun E9 ce9 q9 u9 t9 H locs ht hvm hw hB _ _ hS hce hcv hcl => ?_) (fun r2 s1 t H locs ht hvm hw hB _ _ hS => ?_)
  · obtain ⟨rfl, hP, -, hD⟩ := hB
    rw [ht] at hP
    exact vx_out (fun x9 h9 => (hexc x9 h9).elim) hlocks hce hcv hcl (fun t8 h8 hv8 => ⟨u9, hw, ⟨rfl, by rw [h8]; exact hP, va_K.moved hv8 hK, hD.weaken (fun _ _ _ h7 => hFc _ h7)⟩, hS.F h8⟩) hS.2.2 (by decide) (by decide)
  obtain ⟨hP, -, hD⟩ := hB
  rw [ht] at hP
  have hD := hD.weaken (fun _ _ _ h9 => hFc _ h9)
  refine W.widen (k := 1) (n := 6) (by decide) (by decide) ?_
  obtain ⟨j3, e4, hj5, hw⟩ := hw
  subst e4
  refine lv_astore_n (lv' := [(3, .ref (ad 6 j3)), (0, .ref (ad 0 0)), (1, .int a0), (2, .int a1)]) hx hb dH_dataAt_5 rfl hl (by decide) rfl (fun ls hl => ?_)
  refine lv_iload_n hx hb dH_dataAt_6 rfl (lv_at hl 3 rfl) ?_
  refine lv_if_lt (tgt := 18) hx hb dH_dataAt_7 (by decide) (fun c6 => ?_) (fun c6 => ?_)
  · have hw := hw.1 c6
    obtain ⟨sa9, hstr⟩ := hE.str 8 _ rfl
    exact vx_throwS (names := ["java/lang/RuntimeException", "java/lang/Exception"]) hx hb hl0 hown (by decide +kernel) (by decide +kernel) (hts _ tw_313) (hts _ tw_13) hstr (hE.hat176 hts) gd_176 hE.1 hE.2.1 hS (hl.1.trans hml.symm) dH_dataAt_18 dH_dataAt_21 dH_dataAt_22 dH_dataAt_24 dH_dataAt_27 (fun x9 h9 => (hexc x9 h9).elim) (by decide) (by decide) (by decide) (by decide) hlocks (fun t hv hz hk => ⟨(_, s1), hw, ⟨rfl, hP.kept (fun k9 q9 h9 => hk _ (va_at.lt (hP k9 q9 h9))), va_K.moved hv hK, hD⟩, va_S.F2 hS hz hk⟩) hS.2.2 (by decide) (by decide)
  · have hw := hw.2 c6
    refine lv_iload_n hx hb dH_dataAt_10 rfl (lv_at hl 3 rfl) ?_
    refine lv_aload_n hx hb dH_dataAt_11 rfl (lv_at hl 0 rfl) ?_
    refine va_get (D := D) (ci := 1) (v := .int (sF s1 3 j3)) (C := RP) (T := TP) (N := 16) hx hb hts inP hown hK hP (6 + j3) (gX_6 hj5) rfl 3 (by decide) (hts _ tw_85) (fun _ h9 => h9) rfl dH_dataAt_12 ?_
    refine lv_icmp_lt (tgt := 28) hx hb dH_dataAt_15 (by decide) (fun c7 => ?_) (fun c7 => ?_)
    · have hw := hw.1 c7
      refine lv_aload_n hx hb dH_dataAt_28 rfl (lv_at hl 0 rfl) ?_
      refine va_get (D := D) (ci := 1) (v := .ref (ad 7 j3)) (C := RP) (T := TP) (N := 16) hx hb hts inP hown hK hP (6 + j3) (gX_6 hj5) rfl 1 (by decide) (hts _ tw_80) (fun _ h9 => h9) rfl dH_dataAt_29 ?_
      refine lv_iload_n hx hb dH_dataAt_32 rfl (lv_at hl 3 rfl) ?_
      obtain ⟨hb8, hw⟩ := hw
      obtain ⟨hin9, hw⟩ := hw
      refine va_bald hx hb hK hP (6 + (8 + j3)) 1 (gX_7 hb8) rfl hin9 dH_dataAt_33 ?_
      refine lv_sipush (v := 255) hx hb dH_dataAt_34 (by decide) ?_
      refine lv_iand hx hb dH_dataAt_37 ?_
      refine W.widen (k := 2) (n := 12) (by decide) (by decide) ?_
      exact vx_ret (W.iret (v := (((sB s1 0 j3) (a1).toNatClampNeg) &&& 255)) hx hb hr (fun t ht hW => ⟨⟨(((sB s1 0 j3) (a1).toNatClampNeg) &&& 255), s1, rfl, hw, by rw [ht]; exact hP, va_K.moved hW.alike hK, hD⟩, hS.F ht⟩) hS.2.2 dH_dataAt_38)
    · have hw := hw.2 c7
      obtain ⟨sa9, hstr⟩ := hE.str 8 _ rfl
      exact vx_throwS (names := ["java/lang/RuntimeException", "java/lang/Exception"]) hx hb hl0 hown (by decide +kernel) (by decide +kernel) (hts _ tw_313) (hts _ tw_13) hstr (hE.hat176 hts) gd_176 hE.1 hE.2.1 hS (hl.1.trans hml.symm) dH_dataAt_18 dH_dataAt_21 dH_dataAt_22 dH_dataAt_24 dH_dataAt_27 (fun x9 h9 => (hexc x9 h9).elim) (by decide) (by decide) (by decide) (by decide) hlocks (fun t hv hz hk => ⟨(_, s1), hw, ⟨rfl, hP.kept (fun k9 q9 h9 => hk _ (va_at.lt (hP k9 q9 h9))), va_K.moved hv hK, hD⟩, va_S.F2 hS hz hk⟩) hS.2.2 (by decide) (by decide)
theorem dH_answer_0 : decode cH_answer 0 = .ok (.aload_n 0, 1) := by decide +kernel
theorem dH_answer_1 : decode cH_answer 1 = .ok (.iload_n 1, 1) := by decide +kernel
theorem dH_answer_2 : decode cH_answer 2 = .ok (.invokevirtual 65, 3) := by decide +kernel
theorem dH_answer_5 : decode cH_answer 5 = .ok (.getfield 189, 3) := by decide +kernel
theorem dH_answer_8 : decode cH_answer 8 = .ok (.ireturn, 1) := by decide +kernel
def wp_answer (post : Int32 → Sg → Prop) (px : String → Sg → Prop) (σ : Sg) (a0 : Int32) : Prop := wp_patronOf (fun r2 s1 => (∃ j3 : Nat, r2 = some j3 ∧ j3 < 8 ∧ post (sF s1 4 j3) s1)) px σ a0
set_option maxHeartbeats 4000000 in
set_option maxRecDepth 100000 in
theorem c_answer (l : Launch) (D : va_G) (ca : Nat → ClassId) (ad : Nat → Nat → Nat) (σ : Sg) (a0 : Int32) (sz : Nat) (post : Int32 → Sg → Prop) (px : String → Sg → Prop) (hl0 : l.stackTraces = false) (hw : wp_answer post px σ a0) : vx_Met l yH_answer wsH_answer ({ frames := 9, cells := 1, slots := 6, locals := 141 }) (va_Pc [.ref (ad 0 0), .int a0] (preX D ca ad σ sz)) (va_Qi post (atX D ca ad (va_A (wX ca ad σ) sz)) (va_A (wX ca ad σ) sz)) (vx_X (fun u : String × Sg => px u.1 u.2) (atXx D ca ad (va_A (wX ca ad σ) sz)) (va_A (wX ca ad σ) sz)) 1 6 (va_A (wX ca ad σ) sz) := by
  refine vx_ofW (cc := cH_answer) (maxL := 2) (ret := (some .int)) (by decide) rfl ?_
  intro p e s m args below meth c s₁ B hml hexc hv
  obtain ⟨rfl, hsz, hP, hK, hD0, hE⟩ := hv
  have hx := B.exec
  have hb := B.bytes
  have hr := B.returns
  have hts : ∀ w ∈ tbG, w.before _ s = true := fun w h => atoms_spec (ws := wsH_answer) B.pre w (List.mem_cons_of_mem _ h)
  have hown : s.vm.findClass RH = some m.cls := findClass_of_methodNamed B.named
  have hlocks := B.notSynchronized
  subst hsz
  have hD := hD0.self (sz := s.heap.size)
  generalize hAe : va_A (wX ca ad σ) s.heap.size = A at hD hE ⊢
  have hA : ∀ q : Nat, s.heap.size ≤ q → A q := fun q h => by rw [← hAe]; exact Or.inr h
  clear hAe
  have hS : va_S A s.heap s.heap [] := va_S.rf
  have hl := lv_entry ([.ref (ad 0 0), .int a0]) (n := 2) (Nat.le_of_ble_eq_true rfl)
  rw [lg_entry_eq]
  generalize (lg_sl ([.ref (ad 0 0), .int a0]) ++ List.replicate (2 - (lg_sl ([.ref (ad 0 0), .int a0])).length) Slot.unset).toArray = ls at hl ⊢
  have hl : lv_has ls 2 [(0, .ref (ad 0 0)), (1, .int a0)] := hl
  unfold wp_answer at hw
  have hP : va_P D clX (wX ca ad σ) s.heap := hP
  refine lv_aload_n hx hb dH_answer_0 rfl (lv_at hl 0 rfl) ?_
  refine lv_iload_n hx hb dH_answer_1 rfl (lv_at hl 1 rfl) ?_
  have hFc := px_free hD hS hA
  refine vx_calle (vx_runV (As := [.int a0]) (rest := []) ⟨hx, hb, hml, hown, hts⟩ (c_patronOf l D ca ad σ a0 _ _ _ hl0 hw) (cwV 1 hts (gV tw_309 tw_311 tp_3 tw_1 tw_312) rfl rfl rfl (by decide +kernel) ⟨Nat.le_of_ble_eq_true rfl, Nat.le_of_ble_eq_true rfl⟩) ⟨px_blind, (px_recv hK hP gX_0 rfl), fun U hU hW => px_pre hP hK hD hE hS hFc hU hW⟩ rfl rfl hl.1 rfl (lv_room (Nat.le_of_ble_eq_true rfl)) dH_answer_2 ⟨Nat.le_of_ble_eq_true rfl, Nat.le_of_ble_eq_true rfl⟩) hS (fun q _ h => hFc q h) hFc (fun q _ h => hFc q h) (fun E9 ce9 q9 u9 t9 H locs ht hvm hw hB _ _ hS hce hcv hcl => ?_) (fun r2 s1 t H locs ht hvm hw hB _ _ hS => ?_)
  · obtain ⟨rfl, hP, -, hD⟩ := hB
    rw [ht] at hP
    exact vx_out (fun x9 h9 => (hexc x9 h9).elim) hlocks hce hcv hcl (fun t8 h8 hv8 => ⟨u9, hw, ⟨rfl, by rw [h8]; exact hP, va_K.moved hv8 hK, hD.weaken (fun _ _ _ h7 => hFc _ h7)⟩, hS.F h8⟩) hS.2.2 (by decide) (by decide)
  obtain ⟨hP, -, hD⟩ := hB
  rw [ht] at hP
  have hD := hD.weaken (fun _ _ _ h9 => hFc _ h9)
  refine W.widen (k := 1) (n := 6) (by decide) (by decide) ?_
  obtain ⟨j3, e4, hj5, hw⟩ := hw
  subst e4
  refine va_get (D := D) (ci := 1) (v := .int (sF s1 4 j3)) (C := RP) (T := TP) (N := 16) hx hb hts inP hown hK hP (6 + j3) (gX_6 hj5) rfl 4 (by decide) (hts _ tw_87) (fun _ h9 => h9) rfl dH_answer_5 ?_
  refine W.widen (k := 1) (n := 6) (by decide) (by decide) ?_
  exact vx_ret (W.iret (v := (sF s1 4 j3)) hx hb hr (fun t ht hW => ⟨⟨(sF s1 4 j3), s1, rfl, hw, by rw [ht]; exact hP, va_K.moved hW.alike hK, hD⟩, hS.F ht⟩) hS.2.2 dH_answer_8)
theorem dH_answerAt_0 : decode cH_answerAt 0 = .ok (.aload_n 0, 1) := by decide +kernel
theorem dH_answerAt_1 : decode cH_answerAt 1 = .ok (.iload_n 1, 1) := by decide +kernel
theorem dH_answerAt_2 : decode cH_answerAt 2 = .ok (.invokevirtual 65, 3) := by decide +kernel
theorem dH_answerAt_5 : decode cH_answerAt 5 = .ok (.astore_n 3, 1) := by decide +kernel
theorem dH_answerAt_6 : decode cH_answerAt 6 = .ok (.iload_n 2, 1) := by decide +kernel
theorem dH_answerAt_7 : decode cH_answerAt 7 = .ok (.ifCond .lt 11, 3) := by decide +kernel
theorem dH_answerAt_10 : decode cH_answerAt 10 = .ok (.iload_n 2, 1) := by decide +kernel
theorem dH_answerAt_11 : decode cH_answerAt 11 = .ok (.aload_n 3, 1) := by decide +kernel
theorem dH_answerAt_12 : decode cH_answerAt 12 = .ok (.getfield 189, 3) := by decide +kernel
theorem dH_answerAt_15 : decode cH_answerAt 15 = .ok (.if_icmp .lt 13, 3) := by decide +kernel
theorem dH_answerAt_18 : decode cH_answerAt 18 = .ok (.new 172, 3) := by decide +kernel
theorem dH_answerAt_21 : decode cH_answerAt 21 = .ok (.dup, 1) := by decide +kernel
theorem dH_answerAt_22 : decode cH_answerAt 22 = .ok (.ldc 192, 2) := by decide +kernel
theorem dH_answerAt_24 : decode cH_answerAt 24 = .ok (.invokespecial 176, 3) := by decide +kernel
theorem dH_answerAt_27 : decode cH_answerAt 27 = .ok (.athrow, 1) := by decide +kernel
theorem dH_answerAt_28 : decode cH_answerAt 28 = .ok (.aload_n 3, 1) := by decide +kernel
theorem dH_answerAt_29 : decode cH_answerAt 29 = .ok (.getfield 194, 3) := by decide +kernel
theorem dH_answerAt_32 : decode cH_answerAt 32 = .ok (.iload_n 2, 1) := by decide +kernel
theorem dH_answerAt_33 : decode cH_answerAt 33 = .ok (.baload, 1) := by decide +kernel
theorem dH_answerAt_34 : decode cH_answerAt 34 = .ok (.sipush 255, 3) := by decide +kernel
theorem dH_answerAt_37 : decode cH_answerAt 37 = .ok (.iand, 1) := by decide +kernel
theorem dH_answerAt_38 : decode cH_answerAt 38 = .ok (.ireturn, 1) := by decide +kernel
def wp_answerAt (post : Int32 → Sg → Prop) (px : String → Sg → Prop) (σ : Sg) (a0 : Int32) (a1 : Int32) : Prop := wp_patronOf (fun r2 s1 => (∃ j3 : Nat, r2 = some j3 ∧ j3 < 8 ∧ (((a1 < 0) → px "java/lang/IndexOutOfBoundsException" s1) ∧ (¬ (a1 < 0) → (((a1 < (sF s1 4 j3)) → (j3 < 8 ∧ (vp_in a1 134 ∧ post (((sB s1 1 j3) (a1).toNatClampNeg) &&& 255) s1))) ∧ (¬ (a1 < (sF s1 4 j3)) → px "java/lang/IndexOutOfBoundsException" s1)))))) px σ a0
set_option maxHeartbeats 4000000 in
set_option maxRecDepth 100000 in
theorem c_answerAt (l : Launch) (D : va_G) (ca : Nat → ClassId) (ad : Nat → Nat → Nat) (σ : Sg) (a0 : Int32) (a1 : Int32) (sz : Nat) (post : Int32 → Sg → Prop) (px : String → Sg → Prop) (hl0 : l.stackTraces = false) (hw : wp_answerAt post px σ a0 a1) : vx_Met l yH_answerAt wsH_answerAt ({ frames := 9, cells := 2, slots := 12, locals := 141 }) (va_Pc [.ref (ad 0 0), .int a0, .int a1] (preX D ca ad σ sz)) (va_Qi post (atX D ca ad (va_A (wX ca ad σ) sz)) (va_A (wX ca ad σ) sz)) (vx_X (fun u : String × Sg => px u.1 u.2) (atXx D ca ad (va_A (wX ca ad σ) sz)) (va_A (wX ca ad σ) sz)) 2 12 (va_A (wX ca ad σ) sz) := by
  refine vx_ofW (cc := cH_answerAt) (maxL := 4) (ret := (some .int)) (by decide) rfl ?_
  intro p e s m args below meth c s₁ B hml hexc hv
  obtain ⟨rfl, hsz, hP, hK, hD0, hE⟩ := hv
  have hx := B.exec
  have hb := B.bytes
  have hr := B.returns
  have hts : ∀ w ∈ tbG, w.before _ s = true := fun w h => atoms_spec (ws := wsH_answerAt) B.pre w (List.mem_cons_of_mem _ h)
  have hown : s.vm.findClass RH = some m.cls := findClass_of_methodNamed B.named
  have hlocks := B.notSynchronized
  subst hsz
  have hD := hD0.self (sz := s.heap.size)
  generalize hAe : va_A (wX ca ad σ) s.heap.size = A at hD hE ⊢
  have hA : ∀ q : Nat, s.heap.size ≤ q → A q := fun q h => by rw [← hAe]; exact Or.inr h
  clear hAe
  have hS : va_S A s.heap s.heap [] := va_S.rf
  have hl := lv_entry ([.ref (ad 0 0), .int a0, .int a1]) (n := 4) (Nat.le_of_ble_eq_true rfl)
  rw [lg_entry_eq]
  generalize (lg_sl ([.ref (ad 0 0), .int a0, .int a1]) ++ List.replicate (4 - (lg_sl ([.ref (ad 0 0), .int a0, .int a1])).length) Slot.unset).toArray = ls at hl ⊢
  have hl : lv_has ls 4 [(0, .ref (ad 0 0)), (1, .int a0), (2, .int a1)] := hl
  unfold wp_answerAt at hw
  have hP : va_P D clX (wX ca ad σ) s.heap := hP
  refine lv_aload_n hx hb dH_answerAt_0 rfl (lv_at hl 0 rfl) ?_
  refine lv_iload_n hx hb dH_answerAt_1 rfl (lv_at hl 1 rfl) ?_
  have hFc := px_free hD hS hA
  refine vx_calle (vx_runV (As := [.int a0]) (rest := []) ⟨hx, hb, hml, hown, hts⟩ (c_patronOf l D ca ad σ a0 _ _ _ hl0 hw) (cwV 1 hts (gV tw_309 tw_311 tp_3 tw_1 tw_312) rfl rfl rfl (by decide +kernel) ⟨Nat.le_of_ble_eq_true rfl, Nat.le_of_ble_eq_true rfl⟩) ⟨px_blind, (px_recv hK hP gX_0 rfl), fun U hU hW => px_pre hP hK hD hE hS hFc hU hW⟩ rfl rfl hl.1 rfl (lv_room (Nat.le_of_ble_eq_true rfl)) dH_answerAt_2 ⟨Nat.le_of_ble_eq_true rfl, Nat.le_of_ble_eq_true rfl⟩) hS (fun q _ h => hFc q h) hFc (fun q _ h => hFc q h) (fun E9 ce9 q9 u9 t9 H locs ht hvm hw hB _ _ hS hce hcv hcl => ?_) (fun r2 s1 t H locs ht hvm hw hB _ _ hS => ?_)
  · obtain ⟨rfl, hP, -, hD⟩ := hB
    rw [ht] at hP
    exact vx_out (fun x9 h9 => (hexc x9 h9).elim) hlocks hce hcv hcl (fun t8 h8 hv8 => ⟨u9, hw, ⟨rfl, by rw [h8]; exact hP, va_K.moved hv8 hK, hD.weaken (fun _ _ _ h7 => hFc _ h7)⟩, hS.F h8⟩) hS.2.2 (by decide) (by decide)
  obtain ⟨hP, -, hD⟩ := hB
  rw [ht] at hP
  have hD := hD.weaken (fun _ _ _ h9 => hFc _ h9)
  refine W.widen (k := 1) (n := 6) (by decide) (by decide) ?_
  obtain ⟨j3, e4, hj5, hw⟩ := hw
  subst e4
  refine lv_astore_n (lv' := [(3, .ref (ad 6 j3)), (0, .ref (ad 0 0)), (1, .int a0), (2, .int a1)]) hx hb dH_answerAt_5 rfl hl (by decide) rfl (fun ls hl => ?_)
  refine lv_iload_n hx hb dH_answerAt_6 rfl (lv_at hl 3 rfl) ?_
  refine lv_if_lt (tgt := 18) hx hb dH_answerAt_7 (by decide) (fun c6 => ?_) (fun c6 => ?_)
  · have hw := hw.1 c6
    obtain ⟨sa9, hstr⟩ := hE.str 9 _ rfl
    exact vx_throwS (names := ["java/lang/RuntimeException", "java/lang/Exception"]) hx hb hl0 hown (by decide +kernel) (by decide +kernel) (hts _ tw_313) (hts _ tw_13) hstr (hE.hat176 hts) gd_176 hE.1 hE.2.1 hS (hl.1.trans hml.symm) dH_answerAt_18 dH_answerAt_21 dH_answerAt_22 dH_answerAt_24 dH_answerAt_27 (fun x9 h9 => (hexc x9 h9).elim) (by decide) (by decide) (by decide) (by decide) hlocks (fun t hv hz hk => ⟨(_, s1), hw, ⟨rfl, hP.kept (fun k9 q9 h9 => hk _ (va_at.lt (hP k9 q9 h9))), va_K.moved hv hK, hD⟩, va_S.F2 hS hz hk⟩) hS.2.2 (by decide) (by decide)
  · have hw := hw.2 c6
    refine lv_iload_n hx hb dH_answerAt_10 rfl (lv_at hl 3 rfl) ?_
    refine lv_aload_n hx hb dH_answerAt_11 rfl (lv_at hl 0 rfl) ?_
    refine va_get (D := D) (ci := 1) (v := .int (sF s1 4 j3)) (C := RP) (T := TP) (N := 16) hx hb hts inP hown hK hP (6 + j3) (gX_6 hj5) rfl 4 (by decide) (hts _ tw_87) (fun _ h9 => h9) rfl dH_answerAt_12 ?_
    refine lv_icmp_lt (tgt := 28) hx hb dH_answerAt_15 (by decide) (fun c7 => ?_) (fun c7 => ?_)
    · have hw := hw.1 c7
      refine lv_aload_n hx hb dH_answerAt_28 rfl (lv_at hl 0 rfl) ?_
      refine va_get (D := D) (ci := 1) (v := .ref (ad 8 j3)) (C := RP) (T := TP) (N := 16) hx hb hts inP hown hK hP (6 + j3) (gX_6 hj5) rfl 2 (by decide) (hts _ tw_82) (fun _ h9 => h9) rfl dH_answerAt_29 ?_
      refine lv_iload_n hx hb dH_answerAt_32 rfl (lv_at hl 3 rfl) ?_
      obtain ⟨hb8, hw⟩ := hw
      obtain ⟨hin9, hw⟩ := hw
      refine va_bald hx hb hK hP (6 + (8 + (8 + j3))) 1 (gX_8 hb8) rfl hin9 dH_answerAt_33 ?_
      refine lv_sipush (v := 255) hx hb dH_answerAt_34 (by decide) ?_
      refine lv_iand hx hb dH_answerAt_37 ?_
      refine W.widen (k := 2) (n := 12) (by decide) (by decide) ?_
      exact vx_ret (W.iret (v := (((sB s1 1 j3) (a1).toNatClampNeg) &&& 255)) hx hb hr (fun t ht hW => ⟨⟨(((sB s1 1 j3) (a1).toNatClampNeg) &&& 255), s1, rfl, hw, by rw [ht]; exact hP, va_K.moved hW.alike hK, hD⟩, hS.F ht⟩) hS.2.2 dH_answerAt_38)
    · have hw := hw.2 c7
      obtain ⟨sa9, hstr⟩ := hE.str 9 _ rfl
      exact vx_throwS (names := ["java/lang/RuntimeException", "java/lang/Exception"]) hx hb hl0 hown (by decide +kernel) (by decide +kernel) (hts _ tw_313) (hts _ tw_13) hstr (hE.hat176 hts) gd_176 hE.1 hE.2.1 hS (hl.1.trans hml.symm) dH_answerAt_18 dH_answerAt_21 dH_answerAt_22 dH_answerAt_24 dH_answerAt_27 (fun x9 h9 => (hexc x9 h9).elim) (by decide) (by decide) (by decide) (by decide) hlocks (fun t hv hz hk => ⟨(_, s1), hw, ⟨rfl, hP.kept (fun k9 q9 h9 => hk _ (va_at.lt (hP k9 q9 h9))), va_K.moved hv hK, hD⟩, va_S.F2 hS hz hk⟩) hS.2.2 (by decide) (by decide)
