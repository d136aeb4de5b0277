theorem dM_feed_0 : decode cM_feed 0 = .ok (.aload_n 0, 1) := by decide +kernel
theorem dM_feed_1 : decode cM_feed 1 = .ok (.iconst 0, 1) := by decide +kernel
theorem dM_feed_2 : decode cM_feed 2 = .ok (.putfield 68, 3) := by decide +kernel
theorem dM_feed_5 : decode cM_feed 5 = .ok (.iload_n 3, 1) := by decide +kernel
theorem dM_feed_6 : decode cM_feed 6 = .ok (.iconst 1, 1) := by decide +kernel
theorem dM_feed_7 : decode cM_feed 7 = .ok (.bipush 8, 2) := by decide +kernel
theorem dM_feed_9 : decode cM_feed 9 = .ok (.invokestatic 72, 3) := by decide +kernel
theorem dM_feed_12 : decode cM_feed 12 = .ok (.ifCond .ne 9, 3) := by decide +kernel
theorem dM_feed_15 : decode cM_feed 15 = .ok (.aload_n 0, 1) := by decide +kernel
theorem dM_feed_16 : decode cM_feed 16 = .ok (.iconst 1, 1) := by decide +kernel
theorem dM_feed_17 : decode cM_feed 17 = .ok (.invokevirtual 76, 3) := by decide +kernel
theorem dM_feed_20 : decode cM_feed 20 = .ok (.ireturn, 1) := by decide +kernel
theorem dM_feed_21 : decode cM_feed 21 = .ok (.aload_n 0, 1) := by decide +kernel
theorem dM_feed_22 : decode cM_feed 22 = .ok (.getfield 80, 3) := by decide +kernel
theorem dM_feed_25 : decode cM_feed 25 = .ok (.iload_n 3, 1) := by decide +kernel
theorem dM_feed_26 : decode cM_feed 26 = .ok (.iadd, 1) := by decide +kernel
theorem dM_feed_27 : decode cM_feed 27 = .ok (.sipush 240, 3) := by decide +kernel
theorem dM_feed_30 : decode cM_feed 30 = .ok (.if_icmp .le 9, 3) := by decide +kernel
theorem dM_feed_33 : decode cM_feed 33 = .ok (.aload_n 0, 1) := by decide +kernel
theorem dM_feed_34 : decode cM_feed 34 = .ok (.iconst 2, 1) := by decide +kernel
theorem dM_feed_35 : decode cM_feed 35 = .ok (.invokevirtual 76, 3) := by decide +kernel
theorem dM_feed_38 : decode cM_feed 38 = .ok (.ireturn, 1) := by decide +kernel
theorem dM_feed_39 : decode cM_feed 39 = .ok (.iconst 0, 1) := by decide +kernel
theorem dM_feed_40 : decode cM_feed 40 = .ok (.istore 4, 2) := by decide +kernel
theorem dM_feed_42 : decode cM_feed 42 = .ok (.iload 4, 2) := by decide +kernel
theorem dM_feed_44 : decode cM_feed 44 = .ok (.iload_n 3, 1) := by decide +kernel
theorem dM_feed_45 : decode cM_feed 45 = .ok (.if_icmp .ge 33, 3) := by decide +kernel
theorem dM_feed_48 : decode cM_feed 48 = .ok (.aload_n 0, 1) := by decide +kernel
theorem dM_feed_49 : decode cM_feed 49 = .ok (.getfield 7, 3) := by decide +kernel
theorem dM_feed_52 : decode cM_feed 52 = .ok (.aload_n 0, 1) := by decide +kernel
theorem dM_feed_53 : decode cM_feed 53 = .ok (.getfield 80, 3) := by decide +kernel
theorem dM_feed_56 : decode cM_feed 56 = .ok (.iload 4, 2) := by decide +kernel
theorem dM_feed_58 : decode cM_feed 58 = .ok (.iadd, 1) := by decide +kernel
theorem dM_feed_59 : decode cM_feed 59 = .ok (.lload_n 1, 1) := by decide +kernel
theorem dM_feed_60 : decode cM_feed 60 = .ok (.bipush 8, 2) := by decide +kernel
theorem dM_feed_62 : decode cM_feed 62 = .ok (.iload 4, 2) := by decide +kernel
theorem dM_feed_64 : decode cM_feed 64 = .ok (.imul, 1) := by decide +kernel
theorem dM_feed_65 : decode cM_feed 65 = .ok (.lshr, 1) := by decide +kernel
theorem dM_feed_66 : decode cM_feed 66 = .ok (.ldc2_w 83, 3) := by decide +kernel
theorem dM_feed_69 : decode cM_feed 69 = .ok (.land, 1) := by decide +kernel
theorem dM_feed_70 : decode cM_feed 70 = .ok (.l2i, 1) := by decide +kernel
theorem dM_feed_71 : decode cM_feed 71 = .ok (.iastore, 1) := by decide +kernel
theorem dM_feed_72 : decode cM_feed 72 = .ok (.iinc 4 1, 3) := by decide +kernel
theorem dM_feed_75 : decode cM_feed 75 = .ok (.goto (-33), 3) := by decide +kernel
theorem dM_feed_78 : decode cM_feed 78 = .ok (.aload_n 0, 1) := by decide +kernel
theorem dM_feed_79 : decode cM_feed 79 = .ok (.dup, 1) := by decide +kernel
theorem dM_feed_80 : decode cM_feed 80 = .ok (.getfield 80, 3) := by decide +kernel
theorem dM_feed_83 : decode cM_feed 83 = .ok (.iload_n 3, 1) := by decide +kernel
theorem dM_feed_84 : decode cM_feed 84 = .ok (.iadd, 1) := by decide +kernel
theorem dM_feed_85 : decode cM_feed 85 = .ok (.putfield 80, 3) := by decide +kernel
theorem dM_feed_88 : decode cM_feed 88 = .ok (.aload_n 0, 1) := by decide +kernel
theorem dM_feed_89 : decode cM_feed 89 = .ok (.getfield 80, 3) := by decide +kernel
theorem dM_feed_92 : decode cM_feed 92 = .ok (.ireturn, 1) := by decide +kernel
def wpl_m_feed_L42 : Nat → (Int32 → Sm → Prop) → Sm → Int64 → Int32 → Int32 → Prop
  | 0, _, _, _, _, _ => False
  | n + 1, post, σ, x1, x3, x4 => (((x3 ≤ x4) → post ((mG σ 6) + x3) (vG 6 ((mG σ 6) + x3) σ)) ∧ (¬ (x3 ≤ x4) → (vp_in ((mG σ 6) + x4) 240 ∧ wpl_m_feed_L42 n post (vA 0 (upd (mA σ 0) ((mG σ 6) + x4).toNatClampNeg (((x1 >>> ((8 * x4).toInt64 &&& 63)) &&& 255).toInt32)) σ) x1 x3 (x4 + 1))))
set_option maxHeartbeats 4000000 in
set_option maxRecDepth 100000 in
theorem l_m_feed_L42 {p : Program} {l : Launch} {e : Env} {s : State} {m : MethodId} {args : Array Value} {below : List Frame} {meth : Method} {c : Code} {D : va_G} {ca : Nat → ClassId} {ad : Nat → Nat → Nat} {A : Nat → Prop}  {post : Int32 → Sm → Prop} (hx : p.tables.exec = Jvm.exec) (hb : c.code = cM_feed) (hr : meth.sig.returnType = (some .int)) (hml : c.maxLocals = 5) (hts : ∀ w ∈ tbG, w.before args s = true) (hown : s.vm.findClass RM = some m.cls) (hlocks : meth.locks = false) (hA : ∀ q : Nat, s.heap.size ≤ q → A q) (hK : va_K D clX (tyM9 ca) s) (hE : eM A s) : ∀ (n : Nat) (σ : Sm) (x1 : Int64) (x3 : Int32) (x4 : Int32), wpl_m_feed_L42 n post σ x1 x3 x4 → ∀ (H : Heap) (locs : List Loc), va_P D clX (wM ca ad σ) H → va_D A (wM ca ad σ) → va_S A s.heap H locs → ∀ ls : Array Slot, lv_has ls 5 [(0, .ref (ad 0 0)), (1, .long x1), (3, .int x3), (4, .int x4)] → W p l e (headSpec wsM_feed ({ frames := 1, cells := 0, slots := 0, locals := 22 })).room s m args below meth c H locs 0 0 (MQ below (va_Qi post (atM D ca ad A) A) args s 0 0 A) (F0 m 42 ls []) := by
  intro n
  induction n with
  | zero => intro σ x1 x3 x4 hw; exact hw.elim
  | succ n ih =>
    intro σ x1 x3 x4 hw H locs hP hD hS ls hl
    refine lv_iload hx hb dM_feed_42 (lv_at hl 3 rfl) ?_
    refine lv_iload_n hx hb dM_feed_44 rfl (lv_at hl 2 rfl) ?_
    refine lv_icmp_ge (tgt := 78) hx hb dM_feed_45 (by decide) (fun c9 => ?_) (fun c9 => ?_)
    · have hw := hw.1 c9
      refine lv_aload_n hx hb dM_feed_78 rfl (lv_at hl 0 rfl) ?_
      refine lv_dup hx hb dM_feed_79 rfl ?_
      refine va_get (D := D) (ci := 5) (v := .int (mG σ 6)) (C := RM) (T := TM) (N := 26) hx hb hts inM hown hK hP 0 gM_0 rfl 6 (by decide) (hts _ tw_597) (fun _ h9 => h9) rfl dM_feed_80 ?_
      refine lv_iload_n hx hb dM_feed_83 rfl (lv_at hl 2 rfl) ?_
      refine lv_iadd hx hb dM_feed_84 ?_
      refine va_put (D := D) (ci := 5) (v := .int ((mG σ 6) + x3)) (ty := .int) (C := RM) (T := TM) (N := 26) hx hb hts inM tyM tyM_ok nmM hown hK hP hD hS 0 gM_0 rfl 6 (by decide) (hts _ tw_597) (fun _ h9 => h9) rfl (by decide +kernel) rfl rfl (Nat.le_of_ble_eq_true rfl) dM_feed_85 (fun H locs hP hD hS => ?_)
      rw [sM_0_6] at hP hD
      refine lv_aload_n hx hb dM_feed_88 rfl (lv_at hl 0 rfl) ?_
      refine va_get (D := D) (ci := 5) (v := .int ((mG σ 6) + x3)) (C := RM) (T := TM) (N := 26) hx hb hts inM hown hK hP 0 gM_0 rfl 6 (by decide) (hts _ tw_597) (fun _ h9 => h9) rfl dM_feed_89 ?_
      exact W.iret (v := ((mG σ 6) + x3)) hx hb hr (fun t ht hW => ⟨⟨((mG σ 6) + x3), (vG 6 ((mG σ 6) + x3) σ), rfl, hw, by rw [ht]; exact hP, va_K.moved hW.alike hK, hD⟩, hS.F ht⟩) hS.2.2 dM_feed_92
    · have hw := hw.2 c9
      refine lv_aload_n hx hb dM_feed_48 rfl (lv_at hl 0 rfl) ?_
      refine va_get (D := D) (ci := 5) (v := .ref (ad 1 0)) (C := RM) (T := TM) (N := 26) hx hb hts inM hown hK hP 0 gM_0 rfl 7 (by decide) (hts _ tw_598) (fun _ h9 => h9) rfl dM_feed_49 ?_
      refine lv_aload_n hx hb dM_feed_52 rfl (lv_at hl 0 rfl) ?_
      refine va_get (D := D) (ci := 5) (v := .int (mG σ 6)) (C := RM) (T := TM) (N := 26) hx hb hts inM hown hK hP 0 gM_0 rfl 6 (by decide) (hts _ tw_597) (fun _ h9 => h9) rfl dM_feed_53 ?_
      refine lv_iload hx hb dM_feed_56 (lv_at hl 3 rfl) ?_
      refine lv_iadd hx hb dM_feed_58 ?_
      refine lv_lload_n hx hb dM_feed_59 rfl (lv_at hl 1 rfl) ?_
      refine lv_bipush (v := 8) hx hb dM_feed_60 (by decide) ?_
      refine lv_iload hx hb dM_feed_62 (lv_at hl 3 rfl) ?_
      refine lv_imul hx hb dM_feed_64 ?_
      refine lv_lshr hx hb dM_feed_65 rfl ?_
      refine lv_ldc2 (own := RM) (index := 83) (v := 255) hx hb hown (hts _ tw_686) dM_feed_66 ?_
      refine lv_land hx hb dM_feed_69 ?_
      refine lv_l2i hx hb dM_feed_70 rfl ?_
      obtain ⟨hin10, hw⟩ := hw
      refine va_iast hx hb hK hP hD hS 1 0 gM_1 rfl hin10 dM_feed_71 (fun H locs hP hD hS => ?_)
      rw [sM_1] at hP hD
      refine lv_iinc (v := x4 + 1) (lv' := [(4, .int (x4 + 1)), (0, .ref (ad 0 0)), (1, .long x1), (3, .int x3)]) hx hb dM_feed_72 hl (k := 3) rfl rfl (by decide) rfl (fun ls hl => ?_)
      refine lv_goto (tgt := 42) hx hb dM_feed_75 (by decide) ?_
      exact ih (vA 0 (upd (mA σ 0) ((mG σ 6) + x4).toNatClampNeg (((x1 >>> ((8 * x4).toInt64 &&& 63)) &&& 255).toInt32)) σ) x1 x3 (x4 + 1) hw _ _ hP hD hS ls (lv_sub hl [1, 2, 3, 0] rfl)
def wp_m_feed (post : Int32 → Sm → Prop) (σ : Sm) (a0 : Int64) (a1 : Int32) : Prop := wp_m_within (fun r2 s1 => ((¬ (r2 = 0) → (((((mG s1 6) + a1) ≤ 240) → (∃ n : Nat, wpl_m_feed_L42 n post s1 a0 a1 0)) ∧ (¬ (((mG s1 6) + a1) ≤ 240) → wp_m_fail (fun r6 s5 => post r6 s5) s1 2))) ∧ ((r2 = 0) → wp_m_fail (fun r8 s7 => post r8 s7) s1 1))) (vG 0 0 σ) a1 1 8
set_option maxHeartbeats 4000000 in
set_option maxRecDepth 100000 in
theorem c_m_feed (l : Launch) (D : va_G) (ca : Nat → ClassId) (ad : Nat → Nat → Nat) (σ : Sm) (a0 : Int64) (a1 : Int32) (sz : Nat) (post : Int32 → Sm → Prop) (hw : wp_m_feed post σ a0 a1) : Met l yM_feed wsM_feed ({ frames := 1, cells := 0, slots := 0, locals := 22 }) (va_Pc [.ref (ad 0 0), .long a0, .int a1] (preM D ca ad σ sz)) (va_Qi post (atM D ca ad (va_A (wM ca ad σ) sz)) (va_A (wM ca ad σ) sz)) 0 0 (va_A (wM ca ad σ) sz) := by
  refine Met.ofW (cc := cM_feed) (maxL := 5) (ret := (some .int)) (by decide) rfl ?_
  intro p e s m args below meth c s₁ B hml hv
  obtain ⟨rfl, hsz, hP, hK, hD0, hE⟩ := hv
  have hx := B.exec
  have hb := B.bytes
  have hr := B.returns
  have hts : ∀ w ∈ tbG, w.before _ s = true := fun w h => atoms_spec (ws := wsM_feed) B.pre w (List.mem_cons_of_mem _ h)
  have hown : s.vm.findClass RM = some m.cls := findClass_of_methodNamed B.named
  have hlocks := B.notSynchronized
  subst hsz
  have hD := hD0.self (sz := s.heap.size)
  generalize hAe : va_A (wM ca ad σ) s.heap.size = A at hD hE ⊢
  have hA : ∀ q : Nat, s.heap.size ≤ q → A q := fun q h => by rw [← hAe]; exact Or.inr h
  clear hAe
  have hS : va_S A s.heap s.heap [] := va_S.rf
  have hl := lv_entry ([.ref (ad 0 0), .long a0, .int a1]) (n := 5) (Nat.le_of_ble_eq_true rfl)
  rw [lg_entry_eq]
  generalize (lg_sl ([.ref (ad 0 0), .long a0, .int a1]) ++ List.replicate (5 - (lg_sl ([.ref (ad 0 0), .long a0, .int a1])).length) Slot.unset).toArray = ls at hl ⊢
  have hl : lv_has ls 5 [(0, .ref (ad 0 0)), (1, .long a0), (3, .int a1)] := hl
  unfold wp_m_feed at hw
  have hP : va_P D clX (wM ca ad σ) s.heap := hP
  refine lv_aload_n hx hb dM_feed_0 rfl (lv_at hl 0 rfl) ?_
  refine lv_iconst (v := 0) hx hb dM_feed_1 (by decide) ?_
  refine va_put (D := D) (ci := 5) (v := .int 0) (ty := .int) (C := RM) (T := TM) (N := 26) hx hb hts inM tyM tyM_ok nmM hown hK hP hD hS 0 gM_0 rfl 0 (by decide) (hts _ tw_591) (fun _ h9 => h9) rfl (by decide +kernel) rfl rfl (Nat.le_of_ble_eq_true rfl) dM_feed_2 (fun H locs hP hD hS => ?_)
  rw [sM_0_0] at hP hD
  refine lv_iload_n hx hb dM_feed_5 rfl (lv_at hl 2 rfl) ?_
  refine lv_iconst (v := 1) hx hb dM_feed_6 (by decide) ?_
  refine lv_bipush (v := 8) hx hb dM_feed_7 (by decide) ?_
  have hFc := px_free hD hS hA
  refine va_calli (va_runS (As := [.int a1, .int 1, .int 8]) (rest := []) ⟨hx, hb, hml, hown, hts⟩ (c_m_within l D ca ad (vG 0 0 σ) a1 1 8 _ _ hw) (va_cwS 3 hts (gS tw_679 tw_680 tw_7 tw_681) rfl rfl rfl (by decide +kernel) ⟨Nat.le_of_ble_eq_true rfl, Nat.le_of_ble_eq_true rfl⟩) ⟨pm_blind, fun U hU hW => pm_pre hP hK hD hE hS hFc hU hW⟩ rfl rfl hl.1 rfl (lv_room (Nat.le_of_ble_eq_true rfl)) dM_feed_9 ⟨Nat.le_of_ble_eq_true rfl, Nat.le_of_ble_eq_true rfl⟩) hS (fun q _ h => hFc q h) hFc (fun r2 s1 t H locs ht hvm hw hB _ _ hS => ?_)
  obtain ⟨hP, -, hD⟩ := hB
  rw [ht] at hP
  have hD := hD.weaken (fun _ _ _ h9 => hFc _ h9)
  refine lv_if_ne (tgt := 21) hx hb dM_feed_12 (by decide) (fun c3 => ?_) (fun c3 => ?_)
  · have hw := hw.1 c3
    refine lv_aload_n hx hb dM_feed_21 rfl (lv_at hl 0 rfl) ?_
    refine va_get (D := D) (ci := 5) (v := .int (mG s1 6)) (C := RM) (T := TM) (N := 26) hx hb hts inM hown hK hP 0 gM_0 rfl 6 (by decide) (hts _ tw_597) (fun _ h9 => h9) rfl dM_feed_22 ?_
    refine lv_iload_n hx hb dM_feed_25 rfl (lv_at hl 2 rfl) ?_
    refine lv_iadd hx hb dM_feed_26 ?_
    refine lv_sipush (v := 240) hx hb dM_feed_27 (by decide) ?_
    refine lv_icmp_le (tgt := 39) hx hb dM_feed_30 (by decide) (fun c4 => ?_) (fun c4 => ?_)
    · have hw := hw.1 c4
      refine lv_iconst (v := 0) hx hb dM_feed_39 (by decide) ?_
      refine lv_istore (lv' := [(4, .int 0), (0, .ref (ad 0 0)), (1, .long a0), (3, .int a1)]) hx hb dM_feed_40 hl (by decide) rfl (fun ls hl => ?_)
      obtain ⟨n, hw⟩ := hw
      exact l_m_feed_L42 (D := D) (ca := ca) (ad := ad)  hx hb hr hml hts hown hlocks hA hK hE n s1 a0 a1 0 hw _ _ hP hD hS ls (lv_sub hl [1, 2, 3, 0] rfl)
    · have hw := hw.2 c4
      refine lv_aload_n hx hb dM_feed_33 rfl (lv_at hl 0 rfl) ?_
      refine lv_iconst (v := 2) hx hb dM_feed_34 (by decide) ?_
      have hFc := px_free hD hS hA
      refine va_calli (va_runV (As := [.int 2]) (rest := []) ⟨hx, hb, hml, hown, hts⟩ (c_m_fail l D ca ad s1 2 _ _ hw) (cwV 1 hts (gV tw_682 tw_684 tp_18 tw_7 tw_685) rfl rfl rfl (by decide +kernel) ⟨Nat.le_of_ble_eq_true rfl, Nat.le_of_ble_eq_true rfl⟩) ⟨pm_blind, (px_recv hK hP gM_0 rfl), fun U hU hW => pm_pre hP hK hD hE hS hFc hU hW⟩ rfl rfl hl.1 rfl (lv_room (Nat.le_of_ble_eq_true rfl)) dM_feed_35 ⟨Nat.le_of_ble_eq_true rfl, Nat.le_of_ble_eq_true rfl⟩) hS (fun q _ h => hFc q h) hFc (fun r6 s5 t H locs ht hvm hw hB _ _ hS => ?_)
      obtain ⟨hP, -, hD⟩ := hB
      rw [ht] at hP
      have hD := hD.weaken (fun _ _ _ h9 => hFc _ h9)
      exact W.iret (v := r6) hx hb hr (fun t ht hW => ⟨⟨r6, s5, rfl, hw, by rw [ht]; exact hP, va_K.moved hW.alike hK, hD⟩, hS.F ht⟩) hS.2.2 dM_feed_38
  · have hw := hw.2 c3
    refine lv_aload_n hx hb dM_feed_15 rfl (lv_at hl 0 rfl) ?_
    refine lv_iconst (v := 1) hx hb dM_feed_16 (by decide) ?_
    have hFc := px_free hD hS hA
    refine va_calli (va_runV (As := [.int 1]) (rest := []) ⟨hx, hb, hml, hown, hts⟩ (c_m_fail l D ca ad s1 1 _ _ hw) (cwV 1 hts (gV tw_682 tw_684 tp_18 tw_7 tw_685) rfl rfl rfl (by decide +kernel) ⟨Nat.le_of_ble_eq_true rfl, Nat.le_of_ble_eq_true rfl⟩) ⟨pm_blind, (px_recv hK hP gM_0 rfl), fun U hU hW => pm_pre hP hK hD hE hS hFc hU hW⟩ rfl rfl hl.1 rfl (lv_room (Nat.le_of_ble_eq_true rfl)) dM_feed_17 ⟨Nat.le_of_ble_eq_true rfl, Nat.le_of_ble_eq_true rfl⟩) hS (fun q _ h => hFc q h) hFc (fun r8 s7 t H locs ht hvm hw hB _ _ hS => ?_)
    obtain ⟨hP, -, hD⟩ := hB
    rw [ht] at hP
    have hD := hD.weaken (fun _ _ _ h9 => hFc _ h9)
    exact W.iret (v := r8) hx hb hr (fun t ht hW => ⟨⟨r8, s7, rfl, hw, by rw [ht]; exact hP, va_K.moved hW.alike hK, hD⟩, hS.F ht⟩) hS.2.2 dM_feed_20
theorem dM_ask_0 : decode cM_ask 0 = .ok (.aload_n 0, 1) := by decide +kernel
theorem dM_ask_1 : decode cM_ask 1 = .ok (.iconst 0, 1) := by decide +kernel
theorem dM_ask_2 : decode cM_ask 2 = .ok (.putfield 68, 3) := by decide +kernel
theorem dM_ask_5 : decode cM_ask 5 = .ok (.aload_n 0, 1) := by decide +kernel
theorem dM_ask_6 : decode cM_ask 6 = .ok (.getfield 80, 3) := by decide +kernel
theorem dM_ask_9 : decode cM_ask 9 = .ok (.istore 5, 2) := by decide +kernel
theorem dM_ask_11 : decode cM_ask 11 = .ok (.aload_n 0, 1) := by decide +kernel
theorem dM_ask_12 : decode cM_ask 12 = .ok (.iconst 0, 1) := by decide +kernel
theorem dM_ask_13 : decode cM_ask 13 = .ok (.putfield 80, 3) := by decide +kernel
theorem dM_ask_16 : decode cM_ask 16 = .ok (.iload_n 1, 1) := by decide +kernel
theorem dM_ask_17 : decode cM_ask 17 = .ok (.invokestatic 115, 3) := by decide +kernel
theorem dM_ask_20 : decode cM_ask 20 = .ok (.ifCond .ne 9, 3) := by decide +kernel
theorem dM_ask_23 : decode cM_ask 23 = .ok (.aload_n 0, 1) := by decide +kernel
theorem dM_ask_24 : decode cM_ask 24 = .ok (.iconst 1, 1) := by decide +kernel
theorem dM_ask_25 : decode cM_ask 25 = .ok (.invokevirtual 76, 3) := by decide +kernel
theorem dM_ask_28 : decode cM_ask 28 = .ok (.ireturn, 1) := by decide +kernel
theorem dM_ask_29 : decode cM_ask 29 = .ok (.iload_n 2, 1) := by decide +kernel
theorem dM_ask_30 : decode cM_ask 30 = .ok (.iload_n 3, 1) := by decide +kernel
theorem dM_ask_31 : decode cM_ask 31 = .ok (.iload 4, 2) := by decide +kernel
theorem dM_ask_33 : decode cM_ask 33 = .ok (.iload 5, 2) := by decide +kernel
theorem dM_ask_35 : decode cM_ask 35 = .ok (.invokestatic 119, 3) := by decide +kernel
theorem dM_ask_38 : decode cM_ask 38 = .ok (.ifCond .ne 9, 3) := by decide +kernel
theorem dM_ask_41 : decode cM_ask 41 = .ok (.aload_n 0, 1) := by decide +kernel
theorem dM_ask_42 : decode cM_ask 42 = .ok (.iconst 2, 1) := by decide +kernel
theorem dM_ask_43 : decode cM_ask 43 = .ok (.invokevirtual 76, 3) := by decide +kernel
theorem dM_ask_46 : decode cM_ask 46 = .ok (.ireturn, 1) := by decide +kernel
theorem dM_ask_47 : decode cM_ask 47 = .ok (.aload_n 0, 1) := by decide +kernel
theorem dM_ask_48 : decode cM_ask 48 = .ok (.getfield 13, 3) := by decide +kernel
theorem dM_ask_51 : decode cM_ask 51 = .ok (.iload_n 1, 1) := by decide +kernel
theorem dM_ask_52 : decode cM_ask 52 = .ok (.baload, 1) := by decide +kernel
theorem dM_ask_53 : decode cM_ask 53 = .ok (.ifCond .ne 13, 3) := by decide +kernel
theorem dM_ask_56 : decode cM_ask 56 = .ok (.aload_n 0, 1) := by decide +kernel
theorem dM_ask_57 : decode cM_ask 57 = .ok (.getfield 123, 3) := by decide +kernel
theorem dM_ask_60 : decode cM_ask 60 = .ok (.sipush 1024, 3) := by decide +kernel
theorem dM_ask_63 : decode cM_ask 63 = .ok (.if_icmp .ne 9, 3) := by decide +kernel
theorem dM_ask_66 : decode cM_ask 66 = .ok (.aload_n 0, 1) := by decide +kernel
theorem dM_ask_67 : decode cM_ask 67 = .ok (.iconst 3, 1) := by decide +kernel
theorem dM_ask_68 : decode cM_ask 68 = .ok (.invokevirtual 76, 3) := by decide +kernel
theorem dM_ask_71 : decode cM_ask 71 = .ok (.ireturn, 1) := by decide +kernel
theorem dM_ask_72 : decode cM_ask 72 = .ok (.bipush 6, 2) := by decide +kernel
theorem dM_ask_74 : decode cM_ask 74 = .ok (.aload_n 0, 1) := by decide +kernel
theorem dM_ask_75 : decode cM_ask 75 = .ok (.getfield 123, 3) := by decide +kernel
theorem dM_ask_78 : decode cM_ask 78 = .ok (.imul, 1) := by decide +kernel
theorem dM_ask_79 : decode cM_ask 79 = .ok (.istore 6, 2) := by decide +kernel
theorem dM_ask_81 : decode cM_ask 81 = .ok (.aload_n 0, 1) := by decide +kernel
theorem dM_ask_82 : decode cM_ask 82 = .ok (.getfield 65, 3) := by decide +kernel
theorem dM_ask_85 : decode cM_ask 85 = .ok (.iload 6, 2) := by decide +kernel
theorem dM_ask_87 : decode cM_ask 87 = .ok (.iload_n 1, 1) := by decide +kernel
theorem dM_ask_88 : decode cM_ask 88 = .ok (.iastore, 1) := by decide +kernel
theorem dM_ask_89 : decode cM_ask 89 = .ok (.aload_n 0, 1) := by decide +kernel
theorem dM_ask_90 : decode cM_ask 90 = .ok (.getfield 65, 3) := by decide +kernel
theorem dM_ask_93 : decode cM_ask 93 = .ok (.iload 6, 2) := by decide +kernel
theorem dM_ask_95 : decode cM_ask 95 = .ok (.iconst 1, 1) := by decide +kernel
theorem dM_ask_96 : decode cM_ask 96 = .ok (.iadd, 1) := by decide +kernel
theorem dM_ask_97 : decode cM_ask 97 = .ok (.iload_n 2, 1) := by decide +kernel
theorem dM_ask_98 : decode cM_ask 98 = .ok (.iastore, 1) := by decide +kernel
theorem dM_ask_99 : decode cM_ask 99 = .ok (.aload_n 0, 1) := by decide +kernel
theorem dM_ask_100 : decode cM_ask 100 = .ok (.getfield 65, 3) := by decide +kernel
theorem dM_ask_103 : decode cM_ask 103 = .ok (.iload 6, 2) := by decide +kernel
theorem dM_ask_105 : decode cM_ask 105 = .ok (.iconst 2, 1) := by decide +kernel
theorem dM_ask_106 : decode cM_ask 106 = .ok (.iadd, 1) := by decide +kernel
theorem dM_ask_107 : decode cM_ask 107 = .ok (.aload_n 0, 1) := by decide +kernel
theorem dM_ask_108 : decode cM_ask 108 = .ok (.getfield 91, 3) := by decide +kernel
theorem dM_ask_111 : decode cM_ask 111 = .ok (.iastore, 1) := by decide +kernel
theorem dM_ask_112 : decode cM_ask 112 = .ok (.aload_n 0, 1) := by decide +kernel
theorem dM_ask_113 : decode cM_ask 113 = .ok (.getfield 65, 3) := by decide +kernel
theorem dM_ask_116 : decode cM_ask 116 = .ok (.iload 6, 2) := by decide +kernel
theorem dM_ask_118 : decode cM_ask 118 = .ok (.iconst 3, 1) := by decide +kernel
theorem dM_ask_119 : decode cM_ask 119 = .ok (.iadd, 1) := by decide +kernel
theorem dM_ask_120 : decode cM_ask 120 = .ok (.iconst (-1), 1) := by decide +kernel
theorem dM_ask_121 : decode cM_ask 121 = .ok (.iastore, 1) := by decide +kernel
theorem dM_ask_122 : decode cM_ask 122 = .ok (.aload_n 0, 1) := by decide +kernel
theorem dM_ask_123 : decode cM_ask 123 = .ok (.getfield 65, 3) := by decide +kernel
theorem dM_ask_126 : decode cM_ask 126 = .ok (.iload 6, 2) := by decide +kernel
theorem dM_ask_128 : decode cM_ask 128 = .ok (.iconst 4, 1) := by decide +kernel
theorem dM_ask_129 : decode cM_ask 129 = .ok (.iadd, 1) := by decide +kernel
theorem dM_ask_130 : decode cM_ask 130 = .ok (.iconst 0, 1) := by decide +kernel
theorem dM_ask_131 : decode cM_ask 131 = .ok (.iastore, 1) := by decide +kernel
theorem dM_ask_132 : decode cM_ask 132 = .ok (.aload_n 0, 1) := by decide +kernel
theorem dM_ask_133 : decode cM_ask 133 = .ok (.getfield 65, 3) := by decide +kernel
theorem dM_ask_136 : decode cM_ask 136 = .ok (.iload 6, 2) := by decide +kernel
theorem dM_ask_138 : decode cM_ask 138 = .ok (.iconst 5, 1) := by decide +kernel
theorem dM_ask_139 : decode cM_ask 139 = .ok (.iadd, 1) := by decide +kernel
theorem dM_ask_140 : decode cM_ask 140 = .ok (.iconst (-1), 1) := by decide +kernel
theorem dM_ask_141 : decode cM_ask 141 = .ok (.iastore, 1) := by decide +kernel
theorem dM_ask_142 : decode cM_ask 142 = .ok (.aload_n 0, 1) := by decide +kernel
theorem dM_ask_143 : decode cM_ask 143 = .ok (.dup, 1) := by decide +kernel
theorem dM_ask_144 : decode cM_ask 144 = .ok (.getfield 91, 3) := by decide +kernel
theorem dM_ask_147 : decode cM_ask 147 = .ok (.iconst 1, 1) := by decide +kernel
theorem dM_ask_148 : decode cM_ask 148 = .ok (.iadd, 1) := by decide +kernel
theorem dM_ask_149 : decode cM_ask 149 = .ok (.putfield 91, 3) := by decide +kernel
theorem dM_ask_152 : decode cM_ask 152 = .ok (.aload_n 0, 1) := by decide +kernel
theorem dM_ask_153 : decode cM_ask 153 = .ok (.getfield 38, 3) := by decide +kernel
theorem dM_ask_156 : decode cM_ask 156 = .ok (.iload_n 1, 1) := by decide +kernel
theorem dM_ask_157 : decode cM_ask 157 = .ok (.aload_n 0, 1) := by decide +kernel
theorem dM_ask_158 : decode cM_ask 158 = .ok (.getfield 123, 3) := by decide +kernel
theorem dM_ask_161 : decode cM_ask 161 = .ok (.iastore, 1) := by decide +kernel
theorem dM_ask_162 : decode cM_ask 162 = .ok (.aload_n 0, 1) := by decide +kernel
theorem dM_ask_163 : decode cM_ask 163 = .ok (.dup, 1) := by decide +kernel
theorem dM_ask_164 : decode cM_ask 164 = .ok (.getfield 123, 3) := by decide +kernel
theorem dM_ask_167 : decode cM_ask 167 = .ok (.iconst 1, 1) := by decide +kernel
theorem dM_ask_168 : decode cM_ask 168 = .ok (.iadd, 1) := by decide +kernel
theorem dM_ask_169 : decode cM_ask 169 = .ok (.putfield 123, 3) := by decide +kernel
theorem dM_ask_172 : decode cM_ask 172 = .ok (.iconst 0, 1) := by decide +kernel
theorem dM_ask_173 : decode cM_ask 173 = .ok (.istore 7, 2) := by decide +kernel
theorem dM_ask_175 : decode cM_ask 175 = .ok (.iload 7, 2) := by decide +kernel
theorem dM_ask_177 : decode cM_ask 177 = .ok (.iload 5, 2) := by decide +kernel
theorem dM_ask_179 : decode cM_ask 179 = .ok (.if_icmp .ge 29, 3) := by decide +kernel
theorem dM_ask_182 : decode cM_ask 182 = .ok (.aload_n 0, 1) := by decide +kernel
theorem dM_ask_183 : decode cM_ask 183 = .ok (.getfield 53, 3) := by decide +kernel
theorem dM_ask_186 : decode cM_ask 186 = .ok (.sipush 240, 3) := by decide +kernel
theorem dM_ask_189 : decode cM_ask 189 = .ok (.iload_n 1, 1) := by decide +kernel
theorem dM_ask_190 : decode cM_ask 190 = .ok (.imul, 1) := by decide +kernel
theorem dM_ask_191 : decode cM_ask 191 = .ok (.iload 7, 2) := by decide +kernel
theorem dM_ask_193 : decode cM_ask 193 = .ok (.iadd, 1) := by decide +kernel
theorem dM_ask_194 : decode cM_ask 194 = .ok (.aload_n 0, 1) := by decide +kernel
theorem dM_ask_195 : decode cM_ask 195 = .ok (.getfield 7, 3) := by decide +kernel
theorem dM_ask_198 : decode cM_ask 198 = .ok (.iload 7, 2) := by decide +kernel
theorem dM_ask_200 : decode cM_ask 200 = .ok (.iaload, 1) := by decide +kernel
theorem dM_ask_201 : decode cM_ask 201 = .ok (.iastore, 1) := by decide +kernel
theorem dM_ask_202 : decode cM_ask 202 = .ok (.iinc 7 1, 3) := by decide +kernel
theorem dM_ask_205 : decode cM_ask 205 = .ok (.goto (-30), 3) := by decide +kernel
theorem dM_ask_208 : decode cM_ask 208 = .ok (.aload_n 0, 1) := by decide +kernel
theorem dM_ask_209 : decode cM_ask 209 = .ok (.getfield 50, 3) := by decide +kernel
theorem dM_ask_212 : decode cM_ask 212 = .ok (.iload_n 1, 1) := by decide +kernel
theorem dM_ask_213 : decode cM_ask 213 = .ok (.iload 5, 2) := by decide +kernel
theorem dM_ask_215 : decode cM_ask 215 = .ok (.iastore, 1) := by decide +kernel
theorem dM_ask_216 : decode cM_ask 216 = .ok (.aload_n 0, 1) := by decide +kernel
theorem dM_ask_217 : decode cM_ask 217 = .ok (.getfield 35, 3) := by decide +kernel
theorem dM_ask_220 : decode cM_ask 220 = .ok (.iload_n 1, 1) := by decide +kernel
theorem dM_ask_221 : decode cM_ask 221 = .ok (.iload_n 2, 1) := by decide +kernel
theorem dM_ask_222 : decode cM_ask 222 = .ok (.iastore, 1) := by decide +kernel
theorem dM_ask_223 : decode cM_ask 223 = .ok (.aload_n 0, 1) := by decide +kernel
theorem dM_ask_224 : decode cM_ask 224 = .ok (.getfield 13, 3) := by decide +kernel
theorem dM_ask_227 : decode cM_ask 227 = .ok (.iload_n 1, 1) := by decide +kernel
theorem dM_ask_228 : decode cM_ask 228 = .ok (.iconst 1, 1) := by decide +kernel
theorem dM_ask_229 : decode cM_ask 229 = .ok (.bastore, 1) := by decide +kernel
theorem dM_ask_230 : decode cM_ask 230 = .ok (.aload_n 0, 1) := by decide +kernel
theorem dM_ask_231 : decode cM_ask 231 = .ok (.getfield 29, 3) := by decide +kernel
theorem dM_ask_234 : decode cM_ask 234 = .ok (.iload_n 1, 1) := by decide +kernel
theorem dM_ask_235 : decode cM_ask 235 = .ok (.iconst 0, 1) := by decide +kernel
theorem dM_ask_236 : decode cM_ask 236 = .ok (.iastore, 1) := by decide +kernel
theorem dM_ask_237 : decode cM_ask 237 = .ok (.aload_n 0, 1) := by decide +kernel
theorem dM_ask_238 : decode cM_ask 238 = .ok (.iload_n 1, 1) := by decide +kernel
theorem dM_ask_239 : decode cM_ask 239 = .ok (.invokevirtual 126, 3) := by decide +kernel
theorem dM_ask_242 : decode cM_ask 242 = .ok (.aload_n 0, 1) := by decide +kernel
theorem dM_ask_243 : decode cM_ask 243 = .ok (.getfield 123, 3) := by decide +kernel
theorem dM_ask_246 : decode cM_ask 246 = .ok (.iconst 1, 1) := by decide +kernel
theorem dM_ask_247 : decode cM_ask 247 = .ok (.isub, 1) := by decide +kernel
theorem dM_ask_248 : decode cM_ask 248 = .ok (.ireturn, 1) := by decide +kernel
def wpl_m_ask_L175 : Nat → (Int32 → Sm → Prop) → Sm → Int32 → Int32 → Int32 → Int32 → Int32 → Int32 → Int32 → Prop
  | 0, _, _, _, _, _, _, _, _, _ => False
  | n + 1, post, σ, x1, x2, x3, x4, x5, x6, x7 => (((x5 ≤ x7) → (vp_in x1 8 ∧ wp_m_begin (fun s30 => post ((mG s30 5) - 1) s30) (vA 6 (upd (mA σ 6) (x1).toNatClampNeg 0) (vA 1 (upd (mA σ 1) (x1).toNatClampNeg (vp_nar .boolean 1)) (vA 8 (upd (mA σ 8) (x1).toNatClampNeg x2) (vA 13 (upd (mA σ 13) (x1).toNatClampNeg x5) σ)))) x1)) ∧ (¬ (x5 ≤ x7) → (vp_in x7 240 ∧ (vp_in ((240 * x1) + x7) 1920 ∧ wpl_m_ask_L175 n post (vA 14 (upd (mA σ 14) ((240 * x1) + x7).toNatClampNeg ((mA σ 0) (x7).toNatClampNeg)) σ) x1 x2 x3 x4 x5 x6 (x7 + 1)))))
set_option maxHeartbeats 4000000 in
set_option maxRecDepth 100000 in
theorem l_m_ask_L175 {p : Program} {l : Launch} {e : Env} {s : State} {m : MethodId} {args : Array Value} {below : List Frame} {meth : Method} {c : Code} {D : va_G} {ca : Nat → ClassId} {ad : Nat → Nat → Nat} {A : Nat → Prop}  {post : Int32 → Sm → Prop} (hx : p.tables.exec = Jvm.exec) (hb : c.code = cM_ask) (hr : meth.sig.returnType = (some .int)) (hml : c.maxLocals = 8) (hts : ∀ w ∈ tbG, w.before args s = true) (hown : s.vm.findClass RM = some m.cls) (hlocks : meth.locks = false) (hA : ∀ q : Nat, s.heap.size ≤ q → A q) (hK : va_K D clX (tyM9 ca) s) (hE : eM A s) : ∀ (n : Nat) (σ : Sm) (x1 : Int32) (x2 : Int32) (x3 : Int32) (x4 : Int32) (x5 : Int32) (x6 : Int32) (x7 : Int32), wpl_m_ask_L175 n post σ x1 x2 x3 x4 x5 x6 x7 → ∀ (H : Heap) (locs : List Loc), va_P D clX (wM ca ad σ) H → va_D A (wM ca ad σ) → va_S A s.heap H locs → ∀ ls : Array Slot, lv_has ls 8 [(0, .ref (ad 0 0)), (1, .int x1), (2, .int x2), (3, .int x3), (4, .int x4), (5, .int x5), (6, .int x6), (7, .int x7)] → W p l e (headSpec wsM_ask ({ frames := 5, cells := 0, slots := 0, locals := 110 })).room s m args below meth c H locs 0 0 (MQ below (va_Qi post (atM D ca ad A) A) args s 0 0 A) (F0 m 175 ls []) := by
  intro n
  induction n with
  | zero => intro σ x1 x2 x3 x4 x5 x6 x7 hw; exact hw.elim
  | succ n ih =>
    intro σ x1 x2 x3 x4 x5 x6 x7 hw H locs hP hD hS ls hl
    refine lv_iload hx hb dM_ask_175 (lv_at hl 7 rfl) ?_
    refine lv_iload hx hb dM_ask_177 (lv_at hl 5 rfl) ?_
    refine lv_icmp_ge (tgt := 208) hx hb dM_ask_179 (by decide) (fun c25 => ?_) (fun c25 => ?_)
    · have hw := hw.1 c25
      refine lv_aload_n hx hb dM_ask_208 rfl (lv_at hl 0 rfl) ?_
      refine va_get (D := D) (ci := 5) (v := .ref (ad 14 0)) (C := RM) (T := TM) (N := 26) hx hb hts inM hown hK hP 0 gM_0 rfl 20 (by decide) (hts _ tw_611) (fun _ h9 => h9) rfl dM_ask_209 ?_
      refine lv_iload_n hx hb dM_ask_212 rfl (lv_at hl 1 rfl) ?_
      refine lv_iload hx hb dM_ask_213 (lv_at hl 5 rfl) ?_
      obtain ⟨hin26, hw⟩ := hw
      refine va_iast hx hb hK hP hD hS 14 0 gM_14 rfl hin26 dM_ask_215 (fun H locs hP hD hS => ?_)
      rw [sM_14] at hP hD
      refine lv_aload_n hx hb dM_ask_216 rfl (lv_at hl 0 rfl) ?_
      refine va_get (D := D) (ci := 5) (v := .ref (ad 9 0)) (C := RM) (T := TM) (N := 26) hx hb hts inM hown hK hP 0 gM_0 rfl 15 (by decide) (hts _ tw_606) (fun _ h9 => h9) rfl dM_ask_217 ?_
      refine lv_iload_n hx hb dM_ask_220 rfl (lv_at hl 1 rfl) ?_
      refine lv_iload_n hx hb dM_ask_221 rfl (lv_at hl 2 rfl) ?_
      refine va_iast hx hb hK hP hD hS 9 0 gM_9 rfl hin26 dM_ask_222 (fun H locs hP hD hS => ?_)
      rw [sM_9] at hP hD
      refine lv_aload_n hx hb dM_ask_223 rfl (lv_at hl 0 rfl) ?_
      refine va_get (D := D) (ci := 5) (v := .ref (ad 2 0)) (C := RM) (T := TM) (N := 26) hx hb hts inM hown hK hP 0 gM_0 rfl 8 (by decide) (hts _ tw_599) (fun _ h9 => h9) rfl dM_ask_224 ?_
      refine lv_iload_n hx hb dM_ask_227 rfl (lv_at hl 1 rfl) ?_
      refine lv_iconst (v := 1) hx hb dM_ask_228 (by decide) ?_
      refine va_zast hx hb hK hP hD hS 2 1 gM_2 rfl hin26 dM_ask_229 (fun H locs hP hD hS => ?_)
      rw [sM_2] at hP hD
      refine lv_aload_n hx hb dM_ask_230 rfl (lv_at hl 0 rfl) ?_
      refine va_get (D := D) (ci := 5) (v := .ref (ad 7 0)) (C := RM) (T := TM) (N := 26) hx hb hts inM hown hK hP 0 gM_0 rfl 13 (by decide) (hts _ tw_604) (fun _ h9 => h9) rfl dM_ask_231 ?_
      refine lv_iload_n hx hb dM_ask_234 rfl (lv_at hl 1 rfl) ?_
      refine lv_iconst (v := 0) hx hb dM_ask_235 (by decide) ?_
      refine va_iast hx hb hK hP hD hS 7 0 gM_7 rfl hin26 dM_ask_236 (fun H locs hP hD hS => ?_)
      rw [sM_7] at hP hD
      refine lv_aload_n hx hb dM_ask_237 rfl (lv_at hl 0 rfl) ?_
      refine lv_iload_n hx hb dM_ask_238 rfl (lv_at hl 1 rfl) ?_
      have hFc := px_free hD hS hA
      refine va_callv (va_runV (As := [.int x1]) (rest := []) ⟨hx, hb, hml, hown, hts⟩ (c_m_begin l D ca ad (vA 6 (upd (mA σ 6) (x1).toNatClampNeg 0) (vA 1 (upd (mA σ 1) (x1).toNatClampNeg (vp_nar .boolean 1)) (vA 8 (upd (mA σ 8) (x1).toNatClampNeg x2) (vA 13 (upd (mA σ 13) (x1).toNatClampNeg x5) σ)))) x1 _ _ hw) (cwV 1 hts (gV tw_697 tw_699 tp_19 tw_7 tw_700) rfl rfl rfl (by decide +kernel) ⟨Nat.le_of_ble_eq_true rfl, Nat.le_of_ble_eq_true rfl⟩) ⟨pm_blind, (px_recv hK hP gM_0 rfl), fun U hU hW => pm_pre hP hK hD hE hS hFc hU hW⟩ rfl rfl hl.1 rfl (lv_room (Nat.le_of_ble_eq_true rfl)) dM_ask_239 ⟨Nat.le_of_ble_eq_true rfl, Nat.le_of_ble_eq_true rfl⟩) hS (fun q _ h => hFc q h) hFc (fun s30 t H locs ht hvm hw hB _ _ hS => ?_)
      obtain ⟨hP, -, hD⟩ := hB
      rw [ht] at hP
      have hD := hD.weaken (fun _ _ _ h9 => hFc _ h9)
      refine lv_aload_n hx hb dM_ask_242 rfl (lv_at hl 0 rfl) ?_
      refine va_get (D := D) (ci := 5) (v := .int (mG s30 5)) (C := RM) (T := TM) (N := 26) hx hb hts inM hown hK hP 0 gM_0 rfl 5 (by decide) (hts _ tw_596) (fun _ h9 => h9) rfl dM_ask_243 ?_
      refine lv_iconst (v := 1) hx hb dM_ask_246 (by decide) ?_
      refine lv_isub hx hb dM_ask_247 ?_
      exact W.iret (v := ((mG s30 5) - 1)) hx hb hr (fun t ht hW => ⟨⟨((mG s30 5) - 1), s30, rfl, hw, by rw [ht]; exact hP, va_K.moved hW.alike hK, hD⟩, hS.F ht⟩) hS.2.2 dM_ask_248
    · have hw := hw.2 c25
      refine lv_aload_n hx hb dM_ask_182 rfl (lv_at hl 0 rfl) ?_
      refine va_get (D := D) (ci := 5) (v := .ref (ad 15 0)) (C := RM) (T := TM) (N := 26) hx hb hts inM hown hK hP 0 gM_0 rfl 21 (by decide) (hts _ tw_612) (fun _ h9 => h9) rfl dM_ask_183 ?_
      refine lv_sipush (v := 240) hx hb dM_ask_186 (by decide) ?_
      refine lv_iload_n hx hb dM_ask_189 rfl (lv_at hl 1 rfl) ?_
      refine lv_imul hx hb dM_ask_190 ?_
      refine lv_iload hx hb dM_ask_191 (lv_at hl 7 rfl) ?_
      refine lv_iadd hx hb dM_ask_193 ?_
      refine lv_aload_n hx hb dM_ask_194 rfl (lv_at hl 0 rfl) ?_
      refine va_get (D := D) (ci := 5) (v := .ref (ad 1 0)) (C := RM) (T := TM) (N := 26) hx hb hts inM hown hK hP 0 gM_0 rfl 7 (by decide) (hts _ tw_598) (fun _ h9 => h9) rfl dM_ask_195 ?_
      refine lv_iload hx hb dM_ask_198 (lv_at hl 7 rfl) ?_
      obtain ⟨hin32, hw⟩ := hw
      refine va_iald hx hb hK hP 1 0 gM_1 rfl hin32 dM_ask_200 ?_
      obtain ⟨hin33, hw⟩ := hw
      refine va_iast hx hb hK hP hD hS 15 0 gM_15 rfl hin33 dM_ask_201 (fun H locs hP hD hS => ?_)
      rw [sM_15] at hP hD
      refine lv_iinc (v := x7 + 1) (lv' := [(7, .int (x7 + 1)), (0, .ref (ad 0 0)), (1, .int x1), (2, .int x2), (3, .int x3), (4, .int x4), (5, .int x5), (6, .int x6)]) hx hb dM_ask_202 hl (k := 7) rfl rfl (by decide) rfl (fun ls hl => ?_)
      refine lv_goto (tgt := 175) hx hb dM_ask_205 (by decide) ?_
      exact ih (vA 14 (upd (mA σ 14) ((240 * x1) + x7).toNatClampNeg ((mA σ 0) (x7).toNatClampNeg)) σ) x1 x2 x3 x4 x5 x6 (x7 + 1) hw _ _ hP hD hS ls (lv_sub hl [1, 2, 3, 4, 5, 6, 7, 0] rfl)
def wp_m_ask (post : Int32 → Sm → Prop) (σ : Sm) (a0 : Int32) (a1 : Int32) (a2 : Int32) (a3 : Int32) : Prop := wp_m_isClient (fun r2 s1 => ((¬ (r2 = 0) → wp_m_fits (fun r5 s4 => ((¬ (r5 = 0) → (vp_in a0 8 ∧ ((¬ (((mA s4 1) (a0).toNatClampNeg) = 0) → wp_m_fail (fun r10 s9 => post r10 s9) s4 3) ∧ ((((mA s4 1) (a0).toNatClampNeg) = 0) → ((¬ ((mG s4 5) = 1024) → (vp_in (6 * (mG s4 5)) 6144 ∧ (vp_in ((6 * (mG s4 5)) + 1) 6144 ∧ (vp_in ((6 * (mG s4 5)) + 2) 6144 ∧ (vp_in ((6 * (mG s4 5)) + 3) 6144 ∧ (vp_in ((6 * (mG s4 5)) + 4) 6144 ∧ (vp_in ((6 * (mG s4 5)) + 5) 6144 ∧ (∃ n : Nat, wpl_m_ask_L175 n post (vG 5 ((mG s4 5) + 1) (vA 9 (upd (mA s4 9) (a0).toNatClampNeg (mG s4 5)) (vG 2 ((mG s4 2) + 1) (vA 18 (upd (upd (upd (upd (upd (upd (mA s4 18) (6 * (mG s4 5)).toNatClampNeg a0) ((6 * (mG s4 5)) + 1).toNatClampNeg a1) ((6 * (mG s4 5)) + 2).toNatClampNeg (mG s4 2)) ((6 * (mG s4 5)) + 3).toNatClampNeg (-1)) ((6 * (mG s4 5)) + 4).toNatClampNeg 0) ((6 * (mG s4 5)) + 5).toNatClampNeg (-1)) (vA 18 (upd (upd (upd (upd (upd (mA s4 18) (6 * (mG s4 5)).toNatClampNeg a0) ((6 * (mG s4 5)) + 1).toNatClampNeg a1) ((6 * (mG s4 5)) + 2).toNatClampNeg (mG s4 2)) ((6 * (mG s4 5)) + 3).toNatClampNeg (-1)) ((6 * (mG s4 5)) + 4).toNatClampNeg 0) (vA 18 (upd (upd (upd (upd (mA s4 18) (6 * (mG s4 5)).toNatClampNeg a0) ((6 * (mG s4 5)) + 1).toNatClampNeg a1) ((6 * (mG s4 5)) + 2).toNatClampNeg (mG s4 2)) ((6 * (mG s4 5)) + 3).toNatClampNeg (-1)) (vA 18 (upd (upd (upd (mA s4 18) (6 * (mG s4 5)).toNatClampNeg a0) ((6 * (mG s4 5)) + 1).toNatClampNeg a1) ((6 * (mG s4 5)) + 2).toNatClampNeg (mG s4 2)) (vA 18 (upd (upd (mA s4 18) (6 * (mG s4 5)).toNatClampNeg a0) ((6 * (mG s4 5)) + 1).toNatClampNeg a1) (vA 18 (upd (mA s4 18) (6 * (mG s4 5)).toNatClampNeg a0) s4))))))))) a0 a1 a2 a3 (mG σ 6) (6 * (mG s4 5)) 0)))))))) ∧ (((mG s4 5) = 1024) → wp_m_fail (fun r20 s19 => post r20 s19) s4 3)))))) ∧ ((r5 = 0) → wp_m_fail (fun r22 s21 => post r22 s21) s4 2))) s1 a1 a2 a3 (mG σ 6)) ∧ ((r2 = 0) → wp_m_fail (fun r24 s23 => post r24 s23) s1 1))) (vG 6 0 (vG 0 0 σ)) a0
set_option maxHeartbeats 4000000 in
set_option maxRecDepth 100000 in
theorem c_m_ask (l : Launch) (D : va_G) (ca : Nat → ClassId) (ad : Nat → Nat → Nat) (σ : Sm) (a0 : Int32) (a1 : Int32) (a2 : Int32) (a3 : Int32) (sz : Nat) (post : Int32 → Sm → Prop) (hw : wp_m_ask post σ a0 a1 a2 a3) : Met l yM_ask wsM_ask ({ frames := 5, cells := 0, slots := 0, locals := 110 }) (va_Pc [.ref (ad 0 0), .int a0, .int a1, .int a2, .int a3] (preM D ca ad σ sz)) (va_Qi post (atM D ca ad (va_A (wM ca ad σ) sz)) (va_A (wM ca ad σ) sz)) 0 0 (va_A (wM ca ad σ) sz) := by
  refine Met.ofW (cc := cM_ask) (maxL := 8) (ret := (some .int)) (by decide) rfl ?_
  intro p e s m args below meth c s₁ B hml hv
  obtain ⟨rfl, hsz, hP, hK, hD0, hE⟩ := hv
  have hx := B.exec
  have hb := B.bytes
  have hr := B.returns
  have hts : ∀ w ∈ tbG, w.before _ s = true := fun w h => atoms_spec (ws := wsM_ask) B.pre w (List.mem_cons_of_mem _ h)
  have hown : s.vm.findClass RM = some m.cls := findClass_of_methodNamed B.named
  have hlocks := B.notSynchronized
  subst hsz
  have hD := hD0.self (sz := s.heap.size)
  generalize hAe : va_A (wM ca ad σ) s.heap.size = A at hD hE ⊢
  have hA : ∀ q : Nat, s.heap.size ≤ q → A q := fun q h => by rw [← hAe]; exact Or.inr h
  clear hAe
  have hS : va_S A s.heap s.heap [] := va_S.rf
  have hl := lv_entry ([.ref (ad 0 0), .int a0, .int a1, .int a2, .int a3]) (n := 8) (Nat.le_of_ble_eq_true rfl)
  rw [lg_entry_eq]
  generalize (lg_sl ([.ref (ad 0 0), .int a0, .int a1, .int a2, .int a3]) ++ List.replicate (8 - (lg_sl ([.ref (ad 0 0), .int a0, .int a1, .int a2, .int a3])).length) Slot.unset).toArray = ls at hl ⊢
  have hl : lv_has ls 8 [(0, .ref (ad 0 0)), (1, .int a0), (2, .int a1), (3, .int a2), (4, .int a3)] := hl
  unfold wp_m_ask at hw
  have hP : va_P D clX (wM ca ad σ) s.heap := hP
  refine lv_aload_n hx hb dM_ask_0 rfl (lv_at hl 0 rfl) ?_
  refine lv_iconst (v := 0) hx hb dM_ask_1 (by decide) ?_
  refine va_put (D := D) (ci := 5) (v := .int 0) (ty := .int) (C := RM) (T := TM) (N := 26) hx hb hts inM tyM tyM_ok nmM hown hK hP hD hS 0 gM_0 rfl 0 (by decide) (hts _ tw_591) (fun _ h9 => h9) rfl (by decide +kernel) rfl rfl (Nat.le_of_ble_eq_true rfl) dM_ask_2 (fun H locs hP hD hS => ?_)
  rw [sM_0_0] at hP hD
  refine lv_aload_n hx hb dM_ask_5 rfl (lv_at hl 0 rfl) ?_
  refine va_get (D := D) (ci := 5) (v := .int (mG σ 6)) (C := RM) (T := TM) (N := 26) hx hb hts inM hown hK hP 0 gM_0 rfl 6 (by decide) (hts _ tw_597) (fun _ h9 => h9) rfl dM_ask_6 ?_
  refine lv_istore (lv' := [(5, .int (mG σ 6)), (0, .ref (ad 0 0)), (1, .int a0), (2, .int a1), (3, .int a2), (4, .int a3)]) hx hb dM_ask_9 hl (by decide) rfl (fun ls hl => ?_)
  refine lv_aload_n hx hb dM_ask_11 rfl (lv_at hl 1 rfl) ?_
  refine lv_iconst (v := 0) hx hb dM_ask_12 (by decide) ?_
  refine va_put (D := D) (ci := 5) (v := .int 0) (ty := .int) (C := RM) (T := TM) (N := 26) hx hb hts inM tyM tyM_ok nmM hown hK hP hD hS 0 gM_0 rfl 6 (by decide) (hts _ tw_597) (fun _ h9 => h9) rfl (by decide +kernel) rfl rfl (Nat.le_of_ble_eq_true rfl) dM_ask_13 (fun H locs hP hD hS => ?_)
  rw [sM_0_6] at hP hD
  refine lv_iload_n hx hb dM_ask_16 rfl (lv_at hl 2 rfl) ?_
  have hFc := px_free hD hS hA
  refine va_calli (va_runS (As := [.int a0]) (rest := []) ⟨hx, hb, hml, hown, hts⟩ (c_m_isClient l D ca ad (vG 6 0 (vG 0 0 σ)) a0 _ _ hw) (va_cwS 1 hts (gS tw_691 tw_692 tw_7 tw_693) rfl rfl rfl (by decide +kernel) ⟨Nat.le_of_ble_eq_true rfl, Nat.le_of_ble_eq_true rfl⟩) ⟨pm_blind, fun U hU hW => pm_pre hP hK hD hE hS hFc hU hW⟩ rfl rfl hl.1 rfl (lv_room (Nat.le_of_ble_eq_true rfl)) dM_ask_17 ⟨Nat.le_of_ble_eq_true rfl, Nat.le_of_ble_eq_true rfl⟩) hS (fun q _ h => hFc q h) hFc (fun r2 s1 t H locs ht hvm hw hB _ _ hS => ?_)
  obtain ⟨hP, -, hD⟩ := hB
  rw [ht] at hP
  have hD := hD.weaken (fun _ _ _ h9 => hFc _ h9)
  refine lv_if_ne (tgt := 29) hx hb dM_ask_20 (by decide) (fun c3 => ?_) (fun c3 => ?_)
  · have hw := hw.1 c3
    refine lv_iload_n hx hb dM_ask_29 rfl (lv_at hl 3 rfl) ?_
    refine lv_iload_n hx hb dM_ask_30 rfl (lv_at hl 4 rfl) ?_
    refine lv_iload hx hb dM_ask_31 (lv_at hl 5 rfl) ?_
    refine lv_iload hx hb dM_ask_33 (lv_at hl 0 rfl) ?_
    have hFc := px_free hD hS hA
    refine va_calli (va_runS (As := [.int a1, .int a2, .int a3, .int (mG σ 6)]) (rest := []) ⟨hx, hb, hml, hown, hts⟩ (c_m_fits l D ca ad s1 a1 a2 a3 (mG σ 6) _ _ hw) (va_cwS 4 hts (gS tw_694 tw_695 tw_7 tw_696) rfl rfl rfl (by decide +kernel) ⟨Nat.le_of_ble_eq_true rfl, Nat.le_of_ble_eq_true rfl⟩) ⟨pm_blind, fun U hU hW => pm_pre hP hK hD hE hS hFc hU hW⟩ rfl rfl hl.1 rfl (lv_room (Nat.le_of_ble_eq_true rfl)) dM_ask_35 ⟨Nat.le_of_ble_eq_true rfl, Nat.le_of_ble_eq_true rfl⟩) hS (fun q _ h => hFc q h) hFc (fun r5 s4 t H locs ht hvm hw hB _ _ hS => ?_)
    obtain ⟨hP, -, hD⟩ := hB
    rw [ht] at hP
    have hD := hD.weaken (fun _ _ _ h9 => hFc _ h9)
    refine lv_if_ne (tgt := 47) hx hb dM_ask_38 (by decide) (fun c6 => ?_) (fun c6 => ?_)
    · have hw := hw.1 c6
      refine lv_aload_n hx hb dM_ask_47 rfl (lv_at hl 1 rfl) ?_
      refine va_get (D := D) (ci := 5) (v := .ref (ad 2 0)) (C := RM) (T := TM) (N := 26) hx hb hts inM hown hK hP 0 gM_0 rfl 8 (by decide) (hts _ tw_599) (fun _ h9 => h9) rfl dM_ask_48 ?_
      refine lv_iload_n hx hb dM_ask_51 rfl (lv_at hl 2 rfl) ?_
      obtain ⟨hin7, hw⟩ := hw
      refine va_zald hx hb hK hP 2 1 gM_2 rfl hin7 dM_ask_52 ?_
      refine lv_if_ne (tgt := 66) hx hb dM_ask_53 (by decide) (fun c8 => ?_) (fun c8 => ?_)
      · have hw := hw.1 c8
        refine lv_aload_n hx hb dM_ask_66 rfl (lv_at hl 1 rfl) ?_
        refine lv_iconst (v := 3) hx hb dM_ask_67 (by decide) ?_
        have hFc := px_free hD hS hA
        refine va_calli (va_runV (As := [.int 3]) (rest := []) ⟨hx, hb, hml, hown, hts⟩ (c_m_fail l D ca ad s4 3 _ _ hw) (cwV 1 hts (gV tw_682 tw_684 tp_18 tw_7 tw_685) rfl rfl rfl (by decide +kernel) ⟨Nat.le_of_ble_eq_true rfl, Nat.le_of_ble_eq_true rfl⟩) ⟨pm_blind, (px_recv hK hP gM_0 rfl), fun U hU hW => pm_pre hP hK hD hE hS hFc hU hW⟩ rfl rfl hl.1 rfl (lv_room (Nat.le_of_ble_eq_true rfl)) dM_ask_68 ⟨Nat.le_of_ble_eq_true rfl, Nat.le_of_ble_eq_true rfl⟩) hS (fun q _ h => hFc q h) hFc (fun r10 s9 t H locs ht hvm hw hB _ _ hS => ?_)
        obtain ⟨hP, -, hD⟩ := hB
        rw [ht] at hP
        have hD := hD.weaken (fun _ _ _ h9 => hFc _ h9)
        exact W.iret (v := r10) hx hb hr (fun t ht hW => ⟨⟨r10, s9, rfl, hw, by rw [ht]; exact hP, va_K.moved hW.alike hK, hD⟩, hS.F ht⟩) hS.2.2 dM_ask_71
      · have hw := hw.2 c8
        refine lv_aload_n hx hb dM_ask_56 rfl (lv_at hl 1 rfl) ?_
        refine va_get (D := D) (ci := 5) (v := .int (mG s4 5)) (C := RM) (T := TM) (N := 26) hx hb hts inM hown hK hP 0 gM_0 rfl 5 (by decide) (hts _ tw_596) (fun _ h9 => h9) rfl dM_ask_57 ?_
        refine lv_sipush (v := 1024) hx hb dM_ask_60 (by decide) ?_
        refine lv_icmp_ne (tgt := 72) hx hb dM_ask_63 (by decide) (fun c11 => ?_) (fun c11 => ?_)
        · have hw := hw.1 c11
          refine lv_bipush (v := 6) hx hb dM_ask_72 (by decide) ?_
          refine lv_aload_n hx hb dM_ask_74 rfl (lv_at hl 1 rfl) ?_
          refine va_get (D := D) (ci := 5) (v := .int (mG s4 5)) (C := RM) (T := TM) (N := 26) hx hb hts inM hown hK hP 0 gM_0 rfl 5 (by decide) (hts _ tw_596) (fun _ h9 => h9) rfl dM_ask_75 ?_
          refine lv_imul hx hb dM_ask_78 ?_
          refine lv_istore (lv' := [(6, .int (6 * (mG s4 5))), (5, .int (mG σ 6)), (0, .ref (ad 0 0)), (1, .int a0), (2, .int a1), (3, .int a2), (4, .int a3)]) hx hb dM_ask_79 hl (by decide) rfl (fun ls hl => ?_)
          refine lv_aload_n hx hb dM_ask_81 rfl (lv_at hl 2 rfl) ?_
          refine va_get (D := D) (ci := 5) (v := .ref (ad 19 0)) (C := RM) (T := TM) (N := 26) hx hb hts inM hown hK hP 0 gM_0 rfl 25 (by decide) (hts _ tw_616) (fun _ h9 => h9) rfl dM_ask_82 ?_
          refine lv_iload hx hb dM_ask_85 (lv_at hl 0 rfl) ?_
          refine lv_iload_n hx hb dM_ask_87 rfl (lv_at hl 3 rfl) ?_
          obtain ⟨hin12, hw⟩ := hw
          refine va_iast hx hb hK hP hD hS 19 0 gM_19 rfl hin12 dM_ask_88 (fun H locs hP hD hS => ?_)
          rw [sM_19] at hP hD
          refine lv_aload_n hx hb dM_ask_89 rfl (lv_at hl 2 rfl) ?_
          refine va_get (D := D) (ci := 5) (v := .ref (ad 19 0)) (C := RM) (T := TM) (N := 26) hx hb hts inM hown hK hP 0 gM_0 rfl 25 (by decide) (hts _ tw_616) (fun _ h9 => h9) rfl dM_ask_90 ?_
          refine lv_iload hx hb dM_ask_93 (lv_at hl 0 rfl) ?_
          refine lv_iconst (v := 1) hx hb dM_ask_95 (by decide) ?_
          refine lv_iadd hx hb dM_ask_96 ?_
          refine lv_iload_n hx hb dM_ask_97 rfl (lv_at hl 4 rfl) ?_
          obtain ⟨hin13, hw⟩ := hw
          refine va_iast hx hb hK hP hD hS 19 0 gM_19 rfl hin13 dM_ask_98 (fun H locs hP hD hS => ?_)
          rw [sM_19] at hP hD
          refine lv_aload_n hx hb dM_ask_99 rfl (lv_at hl 2 rfl) ?_
          refine va_get (D := D) (ci := 5) (v := .ref (ad 19 0)) (C := RM) (T := TM) (N := 26) hx hb hts inM hown hK hP 0 gM_0 rfl 25 (by decide) (hts _ tw_616) (fun _ h9 => h9) rfl dM_ask_100 ?_
          refine lv_iload hx hb dM_ask_103 (lv_at hl 0 rfl) ?_
          refine lv_iconst (v := 2) hx hb dM_ask_105 (by decide) ?_
          refine lv_iadd hx hb dM_ask_106 ?_
          refine lv_aload_n hx hb dM_ask_107 rfl (lv_at hl 2 rfl) ?_
          refine va_get (D := D) (ci := 5) (v := .int (mG s4 2)) (C := RM) (T := TM) (N := 26) hx hb hts inM hown hK hP 0 gM_0 rfl 2 (by decide) (hts _ tw_593) (fun _ h9 => h9) rfl dM_ask_108 ?_
          obtain ⟨hin14, hw⟩ := hw
          refine va_iast hx hb hK hP hD hS 19 0 gM_19 rfl hin14 dM_ask_111 (fun H locs hP hD hS => ?_)
          rw [sM_19] at hP hD
          refine lv_aload_n hx hb dM_ask_112 rfl (lv_at hl 2 rfl) ?_
          refine va_get (D := D) (ci := 5) (v := .ref (ad 19 0)) (C := RM) (T := TM) (N := 26) hx hb hts inM hown hK hP 0 gM_0 rfl 25 (by decide) (hts _ tw_616) (fun _ h9 => h9) rfl dM_ask_113 ?_
          refine lv_iload hx hb dM_ask_116 (lv_at hl 0 rfl) ?_
          refine lv_iconst (v := 3) hx hb dM_ask_118 (by decide) ?_
          refine lv_iadd hx hb dM_ask_119 ?_
          refine lv_iconst (v := (-1)) hx hb dM_ask_120 (by decide) ?_
          obtain ⟨hin15, hw⟩ := hw
          refine va_iast hx hb hK hP hD hS 19 0 gM_19 rfl hin15 dM_ask_121 (fun H locs hP hD hS => ?_)
          rw [sM_19] at hP hD
          refine lv_aload_n hx hb dM_ask_122 rfl (lv_at hl 2 rfl) ?_
          refine va_get (D := D) (ci := 5) (v := .ref (ad 19 0)) (C := RM) (T := TM) (N := 26) hx hb hts inM hown hK hP 0 gM_0 rfl 25 (by decide) (hts _ tw_616) (fun _ h9 => h9) rfl dM_ask_123 ?_
          refine lv_iload hx hb dM_ask_126 (lv_at hl 0 rfl) ?_
          refine lv_iconst (v := 4) hx hb dM_ask_128 (by decide) ?_
          refine lv_iadd hx hb dM_ask_129 ?_
          refine lv_iconst (v := 0) hx hb dM_ask_130 (by decide) ?_
          obtain ⟨hin16, hw⟩ := hw
          refine va_iast hx hb hK hP hD hS 19 0 gM_19 rfl hin16 dM_ask_131 (fun H locs hP hD hS => ?_)
          rw [sM_19] at hP hD
          refine lv_aload_n hx hb dM_ask_132 rfl (lv_at hl 2 rfl) ?_
          refine va_get (D := D) (ci := 5) (v := .ref (ad 19 0)) (C := RM) (T := TM) (N := 26) hx hb hts inM hown hK hP 0 gM_0 rfl 25 (by decide) (hts _ tw_616) (fun _ h9 => h9) rfl dM_ask_133 ?_
          refine lv_iload hx hb dM_ask_136 (lv_at hl 0 rfl) ?_
          refine lv_iconst (v := 5) hx hb dM_ask_138 (by decide) ?_
          refine lv_iadd hx hb dM_ask_139 ?_
          refine lv_iconst (v := (-1)) hx hb dM_ask_140 (by decide) ?_
          obtain ⟨hin17, hw⟩ := hw
          refine va_iast hx hb hK hP hD hS 19 0 gM_19 rfl hin17 dM_ask_141 (fun H locs hP hD hS => ?_)
          rw [sM_19] at hP hD
          refine lv_aload_n hx hb dM_ask_142 rfl (lv_at hl 2 rfl) ?_
          refine lv_dup hx hb dM_ask_143 rfl ?_
          refine va_get (D := D) (ci := 5) (v := .int (mG s4 2)) (C := RM) (T := TM) (N := 26) hx hb hts inM hown hK hP 0 gM_0 rfl 2 (by decide) (hts _ tw_593) (fun _ h9 => h9) rfl dM_ask_144 ?_
          refine lv_iconst (v := 1) hx hb dM_ask_147 (by decide) ?_
          refine lv_iadd hx hb dM_ask_148 ?_
          refine va_put (D := D) (ci := 5) (v := .int ((mG s4 2) + 1)) (ty := .int) (C := RM) (T := TM) (N := 26) hx hb hts inM tyM tyM_ok nmM hown hK hP hD hS 0 gM_0 rfl 2 (by decide) (hts _ tw_593) (fun _ h9 => h9) rfl (by decide +kernel) rfl rfl (Nat.le_of_ble_eq_true rfl) dM_ask_149 (fun H locs hP hD hS => ?_)
          rw [sM_0_2] at hP hD
          refine lv_aload_n hx hb dM_ask_152 rfl (lv_at hl 2 rfl) ?_
          refine va_get (D := D) (ci := 5) (v := .ref (ad 10 0)) (C := RM) (T := TM) (N := 26) hx hb hts inM hown hK hP 0 gM_0 rfl 16 (by decide) (hts _ tw_607) (fun _ h9 => h9) rfl dM_ask_153 ?_
          refine lv_iload_n hx hb dM_ask_156 rfl (lv_at hl 3 rfl) ?_
          refine lv_aload_n hx hb dM_ask_157 rfl (lv_at hl 2 rfl) ?_
          refine va_get (D := D) (ci := 5) (v := .int (mG s4 5)) (C := RM) (T := TM) (N := 26) hx hb hts inM hown hK hP 0 gM_0 rfl 5 (by decide) (hts _ tw_596) (fun _ h9 => h9) rfl dM_ask_158 ?_
          refine va_iast hx hb hK hP hD hS 10 0 gM_10 rfl hin7 dM_ask_161 (fun H locs hP hD hS => ?_)
          rw [sM_10] at hP hD
          refine lv_aload_n hx hb dM_ask_162 rfl (lv_at hl 2 rfl) ?_
          refine lv_dup hx hb dM_ask_163 rfl ?_
          refine va_get (D := D) (ci := 5) (v := .int (mG s4 5)) (C := RM) (T := TM) (N := 26) hx hb hts inM hown hK hP 0 gM_0 rfl 5 (by decide) (hts _ tw_596) (fun _ h9 => h9) rfl dM_ask_164 ?_
          refine lv_iconst (v := 1) hx hb dM_ask_167 (by decide) ?_
          refine lv_iadd hx hb dM_ask_168 ?_
          refine va_put (D := D) (ci := 5) (v := .int ((mG s4 5) + 1)) (ty := .int) (C := RM) (T := TM) (N := 26) hx hb hts inM tyM tyM_ok nmM hown hK hP hD hS 0 gM_0 rfl 5 (by decide) (hts _ tw_596) (fun _ h9 => h9) rfl (by decide +kernel) rfl rfl (Nat.le_of_ble_eq_true rfl) dM_ask_169 (fun H locs hP hD hS => ?_)
          rw [sM_0_5] at hP hD
          refine lv_iconst (v := 0) hx hb dM_ask_172 (by decide) ?_
          refine lv_istore (lv' := [(7, .int 0), (6, .int (6 * (mG s4 5))), (5, .int (mG σ 6)), (0, .ref (ad 0 0)), (1, .int a0), (2, .int a1), (3, .int a2), (4, .int a3)]) hx hb dM_ask_173 hl (by decide) rfl (fun ls hl => ?_)
          obtain ⟨n, hw⟩ := hw
          exact l_m_ask_L175 (D := D) (ca := ca) (ad := ad)  hx hb hr hml hts hown hlocks hA hK hE n (vG 5 ((mG s4 5) + 1) (vA 9 (upd (mA s4 9) (a0).toNatClampNeg (mG s4 5)) (vG 2 ((mG s4 2) + 1) (vA 18 (upd (upd (upd (upd (upd (upd (mA s4 18) (6 * (mG s4 5)).toNatClampNeg a0) ((6 * (mG s4 5)) + 1).toNatClampNeg a1) ((6 * (mG s4 5)) + 2).toNatClampNeg (mG s4 2)) ((6 * (mG s4 5)) + 3).toNatClampNeg (-1)) ((6 * (mG s4 5)) + 4).toNatClampNeg 0) ((6 * (mG s4 5)) + 5).toNatClampNeg (-1)) (vA 18 (upd (upd (upd (upd (upd (mA s4 18) (6 * (mG s4 5)).toNatClampNeg a0) ((6 * (mG s4 5)) + 1).toNatClampNeg a1) ((6 * (mG s4 5)) + 2).toNatClampNeg (mG s4 2)) ((6 * (mG s4 5)) + 3).toNatClampNeg (-1)) ((6 * (mG s4 5)) + 4).toNatClampNeg 0) (vA 18 (upd (upd (upd (upd (mA s4 18) (6 * (mG s4 5)).toNatClampNeg a0) ((6 * (mG s4 5)) + 1).toNatClampNeg a1) ((6 * (mG s4 5)) + 2).toNatClampNeg (mG s4 2)) ((6 * (mG s4 5)) + 3).toNatClampNeg (-1)) (vA 18 (upd (upd (upd (mA s4 18) (6 * (mG s4 5)).toNatClampNeg a0) ((6 * (mG s4 5)) + 1).toNatClampNeg a1) ((6 * (mG s4 5)) + 2).toNatClampNeg (mG s4 2)) (vA 18 (upd (upd (mA s4 18) (6 * (mG s4 5)).toNatClampNeg a0) ((6 * (mG s4 5)) + 1).toNatClampNeg a1) (vA 18 (upd (mA s4 18) (6 * (mG s4 5)).toNatClampNeg a0) s4))))))))) a0 a1 a2 a3 (mG σ 6) (6 * (mG s4 5)) 0 hw _ _ hP hD hS ls (lv_sub hl [3, 4, 5, 6, 7, 2, 1, 0] rfl)
        · have hw := hw.2 c11
          refine lv_aload_n hx hb dM_ask_66 rfl (lv_at hl 1 rfl) ?_
          refine lv_iconst (v := 3) hx hb dM_ask_67 (by decide) ?_
          have hFc := px_free hD hS hA
          refine va_calli (va_runV (As := [.int 3]) (rest := []) ⟨hx, hb, hml, hown, hts⟩ (c_m_fail l D ca ad s4 3 _ _ hw) (cwV 1 hts (gV tw_682 tw_684 tp_18 tw_7 tw_685) rfl rfl rfl (by decide +kernel) ⟨Nat.le_of_ble_eq_true rfl, Nat.le_of_ble_eq_true rfl⟩) ⟨pm_blind, (px_recv hK hP gM_0 rfl), fun U hU hW => pm_pre hP hK hD hE hS hFc hU hW⟩ rfl rfl hl.1 rfl (lv_room (Nat.le_of_ble_eq_true rfl)) dM_ask_68 ⟨Nat.le_of_ble_eq_true rfl, Nat.le_of_ble_eq_true rfl⟩) hS (fun q _ h => hFc q h) hFc (fun r20 s19 t H locs ht hvm hw hB _ _ hS => ?_)
          obtain ⟨hP, -, hD⟩ := hB
          rw [ht] at hP
          have hD := hD.weaken (fun _ _ _ h9 => hFc _ h9)
          exact W.iret (v := r20) hx hb hr (fun t ht hW => ⟨⟨r20, s19, rfl, hw, by rw [ht]; exact hP, va_K.moved hW.alike hK, hD⟩, hS.F ht⟩) hS.2.2 dM_ask_71
    · have hw := hw.2 c6
      refine lv_aload_n hx hb dM_ask_41 rfl (lv_at hl 1 rfl) ?_
      refine lv_iconst (v := 2) hx hb dM_ask_42 (by decide) ?_
      have hFc := px_free hD hS hA
      refine va_calli (va_runV (As := [.int 2]) (rest := []) ⟨hx, hb, hml, hown, hts⟩ (c_m_fail l D ca ad s4 2 _ _ hw) (cwV 1 hts (gV tw_682 tw_684 tp_18 tw_7 tw_685) rfl rfl rfl (by decide +kernel) ⟨Nat.le_of_ble_eq_true rfl, Nat.le_of_ble_eq_true rfl⟩) ⟨pm_blind, (px_recv hK hP gM_0 rfl), fun U hU hW => pm_pre hP hK hD hE hS hFc hU hW⟩ rfl rfl hl.1 rfl (lv_room (Nat.le_of_ble_eq_true rfl)) dM_ask_43 ⟨Nat.le_of_ble_eq_true rfl, Nat.le_of_ble_eq_true rfl⟩) hS (fun q _ h => hFc q h) hFc (fun r22 s21 t H locs ht hvm hw hB _ _ hS => ?_)
      obtain ⟨hP, -, hD⟩ := hB
      rw [ht] at hP
      have hD := hD.weaken (fun _ _ _ h9 => hFc _ h9)
      exact W.iret (v := r22) hx hb hr (fun t ht hW => ⟨⟨r22, s21, rfl, hw, by rw [ht]; exact hP, va_K.moved hW.alike hK, hD⟩, hS.F ht⟩) hS.2.2 dM_ask_46
  · have hw := hw.2 c3
    refine lv_aload_n hx hb dM_ask_23 rfl (lv_at hl 1 rfl) ?_
    refine lv_iconst (v := 1) hx hb dM_ask_24 (by decide) ?_
    have hFc := px_free hD hS hA
    refine va_calli (va_runV (As := [.int 1]) (rest := []) ⟨hx, hb, hml, hown, hts⟩ (c_m_fail l D ca ad s1 1 _ _ hw) (cwV 1 hts (gV tw_682 tw_684 tp_18 tw_7 tw_685) rfl rfl rfl (by decide +kernel) ⟨Nat.le_of_ble_eq_true rfl, Nat.le_of_ble_eq_true rfl⟩) ⟨pm_blind, (px_recv hK hP gM_0 rfl), fun U hU hW => pm_pre hP hK hD hE hS hFc hU hW⟩ rfl rfl hl.1 rfl (lv_room (Nat.le_of_ble_eq_true rfl)) dM_ask_25 ⟨Nat.le_of_ble_eq_true rfl, Nat.le_of_ble_eq_true rfl⟩) hS (fun q _ h => hFc q h) hFc (fun r24 s23 t H locs ht hvm hw hB _ _ hS => ?_)
    obtain ⟨hP, -, hD⟩ := hB
    rw [ht] at hP
    have hD := hD.weaken (fun _ _ _ h9 => hFc _ h9)
    exact W.iret (v := r24) hx hb hr (fun t ht hW => ⟨⟨r24, s23, rfl, hw, by rw [ht]; exact hP, va_K.moved hW.alike hK, hD⟩, hS.F ht⟩) hS.2.2 dM_ask_28
theorem dM_giveUp_0 : decode cM_giveUp 0 = .ok (.aload_n 0, 1) := by decide +kernel
theorem dM_giveUp_1 : decode cM_giveUp 1 = .ok (.iconst 0, 1) := by decide +kernel
theorem dM_giveUp_2 : decode cM_giveUp 2 = .ok (.putfield 68, 3) := by decide +kernel
theorem dM_giveUp_5 : decode cM_giveUp 5 = .ok (.iload_n 1, 1) := by decide +kernel
theorem dM_giveUp_6 : decode cM_giveUp 6 = .ok (.invokestatic 115, 3) := by decide +kernel
theorem dM_giveUp_9 : decode cM_giveUp 9 = .ok (.ifCond .ne 17, 3) := by decide +kernel
theorem dM_giveUp_12 : decode cM_giveUp 12 = .ok (.aload_n 0, 1) := by decide +kernel
theorem dM_giveUp_13 : decode cM_giveUp 13 = .ok (.iconst 1, 1) := by decide +kernel
theorem dM_giveUp_14 : decode cM_giveUp 14 = .ok (.invokevirtual 76, 3) := by decide +kernel
theorem dM_giveUp_17 : decode cM_giveUp 17 = .ok (.ifCond .le 7, 3) := by decide +kernel
theorem dM_giveUp_20 : decode cM_giveUp 20 = .ok (.iconst 1, 1) := by decide +kernel
theorem dM_giveUp_21 : decode cM_giveUp 21 = .ok (.goto 4, 3) := by decide +kernel
theorem dM_giveUp_24 : decode cM_giveUp 24 = .ok (.iconst 0, 1) := by decide +kernel
theorem dM_giveUp_25 : decode cM_giveUp 25 = .ok (.ireturn, 1) := by decide +kernel
theorem dM_giveUp_26 : decode cM_giveUp 26 = .ok (.aload_n 0, 1) := by decide +kernel
theorem dM_giveUp_27 : decode cM_giveUp 27 = .ok (.getfield 13, 3) := by decide +kernel
theorem dM_giveUp_30 : decode cM_giveUp 30 = .ok (.iload_n 1, 1) := by decide +kernel
theorem dM_giveUp_31 : decode cM_giveUp 31 = .ok (.baload, 1) := by decide +kernel
theorem dM_giveUp_32 : decode cM_giveUp 32 = .ok (.istore_n 2, 1) := by decide +kernel
theorem dM_giveUp_33 : decode cM_giveUp 33 = .ok (.iload_n 2, 1) := by decide +kernel
theorem dM_giveUp_34 : decode cM_giveUp 34 = .ok (.ifCond .eq 8, 3) := by decide +kernel
theorem dM_giveUp_37 : decode cM_giveUp 37 = .ok (.aload_n 0, 1) := by decide +kernel
theorem dM_giveUp_38 : decode cM_giveUp 38 = .ok (.iload_n 1, 1) := by decide +kernel
theorem dM_giveUp_39 : decode cM_giveUp 39 = .ok (.invokevirtual 102, 3) := by decide +kernel
theorem dM_giveUp_42 : decode cM_giveUp 42 = .ok (.iload_n 2, 1) := by decide +kernel
theorem dM_giveUp_43 : decode cM_giveUp 43 = .ok (.ireturn, 1) := by decide +kernel
def wp_m_giveUp (post : Int32 → Sm → Prop) (σ : Sm) (a0 : Int32) : Prop := wp_m_isClient (fun r2 s1 => ((¬ (r2 = 0) → (vp_in a0 8 ∧ (((((mA s1 1) (a0).toNatClampNeg) = 0) → (narrow .boolean (.int ((mA s1 1) (a0).toNatClampNeg)) = .int ((mA s1 1) (a0).toNatClampNeg) ∧ post ((mA s1 1) (a0).toNatClampNeg) s1)) ∧ (¬ (((mA s1 1) (a0).toNatClampNeg) = 0) → wp_m_stop (fun s6 => (narrow .boolean (.int ((mA s1 1) (a0).toNatClampNeg)) = .int ((mA s1 1) (a0).toNatClampNeg) ∧ post ((mA s1 1) (a0).toNatClampNeg) s6)) s1 a0)))) ∧ ((r2 = 0) → wp_m_fail (fun r9 s8 => (((r9 ≤ 0) → post 0 s8) ∧ (¬ (r9 ≤ 0) → post 1 s8))) s1 1))) (vG 0 0 σ) a0
set_option maxHeartbeats 4000000 in
set_option maxRecDepth 100000 in
theorem c_m_giveUp (l : Launch) (D : va_G) (ca : Nat → ClassId) (ad : Nat → Nat → Nat) (σ : Sm) (a0 : Int32) (sz : Nat) (post : Int32 → Sm → Prop) (hw : wp_m_giveUp post σ a0) : Met l yM_giveUp wsM_giveUp ({ frames := 3, cells := 0, slots := 0, locals := 66 }) (va_Pc [.ref (ad 0 0), .int a0] (preM D ca ad σ sz)) (va_Qi post (atM D ca ad (va_A (wM ca ad σ) sz)) (va_A (wM ca ad σ) sz)) 0 0 (va_A (wM ca ad σ) sz) := by
  refine Met.ofW (cc := cM_giveUp) (maxL := 3) (ret := (some .boolean)) (by decide) rfl ?_
  intro p e s m args below meth c s₁ B hml hv
  obtain ⟨rfl, hsz, hP, hK, hD0, hE⟩ := hv
  have hx := B.exec
  have hb := B.bytes
  have hr := B.returns
  have hts : ∀ w ∈ tbG, w.before _ s = true := fun w h => atoms_spec (ws := wsM_giveUp) B.pre w (List.mem_cons_of_mem _ h)
  have hown : s.vm.findClass RM = some m.cls := findClass_of_methodNamed B.named
  have hlocks := B.notSynchronized
  subst hsz
  have hD := hD0.self (sz := s.heap.size)
  generalize hAe : va_A (wM ca ad σ) s.heap.size = A at hD hE ⊢
  have hA : ∀ q : Nat, s.heap.size ≤ q → A q := fun q h => by rw [← hAe]; exact Or.inr h
  clear hAe
  have hS : va_S A s.heap s.heap [] := va_S.rf
  have hl := lv_entry ([.ref (ad 0 0), .int a0]) (n := 3) (Nat.le_of_ble_eq_true rfl)
  rw [lg_entry_eq]
  generalize (lg_sl ([.ref (ad 0 0), .int a0]) ++ List.replicate (3 - (lg_sl ([.ref (ad 0 0), .int a0])).length) Slot.unset).toArray = ls at hl ⊢
  have hl : lv_has ls 3 [(0, .ref (ad 0 0)), (1, .int a0)] := hl
  unfold wp_m_giveUp at hw
  have hP : va_P D clX (wM ca ad σ) s.heap := hP
  refine lv_aload_n hx hb dM_giveUp_0 rfl (lv_at hl 0 rfl) ?_
  refine lv_iconst (v := 0) hx hb dM_giveUp_1 (by decide) ?_
  refine va_put (D := D) (ci := 5) (v := .int 0) (ty := .int) (C := RM) (T := TM) (N := 26) hx hb hts inM tyM tyM_ok nmM hown hK hP hD hS 0 gM_0 rfl 0 (by decide) (hts _ tw_591) (fun _ h9 => h9) rfl (by decide +kernel) rfl rfl (Nat.le_of_ble_eq_true rfl) dM_giveUp_2 (fun H locs hP hD hS => ?_)
  rw [sM_0_0] at hP hD
  refine lv_iload_n hx hb dM_giveUp_5 rfl (lv_at hl 1 rfl) ?_
  have hFc := px_free hD hS hA
  refine va_calli (va_runS (As := [.int a0]) (rest := []) ⟨hx, hb, hml, hown, hts⟩ (c_m_isClient l D ca ad (vG 0 0 σ) a0 _ _ hw) (va_cwS 1 hts (gS tw_691 tw_692 tw_7 tw_693) rfl rfl rfl (by decide +kernel) ⟨Nat.le_of_ble_eq_true rfl, Nat.le_of_ble_eq_true rfl⟩) ⟨pm_blind, fun U hU hW => pm_pre hP hK hD hE hS hFc hU hW⟩ rfl rfl hl.1 rfl (lv_room (Nat.le_of_ble_eq_true rfl)) dM_giveUp_6 ⟨Nat.le_of_ble_eq_true rfl, Nat.le_of_ble_eq_true rfl⟩) hS (fun q _ h => hFc q h) hFc (fun r2 s1 t H locs ht hvm hw hB _ _ hS => ?_)
  obtain ⟨hP, -, hD⟩ := hB
  rw [ht] at hP
  have hD := hD.weaken (fun _ _ _ h9 => hFc _ h9)
  refine lv_if_ne (tgt := 26) hx hb dM_giveUp_9 (by decide) (fun c3 => ?_) (fun c3 => ?_)
  · have hw := hw.1 c3
    refine lv_aload_n hx hb dM_giveUp_26 rfl (lv_at hl 0 rfl) ?_
    refine va_get (D := D) (ci := 5) (v := .ref (ad 2 0)) (C := RM) (T := TM) (N := 26) hx hb hts inM hown hK hP 0 gM_0 rfl 8 (by decide) (hts _ tw_599) (fun _ h9 => h9) rfl dM_giveUp_27 ?_
    refine lv_iload_n hx hb dM_giveUp_30 rfl (lv_at hl 1 rfl) ?_
    obtain ⟨hin4, hw⟩ := hw
    refine va_zald hx hb hK hP 2 1 gM_2 rfl hin4 dM_giveUp_31 ?_
    refine lv_istore_n (lv' := [(2, .int ((mA s1 1) (a0).toNatClampNeg)), (0, .ref (ad 0 0)), (1, .int a0)]) hx hb dM_giveUp_32 rfl hl (by decide) rfl (fun ls hl => ?_)
    refine lv_iload_n hx hb dM_giveUp_33 rfl (lv_at hl 0 rfl) ?_
    refine lv_if_eq (tgt := 42) hx hb dM_giveUp_34 (by decide) (fun c5 => ?_) (fun c5 => ?_)
    · have hw := hw.1 c5
      refine lv_iload_n hx hb dM_giveUp_42 rfl (lv_at hl 0 rfl) ?_
      obtain ⟨hz, hw⟩ := hw
      exact W.zret (ty := .boolean) (v := ((mA s1 1) (a0).toNatClampNeg)) hx hb hr hz (fun t ht hW => ⟨⟨((mA s1 1) (a0).toNatClampNeg), s1, rfl, hw, by rw [ht]; exact hP, va_K.moved hW.alike hK, hD⟩, hS.F ht⟩) hS.2.2 dM_giveUp_43
    · have hw := hw.2 c5
      refine lv_aload_n hx hb dM_giveUp_37 rfl (lv_at hl 1 rfl) ?_
      refine lv_iload_n hx hb dM_giveUp_38 rfl (lv_at hl 2 rfl) ?_
      have hFc := px_free hD hS hA
      refine va_callv (va_runV (As := [.int a0]) (rest := []) ⟨hx, hb, hml, hown, hts⟩ (c_m_stop l D ca ad s1 a0 _ _ hw) (cwV 1 hts (gV tw_705 tw_707 tp_21 tw_7 tw_708) rfl rfl rfl (by decide +kernel) ⟨Nat.le_of_ble_eq_true rfl, Nat.le_of_ble_eq_true rfl⟩) ⟨pm_blind, (px_recv hK hP gM_0 rfl), fun U hU hW => pm_pre hP hK hD hE hS hFc hU hW⟩ rfl rfl hl.1 rfl (lv_room (Nat.le_of_ble_eq_true rfl)) dM_giveUp_39 ⟨Nat.le_of_ble_eq_true rfl, Nat.le_of_ble_eq_true rfl⟩) hS (fun q _ h => hFc q h) hFc (fun s6 t H locs ht hvm hw hB _ _ hS => ?_)
      obtain ⟨hP, -, hD⟩ := hB
      rw [ht] at hP
      have hD := hD.weaken (fun _ _ _ h9 => hFc _ h9)
      refine lv_iload_n hx hb dM_giveUp_42 rfl (lv_at hl 0 rfl) ?_
      obtain ⟨hz, hw⟩ := hw
      exact W.zret (ty := .boolean) (v := ((mA s1 1) (a0).toNatClampNeg)) hx hb hr hz (fun t ht hW => ⟨⟨((mA s1 1) (a0).toNatClampNeg), s6, rfl, hw, by rw [ht]; exact hP, va_K.moved hW.alike hK, hD⟩, hS.F ht⟩) hS.2.2 dM_giveUp_43
  · have hw := hw.2 c3
    refine lv_aload_n hx hb dM_giveUp_12 rfl (lv_at hl 0 rfl) ?_
    refine lv_iconst (v := 1) hx hb dM_giveUp_13 (by decide) ?_
    have hFc := px_free hD hS hA
    refine va_calli (va_runV (As := [.int 1]) (rest := []) ⟨hx, hb, hml, hown, hts⟩ (c_m_fail l D ca ad s1 1 _ _ hw) (cwV 1 hts (gV tw_682 tw_684 tp_18 tw_7 tw_685) rfl rfl rfl (by decide +kernel) ⟨Nat.le_of_ble_eq_true rfl, Nat.le_of_ble_eq_true rfl⟩) ⟨pm_blind, (px_recv hK hP gM_0 rfl), fun U hU hW => pm_pre hP hK hD hE hS hFc hU hW⟩ rfl rfl hl.1 rfl (lv_room (Nat.le_of_ble_eq_true rfl)) dM_giveUp_14 ⟨Nat.le_of_ble_eq_true rfl, Nat.le_of_ble_eq_true rfl⟩) hS (fun q _ h => hFc q h) hFc (fun r9 s8 t H locs ht hvm hw hB _ _ hS => ?_)
    obtain ⟨hP, -, hD⟩ := hB
    rw [ht] at hP
    have hD := hD.weaken (fun _ _ _ h9 => hFc _ h9)
    refine lv_if_le (tgt := 24) hx hb dM_giveUp_17 (by decide) (fun c10 => ?_) (fun c10 => ?_)
    · have hw := hw.1 c10
      refine lv_iconst (v := 0) hx hb dM_giveUp_24 (by decide) ?_
      exact W.zret (ty := .boolean) (v := 0) hx hb hr (by decide) (fun t ht hW => ⟨⟨0, s8, rfl, hw, by rw [ht]; exact hP, va_K.moved hW.alike hK, hD⟩, hS.F ht⟩) hS.2.2 dM_giveUp_25
    · have hw := hw.2 c10
      refine lv_iconst (v := 1) hx hb dM_giveUp_20 (by decide) ?_
      refine lv_goto (tgt := 25) hx hb dM_giveUp_21 (by decide) ?_
      exact W.zret (ty := .boolean) (v := 1) hx hb hr (by decide) (fun t ht hW => ⟨⟨1, s8, rfl, hw, by rw [ht]; exact hP, va_K.moved hW.alike hK, hD⟩, hS.F ht⟩) hS.2.2 dM_giveUp_25
theorem dM_tick_0 : decode cM_tick 0 = .ok (.aload_n 0, 1) := by decide +kernel
theorem dM_tick_1 : decode cM_tick 1 = .ok (.iconst 0, 1) := by decide +kernel
theorem dM_tick_2 : decode cM_tick 2 = .ok (.putfield 68, 3) := by decide +kernel
theorem dM_tick_5 : decode cM_tick 5 = .ok (.iload_n 1, 1) := by decide +kernel
theorem dM_tick_6 : decode cM_tick 6 = .ok (.iconst 1, 1) := by decide +kernel
theorem dM_tick_7 : decode cM_tick 7 = .ok (.sipush 1000, 3) := by decide +kernel
theorem dM_tick_10 : decode cM_tick 10 = .ok (.invokestatic 72, 3) := by decide +kernel
theorem dM_tick_13 : decode cM_tick 13 = .ok (.ifCond .ne 9, 3) := by decide +kernel
theorem dM_tick_16 : decode cM_tick 16 = .ok (.aload_n 0, 1) := by decide +kernel
theorem dM_tick_17 : decode cM_tick 17 = .ok (.iconst 1, 1) := by decide +kernel
theorem dM_tick_18 : decode cM_tick 18 = .ok (.invokevirtual 76, 3) := by decide +kernel
theorem dM_tick_21 : decode cM_tick 21 = .ok (.ireturn, 1) := by decide +kernel
theorem dM_tick_22 : decode cM_tick 22 = .ok (.aload_n 0, 1) := by decide +kernel
theorem dM_tick_23 : decode cM_tick 23 = .ok (.getfield 88, 3) := by decide +kernel
theorem dM_tick_26 : decode cM_tick 26 = .ok (.iload_n 1, 1) := by decide +kernel
theorem dM_tick_27 : decode cM_tick 27 = .ok (.iadd, 1) := by decide +kernel
theorem dM_tick_28 : decode cM_tick 28 = .ok (.istore_n 2, 1) := by decide +kernel
theorem dM_tick_29 : decode cM_tick 29 = .ok (.iconst 0, 1) := by decide +kernel
theorem dM_tick_30 : decode cM_tick 30 = .ok (.istore_n 3, 1) := by decide +kernel
theorem dM_tick_31 : decode cM_tick 31 = .ok (.aload_n 0, 1) := by decide +kernel
theorem dM_tick_32 : decode cM_tick 32 = .ok (.iload_n 2, 1) := by decide +kernel
theorem dM_tick_33 : decode cM_tick 33 = .ok (.invokevirtual 130, 3) := by decide +kernel
theorem dM_tick_36 : decode cM_tick 36 = .ok (.istore 4, 2) := by decide +kernel
theorem dM_tick_38 : decode cM_tick 38 = .ok (.iload 4, 2) := by decide +kernel
theorem dM_tick_40 : decode cM_tick 40 = .ok (.ifCond .lt 68, 3) := by decide +kernel
theorem dM_tick_43 : decode cM_tick 43 = .ok (.aload_n 0, 1) := by decide +kernel
theorem dM_tick_44 : decode cM_tick 44 = .ok (.aload_n 0, 1) := by decide +kernel
theorem dM_tick_45 : decode cM_tick 45 = .ok (.getfield 41, 3) := by decide +kernel
theorem dM_tick_48 : decode cM_tick 48 = .ok (.iload 4, 2) := by decide +kernel
theorem dM_tick_50 : decode cM_tick 50 = .ok (.iaload, 1) := by decide +kernel
theorem dM_tick_51 : decode cM_tick 51 = .ok (.putfield 88, 3) := by decide +kernel
theorem dM_tick_54 : decode cM_tick 54 = .ok (.aload_n 0, 1) := by decide +kernel
theorem dM_tick_55 : decode cM_tick 55 = .ok (.getfield 47, 3) := by decide +kernel
theorem dM_tick_58 : decode cM_tick 58 = .ok (.iload 4, 2) := by decide +kernel
theorem dM_tick_60 : decode cM_tick 60 = .ok (.baload, 1) := by decide +kernel
theorem dM_tick_61 : decode cM_tick 61 = .ok (.ifCond .eq 22, 3) := by decide +kernel
theorem dM_tick_64 : decode cM_tick 64 = .ok (.aload_n 0, 1) := by decide +kernel
theorem dM_tick_65 : decode cM_tick 65 = .ok (.getfield 17, 3) := by decide +kernel
theorem dM_tick_68 : decode cM_tick 68 = .ok (.iload 4, 2) := by decide +kernel
theorem dM_tick_70 : decode cM_tick 70 = .ok (.aload_n 0, 1) := by decide +kernel
theorem dM_tick_71 : decode cM_tick 71 = .ok (.getfield 17, 3) := by decide +kernel
theorem dM_tick_74 : decode cM_tick 74 = .ok (.iload 4, 2) := by decide +kernel
theorem dM_tick_76 : decode cM_tick 76 = .ok (.iaload, 1) := by decide +kernel
theorem dM_tick_77 : decode cM_tick 77 = .ok (.iconst 1, 1) := by decide +kernel
theorem dM_tick_78 : decode cM_tick 78 = .ok (.iadd, 1) := by decide +kernel
theorem dM_tick_79 : decode cM_tick 79 = .ok (.bipush 7, 2) := by decide +kernel
theorem dM_tick_81 : decode cM_tick 81 = .ok (.irem, 1) := by decide +kernel
theorem dM_tick_82 : decode cM_tick 82 = .ok (.iastore, 1) := by decide +kernel
theorem dM_tick_83 : decode cM_tick 83 = .ok (.aload_n 0, 1) := by decide +kernel
theorem dM_tick_84 : decode cM_tick 84 = .ok (.iload 4, 2) := by decide +kernel
theorem dM_tick_86 : decode cM_tick 86 = .ok (.invokevirtual 94, 3) := by decide +kernel
theorem dM_tick_89 : decode cM_tick 89 = .ok (.aload_n 0, 1) := by decide +kernel
theorem dM_tick_90 : decode cM_tick 90 = .ok (.iload 4, 2) := by decide +kernel
theorem dM_tick_92 : decode cM_tick 92 = .ok (.invokevirtual 112, 3) := by decide +kernel
theorem dM_tick_95 : decode cM_tick 95 = .ok (.iinc 3 1, 3) := by decide +kernel
theorem dM_tick_98 : decode cM_tick 98 = .ok (.aload_n 0, 1) := by decide +kernel
theorem dM_tick_99 : decode cM_tick 99 = .ok (.iload_n 2, 1) := by decide +kernel
theorem dM_tick_100 : decode cM_tick 100 = .ok (.invokevirtual 130, 3) := by decide +kernel
theorem dM_tick_103 : decode cM_tick 103 = .ok (.istore 4, 2) := by decide +kernel
theorem dM_tick_105 : decode cM_tick 105 = .ok (.goto (-67), 3) := by decide +kernel
theorem dM_tick_108 : decode cM_tick 108 = .ok (.aload_n 0, 1) := by decide +kernel
theorem dM_tick_109 : decode cM_tick 109 = .ok (.iload_n 2, 1) := by decide +kernel
theorem dM_tick_110 : decode cM_tick 110 = .ok (.putfield 88, 3) := by decide +kernel
theorem dM_tick_113 : decode cM_tick 113 = .ok (.iload_n 3, 1) := by decide +kernel
theorem dM_tick_114 : decode cM_tick 114 = .ok (.ireturn, 1) := by decide +kernel
def wpl_m_tick_L38 : Nat → (Int32 → Sm → Prop) → Sm → Int32 → Int32 → Int32 → Int32 → Prop
  | 0, _, _, _, _, _, _ => False
  | n + 1, post, σ, x1, x2, x3, x4 => (((x4 < 0) → post x3 (vG 1 x2 σ)) ∧ (¬ (x4 < 0) → (vp_in x4 8 ∧ (((((mA σ 12) (x4).toNatClampNeg) = 0) → wp_m_noAlarm (fun s12 => wp_m_go (fun s14 => wp_m_next (fun r17 s16 => wpl_m_tick_L38 n post s16 x1 x2 (x3 + 1) r17) s14 x2) s12 x4) (vG 1 ((mA σ 10) (x4).toNatClampNeg) σ) x4) ∧ (¬ (((mA σ 12) (x4).toNatClampNeg) = 0) → wp_m_noAlarm (fun s20 => wp_m_go (fun s22 => wp_m_next (fun r25 s24 => wpl_m_tick_L38 n post s24 x1 x2 (x3 + 1) r25) s22 x2) s20 x4) (vA 2 (upd (mA σ 2) (x4).toNatClampNeg ((((mA σ 2) (x4).toNatClampNeg) + 1) - (((mA σ 2) (x4).toNatClampNeg) + 1) / 7 * 7)) (vG 1 ((mA σ 10) (x4).toNatClampNeg) σ)) x4)))))
set_option maxHeartbeats 4000000 in
set_option maxRecDepth 100000 in
theorem l_m_tick_L38 {p : Program} {l : Launch} {e : Env} {s : State} {m : MethodId} {args : Array Value} {below : List Frame} {meth : Method} {c : Code} {D : va_G} {ca : Nat → ClassId} {ad : Nat → Nat → Nat} {A : Nat → Prop}  {post : Int32 → Sm → Prop} (hx : p.tables.exec = Jvm.exec) (hb : c.code = cM_tick) (hr : meth.sig.returnType = (some .int)) (hml : c.maxLocals = 5) (hts : ∀ w ∈ tbG, w.before args s = true) (hown : s.vm.findClass RM = some m.cls) (hlocks : meth.locks = false) (hA : ∀ q : Nat, s.heap.size ≤ q → A q) (hK : va_K D clX (tyM9 ca) s) (hE : eM A s) : ∀ (n : Nat) (σ : Sm) (x1 : Int32) (x2 : Int32) (x3 : Int32) (x4 : Int32), wpl_m_tick_L38 n post σ x1 x2 x3 x4 → ∀ (H : Heap) (locs : List Loc), va_P D clX (wM ca ad σ) H → va_D A (wM ca ad σ) → va_S A s.heap H locs → ∀ ls : Array Slot, lv_has ls 5 [(0, .ref (ad 0 0)), (1, .int x1), (2, .int x2), (3, .int x3), (4, .int x4)] → W p l e (headSpec wsM_tick ({ frames := 4, cells := 0, slots := 0, locals := 89 })).room s m args below meth c H locs 0 0 (MQ below (va_Qi post (atM D ca ad A) A) args s 0 0 A) (F0 m 38 ls []) := by
  intro n
  induction n with
  | zero => intro σ x1 x2 x3 x4 hw; exact hw.elim
  | succ n ih =>
    intro σ x1 x2 x3 x4 hw H locs hP hD hS ls hl
    refine lv_iload hx hb dM_tick_38 (lv_at hl 4 rfl) ?_
    refine lv_if_lt (tgt := 108) hx hb dM_tick_40 (by decide) (fun c8 => ?_) (fun c8 => ?_)
    · have hw := hw.1 c8
      refine lv_aload_n hx hb dM_tick_108 rfl (lv_at hl 0 rfl) ?_
      refine lv_iload_n hx hb dM_tick_109 rfl (lv_at hl 2 rfl) ?_
      refine va_put (D := D) (ci := 5) (v := .int x2) (ty := .int) (C := RM) (T := TM) (N := 26) hx hb hts inM tyM tyM_ok nmM hown hK hP hD hS 0 gM_0 rfl 1 (by decide) (hts _ tw_592) (fun _ h9 => h9) rfl (by decide +kernel) rfl rfl (Nat.le_of_ble_eq_true rfl) dM_tick_110 (fun H locs hP hD hS => ?_)
      rw [sM_0_1] at hP hD
      refine lv_iload_n hx hb dM_tick_113 rfl (lv_at hl 3 rfl) ?_
      exact W.iret (v := x3) hx hb hr (fun t ht hW => ⟨⟨x3, (vG 1 x2 σ), rfl, hw, by rw [ht]; exact hP, va_K.moved hW.alike hK, hD⟩, hS.F ht⟩) hS.2.2 dM_tick_114
    · have hw := hw.2 c8
      refine lv_aload_n hx hb dM_tick_43 rfl (lv_at hl 0 rfl) ?_
      refine lv_aload_n hx hb dM_tick_44 rfl (lv_at hl 0 rfl) ?_
      refine va_get (D := D) (ci := 5) (v := .ref (ad 11 0)) (C := RM) (T := TM) (N := 26) hx hb hts inM hown hK hP 0 gM_0 rfl 17 (by decide) (hts _ tw_608) (fun _ h9 => h9) rfl dM_tick_45 ?_
      refine lv_iload hx hb dM_tick_48 (lv_at hl 4 rfl) ?_
      obtain ⟨hin9, hw⟩ := hw
      refine va_iald hx hb hK hP 11 0 gM_11 rfl hin9 dM_tick_50 ?_
      refine va_put (D := D) (ci := 5) (v := .int ((mA σ 10) (x4).toNatClampNeg)) (ty := .int) (C := RM) (T := TM) (N := 26) hx hb hts inM tyM tyM_ok nmM hown hK hP hD hS 0 gM_0 rfl 1 (by decide) (hts _ tw_592) (fun _ h9 => h9) rfl (by decide +kernel) rfl rfl (Nat.le_of_ble_eq_true rfl) dM_tick_51 (fun H locs hP hD hS => ?_)
      rw [sM_0_1] at hP hD
      refine lv_aload_n hx hb dM_tick_54 rfl (lv_at hl 0 rfl) ?_
      refine va_get (D := D) (ci := 5) (v := .ref (ad 13 0)) (C := RM) (T := TM) (N := 26) hx hb hts inM hown hK hP 0 gM_0 rfl 19 (by decide) (hts _ tw_610) (fun _ h9 => h9) rfl dM_tick_55 ?_
      refine lv_iload hx hb dM_tick_58 (lv_at hl 4 rfl) ?_
      refine va_zald hx hb hK hP 13 1 gM_13 rfl hin9 dM_tick_60 ?_
      refine lv_if_eq (tgt := 83) hx hb dM_tick_61 (by decide) (fun c11 => ?_) (fun c11 => ?_)
      · have hw := hw.1 c11
        refine lv_aload_n hx hb dM_tick_83 rfl (lv_at hl 0 rfl) ?_
        refine lv_iload hx hb dM_tick_84 (lv_at hl 4 rfl) ?_
        have hFc := px_free hD hS hA
        refine va_callv (va_runV (As := [.int x4]) (rest := []) ⟨hx, hb, hml, hown, hts⟩ (c_m_noAlarm l D ca ad (vG 1 ((mA σ 10) (x4).toNatClampNeg) σ) x4 _ _ hw) (cwV 1 hts (gV tw_713 tw_715 tp_23 tw_7 tw_716) rfl rfl rfl (by decide +kernel) ⟨Nat.le_of_ble_eq_true rfl, Nat.le_of_ble_eq_true rfl⟩) ⟨pm_blind, (px_recv hK hP gM_0 rfl), fun U hU hW => pm_pre hP hK hD hE hS hFc hU hW⟩ rfl rfl hl.1 rfl (lv_room (Nat.le_of_ble_eq_true rfl)) dM_tick_86 ⟨Nat.le_of_ble_eq_true rfl, Nat.le_of_ble_eq_true rfl⟩) hS (fun q _ h => hFc q h) hFc (fun s12 t H locs ht hvm hw hB _ _ hS => ?_)
        obtain ⟨hP, -, hD⟩ := hB
        rw [ht] at hP
        have hD := hD.weaken (fun _ _ _ h9 => hFc _ h9)
        refine lv_aload_n hx hb dM_tick_89 rfl (lv_at hl 0 rfl) ?_
        refine lv_iload hx hb dM_tick_90 (lv_at hl 4 rfl) ?_
        have hFc := px_free hD hS hA
        refine va_callv (va_runV (As := [.int x4]) (rest := []) ⟨hx, hb, hml, hown, hts⟩ (c_m_go l D ca ad s12 x4 _ _ hw) (cwV 1 hts (gV tw_701 tw_703 tp_20 tw_7 tw_704) rfl rfl rfl (by decide +kernel) ⟨Nat.le_of_ble_eq_true rfl, Nat.le_of_ble_eq_true rfl⟩) ⟨pm_blind, (px_recv hK hP gM_0 rfl), fun U hU hW => pm_pre hP hK hD hE hS hFc hU hW⟩ rfl rfl hl.1 rfl (lv_room (Nat.le_of_ble_eq_true rfl)) dM_tick_92 ⟨Nat.le_of_ble_eq_true rfl, Nat.le_of_ble_eq_true rfl⟩) hS (fun q _ h => hFc q h) hFc (fun s14 t H locs ht hvm hw hB _ _ hS => ?_)
        obtain ⟨hP, -, hD⟩ := hB
        rw [ht] at hP
        have hD := hD.weaken (fun _ _ _ h9 => hFc _ h9)
        refine lv_iinc (v := x3 + 1) (lv' := [(3, .int (x3 + 1)), (0, .ref (ad 0 0)), (1, .int x1), (2, .int x2), (4, .int x4)]) hx hb dM_tick_95 hl (k := 3) rfl rfl (by decide) rfl (fun ls hl => ?_)
        refine lv_aload_n hx hb dM_tick_98 rfl (lv_at hl 1 rfl) ?_
        refine lv_iload_n hx hb dM_tick_99 rfl (lv_at hl 3 rfl) ?_
        have hFc := px_free hD hS hA
        refine va_calli (va_runV (As := [.int x2]) (rest := []) ⟨hx, hb, hml, hown, hts⟩ (c_m_next l D ca ad s14 x2 _ _ hw) (cwV 1 hts (gV tw_734 tw_736 tp_25 tw_7 tw_737) rfl rfl rfl (by decide +kernel) ⟨Nat.le_of_ble_eq_true rfl, Nat.le_of_ble_eq_true rfl⟩) ⟨pm_blind, (px_recv hK hP gM_0 rfl), fun U hU hW => pm_pre hP hK hD hE hS hFc hU hW⟩ rfl rfl hl.1 rfl (lv_room (Nat.le_of_ble_eq_true rfl)) dM_tick_100 ⟨Nat.le_of_ble_eq_true rfl, Nat.le_of_ble_eq_true rfl⟩) hS (fun q _ h => hFc q h) hFc (fun r17 s16 t H locs ht hvm hw hB _ _ hS => ?_)
        obtain ⟨hP, -, hD⟩ := hB
        rw [ht] at hP
        have hD := hD.weaken (fun _ _ _ h9 => hFc _ h9)
        refine lv_istore (lv' := [(4, .int r17), (3, .int (x3 + 1)), (0, .ref (ad 0 0)), (1, .int x1), (2, .int x2)]) hx hb dM_tick_103 hl (by decide) rfl (fun ls hl => ?_)
        refine lv_goto (tgt := 38) hx hb dM_tick_105 (by decide) ?_
        exact ih s16 x1 x2 (x3 + 1) r17 hw _ _ hP hD hS ls (lv_sub hl [2, 3, 4, 1, 0] rfl)
      · have hw := hw.2 c11
        refine lv_aload_n hx hb dM_tick_64 rfl (lv_at hl 0 rfl) ?_
        refine va_get (D := D) (ci := 5) (v := .ref (ad 3 0)) (C := RM) (T := TM) (N := 26) hx hb hts inM hown hK hP 0 gM_0 rfl 9 (by decide) (hts _ tw_600) (fun _ h9 => h9) rfl dM_tick_65 ?_
        refine lv_iload hx hb dM_tick_68 (lv_at hl 4 rfl) ?_
        refine lv_aload_n hx hb dM_tick_70 rfl (lv_at hl 0 rfl) ?_
        refine va_get (D := D) (ci := 5) (v := .ref (ad 3 0)) (C := RM) (T := TM) (N := 26) hx hb hts inM hown hK hP 0 gM_0 rfl 9 (by decide) (hts _ tw_600) (fun _ h9 => h9) rfl dM_tick_71 ?_
        refine lv_iload hx hb dM_tick_74 (lv_at hl 4 rfl) ?_
        refine va_iald hx hb hK hP 3 0 gM_3 rfl hin9 dM_tick_76 ?_
        refine lv_iconst (v := 1) hx hb dM_tick_77 (by decide) ?_
        refine lv_iadd hx hb dM_tick_78 ?_
        refine lv_bipush (v := 7) hx hb dM_tick_79 (by decide) ?_
        refine lv_irem hx hb dM_tick_81 (by decide) ?_
        refine va_iast hx hb hK hP hD hS 3 0 gM_3 rfl hin9 dM_tick_82 (fun H locs hP hD hS => ?_)
        rw [sM_3] at hP hD
        refine lv_aload_n hx hb dM_tick_83 rfl (lv_at hl 0 rfl) ?_
        refine lv_iload hx hb dM_tick_84 (lv_at hl 4 rfl) ?_
        have hFc := px_free hD hS hA
        refine va_callv (va_runV (As := [.int x4]) (rest := []) ⟨hx, hb, hml, hown, hts⟩ (c_m_noAlarm l D ca ad (vA 2 (upd (mA σ 2) (x4).toNatClampNeg ((((mA σ 2) (x4).toNatClampNeg) + 1) - (((mA σ 2) (x4).toNatClampNeg) + 1) / 7 * 7)) (vG 1 ((mA σ 10) (x4).toNatClampNeg) σ)) x4 _ _ hw) (cwV 1 hts (gV tw_713 tw_715 tp_23 tw_7 tw_716) rfl rfl rfl (by decide +kernel) ⟨Nat.le_of_ble_eq_true rfl, Nat.le_of_ble_eq_true rfl⟩) ⟨pm_blind, (px_recv hK hP gM_0 rfl), fun U hU hW => pm_pre hP hK hD hE hS hFc hU hW⟩ rfl rfl hl.1 rfl (lv_room (Nat.le_of_ble_eq_true rfl)) dM_tick_86 ⟨Nat.le_of_ble_eq_true rfl, Nat.le_of_ble_eq_true rfl⟩) hS (fun q _ h => hFc q h) hFc (fun s20 t H locs ht hvm hw hB _ _ hS => ?_)
        obtain ⟨hP, -, hD⟩ := hB
        rw [ht] at hP
        have hD := hD.weaken (fun _ _ _ h9 => hFc _ h9)
        refine lv_aload_n hx hb dM_tick_89 rfl (lv_at hl 0 rfl) ?_
        refine lv_iload hx hb dM_tick_90 (lv_at hl 4 rfl) ?_
        have hFc := px_free hD hS hA
        refine va_callv (va_runV (As := [.int x4]) (rest := []) ⟨hx, hb, hml, hown, hts⟩ (c_m_go l D ca ad s20 x4 _ _ hw) (cwV 1 hts (gV tw_701 tw_703 tp_20 tw_7 tw_704) rfl rfl rfl (by decide +kernel) ⟨Nat.le_of_ble_eq_true rfl, Nat.le_of_ble_eq_true rfl⟩) ⟨pm_blind, (px_recv hK hP gM_0 rfl), fun U hU hW => pm_pre hP hK hD hE hS hFc hU hW⟩ rfl rfl hl.1 rfl (lv_room (Nat.le_of_ble_eq_true rfl)) dM_tick_92 ⟨Nat.le_of_ble_eq_true rfl, Nat.le_of_ble_eq_true rfl⟩) hS (fun q _ h => hFc q h) hFc (fun s22 t H locs ht hvm hw hB _ _ hS => ?_)
        obtain ⟨hP, -, hD⟩ := hB
        rw [ht] at hP
        have hD := hD.weaken (fun _ _ _ h9 => hFc _ h9)
        refine lv_iinc (v := x3 + 1) (lv' := [(3, .int (x3 + 1)), (0, .ref (ad 0 0)), (1, .int x1), (2, .int x2), (4, .int x4)]) hx hb dM_tick_95 hl (k := 3) rfl rfl (by decide) rfl (fun ls hl => ?_)
        refine lv_aload_n hx hb dM_tick_98 rfl (lv_at hl 1 rfl) ?_
        refine lv_iload_n hx hb dM_tick_99 rfl (lv_at hl 3 rfl) ?_
        have hFc := px_free hD hS hA
        refine va_calli (va_runV (As := [.int x2]) (rest := []) ⟨hx, hb, hml, hown, hts⟩ (c_m_next l D ca ad s22 x2 _ _ hw) (cwV 1 hts (gV tw_734 tw_736 tp_25 tw_7 tw_737) rfl rfl rfl (by decide +kernel) ⟨Nat.le_of_ble_eq_true rfl, Nat.le_of_ble_eq_true rfl⟩) ⟨pm_blind, (px_recv hK hP gM_0 rfl), fun U hU hW => pm_pre hP hK hD hE hS hFc hU hW⟩ rfl rfl hl.1 rfl (lv_room (Nat.le_of_ble_eq_true rfl)) dM_tick_100 ⟨Nat.le_of_ble_eq_true rfl, Nat.le_of_ble_eq_true rfl⟩) hS (fun q _ h => hFc q h) hFc (fun r25 s24 t H locs ht hvm hw hB _ _ hS => ?_)
        obtain ⟨hP, -, hD⟩ := hB
        rw [ht] at hP
        have hD := hD.weaken (fun _ _ _ h9 => hFc _ h9)
        refine lv_istore (lv' := [(4, .int r25), (3, .int (x3 + 1)), (0, .ref (ad 0 0)), (1, .int x1), (2, .int x2)]) hx hb dM_tick_103 hl (by decide) rfl (fun ls hl => ?_)
        refine lv_goto (tgt := 38) hx hb dM_tick_105 (by decide) ?_
        exact ih s24 x1 x2 (x3 + 1) r25 hw _ _ hP hD hS ls (lv_sub hl [2, 3, 4, 1, 0] rfl)
def wp_m_tick (post : Int32 → Sm → Prop) (σ : Sm) (a0 : Int32) : Prop := wp_m_within (fun r2 s1 => ((¬ (r2 = 0) → wp_m_next (fun r5 s4 => (∃ n : Nat, wpl_m_tick_L38 n post s4 a0 ((mG s1 1) + a0) 0 r5)) s1 ((mG s1 1) + a0)) ∧ ((r2 = 0) → wp_m_fail (fun r7 s6 => post r7 s6) s1 1))) (vG 0 0 σ) a0 1 1000
set_option maxHeartbeats 4000000 in
set_option maxRecDepth 100000 in
theorem c_m_tick (l : Launch) (D : va_G) (ca : Nat → ClassId) (ad : Nat → Nat → Nat) (σ : Sm) (a0 : Int32) (sz : Nat) (post : Int32 → Sm → Prop) (hw : wp_m_tick post σ a0) : Met l yM_tick wsM_tick ({ frames := 4, cells := 0, slots := 0, locals := 89 }) (va_Pc [.ref (ad 0 0), .int a0] (preM D ca ad σ sz)) (va_Qi post (atM D ca ad (va_A (wM ca ad σ) sz)) (va_A (wM ca ad σ) sz)) 0 0 (va_A (wM ca ad σ) sz) := by
  refine Met.ofW (cc := cM_tick) (maxL := 5) (ret := (some .int)) (by decide) rfl ?_
  intro p e s m args below meth c s₁ B hml hv
  obtain ⟨rfl, hsz, hP, hK, hD0, hE⟩ := hv
  have hx := B.exec
  have hb := B.bytes
  have hr := B.returns
  have hts : ∀ w ∈ tbG, w.before _ s = true := fun w h => atoms_spec (ws := wsM_tick) B.pre w (List.mem_cons_of_mem _ h)
  have hown : s.vm.findClass RM = some m.cls := findClass_of_methodNamed B.named
  have hlocks := B.notSynchronized
  subst hsz
  have hD := hD0.self (sz := s.heap.size)
  generalize hAe : va_A (wM ca ad σ) s.heap.size = A at hD hE ⊢
  have hA : ∀ q : Nat, s.heap.size ≤ q → A q := fun q h => by rw [← hAe]; exact Or.inr h
  clear hAe
  have hS : va_S A s.heap s.heap [] := va_S.rf
  have hl := lv_entry ([.ref (ad 0 0), .int a0]) (n := 5) (Nat.le_of_ble_eq_true rfl)
  rw [lg_entry_eq]
  generalize (lg_sl ([.ref (ad 0 0), .int a0]) ++ List.replicate (5 - (lg_sl ([.ref (ad 0 0), .int a0])).length) Slot.unset).toArray = ls at hl ⊢
  have hl : lv_has ls 5 [(0, .ref (ad 0 0)), (1, .int a0)] := hl
  unfold wp_m_tick at hw
  have hP : va_P D clX (wM ca ad σ) s.heap := hP
  refine lv_aload_n hx hb dM_tick_0 rfl (lv_at hl 0 rfl) ?_
  refine lv_iconst (v := 0) hx hb dM_tick_1 (by decide) ?_
  refine va_put (D := D) (ci := 5) (v := .int 0) (ty := .int) (C := RM) (T := TM) (N := 26) hx hb hts inM tyM tyM_ok nmM hown hK hP hD hS 0 gM_0 rfl 0 (by decide) (hts _ tw_591) (fun _ h9 => h9) rfl (by decide +kernel) rfl rfl (Nat.le_of_ble_eq_true rfl) dM_tick_2 (fun H locs hP hD hS => ?_)
  rw [sM_0_0] at hP hD
  refine lv_iload_n hx hb dM_tick_5 rfl (lv_at hl 1 rfl) ?_
  refine lv_iconst (v := 1) hx hb dM_tick_6 (by decide) ?_
  refine lv_sipush (v := 1000) hx hb dM_tick_7 (by decide) ?_
  have hFc := px_free hD hS hA
  refine va_calli (va_runS (As := [.int a0, .int 1, .int 1000]) (rest := []) ⟨hx, hb, hml, hown, hts⟩ (c_m_within l D ca ad (vG 0 0 σ) a0 1 1000 _ _ hw) (va_cwS 3 hts (gS tw_679 tw_680 tw_7 tw_681) rfl rfl rfl (by decide +kernel) ⟨Nat.le_of_ble_eq_true rfl, Nat.le_of_ble_eq_true rfl⟩) ⟨pm_blind, fun U hU hW => pm_pre hP hK hD hE hS hFc hU hW⟩ rfl rfl hl.1 rfl (lv_room (Nat.le_of_ble_eq_true rfl)) dM_tick_10 ⟨Nat.le_of_ble_eq_true rfl, Nat.le_of_ble_eq_true rfl⟩) hS (fun q _ h => hFc q h) hFc (fun r2 s1 t H locs ht hvm hw hB _ _ hS => ?_)
  obtain ⟨hP, -, hD⟩ := hB
  rw [ht] at hP
  have hD := hD.weaken (fun _ _ _ h9 => hFc _ h9)
  refine lv_if_ne (tgt := 22) hx hb dM_tick_13 (by decide) (fun c3 => ?_) (fun c3 => ?_)
  · have hw := hw.1 c3
    refine lv_aload_n hx hb dM_tick_22 rfl (lv_at hl 0 rfl) ?_
    refine va_get (D := D) (ci := 5) (v := .int (mG s1 1)) (C := RM) (T := TM) (N := 26) hx hb hts inM hown hK hP 0 gM_0 rfl 1 (by decide) (hts _ tw_592) (fun _ h9 => h9) rfl dM_tick_23 ?_
    refine lv_iload_n hx hb dM_tick_26 rfl (lv_at hl 1 rfl) ?_
    refine lv_iadd hx hb dM_tick_27 ?_
    refine lv_istore_n (lv' := [(2, .int ((mG s1 1) + a0)), (0, .ref (ad 0 0)), (1, .int a0)]) hx hb dM_tick_28 rfl hl (by decide) rfl (fun ls hl => ?_)
    refine lv_iconst (v := 0) hx hb dM_tick_29 (by decide) ?_
    refine lv_istore_n (lv' := [(3, .int 0), (2, .int ((mG s1 1) + a0)), (0, .ref (ad 0 0)), (1, .int a0)]) hx hb dM_tick_30 rfl hl (by decide) rfl (fun ls hl => ?_)
    refine lv_aload_n hx hb dM_tick_31 rfl (lv_at hl 2 rfl) ?_
    refine lv_iload_n hx hb dM_tick_32 rfl (lv_at hl 1 rfl) ?_
    have hFc := px_free hD hS hA
    refine va_calli (va_runV (As := [.int ((mG s1 1) + a0)]) (rest := []) ⟨hx, hb, hml, hown, hts⟩ (c_m_next l D ca ad s1 ((mG s1 1) + a0) _ _ hw) (cwV 1 hts (gV tw_734 tw_736 tp_25 tw_7 tw_737) rfl rfl rfl (by decide +kernel) ⟨Nat.le_of_ble_eq_true rfl, Nat.le_of_ble_eq_true rfl⟩) ⟨pm_blind, (px_recv hK hP gM_0 rfl), fun U hU hW => pm_pre hP hK hD hE hS hFc hU hW⟩ rfl rfl hl.1 rfl (lv_room (Nat.le_of_ble_eq_true rfl)) dM_tick_33 ⟨Nat.le_of_ble_eq_true rfl, Nat.le_of_ble_eq_true rfl⟩) hS (fun q _ h => hFc q h) hFc (fun r5 s4 t H locs ht hvm hw hB _ _ hS => ?_)
    obtain ⟨hP, -, hD⟩ := hB
    rw [ht] at hP
    have hD := hD.weaken (fun _ _ _ h9 => hFc _ h9)
    refine lv_istore (lv' := [(4, .int r5), (3, .int 0), (2, .int ((mG s1 1) + a0)), (0, .ref (ad 0 0)), (1, .int a0)]) hx hb dM_tick_36 hl (by decide) rfl (fun ls hl => ?_)
    obtain ⟨n, hw⟩ := hw
    exact l_m_tick_L38 (D := D) (ca := ca) (ad := ad)  hx hb hr hml hts hown hlocks hA hK hE n s4 a0 ((mG s1 1) + a0) 0 r5 hw _ _ hP hD hS ls (lv_sub hl [3, 4, 2, 1, 0] rfl)
  · have hw := hw.2 c3
    refine lv_aload_n hx hb dM_tick_16 rfl (lv_at hl 0 rfl) ?_
    refine lv_iconst (v := 1) hx hb dM_tick_17 (by decide) ?_
    have hFc := px_free hD hS hA
    refine va_calli (va_runV (As := [.int 1]) (rest := []) ⟨hx, hb, hml, hown, hts⟩ (c_m_fail l D ca ad s1 1 _ _ hw) (cwV 1 hts (gV tw_682 tw_684 tp_18 tw_7 tw_685) rfl rfl rfl (by decide +kernel) ⟨Nat.le_of_ble_eq_true rfl, Nat.le_of_ble_eq_true rfl⟩) ⟨pm_blind, (px_recv hK hP gM_0 rfl), fun U hU hW => pm_pre hP hK hD hE hS hFc hU hW⟩ rfl rfl hl.1 rfl (lv_room (Nat.le_of_ble_eq_true rfl)) dM_tick_18 ⟨Nat.le_of_ble_eq_true rfl, Nat.le_of_ble_eq_true rfl⟩) hS (fun q _ h => hFc q h) hFc (fun r7 s6 t H locs ht hvm hw hB _ _ hS => ?_)
    obtain ⟨hP, -, hD⟩ := hB
    rw [ht] at hP
    have hD := hD.weaken (fun _ _ _ h9 => hFc _ h9)
    exact W.iret (v := r7) hx hb hr (fun t ht hW => ⟨⟨r7, s6, rfl, hw, by rw [ht]; exact hP, va_K.moved hW.alike hK, hD⟩, hS.F ht⟩) hS.2.2 dM_tick_21
