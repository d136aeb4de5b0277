theorem dM_thrown_0 : decode cM_thrown 0 = .ok (.aload_n 0, 1) := by decide +kernel
theorem dM_thrown_1 : decode cM_thrown 1 = .ok (.getfield 68, 3) := by decide +kernel
theorem dM_thrown_4 : decode cM_thrown 4 = .ok (.ireturn, 1) := by decide +kernel
def wp_m_thrown (post : Int32 → Sm → Prop) (σ : Sm)  : Prop := post (mG σ 0) σ
set_option maxHeartbeats 4000000 in
set_option maxRecDepth 100000 in
theorem c_m_thrown (l : Launch) (D : va_G) (ca : Nat → ClassId) (ad : Nat → Nat → Nat) (σ : Sm)  (sz : Nat) (post : Int32 → Sm → Prop) (hw : wp_m_thrown post σ ) : Met l yM_thrown wsM_thrown ({ frames := 0, cells := 0, slots := 0, locals := 0 }) (va_Pc [.ref (ad 0 0)] (preM D ca ad σ sz)) (va_Qi post (atM D ca ad (va_A (wM ca ad σ) sz)) (va_A (wM ca ad σ) sz)) 0 0 (va_A (wM ca ad σ) sz) := by
  refine Met.ofW (cc := cM_thrown) (maxL := 1) (ret := (some .int)) (by decide) rfl ?_
  intro p e s m args below meth c s₁ B hml hv
  obtain ⟨rfl, hsz, hP, hK, hD0, hE⟩ := hv
  have hx := B.exec
  have hb := B.bytes
  have hr := B.returns
  have hts : ∀ w ∈ tbG, w.before _ s = true := fun w h => atoms_spec (ws := wsM_thrown) B.pre w (List.mem_cons_of_mem _ h)
  have hown : s.vm.findClass RM = some m.cls := findClass_of_methodNamed B.named
  have hlocks := B.notSynchronized
  subst hsz
  have hD := hD0.self (sz := s.heap.size)
  generalize hAe : va_A (wM ca ad σ) s.heap.size = A at hD hE ⊢
  have hA : ∀ q : Nat, s.heap.size ≤ q → A q := fun q h => by rw [← hAe]; exact Or.inr h
  clear hAe
  have hS : va_S A s.heap s.heap [] := va_S.rf
  have hl := lv_entry ([.ref (ad 0 0)]) (n := 1) (Nat.le_of_ble_eq_true rfl)
  rw [lg_entry_eq]
  generalize (lg_sl ([.ref (ad 0 0)]) ++ List.replicate (1 - (lg_sl ([.ref (ad 0 0)])).length) Slot.unset).toArray = ls at hl ⊢
  have hl : lv_has ls 1 [(0, .ref (ad 0 0))] := hl
  unfold wp_m_thrown at hw
  have hP : va_P D clX (wM ca ad σ) s.heap := hP
  refine lv_aload_n hx hb dM_thrown_0 rfl (lv_at hl 0 rfl) ?_
  refine va_get (D := D) (ci := 5) (v := .int (mG σ 0)) (C := RM) (T := TM) (N := 26) hx hb hts inM hown hK hP 0 gM_0 rfl 0 (by decide) (hts _ tw_591) (fun _ h9 => h9) rfl dM_thrown_1 ?_
  exact W.iret (v := (mG σ 0)) hx hb hr (fun t ht hW => ⟨⟨(mG σ 0), σ, rfl, hw, by rw [ht]; exact hP, va_K.moved hW.alike hK, hD⟩, hS.F ht⟩) hS.2.2 dM_thrown_4
theorem dM_within_0 : decode cM_within 0 = .ok (.iload_n 0, 1) := by decide +kernel
theorem dM_within_1 : decode cM_within 1 = .ok (.iload_n 1, 1) := by decide +kernel
theorem dM_within_2 : decode cM_within 2 = .ok (.if_icmp .lt 12, 3) := by decide +kernel
theorem dM_within_5 : decode cM_within 5 = .ok (.iload_n 0, 1) := by decide +kernel
theorem dM_within_6 : decode cM_within 6 = .ok (.iload_n 2, 1) := by decide +kernel
theorem dM_within_7 : decode cM_within 7 = .ok (.if_icmp .gt 7, 3) := by decide +kernel
theorem dM_within_10 : decode cM_within 10 = .ok (.iconst 1, 1) := by decide +kernel
theorem dM_within_11 : decode cM_within 11 = .ok (.goto 4, 3) := by decide +kernel
theorem dM_within_14 : decode cM_within 14 = .ok (.iconst 0, 1) := by decide +kernel
theorem dM_within_15 : decode cM_within 15 = .ok (.ireturn, 1) := by decide +kernel
def wp_m_within (post : Int32 → Sm → Prop) (σ : Sm) (a0 : Int32) (a1 : Int32) (a2 : Int32) : Prop := (((a0 < a1) → post 0 σ) ∧ (¬ (a0 < a1) → (((a2 < a0) → post 0 σ) ∧ (¬ (a2 < a0) → post 1 σ))))
set_option maxHeartbeats 4000000 in
set_option maxRecDepth 100000 in
theorem c_m_within (l : Launch) (D : va_G) (ca : Nat → ClassId) (ad : Nat → Nat → Nat) (σ : Sm) (a0 : Int32) (a1 : Int32) (a2 : Int32) (sz : Nat) (post : Int32 → Sm → Prop) (hw : wp_m_within post σ a0 a1 a2) : Met l yM_within wsM_within ({ frames := 0, cells := 0, slots := 0, locals := 0 }) (va_Pc [.int a0, .int a1, .int a2] (preM D ca ad σ sz)) (va_Qi post (atM D ca ad (va_A (wM ca ad σ) sz)) (va_A (wM ca ad σ) sz)) 0 0 (va_A (wM ca ad σ) sz) := by
  refine Met.ofW (cc := cM_within) (maxL := 3) (ret := (some .boolean)) (by decide) rfl ?_
  intro p e s m args below meth c s₁ B hml hv
  obtain ⟨rfl, hsz, hP, hK, hD0, hE⟩ := hv
  have hx := B.exec
  have hb := B.bytes
  have hr := B.returns
  have hts : ∀ w ∈ tbG, w.before _ s = true := fun w h => atoms_spec (ws := wsM_within) B.pre w (List.mem_cons_of_mem _ h)
  have hown : s.vm.findClass RM = some m.cls := findClass_of_methodNamed B.named
  have hlocks := B.notSynchronized
  subst hsz
  have hD := hD0.self (sz := s.heap.size)
  generalize hAe : va_A (wM ca ad σ) s.heap.size = A at hD hE ⊢
  have hA : ∀ q : Nat, s.heap.size ≤ q → A q := fun q h => by rw [← hAe]; exact Or.inr h
  clear hAe
  have hS : va_S A s.heap s.heap [] := va_S.rf
  have hl := lv_entry ([.int a0, .int a1, .int a2]) (n := 3) (Nat.le_of_ble_eq_true rfl)
  rw [lg_entry_eq]
  generalize (lg_sl ([.int a0, .int a1, .int a2]) ++ List.replicate (3 - (lg_sl ([.int a0, .int a1, .int a2])).length) Slot.unset).toArray = ls at hl ⊢
  have hl : lv_has ls 3 [(0, .int a0), (1, .int a1), (2, .int a2)] := hl
  unfold wp_m_within at hw
  have hP : va_P D clX (wM ca ad σ) s.heap := hP
  refine lv_iload_n hx hb dM_within_0 rfl (lv_at hl 0 rfl) ?_
  refine lv_iload_n hx hb dM_within_1 rfl (lv_at hl 1 rfl) ?_
  refine lv_icmp_lt (tgt := 14) hx hb dM_within_2 (by decide) (fun c1 => ?_) (fun c1 => ?_)
  · have hw := hw.1 c1
    refine lv_iconst (v := 0) hx hb dM_within_14 (by decide) ?_
    exact W.zret (ty := .boolean) (v := 0) hx hb hr (by decide) (fun t ht hW => ⟨⟨0, σ, rfl, hw, by rw [ht]; exact hP, va_K.moved hW.alike hK, hD⟩, hS.F ht⟩) hS.2.2 dM_within_15
  · have hw := hw.2 c1
    refine lv_iload_n hx hb dM_within_5 rfl (lv_at hl 0 rfl) ?_
    refine lv_iload_n hx hb dM_within_6 rfl (lv_at hl 2 rfl) ?_
    refine lv_icmp_gt (tgt := 14) hx hb dM_within_7 (by decide) (fun c2 => ?_) (fun c2 => ?_)
    · have hw := hw.1 c2
      refine lv_iconst (v := 0) hx hb dM_within_14 (by decide) ?_
      exact W.zret (ty := .boolean) (v := 0) hx hb hr (by decide) (fun t ht hW => ⟨⟨0, σ, rfl, hw, by rw [ht]; exact hP, va_K.moved hW.alike hK, hD⟩, hS.F ht⟩) hS.2.2 dM_within_15
    · have hw := hw.2 c2
      refine lv_iconst (v := 1) hx hb dM_within_10 (by decide) ?_
      refine lv_goto (tgt := 15) hx hb dM_within_11 (by decide) ?_
      exact W.zret (ty := .boolean) (v := 1) hx hb hr (by decide) (fun t ht hW => ⟨⟨1, σ, rfl, hw, by rw [ht]; exact hP, va_K.moved hW.alike hK, hD⟩, hS.F ht⟩) hS.2.2 dM_within_15
theorem dM_fail_0 : decode cM_fail 0 = .ok (.aload_n 0, 1) := by decide +kernel
theorem dM_fail_1 : decode cM_fail 1 = .ok (.iload_n 1, 1) := by decide +kernel
theorem dM_fail_2 : decode cM_fail 2 = .ok (.putfield 68, 3) := by decide +kernel
theorem dM_fail_5 : decode cM_fail 5 = .ok (.iconst 0, 1) := by decide +kernel
theorem dM_fail_6 : decode cM_fail 6 = .ok (.ireturn, 1) := by decide +kernel
def wp_m_fail (post : Int32 → Sm → Prop) (σ : Sm) (a0 : Int32) : Prop := post 0 (vG 0 a0 σ)
set_option maxHeartbeats 4000000 in
set_option maxRecDepth 100000 in
theorem c_m_fail (l : Launch) (D : va_G) (ca : Nat → ClassId) (ad : Nat → Nat → Nat) (σ : Sm) (a0 : Int32) (sz : Nat) (post : Int32 → Sm → Prop) (hw : wp_m_fail post σ a0) : Met l yM_fail wsM_fail ({ frames := 0, cells := 0, slots := 0, locals := 0 }) (va_Pc [.ref (ad 0 0), .int a0] (preM D ca ad σ sz)) (va_Qi post (atM D ca ad (va_A (wM ca ad σ) sz)) (va_A (wM ca ad σ) sz)) 0 0 (va_A (wM ca ad σ) sz) := by
  refine Met.ofW (cc := cM_fail) (maxL := 2) (ret := (some .int)) (by decide) rfl ?_
  intro p e s m args below meth c s₁ B hml hv
  obtain ⟨rfl, hsz, hP, hK, hD0, hE⟩ := hv
  have hx := B.exec
  have hb := B.bytes
  have hr := B.returns
  have hts : ∀ w ∈ tbG, w.before _ s = true := fun w h => atoms_spec (ws := wsM_fail) B.pre w (List.mem_cons_of_mem _ h)
  have hown : s.vm.findClass RM = some m.cls := findClass_of_methodNamed B.named
  have hlocks := B.notSynchronized
  subst hsz
  have hD := hD0.self (sz := s.heap.size)
  generalize hAe : va_A (wM ca ad σ) s.heap.size = A at hD hE ⊢
  have hA : ∀ q : Nat, s.heap.size ≤ q → A q := fun q h => by rw [← hAe]; exact Or.inr h
  clear hAe
  have hS : va_S A s.heap s.heap [] := va_S.rf
  have hl := lv_entry ([.ref (ad 0 0), .int a0]) (n := 2) (Nat.le_of_ble_eq_true rfl)
  rw [lg_entry_eq]
  generalize (lg_sl ([.ref (ad 0 0), .int a0]) ++ List.replicate (2 - (lg_sl ([.ref (ad 0 0), .int a0])).length) Slot.unset).toArray = ls at hl ⊢
  have hl : lv_has ls 2 [(0, .ref (ad 0 0)), (1, .int a0)] := hl
  unfold wp_m_fail at hw
  have hP : va_P D clX (wM ca ad σ) s.heap := hP
  refine lv_aload_n hx hb dM_fail_0 rfl (lv_at hl 0 rfl) ?_
  refine lv_iload_n hx hb dM_fail_1 rfl (lv_at hl 1 rfl) ?_
  refine va_put (D := D) (ci := 5) (v := .int a0) (ty := .int) (C := RM) (T := TM) (N := 26) hx hb hts inM tyM tyM_ok nmM hown hK hP hD hS 0 gM_0 rfl 0 (by decide) (hts _ tw_591) (fun _ h9 => h9) rfl (by decide +kernel) rfl rfl (Nat.le_of_ble_eq_true rfl) dM_fail_2 (fun H locs hP hD hS => ?_)
  rw [sM_0_0] at hP hD
  refine lv_iconst (v := 0) hx hb dM_fail_5 (by decide) ?_
  exact W.iret (v := 0) hx hb hr (fun t ht hW => ⟨⟨0, (vG 0 a0 σ), rfl, hw, by rw [ht]; exact hP, va_K.moved hW.alike hK, hD⟩, hS.F ht⟩) hS.2.2 dM_fail_6
theorem dM_isClient_0 : decode cM_isClient 0 = .ok (.iload_n 0, 1) := by decide +kernel
theorem dM_isClient_1 : decode cM_isClient 1 = .ok (.iconst 0, 1) := by decide +kernel
theorem dM_isClient_2 : decode cM_isClient 2 = .ok (.bipush 7, 2) := by decide +kernel
theorem dM_isClient_4 : decode cM_isClient 4 = .ok (.invokestatic 72, 3) := by decide +kernel
theorem dM_isClient_7 : decode cM_isClient 7 = .ok (.ireturn, 1) := by decide +kernel
def wp_m_isClient (post : Int32 → Sm → Prop) (σ : Sm) (a0 : Int32) : Prop := wp_m_within (fun r2 s1 => (narrow .boolean (.int r2) = .int r2 ∧ post r2 s1)) σ a0 0 7
set_option maxHeartbeats 4000000 in
set_option maxRecDepth 100000 in
theorem c_m_isClient (l : Launch) (D : va_G) (ca : Nat → ClassId) (ad : Nat → Nat → Nat) (σ : Sm) (a0 : Int32) (sz : Nat) (post : Int32 → Sm → Prop) (hw : wp_m_isClient post σ a0) : Met l yM_isClient wsM_isClient ({ frames := 1, cells := 0, slots := 0, locals := 22 }) (va_Pc [.int a0] (preM D ca ad σ sz)) (va_Qi post (atM D ca ad (va_A (wM ca ad σ) sz)) (va_A (wM ca ad σ) sz)) 0 0 (va_A (wM ca ad σ) sz) := by
  refine Met.ofW (cc := cM_isClient) (maxL := 1) (ret := (some .boolean)) (by decide) rfl ?_
  intro p e s m args below meth c s₁ B hml hv
  obtain ⟨rfl, hsz, hP, hK, hD0, hE⟩ := hv
  have hx := B.exec
  have hb := B.bytes
  have hr := B.returns
  have hts : ∀ w ∈ tbG, w.before _ s = true := fun w h => atoms_spec (ws := wsM_isClient) B.pre w (List.mem_cons_of_mem _ h)
  have hown : s.vm.findClass RM = some m.cls := findClass_of_methodNamed B.named
  have hlocks := B.notSynchronized
  subst hsz
  have hD := hD0.self (sz := s.heap.size)
  generalize hAe : va_A (wM ca ad σ) s.heap.size = A at hD hE ⊢
  have hA : ∀ q : Nat, s.heap.size ≤ q → A q := fun q h => by rw [← hAe]; exact Or.inr h
  clear hAe
  have hS : va_S A s.heap s.heap [] := va_S.rf
  have hl := lv_entry ([.int a0]) (n := 1) (Nat.le_of_ble_eq_true rfl)
  rw [lg_entry_eq]
  generalize (lg_sl ([.int a0]) ++ List.replicate (1 - (lg_sl ([.int a0])).length) Slot.unset).toArray = ls at hl ⊢
  have hl : lv_has ls 1 [(0, .int a0)] := hl
  unfold wp_m_isClient at hw
  have hP : va_P D clX (wM ca ad σ) s.heap := hP
  refine lv_iload_n hx hb dM_isClient_0 rfl (lv_at hl 0 rfl) ?_
  refine lv_iconst (v := 0) hx hb dM_isClient_1 (by decide) ?_
  refine lv_bipush (v := 7) hx hb dM_isClient_2 (by decide) ?_
  have hFc := px_free hD hS hA
  refine va_calli (va_runS (As := [.int a0, .int 0, .int 7]) (rest := []) ⟨hx, hb, hml, hown, hts⟩ (c_m_within l D ca ad σ a0 0 7 _ _ hw) (va_cwS 3 hts (gS tw_679 tw_680 tw_7 tw_681) rfl rfl rfl (by decide +kernel) ⟨Nat.le_of_ble_eq_true rfl, Nat.le_of_ble_eq_true rfl⟩) ⟨pm_blind, fun U hU hW => pm_pre hP hK hD hE hS hFc hU hW⟩ rfl rfl hl.1 rfl (lv_room (Nat.le_of_ble_eq_true rfl)) dM_isClient_4 ⟨Nat.le_of_ble_eq_true rfl, Nat.le_of_ble_eq_true rfl⟩) hS (fun q _ h => hFc q h) hFc (fun r2 s1 t H locs ht hvm hw hB _ _ hS => ?_)
  obtain ⟨hP, -, hD⟩ := hB
  rw [ht] at hP
  have hD := hD.weaken (fun _ _ _ h9 => hFc _ h9)
  obtain ⟨hz, hw⟩ := hw
  exact W.zret (ty := .boolean) (v := r2) hx hb hr hz (fun t ht hW => ⟨⟨r2, s1, rfl, hw, by rw [ht]; exact hP, va_K.moved hW.alike hK, hD⟩, hS.F ht⟩) hS.2.2 dM_isClient_7
theorem dM_fits_0 : decode cM_fits 0 = .ok (.iload_n 0, 1) := by decide +kernel
theorem dM_fits_1 : decode cM_fits 1 = .ok (.iconst 0, 1) := by decide +kernel
theorem dM_fits_2 : decode cM_fits 2 = .ok (.iconst 5, 1) := by decide +kernel
theorem dM_fits_3 : decode cM_fits 3 = .ok (.invokestatic 72, 3) := by decide +kernel
theorem dM_fits_6 : decode cM_fits 6 = .ok (.ifCond .eq 32, 3) := by decide +kernel
theorem dM_fits_9 : decode cM_fits 9 = .ok (.iload_n 1, 1) := by decide +kernel
theorem dM_fits_10 : decode cM_fits 10 = .ok (.iconst 1, 1) := by decide +kernel
theorem dM_fits_11 : decode cM_fits 11 = .ok (.bipush 32, 2) := by decide +kernel
theorem dM_fits_13 : decode cM_fits 13 = .ok (.invokestatic 72, 3) := by decide +kernel
theorem dM_fits_16 : decode cM_fits 16 = .ok (.ifCond .eq 22, 3) := by decide +kernel
theorem dM_fits_19 : decode cM_fits 19 = .ok (.iload_n 2, 1) := by decide +kernel
theorem dM_fits_20 : decode cM_fits 20 = .ok (.iconst 0, 1) := by decide +kernel
theorem dM_fits_21 : decode cM_fits 21 = .ok (.iload_n 0, 1) := by decide +kernel
theorem dM_fits_22 : decode cM_fits 22 = .ok (.iconst 1, 1) := by decide +kernel
theorem dM_fits_23 : decode cM_fits 23 = .ok (.if_icmp .ne 8, 3) := by decide +kernel
theorem dM_fits_26 : decode cM_fits 26 = .ok (.bipush 100, 2) := by decide +kernel
theorem dM_fits_28 : decode cM_fits 28 = .ok (.goto 4, 3) := by decide +kernel
theorem dM_fits_31 : decode cM_fits 31 = .ok (.iconst 0, 1) := by decide +kernel
theorem dM_fits_32 : decode cM_fits 32 = .ok (.invokestatic 72, 3) := by decide +kernel
theorem dM_fits_35 : decode cM_fits 35 = .ok (.ifCond .ne 5, 3) := by decide +kernel
theorem dM_fits_38 : decode cM_fits 38 = .ok (.iconst 0, 1) := by decide +kernel
theorem dM_fits_39 : decode cM_fits 39 = .ok (.ireturn, 1) := by decide +kernel
theorem dM_fits_40 : decode cM_fits 40 = .ok (.iload_n 3, 1) := by decide +kernel
theorem dM_fits_41 : decode cM_fits 41 = .ok (.iload_n 1, 1) := by decide +kernel
theorem dM_fits_42 : decode cM_fits 42 = .ok (.isub, 1) := by decide +kernel
theorem dM_fits_43 : decode cM_fits 43 = .ok (.iload_n 2, 1) := by decide +kernel
theorem dM_fits_44 : decode cM_fits 44 = .ok (.isub, 1) := by decide +kernel
theorem dM_fits_45 : decode cM_fits 45 = .ok (.istore 4, 2) := by decide +kernel
theorem dM_fits_47 : decode cM_fits 47 = .ok (.iload_n 0, 1) := by decide +kernel
theorem dM_fits_48 : decode cM_fits 48 = .ok (.iconst 2, 1) := by decide +kernel
theorem dM_fits_49 : decode cM_fits 49 = .ok (.if_icmp .ge 14, 3) := by decide +kernel
theorem dM_fits_52 : decode cM_fits 52 = .ok (.iload 4, 2) := by decide +kernel
theorem dM_fits_54 : decode cM_fits 54 = .ok (.iconst 0, 1) := by decide +kernel
theorem dM_fits_55 : decode cM_fits 55 = .ok (.bipush 100, 2) := by decide +kernel
theorem dM_fits_57 : decode cM_fits 57 = .ok (.invokestatic 72, 3) := by decide +kernel
theorem dM_fits_60 : decode cM_fits 60 = .ok (.goto 29, 3) := by decide +kernel
theorem dM_fits_63 : decode cM_fits 63 = .ok (.iload_n 0, 1) := by decide +kernel
theorem dM_fits_64 : decode cM_fits 64 = .ok (.iconst 4, 1) := by decide +kernel
theorem dM_fits_65 : decode cM_fits 65 = .ok (.if_icmp .ne 14, 3) := by decide +kernel
theorem dM_fits_68 : decode cM_fits 68 = .ok (.iload 4, 2) := by decide +kernel
theorem dM_fits_70 : decode cM_fits 70 = .ok (.iconst 1, 1) := by decide +kernel
theorem dM_fits_71 : decode cM_fits 71 = .ok (.bipush 32, 2) := by decide +kernel
theorem dM_fits_73 : decode cM_fits 73 = .ok (.invokestatic 72, 3) := by decide +kernel
theorem dM_fits_76 : decode cM_fits 76 = .ok (.goto 13, 3) := by decide +kernel
theorem dM_fits_79 : decode cM_fits 79 = .ok (.iload 4, 2) := by decide +kernel
theorem dM_fits_81 : decode cM_fits 81 = .ok (.ifCond .ne 7, 3) := by decide +kernel
theorem dM_fits_84 : decode cM_fits 84 = .ok (.iconst 1, 1) := by decide +kernel
theorem dM_fits_85 : decode cM_fits 85 = .ok (.goto 4, 3) := by decide +kernel
theorem dM_fits_88 : decode cM_fits 88 = .ok (.iconst 0, 1) := by decide +kernel
theorem dM_fits_89 : decode cM_fits 89 = .ok (.ireturn, 1) := by decide +kernel
def wp_m_fits (post : Int32 → Sm → Prop) (σ : Sm) (a0 : Int32) (a1 : Int32) (a2 : Int32) (a3 : Int32) : Prop := wp_m_within (fun r2 s1 => (((r2 = 0) → post 0 s1) ∧ (¬ (r2 = 0) → wp_m_within (fun r5 s4 => (((r5 = 0) → post 0 s4) ∧ (¬ (r5 = 0) → ((¬ (a0 = 1) → wp_m_within (fun r9 s8 => ((¬ (r9 = 0) → (((2 ≤ a0) → ((¬ (a0 = 4) → ((¬ (((a3 - a1) - a2) = 0) → post 0 s8) ∧ ((((a3 - a1) - a2) = 0) → post 1 s8))) ∧ ((a0 = 4) → wp_m_within (fun r15 s14 => (narrow .boolean (.int r15) = .int r15 ∧ post r15 s14)) s8 ((a3 - a1) - a2) 1 32))) ∧ (¬ (2 ≤ a0) → wp_m_within (fun r17 s16 => (narrow .boolean (.int r17) = .int r17 ∧ post r17 s16)) s8 ((a3 - a1) - a2) 0 100))) ∧ ((r9 = 0) → post 0 s8))) s4 a2 0 0) ∧ ((a0 = 1) → wp_m_within (fun r19 s18 => ((¬ (r19 = 0) → (((2 ≤ a0) → ((¬ (a0 = 4) → ((¬ (((a3 - a1) - a2) = 0) → post 0 s18) ∧ ((((a3 - a1) - a2) = 0) → post 1 s18))) ∧ ((a0 = 4) → wp_m_within (fun r25 s24 => (narrow .boolean (.int r25) = .int r25 ∧ post r25 s24)) s18 ((a3 - a1) - a2) 1 32))) ∧ (¬ (2 ≤ a0) → wp_m_within (fun r27 s26 => (narrow .boolean (.int r27) = .int r27 ∧ post r27 s26)) s18 ((a3 - a1) - a2) 0 100))) ∧ ((r19 = 0) → post 0 s18))) s4 a2 0 100))))) s1 a1 1 32))) σ a0 0 5
set_option maxHeartbeats 4000000 in
set_option maxRecDepth 100000 in
theorem c_m_fits (l : Launch) (D : va_G) (ca : Nat → ClassId) (ad : Nat → Nat → Nat) (σ : Sm) (a0 : Int32) (a1 : Int32) (a2 : Int32) (a3 : Int32) (sz : Nat) (post : Int32 → Sm → Prop) (hw : wp_m_fits post σ a0 a1 a2 a3) : Met l yM_fits wsM_fits ({ frames := 1, cells := 0, slots := 0, locals := 22 }) (va_Pc [.int a0, .int a1, .int a2, .int a3] (preM D ca ad σ sz)) (va_Qi post (atM D ca ad (va_A (wM ca ad σ) sz)) (va_A (wM ca ad σ) sz)) 0 0 (va_A (wM ca ad σ) sz) := by
  refine Met.ofW (cc := cM_fits) (maxL := 5) (ret := (some .boolean)) (by decide) rfl ?_
  intro p e s m args below meth c s₁ B hml hv
  obtain ⟨rfl, hsz, hP, hK, hD0, hE⟩ := hv
  have hx := B.exec
  have hb := B.bytes
  have hr := B.returns
  have hts : ∀ w ∈ tbG, w.before _ s = true := fun w h => atoms_spec (ws := wsM_fits) B.pre w (List.mem_cons_of_mem _ h)
  have hown : s.vm.findClass RM = some m.cls := findClass_of_methodNamed B.named
  have hlocks := B.notSynchronized
  subst hsz
  have hD := hD0.self (sz := s.heap.size)
  generalize hAe : va_A (wM ca ad σ) s.heap.size = A at hD hE ⊢
  have hA : ∀ q : Nat, s.heap.size ≤ q → A q := fun q h => by rw [← hAe]; exact Or.inr h
  clear hAe
  have hS : va_S A s.heap s.heap [] := va_S.rf
  have hl := lv_entry ([.int a0, .int a1, .int a2, .int a3]) (n := 5) (Nat.le_of_ble_eq_true rfl)
  rw [lg_entry_eq]
  generalize (lg_sl ([.int a0, .int a1, .int a2, .int a3]) ++ List.replicate (5 - (lg_sl ([.int a0, .int a1, .int a2, .int a3])).length) Slot.unset).toArray = ls at hl ⊢
  have hl : lv_has ls 5 [(0, .int a0), (1, .int a1), (2, .int a2), (3, .int a3)] := hl
  unfold wp_m_fits at hw
  have hP : va_P D clX (wM ca ad σ) s.heap := hP
  refine lv_iload_n hx hb dM_fits_0 rfl (lv_at hl 0 rfl) ?_
  refine lv_iconst (v := 0) hx hb dM_fits_1 (by decide) ?_
  refine lv_iconst (v := 5) hx hb dM_fits_2 (by decide) ?_
  have hFc := px_free hD hS hA
  refine va_calli (va_runS (As := [.int a0, .int 0, .int 5]) (rest := []) ⟨hx, hb, hml, hown, hts⟩ (c_m_within l D ca ad σ a0 0 5 _ _ hw) (va_cwS 3 hts (gS tw_679 tw_680 tw_7 tw_681) rfl rfl rfl (by decide +kernel) ⟨Nat.le_of_ble_eq_true rfl, Nat.le_of_ble_eq_true rfl⟩) ⟨pm_blind, fun U hU hW => pm_pre hP hK hD hE hS hFc hU hW⟩ rfl rfl hl.1 rfl (lv_room (Nat.le_of_ble_eq_true rfl)) dM_fits_3 ⟨Nat.le_of_ble_eq_true rfl, Nat.le_of_ble_eq_true rfl⟩) hS (fun q _ h => hFc q h) hFc (fun r2 s1 t H locs ht hvm hw hB _ _ hS => ?_)
  obtain ⟨hP, -, hD⟩ := hB
  rw [ht] at hP
  have hD := hD.weaken (fun _ _ _ h9 => hFc _ h9)
  refine lv_if_eq (tgt := 38) hx hb dM_fits_6 (by decide) (fun c3 => ?_) (fun c3 => ?_)
  · have hw := hw.1 c3
    refine lv_iconst (v := 0) hx hb dM_fits_38 (by decide) ?_
    exact W.zret (ty := .boolean) (v := 0) hx hb hr (by decide) (fun t ht hW => ⟨⟨0, s1, rfl, hw, by rw [ht]; exact hP, va_K.moved hW.alike hK, hD⟩, hS.F ht⟩) hS.2.2 dM_fits_39
  · have hw := hw.2 c3
    refine lv_iload_n hx hb dM_fits_9 rfl (lv_at hl 1 rfl) ?_
    refine lv_iconst (v := 1) hx hb dM_fits_10 (by decide) ?_
    refine lv_bipush (v := 32) hx hb dM_fits_11 (by decide) ?_
    have hFc := px_free hD hS hA
    refine va_calli (va_runS (As := [.int a1, .int 1, .int 32]) (rest := []) ⟨hx, hb, hml, hown, hts⟩ (c_m_within l D ca ad s1 a1 1 32 _ _ hw) (va_cwS 3 hts (gS tw_679 tw_680 tw_7 tw_681) rfl rfl rfl (by decide +kernel) ⟨Nat.le_of_ble_eq_true rfl, Nat.le_of_ble_eq_true rfl⟩) ⟨pm_blind, fun U hU hW => pm_pre hP hK hD hE hS hFc hU hW⟩ rfl rfl hl.1 rfl (lv_room (Nat.le_of_ble_eq_true rfl)) dM_fits_13 ⟨Nat.le_of_ble_eq_true rfl, Nat.le_of_ble_eq_true rfl⟩) hS (fun q _ h => hFc q h) hFc (fun r5 s4 t H locs ht hvm hw hB _ _ hS => ?_)
    obtain ⟨hP, -, hD⟩ := hB
    rw [ht] at hP
    have hD := hD.weaken (fun _ _ _ h9 => hFc _ h9)
    refine lv_if_eq (tgt := 38) hx hb dM_fits_16 (by decide) (fun c6 => ?_) (fun c6 => ?_)
    · have hw := hw.1 c6
      refine lv_iconst (v := 0) hx hb dM_fits_38 (by decide) ?_
      exact W.zret (ty := .boolean) (v := 0) hx hb hr (by decide) (fun t ht hW => ⟨⟨0, s4, rfl, hw, by rw [ht]; exact hP, va_K.moved hW.alike hK, hD⟩, hS.F ht⟩) hS.2.2 dM_fits_39
    · have hw := hw.2 c6
      refine lv_iload_n hx hb dM_fits_19 rfl (lv_at hl 2 rfl) ?_
      refine lv_iconst (v := 0) hx hb dM_fits_20 (by decide) ?_
      refine lv_iload_n hx hb dM_fits_21 rfl (lv_at hl 0 rfl) ?_
      refine lv_iconst (v := 1) hx hb dM_fits_22 (by decide) ?_
      refine lv_icmp_ne (tgt := 31) hx hb dM_fits_23 (by decide) (fun c7 => ?_) (fun c7 => ?_)
      · have hw := hw.1 c7
        refine lv_iconst (v := 0) hx hb dM_fits_31 (by decide) ?_
        have hFc := px_free hD hS hA
        refine va_calli (va_runS (As := [.int a2, .int 0, .int 0]) (rest := []) ⟨hx, hb, hml, hown, hts⟩ (c_m_within l D ca ad s4 a2 0 0 _ _ hw) (va_cwS 3 hts (gS tw_679 tw_680 tw_7 tw_681) rfl rfl rfl (by decide +kernel) ⟨Nat.le_of_ble_eq_true rfl, Nat.le_of_ble_eq_true rfl⟩) ⟨pm_blind, fun U hU hW => pm_pre hP hK hD hE hS hFc hU hW⟩ rfl rfl hl.1 rfl (lv_room (Nat.le_of_ble_eq_true rfl)) dM_fits_32 ⟨Nat.le_of_ble_eq_true rfl, Nat.le_of_ble_eq_true rfl⟩) hS (fun q _ h => hFc q h) hFc (fun r9 s8 t H locs ht hvm hw hB _ _ hS => ?_)
        obtain ⟨hP, -, hD⟩ := hB
        rw [ht] at hP
        have hD := hD.weaken (fun _ _ _ h9 => hFc _ h9)
        refine lv_if_ne (tgt := 40) hx hb dM_fits_35 (by decide) (fun c10 => ?_) (fun c10 => ?_)
        · have hw := hw.1 c10
          refine lv_iload_n hx hb dM_fits_40 rfl (lv_at hl 3 rfl) ?_
          refine lv_iload_n hx hb dM_fits_41 rfl (lv_at hl 1 rfl) ?_
          refine lv_isub hx hb dM_fits_42 ?_
          refine lv_iload_n hx hb dM_fits_43 rfl (lv_at hl 2 rfl) ?_
          refine lv_isub hx hb dM_fits_44 ?_
          refine lv_istore (lv' := [(4, .int ((a3 - a1) - a2)), (0, .int a0), (1, .int a1), (2, .int a2), (3, .int a3)]) hx hb dM_fits_45 hl (by decide) rfl (fun ls hl => ?_)
          refine lv_iload_n hx hb dM_fits_47 rfl (lv_at hl 1 rfl) ?_
          refine lv_iconst (v := 2) hx hb dM_fits_48 (by decide) ?_
          refine lv_icmp_ge (tgt := 63) hx hb dM_fits_49 (by decide) (fun c11 => ?_) (fun c11 => ?_)
          · have hw := hw.1 c11
            refine lv_iload_n hx hb dM_fits_63 rfl (lv_at hl 1 rfl) ?_
            refine lv_iconst (v := 4) hx hb dM_fits_64 (by decide) ?_
            refine lv_icmp_ne (tgt := 79) hx hb dM_fits_65 (by decide) (fun c12 => ?_) (fun c12 => ?_)
            · have hw := hw.1 c12
              refine lv_iload hx hb dM_fits_79 (lv_at hl 0 rfl) ?_
              refine lv_if_ne (tgt := 88) hx hb dM_fits_81 (by decide) (fun c13 => ?_) (fun c13 => ?_)
              · have hw := hw.1 c13
                refine lv_iconst (v := 0) hx hb dM_fits_88 (by decide) ?_
                exact W.zret (ty := .boolean) (v := 0) hx hb hr (by decide) (fun t ht hW => ⟨⟨0, s8, rfl, hw, by rw [ht]; exact hP, va_K.moved hW.alike hK, hD⟩, hS.F ht⟩) hS.2.2 dM_fits_89
              · have hw := hw.2 c13
                refine lv_iconst (v := 1) hx hb dM_fits_84 (by decide) ?_
                refine lv_goto (tgt := 89) hx hb dM_fits_85 (by decide) ?_
                exact W.zret (ty := .boolean) (v := 1) hx hb hr (by decide) (fun t ht hW => ⟨⟨1, s8, rfl, hw, by rw [ht]; exact hP, va_K.moved hW.alike hK, hD⟩, hS.F ht⟩) hS.2.2 dM_fits_89
            · have hw := hw.2 c12
              refine lv_iload hx hb dM_fits_68 (lv_at hl 0 rfl) ?_
              refine lv_iconst (v := 1) hx hb dM_fits_70 (by decide) ?_
              refine lv_bipush (v := 32) hx hb dM_fits_71 (by decide) ?_
              have hFc := px_free hD hS hA
              refine va_calli (va_runS (As := [.int ((a3 - a1) - a2), .int 1, .int 32]) (rest := []) ⟨hx, hb, hml, hown, hts⟩ (c_m_within l D ca ad s8 ((a3 - a1) - a2) 1 32 _ _ hw) (va_cwS 3 hts (gS tw_679 tw_680 tw_7 tw_681) rfl rfl rfl (by decide +kernel) ⟨Nat.le_of_ble_eq_true rfl, Nat.le_of_ble_eq_true rfl⟩) ⟨pm_blind, fun U hU hW => pm_pre hP hK hD hE hS hFc hU hW⟩ rfl rfl hl.1 rfl (lv_room (Nat.le_of_ble_eq_true rfl)) dM_fits_73 ⟨Nat.le_of_ble_eq_true rfl, Nat.le_of_ble_eq_true rfl⟩) hS (fun q _ h => hFc q h) hFc (fun r15 s14 t H locs ht hvm hw hB _ _ hS => ?_)
              obtain ⟨hP, -, hD⟩ := hB
              rw [ht] at hP
              have hD := hD.weaken (fun _ _ _ h9 => hFc _ h9)
              refine lv_goto (tgt := 89) hx hb dM_fits_76 (by decide) ?_
              obtain ⟨hz, hw⟩ := hw
              exact W.zret (ty := .boolean) (v := r15) hx hb hr hz (fun t ht hW => ⟨⟨r15, s14, rfl, hw, by rw [ht]; exact hP, va_K.moved hW.alike hK, hD⟩, hS.F ht⟩) hS.2.2 dM_fits_89
          · have hw := hw.2 c11
            refine lv_iload hx hb dM_fits_52 (lv_at hl 0 rfl) ?_
            refine lv_iconst (v := 0) hx hb dM_fits_54 (by decide) ?_
            refine lv_bipush (v := 100) hx hb dM_fits_55 (by decide) ?_
            have hFc := px_free hD hS hA
            refine va_calli (va_runS (As := [.int ((a3 - a1) - a2), .int 0, .int 100]) (rest := []) ⟨hx, hb, hml, hown, hts⟩ (c_m_within l D ca ad s8 ((a3 - a1) - a2) 0 100 _ _ hw) (va_cwS 3 hts (gS tw_679 tw_680 tw_7 tw_681) rfl rfl rfl (by decide +kernel) ⟨Nat.le_of_ble_eq_true rfl, Nat.le_of_ble_eq_true rfl⟩) ⟨pm_blind, fun U hU hW => pm_pre hP hK hD hE hS hFc hU hW⟩ rfl rfl hl.1 rfl (lv_room (Nat.le_of_ble_eq_true rfl)) dM_fits_57 ⟨Nat.le_of_ble_eq_true rfl, Nat.le_of_ble_eq_true rfl⟩) hS (fun q _ h => hFc q h) hFc (fun r17 s16 t H locs ht hvm hw hB _ _ hS => ?_)
            obtain ⟨hP, -, hD⟩ := hB
            rw [ht] at hP
            have hD := hD.weaken (fun _ _ _ h9 => hFc _ h9)
            refine lv_goto (tgt := 89) hx hb dM_fits_60 (by decide) ?_
            obtain ⟨hz, hw⟩ := hw
            exact W.zret (ty := .boolean) (v := r17) hx hb hr hz (fun t ht hW => ⟨⟨r17, s16, rfl, hw, by rw [ht]; exact hP, va_K.moved hW.alike hK, hD⟩, hS.F ht⟩) hS.2.2 dM_fits_89
        · have hw := hw.2 c10
          refine lv_iconst (v := 0) hx hb dM_fits_38 (by decide) ?_
          exact W.zret (ty := .boolean) (v := 0) hx hb hr (by decide) (fun t ht hW => ⟨⟨0, s8, rfl, hw, by rw [ht]; exact hP, va_K.moved hW.alike hK, hD⟩, hS.F ht⟩) hS.2.2 dM_fits_39
      · have hw := hw.2 c7
        refine lv_bipush (v := 100) hx hb dM_fits_26 (by decide) ?_
        refine lv_goto (tgt := 32) hx hb dM_fits_28 (by decide) ?_
        have hFc := px_free hD hS hA
        refine va_calli (va_runS (As := [.int a2, .int 0, .int 100]) (rest := []) ⟨hx, hb, hml, hown, hts⟩ (c_m_within l D ca ad s4 a2 0 100 _ _ hw) (va_cwS 3 hts (gS tw_679 tw_680 tw_7 tw_681) rfl rfl rfl (by decide +kernel) ⟨Nat.le_of_ble_eq_true rfl, Nat.le_of_ble_eq_true rfl⟩) ⟨pm_blind, fun U hU hW => pm_pre hP hK hD hE hS hFc hU hW⟩ rfl rfl hl.1 rfl (lv_room (Nat.le_of_ble_eq_true rfl)) dM_fits_32 ⟨Nat.le_of_ble_eq_true rfl, Nat.le_of_ble_eq_true rfl⟩) hS (fun q _ h => hFc q h) hFc (fun r19 s18 t H locs ht hvm hw hB _ _ hS => ?_)
        obtain ⟨hP, -, hD⟩ := hB
        rw [ht] at hP
        have hD := hD.weaken (fun _ _ _ h9 => hFc _ h9)
        refine lv_if_ne (tgt := 40) hx hb dM_fits_35 (by decide) (fun c20 => ?_) (fun c20 => ?_)
        · have hw := hw.1 c20
          refine lv_iload_n hx hb dM_fits_40 rfl (lv_at hl 3 rfl) ?_
          refine lv_iload_n hx hb dM_fits_41 rfl (lv_at hl 1 rfl) ?_
          refine lv_isub hx hb dM_fits_42 ?_
          refine lv_iload_n hx hb dM_fits_43 rfl (lv_at hl 2 rfl) ?_
          refine lv_isub hx hb dM_fits_44 ?_
          refine lv_istore (lv' := [(4, .int ((a3 - a1) - a2)), (0, .int a0), (1, .int a1), (2, .int a2), (3, .int a3)]) hx hb dM_fits_45 hl (by decide) rfl (fun ls hl => ?_)
          refine lv_iload_n hx hb dM_fits_47 rfl (lv_at hl 1 rfl) ?_
          refine lv_iconst (v := 2) hx hb dM_fits_48 (by decide) ?_
          refine lv_icmp_ge (tgt := 63) hx hb dM_fits_49 (by decide) (fun c21 => ?_) (fun c21 => ?_)
          · have hw := hw.1 c21
            refine lv_iload_n hx hb dM_fits_63 rfl (lv_at hl 1 rfl) ?_
            refine lv_iconst (v := 4) hx hb dM_fits_64 (by decide) ?_
            refine lv_icmp_ne (tgt := 79) hx hb dM_fits_65 (by decide) (fun c22 => ?_) (fun c22 => ?_)
            · have hw := hw.1 c22
              refine lv_iload hx hb dM_fits_79 (lv_at hl 0 rfl) ?_
              refine lv_if_ne (tgt := 88) hx hb dM_fits_81 (by decide) (fun c23 => ?_) (fun c23 => ?_)
              · have hw := hw.1 c23
                refine lv_iconst (v := 0) hx hb dM_fits_88 (by decide) ?_
                exact W.zret (ty := .boolean) (v := 0) hx hb hr (by decide) (fun t ht hW => ⟨⟨0, s18, rfl, hw, by rw [ht]; exact hP, va_K.moved hW.alike hK, hD⟩, hS.F ht⟩) hS.2.2 dM_fits_89
              · have hw := hw.2 c23
                refine lv_iconst (v := 1) hx hb dM_fits_84 (by decide) ?_
                refine lv_goto (tgt := 89) hx hb dM_fits_85 (by decide) ?_
                exact W.zret (ty := .boolean) (v := 1) hx hb hr (by decide) (fun t ht hW => ⟨⟨1, s18, rfl, hw, by rw [ht]; exact hP, va_K.moved hW.alike hK, hD⟩, hS.F ht⟩) hS.2.2 dM_fits_89
            · have hw := hw.2 c22
              refine lv_iload hx hb dM_fits_68 (lv_at hl 0 rfl) ?_
              refine lv_iconst (v := 1) hx hb dM_fits_70 (by decide) ?_
              refine lv_bipush (v := 32) hx hb dM_fits_71 (by decide) ?_
              have hFc := px_free hD hS hA
              refine va_calli (va_runS (As := [.int ((a3 - a1) - a2), .int 1, .int 32]) (rest := []) ⟨hx, hb, hml, hown, hts⟩ (c_m_within l D ca ad s18 ((a3 - a1) - a2) 1 32 _ _ hw) (va_cwS 3 hts (gS tw_679 tw_680 tw_7 tw_681) rfl rfl rfl (by decide +kernel) ⟨Nat.le_of_ble_eq_true rfl, Nat.le_of_ble_eq_true rfl⟩) ⟨pm_blind, fun U hU hW => pm_pre hP hK hD hE hS hFc hU hW⟩ rfl rfl hl.1 rfl (lv_room (Nat.le_of_ble_eq_true rfl)) dM_fits_73 ⟨Nat.le_of_ble_eq_true rfl, Nat.le_of_ble_eq_true rfl⟩) hS (fun q _ h => hFc q h) hFc (fun r25 s24 t H locs ht hvm hw hB _ _ hS => ?_)
              obtain ⟨hP, -, hD⟩ := hB
              rw [ht] at hP
              have hD := hD.weaken (fun _ _ _ h9 => hFc _ h9)
              refine lv_goto (tgt := 89) hx hb dM_fits_76 (by decide) ?_
              obtain ⟨hz, hw⟩ := hw
              exact W.zret (ty := .boolean) (v := r25) hx hb hr hz (fun t ht hW => ⟨⟨r25, s24, rfl, hw, by rw [ht]; exact hP, va_K.moved hW.alike hK, hD⟩, hS.F ht⟩) hS.2.2 dM_fits_89
          · have hw := hw.2 c21
            refine lv_iload hx hb dM_fits_52 (lv_at hl 0 rfl) ?_
            refine lv_iconst (v := 0) hx hb dM_fits_54 (by decide) ?_
            refine lv_bipush (v := 100) hx hb dM_fits_55 (by decide) ?_
            have hFc := px_free hD hS hA
            refine va_calli (va_runS (As := [.int ((a3 - a1) - a2), .int 0, .int 100]) (rest := []) ⟨hx, hb, hml, hown, hts⟩ (c_m_within l D ca ad s18 ((a3 - a1) - a2) 0 100 _ _ hw) (va_cwS 3 hts (gS tw_679 tw_680 tw_7 tw_681) rfl rfl rfl (by decide +kernel) ⟨Nat.le_of_ble_eq_true rfl, Nat.le_of_ble_eq_true rfl⟩) ⟨pm_blind, fun U hU hW => pm_pre hP hK hD hE hS hFc hU hW⟩ rfl rfl hl.1 rfl (lv_room (Nat.le_of_ble_eq_true rfl)) dM_fits_57 ⟨Nat.le_of_ble_eq_true rfl, Nat.le_of_ble_eq_true rfl⟩) hS (fun q _ h => hFc q h) hFc (fun r27 s26 t H locs ht hvm hw hB _ _ hS => ?_)
            obtain ⟨hP, -, hD⟩ := hB
            rw [ht] at hP
            have hD := hD.weaken (fun _ _ _ h9 => hFc _ h9)
            refine lv_goto (tgt := 89) hx hb dM_fits_60 (by decide) ?_
            obtain ⟨hz, hw⟩ := hw
            exact W.zret (ty := .boolean) (v := r27) hx hb hr hz (fun t ht hW => ⟨⟨r27, s26, rfl, hw, by rw [ht]; exact hP, va_K.moved hW.alike hK, hD⟩, hS.F ht⟩) hS.2.2 dM_fits_89
        · have hw := hw.2 c20
          refine lv_iconst (v := 0) hx hb dM_fits_38 (by decide) ?_
          exact W.zret (ty := .boolean) (v := 0) hx hb hr (by decide) (fun t ht hW => ⟨⟨0, s18, rfl, hw, by rw [ht]; exact hP, va_K.moved hW.alike hK, hD⟩, hS.F ht⟩) hS.2.2 dM_fits_39
theorem dM_noAlarm_0 : decode cM_noAlarm 0 = .ok (.aload_n 0, 1) := by decide +kernel
theorem dM_noAlarm_1 : decode cM_noAlarm 1 = .ok (.getfield 44, 3) := by decide +kernel
theorem dM_noAlarm_4 : decode cM_noAlarm 4 = .ok (.iload_n 1, 1) := by decide +kernel
theorem dM_noAlarm_5 : decode cM_noAlarm 5 = .ok (.iconst 0, 1) := by decide +kernel
theorem dM_noAlarm_6 : decode cM_noAlarm 6 = .ok (.iastore, 1) := by decide +kernel
theorem dM_noAlarm_7 : decode cM_noAlarm 7 = .ok (.aload_n 0, 1) := by decide +kernel
theorem dM_noAlarm_8 : decode cM_noAlarm 8 = .ok (.getfield 47, 3) := by decide +kernel
theorem dM_noAlarm_11 : decode cM_noAlarm 11 = .ok (.iload_n 1, 1) := by decide +kernel
theorem dM_noAlarm_12 : decode cM_noAlarm 12 = .ok (.iconst 0, 1) := by decide +kernel
theorem dM_noAlarm_13 : decode cM_noAlarm 13 = .ok (.bastore, 1) := by decide +kernel
theorem dM_noAlarm_14 : decode cM_noAlarm 14 = .ok (.return_, 1) := by decide +kernel
def wp_m_noAlarm (post : Sm → Prop) (σ : Sm) (a0 : Int32) : Prop := (vp_in a0 8 ∧ post (vA 12 (upd (mA σ 12) (a0).toNatClampNeg (vp_nar .boolean 0)) (vA 11 (upd (mA σ 11) (a0).toNatClampNeg 0) σ)))
set_option maxHeartbeats 4000000 in
set_option maxRecDepth 100000 in
theorem c_m_noAlarm (l : Launch) (D : va_G) (ca : Nat → ClassId) (ad : Nat → Nat → Nat) (σ : Sm) (a0 : Int32) (sz : Nat) (post : Sm → Prop) (hw : wp_m_noAlarm post σ a0) : Met l yM_noAlarm wsM_noAlarm ({ frames := 0, cells := 0, slots := 0, locals := 0 }) (va_Pc [.ref (ad 0 0), .int a0] (preM D ca ad σ sz)) (va_Qv post (atM D ca ad (va_A (wM ca ad σ) sz)) (va_A (wM ca ad σ) sz)) 0 0 (va_A (wM ca ad σ) sz) := by
  refine Met.ofW (cc := cM_noAlarm) (maxL := 2) (ret := none) (by decide) rfl ?_
  intro p e s m args below meth c s₁ B hml hv
  obtain ⟨rfl, hsz, hP, hK, hD0, hE⟩ := hv
  have hx := B.exec
  have hb := B.bytes
  have hr := B.returns
  have hts : ∀ w ∈ tbG, w.before _ s = true := fun w h => atoms_spec (ws := wsM_noAlarm) B.pre w (List.mem_cons_of_mem _ h)
  have hown : s.vm.findClass RM = some m.cls := findClass_of_methodNamed B.named
  have hlocks := B.notSynchronized
  subst hsz
  have hD := hD0.self (sz := s.heap.size)
  generalize hAe : va_A (wM ca ad σ) s.heap.size = A at hD hE ⊢
  have hA : ∀ q : Nat, s.heap.size ≤ q → A q := fun q h => by rw [← hAe]; exact Or.inr h
  clear hAe
  have hS : va_S A s.heap s.heap [] := va_S.rf
  have hl := lv_entry ([.ref (ad 0 0), .int a0]) (n := 2) (Nat.le_of_ble_eq_true rfl)
  rw [lg_entry_eq]
  generalize (lg_sl ([.ref (ad 0 0), .int a0]) ++ List.replicate (2 - (lg_sl ([.ref (ad 0 0), .int a0])).length) Slot.unset).toArray = ls at hl ⊢
  have hl : lv_has ls 2 [(0, .ref (ad 0 0)), (1, .int a0)] := hl
  unfold wp_m_noAlarm at hw
  have hP : va_P D clX (wM ca ad σ) s.heap := hP
  refine lv_aload_n hx hb dM_noAlarm_0 rfl (lv_at hl 0 rfl) ?_
  refine va_get (D := D) (ci := 5) (v := .ref (ad 12 0)) (C := RM) (T := TM) (N := 26) hx hb hts inM hown hK hP 0 gM_0 rfl 18 (by decide) (hts _ tw_609) (fun _ h9 => h9) rfl dM_noAlarm_1 ?_
  refine lv_iload_n hx hb dM_noAlarm_4 rfl (lv_at hl 1 rfl) ?_
  refine lv_iconst (v := 0) hx hb dM_noAlarm_5 (by decide) ?_
  obtain ⟨hin1, hw⟩ := hw
  refine va_iast hx hb hK hP hD hS 12 0 gM_12 rfl hin1 dM_noAlarm_6 (fun H locs hP hD hS => ?_)
  rw [sM_12] at hP hD
  refine lv_aload_n hx hb dM_noAlarm_7 rfl (lv_at hl 0 rfl) ?_
  refine va_get (D := D) (ci := 5) (v := .ref (ad 13 0)) (C := RM) (T := TM) (N := 26) hx hb hts inM hown hK hP 0 gM_0 rfl 19 (by decide) (hts _ tw_610) (fun _ h9 => h9) rfl dM_noAlarm_8 ?_
  refine lv_iload_n hx hb dM_noAlarm_11 rfl (lv_at hl 1 rfl) ?_
  refine lv_iconst (v := 0) hx hb dM_noAlarm_12 (by decide) ?_
  refine va_zast hx hb hK hP hD hS 13 1 gM_13 rfl hin1 dM_noAlarm_13 (fun H locs hP hD hS => ?_)
  rw [sM_13] at hP hD
  exact W.vret hx hb hr (fun t ht hW => ⟨⟨(vA 12 (upd (mA σ 12) (a0).toNatClampNeg (vp_nar .boolean 0)) (vA 11 (upd (mA σ 11) (a0).toNatClampNeg 0) σ)), rfl, hw, by rw [ht]; exact hP, va_K.moved hW.alike hK, hD⟩, hS.F ht⟩) hS.2.2 dM_noAlarm_14
theorem dM_alarm_0 : decode cM_alarm 0 = .ok (.aload_n 0, 1) := by decide +kernel
theorem dM_alarm_1 : decode cM_alarm 1 = .ok (.dup, 1) := by decide +kernel
theorem dM_alarm_2 : decode cM_alarm 2 = .ok (.getfield 85, 3) := by decide +kernel
theorem dM_alarm_5 : decode cM_alarm 5 = .ok (.iconst 1, 1) := by decide +kernel
theorem dM_alarm_6 : decode cM_alarm 6 = .ok (.iadd, 1) := by decide +kernel
theorem dM_alarm_7 : decode cM_alarm 7 = .ok (.putfield 85, 3) := by decide +kernel
theorem dM_alarm_10 : decode cM_alarm 10 = .ok (.aload_n 0, 1) := by decide +kernel
theorem dM_alarm_11 : decode cM_alarm 11 = .ok (.getfield 41, 3) := by decide +kernel
theorem dM_alarm_14 : decode cM_alarm 14 = .ok (.iload_n 1, 1) := by decide +kernel
theorem dM_alarm_15 : decode cM_alarm 15 = .ok (.aload_n 0, 1) := by decide +kernel
theorem dM_alarm_16 : decode cM_alarm 16 = .ok (.getfield 88, 3) := by decide +kernel
theorem dM_alarm_19 : decode cM_alarm 19 = .ok (.iload_n 2, 1) := by decide +kernel
theorem dM_alarm_20 : decode cM_alarm 20 = .ok (.iadd, 1) := by decide +kernel
theorem dM_alarm_21 : decode cM_alarm 21 = .ok (.iastore, 1) := by decide +kernel
theorem dM_alarm_22 : decode cM_alarm 22 = .ok (.aload_n 0, 1) := by decide +kernel
theorem dM_alarm_23 : decode cM_alarm 23 = .ok (.getfield 44, 3) := by decide +kernel
theorem dM_alarm_26 : decode cM_alarm 26 = .ok (.iload_n 1, 1) := by decide +kernel
theorem dM_alarm_27 : decode cM_alarm 27 = .ok (.aload_n 0, 1) := by decide +kernel
theorem dM_alarm_28 : decode cM_alarm 28 = .ok (.getfield 85, 3) := by decide +kernel
theorem dM_alarm_31 : decode cM_alarm 31 = .ok (.iastore, 1) := by decide +kernel
theorem dM_alarm_32 : decode cM_alarm 32 = .ok (.aload_n 0, 1) := by decide +kernel
theorem dM_alarm_33 : decode cM_alarm 33 = .ok (.getfield 47, 3) := by decide +kernel
theorem dM_alarm_36 : decode cM_alarm 36 = .ok (.iload_n 1, 1) := by decide +kernel
theorem dM_alarm_37 : decode cM_alarm 37 = .ok (.iload_n 3, 1) := by decide +kernel
theorem dM_alarm_38 : decode cM_alarm 38 = .ok (.bastore, 1) := by decide +kernel
theorem dM_alarm_39 : decode cM_alarm 39 = .ok (.return_, 1) := by decide +kernel
def wp_m_alarm (post : Sm → Prop) (σ : Sm) (a0 : Int32) (a1 : Int32) (a2 : Int32) : Prop := (vp_in a0 8 ∧ post (vA 12 (upd (mA σ 12) (a0).toNatClampNeg (vp_nar .boolean a2)) (vA 11 (upd (mA σ 11) (a0).toNatClampNeg ((mG σ 3) + 1)) (vA 10 (upd (mA σ 10) (a0).toNatClampNeg ((mG σ 1) + a1)) (vG 3 ((mG σ 3) + 1) σ)))))
set_option maxHeartbeats 4000000 in
set_option maxRecDepth 100000 in
theorem c_m_alarm (l : Launch) (D : va_G) (ca : Nat → ClassId) (ad : Nat → Nat → Nat) (σ : Sm) (a0 : Int32) (a1 : Int32) (a2 : Int32) (sz : Nat) (post : Sm → Prop) (hw : wp_m_alarm post σ a0 a1 a2) : Met l yM_alarm wsM_alarm ({ frames := 0, cells := 0, slots := 0, locals := 0 }) (va_Pc [.ref (ad 0 0), .int a0, .int a1, .int a2] (preM D ca ad σ sz)) (va_Qv post (atM D ca ad (va_A (wM ca ad σ) sz)) (va_A (wM ca ad σ) sz)) 0 0 (va_A (wM ca ad σ) sz) := by
  refine Met.ofW (cc := cM_alarm) (maxL := 4) (ret := none) (by decide) rfl ?_
  intro p e s m args below meth c s₁ B hml hv
  obtain ⟨rfl, hsz, hP, hK, hD0, hE⟩ := hv
  have hx := B.exec
  have hb := B.bytes
  have hr := B.returns
  have hts : ∀ w ∈ tbG, w.before _ s = true := fun w h => atoms_spec (ws := wsM_alarm) B.pre w (List.mem_cons_of_mem _ h)
  have hown : s.vm.findClass RM = some m.cls := findClass_of_methodNamed B.named
  have hlocks := B.notSynchronized
  subst hsz
  have hD := hD0.self (sz := s.heap.size)
  generalize hAe : va_A (wM ca ad σ) s.heap.size = A at hD hE ⊢
  have hA : ∀ q : Nat, s.heap.size ≤ q → A q := fun q h => by rw [← hAe]; exact Or.inr h
  clear hAe
  have hS : va_S A s.heap s.heap [] := va_S.rf
  have hl := lv_entry ([.ref (ad 0 0), .int a0, .int a1, .int a2]) (n := 4) (Nat.le_of_ble_eq_true rfl)
  rw [lg_entry_eq]
  generalize (lg_sl ([.ref (ad 0 0), .int a0, .int a1, .int a2]) ++ List.replicate (4 - (lg_sl ([.ref (ad 0 0), .int a0, .int a1, .int a2])).length) Slot.unset).toArray = ls at hl ⊢
  have hl : lv_has ls 4 [(0, .ref (ad 0 0)), (1, .int a0), (2, .int a1), (3, .int a2)] := hl
  unfold wp_m_alarm at hw
  have hP : va_P D clX (wM ca ad σ) s.heap := hP
  refine lv_aload_n hx hb dM_alarm_0 rfl (lv_at hl 0 rfl) ?_
  refine lv_dup hx hb dM_alarm_1 rfl ?_
  refine va_get (D := D) (ci := 5) (v := .int (mG σ 3)) (C := RM) (T := TM) (N := 26) hx hb hts inM hown hK hP 0 gM_0 rfl 3 (by decide) (hts _ tw_594) (fun _ h9 => h9) rfl dM_alarm_2 ?_
  refine lv_iconst (v := 1) hx hb dM_alarm_5 (by decide) ?_
  refine lv_iadd hx hb dM_alarm_6 ?_
  refine va_put (D := D) (ci := 5) (v := .int ((mG σ 3) + 1)) (ty := .int) (C := RM) (T := TM) (N := 26) hx hb hts inM tyM tyM_ok nmM hown hK hP hD hS 0 gM_0 rfl 3 (by decide) (hts _ tw_594) (fun _ h9 => h9) rfl (by decide +kernel) rfl rfl (Nat.le_of_ble_eq_true rfl) dM_alarm_7 (fun H locs hP hD hS => ?_)
  rw [sM_0_3] at hP hD
  refine lv_aload_n hx hb dM_alarm_10 rfl (lv_at hl 0 rfl) ?_
  refine va_get (D := D) (ci := 5) (v := .ref (ad 11 0)) (C := RM) (T := TM) (N := 26) hx hb hts inM hown hK hP 0 gM_0 rfl 17 (by decide) (hts _ tw_608) (fun _ h9 => h9) rfl dM_alarm_11 ?_
  refine lv_iload_n hx hb dM_alarm_14 rfl (lv_at hl 1 rfl) ?_
  refine lv_aload_n hx hb dM_alarm_15 rfl (lv_at hl 0 rfl) ?_
  refine va_get (D := D) (ci := 5) (v := .int (mG σ 1)) (C := RM) (T := TM) (N := 26) hx hb hts inM hown hK hP 0 gM_0 rfl 1 (by decide) (hts _ tw_592) (fun _ h9 => h9) rfl dM_alarm_16 ?_
  refine lv_iload_n hx hb dM_alarm_19 rfl (lv_at hl 2 rfl) ?_
  refine lv_iadd hx hb dM_alarm_20 ?_
  obtain ⟨hin1, hw⟩ := hw
  refine va_iast hx hb hK hP hD hS 11 0 gM_11 rfl hin1 dM_alarm_21 (fun H locs hP hD hS => ?_)
  rw [sM_11] at hP hD
  refine lv_aload_n hx hb dM_alarm_22 rfl (lv_at hl 0 rfl) ?_
  refine va_get (D := D) (ci := 5) (v := .ref (ad 12 0)) (C := RM) (T := TM) (N := 26) hx hb hts inM hown hK hP 0 gM_0 rfl 18 (by decide) (hts _ tw_609) (fun _ h9 => h9) rfl dM_alarm_23 ?_
  refine lv_iload_n hx hb dM_alarm_26 rfl (lv_at hl 1 rfl) ?_
  refine lv_aload_n hx hb dM_alarm_27 rfl (lv_at hl 0 rfl) ?_
  refine va_get (D := D) (ci := 5) (v := .int ((mG σ 3) + 1)) (C := RM) (T := TM) (N := 26) hx hb hts inM hown hK hP 0 gM_0 rfl 3 (by decide) (hts _ tw_594) (fun _ h9 => h9) rfl dM_alarm_28 ?_
  refine va_iast hx hb hK hP hD hS 12 0 gM_12 rfl hin1 dM_alarm_31 (fun H locs hP hD hS => ?_)
  rw [sM_12] at hP hD
  refine lv_aload_n hx hb dM_alarm_32 rfl (lv_at hl 0 rfl) ?_
  refine va_get (D := D) (ci := 5) (v := .ref (ad 13 0)) (C := RM) (T := TM) (N := 26) hx hb hts inM hown hK hP 0 gM_0 rfl 19 (by decide) (hts _ tw_610) (fun _ h9 => h9) rfl dM_alarm_33 ?_
  refine lv_iload_n hx hb dM_alarm_36 rfl (lv_at hl 1 rfl) ?_
  refine lv_iload_n hx hb dM_alarm_37 rfl (lv_at hl 3 rfl) ?_
  refine va_zast hx hb hK hP hD hS 13 1 gM_13 rfl hin1 dM_alarm_38 (fun H locs hP hD hS => ?_)
  rw [sM_13] at hP hD
  exact W.vret hx hb hr (fun t ht hW => ⟨⟨(vA 12 (upd (mA σ 12) (a0).toNatClampNeg (vp_nar .boolean a2)) (vA 11 (upd (mA σ 11) (a0).toNatClampNeg ((mG σ 3) + 1)) (vA 10 (upd (mA σ 10) (a0).toNatClampNeg ((mG σ 1) + a1)) (vG 3 ((mG σ 3) + 1) σ)))), rfl, hw, by rw [ht]; exact hP, va_K.moved hW.alike hK, hD⟩, hS.F ht⟩) hS.2.2 dM_alarm_39
theorem dM_told_0 : decode cM_told 0 = .ok (.bipush 6, 2) := by decide +kernel
theorem dM_told_2 : decode cM_told 2 = .ok (.aload_n 0, 1) := by decide +kernel
theorem dM_told_3 : decode cM_told 3 = .ok (.getfield 38, 3) := by decide +kernel
theorem dM_told_6 : decode cM_told 6 = .ok (.iload_n 1, 1) := by decide +kernel
theorem dM_told_7 : decode cM_told 7 = .ok (.iaload, 1) := by decide +kernel
theorem dM_told_8 : decode cM_told 8 = .ok (.imul, 1) := by decide +kernel
theorem dM_told_9 : decode cM_told 9 = .ok (.istore 4, 2) := by decide +kernel
theorem dM_told_11 : decode cM_told 11 = .ok (.aload_n 0, 1) := by decide +kernel
theorem dM_told_12 : decode cM_told 12 = .ok (.getfield 65, 3) := by decide +kernel
theorem dM_told_15 : decode cM_told 15 = .ok (.iload 4, 2) := by decide +kernel
theorem dM_told_17 : decode cM_told 17 = .ok (.iconst 3, 1) := by decide +kernel
theorem dM_told_18 : decode cM_told 18 = .ok (.iadd, 1) := by decide +kernel
theorem dM_told_19 : decode cM_told 19 = .ok (.aload_n 0, 1) := by decide +kernel
theorem dM_told_20 : decode cM_told 20 = .ok (.getfield 91, 3) := by decide +kernel
theorem dM_told_23 : decode cM_told 23 = .ok (.iastore, 1) := by decide +kernel
theorem dM_told_24 : decode cM_told 24 = .ok (.aload_n 0, 1) := by decide +kernel
theorem dM_told_25 : decode cM_told 25 = .ok (.getfield 65, 3) := by decide +kernel
theorem dM_told_28 : decode cM_told 28 = .ok (.iload 4, 2) := by decide +kernel
theorem dM_told_30 : decode cM_told 30 = .ok (.iconst 4, 1) := by decide +kernel
theorem dM_told_31 : decode cM_told 31 = .ok (.iadd, 1) := by decide +kernel
theorem dM_told_32 : decode cM_told 32 = .ok (.iload_n 2, 1) := by decide +kernel
theorem dM_told_33 : decode cM_told 33 = .ok (.iastore, 1) := by decide +kernel
theorem dM_told_34 : decode cM_told 34 = .ok (.aload_n 0, 1) := by decide +kernel
theorem dM_told_35 : decode cM_told 35 = .ok (.getfield 65, 3) := by decide +kernel
theorem dM_told_38 : decode cM_told 38 = .ok (.iload 4, 2) := by decide +kernel
theorem dM_told_40 : decode cM_told 40 = .ok (.iconst 5, 1) := by decide +kernel
theorem dM_told_41 : decode cM_told 41 = .ok (.iadd, 1) := by decide +kernel
theorem dM_told_42 : decode cM_told 42 = .ok (.iload_n 3, 1) := by decide +kernel
theorem dM_told_43 : decode cM_told 43 = .ok (.iastore, 1) := by decide +kernel
theorem dM_told_44 : decode cM_told 44 = .ok (.aload_n 0, 1) := by decide +kernel
theorem dM_told_45 : decode cM_told 45 = .ok (.dup, 1) := by decide +kernel
theorem dM_told_46 : decode cM_told 46 = .ok (.getfield 91, 3) := by decide +kernel
theorem dM_told_49 : decode cM_told 49 = .ok (.iconst 1, 1) := by decide +kernel
theorem dM_told_50 : decode cM_told 50 = .ok (.iadd, 1) := by decide +kernel
theorem dM_told_51 : decode cM_told 51 = .ok (.putfield 91, 3) := by decide +kernel
theorem dM_told_54 : decode cM_told 54 = .ok (.aload_n 0, 1) := by decide +kernel
theorem dM_told_55 : decode cM_told 55 = .ok (.getfield 13, 3) := by decide +kernel
theorem dM_told_58 : decode cM_told 58 = .ok (.iload_n 1, 1) := by decide +kernel
theorem dM_told_59 : decode cM_told 59 = .ok (.iconst 0, 1) := by decide +kernel
theorem dM_told_60 : decode cM_told 60 = .ok (.bastore, 1) := by decide +kernel
theorem dM_told_61 : decode cM_told 61 = .ok (.aload_n 0, 1) := by decide +kernel
theorem dM_told_62 : decode cM_told 62 = .ok (.getfield 32, 3) := by decide +kernel
theorem dM_told_65 : decode cM_told 65 = .ok (.iload_n 1, 1) := by decide +kernel
theorem dM_told_66 : decode cM_told 66 = .ok (.iconst 0, 1) := by decide +kernel
theorem dM_told_67 : decode cM_told 67 = .ok (.bastore, 1) := by decide +kernel
theorem dM_told_68 : decode cM_told 68 = .ok (.aload_n 0, 1) := by decide +kernel
theorem dM_told_69 : decode cM_told 69 = .ok (.iload_n 1, 1) := by decide +kernel
theorem dM_told_70 : decode cM_told 70 = .ok (.invokevirtual 94, 3) := by decide +kernel
theorem dM_told_73 : decode cM_told 73 = .ok (.return_, 1) := by decide +kernel
def wp_m_told (post : Sm → Prop) (σ : Sm) (a0 : Int32) (a1 : Int32) (a2 : Int32) : Prop := (vp_in a0 8 ∧ (vp_in ((6 * ((mA σ 9) (a0).toNatClampNeg)) + 3) 6144 ∧ (vp_in ((6 * ((mA σ 9) (a0).toNatClampNeg)) + 4) 6144 ∧ (vp_in ((6 * ((mA σ 9) (a0).toNatClampNeg)) + 5) 6144 ∧ wp_m_noAlarm (fun s7 => post s7) (vA 7 (upd (mA σ 7) (a0).toNatClampNeg (vp_nar .boolean 0)) (vA 1 (upd (mA σ 1) (a0).toNatClampNeg (vp_nar .boolean 0)) (vG 2 ((mG σ 2) + 1) (vA 18 (upd (upd (upd (mA σ 18) ((6 * ((mA σ 9) (a0).toNatClampNeg)) + 3).toNatClampNeg (mG σ 2)) ((6 * ((mA σ 9) (a0).toNatClampNeg)) + 4).toNatClampNeg a1) ((6 * ((mA σ 9) (a0).toNatClampNeg)) + 5).toNatClampNeg a2) (vA 18 (upd (upd (mA σ 18) ((6 * ((mA σ 9) (a0).toNatClampNeg)) + 3).toNatClampNeg (mG σ 2)) ((6 * ((mA σ 9) (a0).toNatClampNeg)) + 4).toNatClampNeg a1) (vA 18 (upd (mA σ 18) ((6 * ((mA σ 9) (a0).toNatClampNeg)) + 3).toNatClampNeg (mG σ 2)) σ)))))) a0))))
set_option maxHeartbeats 4000000 in
set_option maxRecDepth 100000 in
theorem c_m_told (l : Launch) (D : va_G) (ca : Nat → ClassId) (ad : Nat → Nat → Nat) (σ : Sm) (a0 : Int32) (a1 : Int32) (a2 : Int32) (sz : Nat) (post : Sm → Prop) (hw : wp_m_told post σ a0 a1 a2) : Met l yM_told wsM_told ({ frames := 1, cells := 0, slots := 0, locals := 21 }) (va_Pc [.ref (ad 0 0), .int a0, .int a1, .int a2] (preM D ca ad σ sz)) (va_Qv post (atM D ca ad (va_A (wM ca ad σ) sz)) (va_A (wM ca ad σ) sz)) 0 0 (va_A (wM ca ad σ) sz) := by
  refine Met.ofW (cc := cM_told) (maxL := 5) (ret := none) (by decide) rfl ?_
  intro p e s m args below meth c s₁ B hml hv
  obtain ⟨rfl, hsz, hP, hK, hD0, hE⟩ := hv
  have hx := B.exec
  have hb := B.bytes
  have hr := B.returns
  have hts : ∀ w ∈ tbG, w.before _ s = true := fun w h => atoms_spec (ws := wsM_told) B.pre w (List.mem_cons_of_mem _ h)
  have hown : s.vm.findClass RM = some m.cls := findClass_of_methodNamed B.named
  have hlocks := B.notSynchronized
  subst hsz
  have hD := hD0.self (sz := s.heap.size)
  generalize hAe : va_A (wM ca ad σ) s.heap.size = A at hD hE ⊢
  have hA : ∀ q : Nat, s.heap.size ≤ q → A q := fun q h => by rw [← hAe]; exact Or.inr h
  clear hAe
  have hS : va_S A s.heap s.heap [] := va_S.rf
  have hl := lv_entry ([.ref (ad 0 0), .int a0, .int a1, .int a2]) (n := 5) (Nat.le_of_ble_eq_true rfl)
  rw [lg_entry_eq]
  generalize (lg_sl ([.ref (ad 0 0), .int a0, .int a1, .int a2]) ++ List.replicate (5 - (lg_sl ([.ref (ad 0 0), .int a0, .int a1, .int a2])).length) Slot.unset).toArray = ls at hl ⊢
  have hl : lv_has ls 5 [(0, .ref (ad 0 0)), (1, .int a0), (2, .int a1), (3, .int a2)] := hl
  unfold wp_m_told at hw
  have hP : va_P D clX (wM ca ad σ) s.heap := hP
  refine lv_bipush (v := 6) hx hb dM_told_0 (by decide) ?_
  refine lv_aload_n hx hb dM_told_2 rfl (lv_at hl 0 rfl) ?_
  refine va_get (D := D) (ci := 5) (v := .ref (ad 10 0)) (C := RM) (T := TM) (N := 26) hx hb hts inM hown hK hP 0 gM_0 rfl 16 (by decide) (hts _ tw_607) (fun _ h9 => h9) rfl dM_told_3 ?_
  refine lv_iload_n hx hb dM_told_6 rfl (lv_at hl 1 rfl) ?_
  obtain ⟨hin1, hw⟩ := hw
  refine va_iald hx hb hK hP 10 0 gM_10 rfl hin1 dM_told_7 ?_
  refine lv_imul hx hb dM_told_8 ?_
  refine lv_istore (lv' := [(4, .int (6 * ((mA σ 9) (a0).toNatClampNeg))), (0, .ref (ad 0 0)), (1, .int a0), (2, .int a1), (3, .int a2)]) hx hb dM_told_9 hl (by decide) rfl (fun ls hl => ?_)
  refine lv_aload_n hx hb dM_told_11 rfl (lv_at hl 1 rfl) ?_
  refine va_get (D := D) (ci := 5) (v := .ref (ad 19 0)) (C := RM) (T := TM) (N := 26) hx hb hts inM hown hK hP 0 gM_0 rfl 25 (by decide) (hts _ tw_616) (fun _ h9 => h9) rfl dM_told_12 ?_
  refine lv_iload hx hb dM_told_15 (lv_at hl 0 rfl) ?_
  refine lv_iconst (v := 3) hx hb dM_told_17 (by decide) ?_
  refine lv_iadd hx hb dM_told_18 ?_
  refine lv_aload_n hx hb dM_told_19 rfl (lv_at hl 1 rfl) ?_
  refine va_get (D := D) (ci := 5) (v := .int (mG σ 2)) (C := RM) (T := TM) (N := 26) hx hb hts inM hown hK hP 0 gM_0 rfl 2 (by decide) (hts _ tw_593) (fun _ h9 => h9) rfl dM_told_20 ?_
  obtain ⟨hin2, hw⟩ := hw
  refine va_iast hx hb hK hP hD hS 19 0 gM_19 rfl hin2 dM_told_23 (fun H locs hP hD hS => ?_)
  rw [sM_19] at hP hD
  refine lv_aload_n hx hb dM_told_24 rfl (lv_at hl 1 rfl) ?_
  refine va_get (D := D) (ci := 5) (v := .ref (ad 19 0)) (C := RM) (T := TM) (N := 26) hx hb hts inM hown hK hP 0 gM_0 rfl 25 (by decide) (hts _ tw_616) (fun _ h9 => h9) rfl dM_told_25 ?_
  refine lv_iload hx hb dM_told_28 (lv_at hl 0 rfl) ?_
  refine lv_iconst (v := 4) hx hb dM_told_30 (by decide) ?_
  refine lv_iadd hx hb dM_told_31 ?_
  refine lv_iload_n hx hb dM_told_32 rfl (lv_at hl 3 rfl) ?_
  obtain ⟨hin3, hw⟩ := hw
  refine va_iast hx hb hK hP hD hS 19 0 gM_19 rfl hin3 dM_told_33 (fun H locs hP hD hS => ?_)
  rw [sM_19] at hP hD
  refine lv_aload_n hx hb dM_told_34 rfl (lv_at hl 1 rfl) ?_
  refine va_get (D := D) (ci := 5) (v := .ref (ad 19 0)) (C := RM) (T := TM) (N := 26) hx hb hts inM hown hK hP 0 gM_0 rfl 25 (by decide) (hts _ tw_616) (fun _ h9 => h9) rfl dM_told_35 ?_
  refine lv_iload hx hb dM_told_38 (lv_at hl 0 rfl) ?_
  refine lv_iconst (v := 5) hx hb dM_told_40 (by decide) ?_
  refine lv_iadd hx hb dM_told_41 ?_
  refine lv_iload_n hx hb dM_told_42 rfl (lv_at hl 4 rfl) ?_
  obtain ⟨hin4, hw⟩ := hw
  refine va_iast hx hb hK hP hD hS 19 0 gM_19 rfl hin4 dM_told_43 (fun H locs hP hD hS => ?_)
  rw [sM_19] at hP hD
  refine lv_aload_n hx hb dM_told_44 rfl (lv_at hl 1 rfl) ?_
  refine lv_dup hx hb dM_told_45 rfl ?_
  refine va_get (D := D) (ci := 5) (v := .int (mG σ 2)) (C := RM) (T := TM) (N := 26) hx hb hts inM hown hK hP 0 gM_0 rfl 2 (by decide) (hts _ tw_593) (fun _ h9 => h9) rfl dM_told_46 ?_
  refine lv_iconst (v := 1) hx hb dM_told_49 (by decide) ?_
  refine lv_iadd hx hb dM_told_50 ?_
  refine va_put (D := D) (ci := 5) (v := .int ((mG σ 2) + 1)) (ty := .int) (C := RM) (T := TM) (N := 26) hx hb hts inM tyM tyM_ok nmM hown hK hP hD hS 0 gM_0 rfl 2 (by decide) (hts _ tw_593) (fun _ h9 => h9) rfl (by decide +kernel) rfl rfl (Nat.le_of_ble_eq_true rfl) dM_told_51 (fun H locs hP hD hS => ?_)
  rw [sM_0_2] at hP hD
  refine lv_aload_n hx hb dM_told_54 rfl (lv_at hl 1 rfl) ?_
  refine va_get (D := D) (ci := 5) (v := .ref (ad 2 0)) (C := RM) (T := TM) (N := 26) hx hb hts inM hown hK hP 0 gM_0 rfl 8 (by decide) (hts _ tw_599) (fun _ h9 => h9) rfl dM_told_55 ?_
  refine lv_iload_n hx hb dM_told_58 rfl (lv_at hl 2 rfl) ?_
  refine lv_iconst (v := 0) hx hb dM_told_59 (by decide) ?_
  refine va_zast hx hb hK hP hD hS 2 1 gM_2 rfl hin1 dM_told_60 (fun H locs hP hD hS => ?_)
  rw [sM_2] at hP hD
  refine lv_aload_n hx hb dM_told_61 rfl (lv_at hl 1 rfl) ?_
  refine va_get (D := D) (ci := 5) (v := .ref (ad 8 0)) (C := RM) (T := TM) (N := 26) hx hb hts inM hown hK hP 0 gM_0 rfl 14 (by decide) (hts _ tw_605) (fun _ h9 => h9) rfl dM_told_62 ?_
  refine lv_iload_n hx hb dM_told_65 rfl (lv_at hl 2 rfl) ?_
  refine lv_iconst (v := 0) hx hb dM_told_66 (by decide) ?_
  refine va_zast hx hb hK hP hD hS 8 1 gM_8 rfl hin1 dM_told_67 (fun H locs hP hD hS => ?_)
  rw [sM_8] at hP hD
  refine lv_aload_n hx hb dM_told_68 rfl (lv_at hl 1 rfl) ?_
  refine lv_iload_n hx hb dM_told_69 rfl (lv_at hl 2 rfl) ?_
  have hFc := px_free hD hS hA
  refine va_callv (va_runV (As := [.int a0]) (rest := []) ⟨hx, hb, hml, hown, hts⟩ (c_m_noAlarm l D ca ad (vA 7 (upd (mA σ 7) (a0).toNatClampNeg (vp_nar .boolean 0)) (vA 1 (upd (mA σ 1) (a0).toNatClampNeg (vp_nar .boolean 0)) (vG 2 ((mG σ 2) + 1) (vA 18 (upd (upd (upd (mA σ 18) ((6 * ((mA σ 9) (a0).toNatClampNeg)) + 3).toNatClampNeg (mG σ 2)) ((6 * ((mA σ 9) (a0).toNatClampNeg)) + 4).toNatClampNeg a1) ((6 * ((mA σ 9) (a0).toNatClampNeg)) + 5).toNatClampNeg a2) (vA 18 (upd (upd (mA σ 18) ((6 * ((mA σ 9) (a0).toNatClampNeg)) + 3).toNatClampNeg (mG σ 2)) ((6 * ((mA σ 9) (a0).toNatClampNeg)) + 4).toNatClampNeg a1) (vA 18 (upd (mA σ 18) ((6 * ((mA σ 9) (a0).toNatClampNeg)) + 3).toNatClampNeg (mG σ 2)) σ)))))) a0 _ _ hw) (cwV 1 hts (gV tw_713 tw_715 tp_23 tw_7 tw_716) rfl rfl rfl (by decide +kernel) ⟨Nat.le_of_ble_eq_true rfl, Nat.le_of_ble_eq_true rfl⟩) ⟨pm_blind, (px_recv hK hP gM_0 rfl), fun U hU hW => pm_pre hP hK hD hE hS hFc hU hW⟩ rfl rfl hl.1 rfl (lv_room (Nat.le_of_ble_eq_true rfl)) dM_told_70 ⟨Nat.le_of_ble_eq_true rfl, Nat.le_of_ble_eq_true rfl⟩) hS (fun q _ h => hFc q h) hFc (fun s7 t H locs ht hvm hw hB _ _ hS => ?_)
  obtain ⟨hP, -, hD⟩ := hB
  rw [ht] at hP
  have hD := hD.weaken (fun _ _ _ h9 => hFc _ h9)
  exact W.vret hx hb hr (fun t ht hW => ⟨⟨s7, rfl, hw, by rw [ht]; exact hP, va_K.moved hW.alike hK, hD⟩, hS.F ht⟩) hS.2.2 dM_told_73
theorem dM_stop_0 : decode cM_stop 0 = .ok (.aload_n 0, 1) := by decide +kernel
theorem dM_stop_1 : decode cM_stop 1 = .ok (.getfield 35, 3) := by decide +kernel
theorem dM_stop_4 : decode cM_stop 4 = .ok (.iload_n 1, 1) := by decide +kernel
theorem dM_stop_5 : decode cM_stop 5 = .ok (.iaload, 1) := by decide +kernel
theorem dM_stop_6 : decode cM_stop 6 = .ok (.iconst 3, 1) := by decide +kernel
theorem dM_stop_7 : decode cM_stop 7 = .ok (.if_icmp .ge 10, 3) := by decide +kernel
theorem dM_stop_10 : decode cM_stop 10 = .ok (.aload_n 0, 1) := by decide +kernel
theorem dM_stop_11 : decode cM_stop 11 = .ok (.getfield 20, 3) := by decide +kernel
theorem dM_stop_14 : decode cM_stop 14 = .ok (.iload_n 1, 1) := by decide +kernel
theorem dM_stop_15 : decode cM_stop 15 = .ok (.iconst (-1), 1) := by decide +kernel
theorem dM_stop_16 : decode cM_stop 16 = .ok (.iastore, 1) := by decide +kernel
theorem dM_stop_17 : decode cM_stop 17 = .ok (.aload_n 0, 1) := by decide +kernel
theorem dM_stop_18 : decode cM_stop 18 = .ok (.iload_n 1, 1) := by decide +kernel
theorem dM_stop_19 : decode cM_stop 19 = .ok (.aload_n 0, 1) := by decide +kernel
theorem dM_stop_20 : decode cM_stop 20 = .ok (.getfield 35, 3) := by decide +kernel
theorem dM_stop_23 : decode cM_stop 23 = .ok (.iload_n 1, 1) := by decide +kernel
theorem dM_stop_24 : decode cM_stop 24 = .ok (.iaload, 1) := by decide +kernel
theorem dM_stop_25 : decode cM_stop 25 = .ok (.iconst 3, 1) := by decide +kernel
theorem dM_stop_26 : decode cM_stop 26 = .ok (.if_icmp .ge 7, 3) := by decide +kernel
theorem dM_stop_29 : decode cM_stop 29 = .ok (.iconst 2, 1) := by decide +kernel
theorem dM_stop_30 : decode cM_stop 30 = .ok (.goto 4, 3) := by decide +kernel
theorem dM_stop_33 : decode cM_stop 33 = .ok (.iconst 3, 1) := by decide +kernel
theorem dM_stop_34 : decode cM_stop 34 = .ok (.iconst (-1), 1) := by decide +kernel
theorem dM_stop_35 : decode cM_stop 35 = .ok (.invokevirtual 98, 3) := by decide +kernel
theorem dM_stop_38 : decode cM_stop 38 = .ok (.return_, 1) := by decide +kernel
def wp_m_stop (post : Sm → Prop) (σ : Sm) (a0 : Int32) : Prop := (vp_in a0 8 ∧ (((3 ≤ ((mA σ 8) (a0).toNatClampNeg)) → wp_m_told (fun s4 => post s4) σ a0 3 (-1)) ∧ (¬ (3 ≤ ((mA σ 8) (a0).toNatClampNeg)) → wp_m_told (fun s8 => post s8) (vA 3 (upd (mA σ 3) (a0).toNatClampNeg (-1)) σ) a0 2 (-1))))
set_option maxHeartbeats 4000000 in
set_option maxRecDepth 100000 in
theorem c_m_stop (l : Launch) (D : va_G) (ca : Nat → ClassId) (ad : Nat → Nat → Nat) (σ : Sm) (a0 : Int32) (sz : Nat) (post : Sm → Prop) (hw : wp_m_stop post σ a0) : Met l yM_stop wsM_stop ({ frames := 2, cells := 0, slots := 0, locals := 45 }) (va_Pc [.ref (ad 0 0), .int a0] (preM D ca ad σ sz)) (va_Qv post (atM D ca ad (va_A (wM ca ad σ) sz)) (va_A (wM ca ad σ) sz)) 0 0 (va_A (wM ca ad σ) sz) := by
  refine Met.ofW (cc := cM_stop) (maxL := 2) (ret := none) (by decide) rfl ?_
  intro p e s m args below meth c s₁ B hml hv
  obtain ⟨rfl, hsz, hP, hK, hD0, hE⟩ := hv
  have hx := B.exec
  have hb := B.bytes
  have hr := B.returns
  have hts : ∀ w ∈ tbG, w.before _ s = true := fun w h => atoms_spec (ws := wsM_stop) B.pre w (List.mem_cons_of_mem _ h)
  have hown : s.vm.findClass RM = some m.cls := findClass_of_methodNamed B.named
  have hlocks := B.notSynchronized
  subst hsz
  have hD := hD0.self (sz := s.heap.size)
  generalize hAe : va_A (wM ca ad σ) s.heap.size = A at hD hE ⊢
  have hA : ∀ q : Nat, s.heap.size ≤ q → A q := fun q h => by rw [← hAe]; exact Or.inr h
  clear hAe
  have hS : va_S A s.heap s.heap [] := va_S.rf
  have hl := lv_entry ([.ref (ad 0 0), .int a0]) (n := 2) (Nat.le_of_ble_eq_true rfl)
  rw [lg_entry_eq]
  generalize (lg_sl ([.ref (ad 0 0), .int a0]) ++ List.replicate (2 - (lg_sl ([.ref (ad 0 0), .int a0])).length) Slot.unset).toArray = ls at hl ⊢
  have hl : lv_has ls 2 [(0, .ref (ad 0 0)), (1, .int a0)] := hl
  unfold wp_m_stop at hw
  have hP : va_P D clX (wM ca ad σ) s.heap := hP
  refine lv_aload_n hx hb dM_stop_0 rfl (lv_at hl 0 rfl) ?_
  refine va_get (D := D) (ci := 5) (v := .ref (ad 9 0)) (C := RM) (T := TM) (N := 26) hx hb hts inM hown hK hP 0 gM_0 rfl 15 (by decide) (hts _ tw_606) (fun _ h9 => h9) rfl dM_stop_1 ?_
  refine lv_iload_n hx hb dM_stop_4 rfl (lv_at hl 1 rfl) ?_
  obtain ⟨hin1, hw⟩ := hw
  refine va_iald hx hb hK hP 9 0 gM_9 rfl hin1 dM_stop_5 ?_
  refine lv_iconst (v := 3) hx hb dM_stop_6 (by decide) ?_
  refine lv_icmp_ge (tgt := 17) hx hb dM_stop_7 (by decide) (fun c2 => ?_) (fun c2 => ?_)
  · have hw := hw.1 c2
    refine lv_aload_n hx hb dM_stop_17 rfl (lv_at hl 0 rfl) ?_
    refine lv_iload_n hx hb dM_stop_18 rfl (lv_at hl 1 rfl) ?_
    refine lv_aload_n hx hb dM_stop_19 rfl (lv_at hl 0 rfl) ?_
    refine va_get (D := D) (ci := 5) (v := .ref (ad 9 0)) (C := RM) (T := TM) (N := 26) hx hb hts inM hown hK hP 0 gM_0 rfl 15 (by decide) (hts _ tw_606) (fun _ h9 => h9) rfl dM_stop_20 ?_
    refine lv_iload_n hx hb dM_stop_23 rfl (lv_at hl 1 rfl) ?_
    refine va_iald hx hb hK hP 9 0 gM_9 rfl hin1 dM_stop_24 ?_
    refine lv_iconst (v := 3) hx hb dM_stop_25 (by decide) ?_
    refine lv_icmp_ge (tgt := 33) hx hb dM_stop_26 (by decide) (fun _ => ?_) (fun z9 => absurd c2 z9)
    refine lv_iconst (v := 3) hx hb dM_stop_33 (by decide) ?_
    refine lv_iconst (v := (-1)) hx hb dM_stop_34 (by decide) ?_
    have hFc := px_free hD hS hA
    refine va_callv (va_runV (As := [.int a0, .int 3, .int (-1)]) (rest := []) ⟨hx, hb, hml, hown, hts⟩ (c_m_told l D ca ad σ a0 3 (-1) _ _ hw) (cwV 3 hts (gV tw_709 tw_711 tp_22 tw_7 tw_712) rfl rfl rfl (by decide +kernel) ⟨Nat.le_of_ble_eq_true rfl, Nat.le_of_ble_eq_true rfl⟩) ⟨pm_blind, (px_recv hK hP gM_0 rfl), fun U hU hW => pm_pre hP hK hD hE hS hFc hU hW⟩ rfl rfl hl.1 rfl (lv_room (Nat.le_of_ble_eq_true rfl)) dM_stop_35 ⟨Nat.le_of_ble_eq_true rfl, Nat.le_of_ble_eq_true rfl⟩) hS (fun q _ h => hFc q h) hFc (fun s4 t H locs ht hvm hw hB _ _ hS => ?_)
    obtain ⟨hP, -, hD⟩ := hB
    rw [ht] at hP
    have hD := hD.weaken (fun _ _ _ h9 => hFc _ h9)
    exact W.vret hx hb hr (fun t ht hW => ⟨⟨s4, rfl, hw, by rw [ht]; exact hP, va_K.moved hW.alike hK, hD⟩, hS.F ht⟩) hS.2.2 dM_stop_38
  · have hw := hw.2 c2
    refine lv_aload_n hx hb dM_stop_10 rfl (lv_at hl 0 rfl) ?_
    refine va_get (D := D) (ci := 5) (v := .ref (ad 4 0)) (C := RM) (T := TM) (N := 26) hx hb hts inM hown hK hP 0 gM_0 rfl 10 (by decide) (hts _ tw_601) (fun _ h9 => h9) rfl dM_stop_11 ?_
    refine lv_iload_n hx hb dM_stop_14 rfl (lv_at hl 1 rfl) ?_
    refine lv_iconst (v := (-1)) hx hb dM_stop_15 (by decide) ?_
    refine va_iast hx hb hK hP hD hS 4 0 gM_4 rfl hin1 dM_stop_16 (fun H locs hP hD hS => ?_)
    rw [sM_4] at hP hD
    refine lv_aload_n hx hb dM_stop_17 rfl (lv_at hl 0 rfl) ?_
    refine lv_iload_n hx hb dM_stop_18 rfl (lv_at hl 1 rfl) ?_
    refine lv_aload_n hx hb dM_stop_19 rfl (lv_at hl 0 rfl) ?_
    refine va_get (D := D) (ci := 5) (v := .ref (ad 9 0)) (C := RM) (T := TM) (N := 26) hx hb hts inM hown hK hP 0 gM_0 rfl 15 (by decide) (hts _ tw_606) (fun _ h9 => h9) rfl dM_stop_20 ?_
    refine lv_iload_n hx hb dM_stop_23 rfl (lv_at hl 1 rfl) ?_
    refine va_iald hx hb hK hP 9 0 gM_9 rfl hin1 dM_stop_24 ?_
    refine lv_iconst (v := 3) hx hb dM_stop_25 (by decide) ?_
    refine lv_icmp_ge (tgt := 33) hx hb dM_stop_26 (by decide) (fun z9 => absurd z9 c2) (fun _ => ?_)
    refine lv_iconst (v := 2) hx hb dM_stop_29 (by decide) ?_
    refine lv_goto (tgt := 34) hx hb dM_stop_30 (by decide) ?_
    refine lv_iconst (v := (-1)) hx hb dM_stop_34 (by decide) ?_
    have hFc := px_free hD hS hA
    refine va_callv (va_runV (As := [.int a0, .int 2, .int (-1)]) (rest := []) ⟨hx, hb, hml, hown, hts⟩ (c_m_told l D ca ad (vA 3 (upd (mA σ 3) (a0).toNatClampNeg (-1)) σ) a0 2 (-1) _ _ hw) (cwV 3 hts (gV tw_709 tw_711 tp_22 tw_7 tw_712) rfl rfl rfl (by decide +kernel) ⟨Nat.le_of_ble_eq_true rfl, Nat.le_of_ble_eq_true rfl⟩) ⟨pm_blind, (px_recv hK hP gM_0 rfl), fun U hU hW => pm_pre hP hK hD hE hS hFc hU hW⟩ rfl rfl hl.1 rfl (lv_room (Nat.le_of_ble_eq_true rfl)) dM_stop_35 ⟨Nat.le_of_ble_eq_true rfl, Nat.le_of_ble_eq_true rfl⟩) hS (fun q _ h => hFc q h) hFc (fun s8 t H locs ht hvm hw hB _ _ hS => ?_)
    obtain ⟨hP, -, hD⟩ := hB
    rw [ht] at hP
    have hD := hD.weaken (fun _ _ _ h9 => hFc _ h9)
    exact W.vret hx hb hr (fun t ht hW => ⟨⟨s8, rfl, hw, by rw [ht]; exact hP, va_K.moved hW.alike hK, hD⟩, hS.F ht⟩) hS.2.2 dM_stop_38
