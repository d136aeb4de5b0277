theorem dH_isKeySize_0 : decode cH_isKeySize 0 = .ok (.iload_n 0, 1) := by decide +kernel
theorem dH_isKeySize_1 : decode cH_isKeySize 1 = .ok (.iconst 1, 1) := by decide +kernel
theorem dH_isKeySize_2 : decode cH_isKeySize 2 = .ok (.if_icmp .lt 13, 3) := by decide +kernel
theorem dH_isKeySize_5 : decode cH_isKeySize 5 = .ok (.iload_n 0, 1) := by decide +kernel
theorem dH_isKeySize_6 : decode cH_isKeySize 6 = .ok (.bipush 32, 2) := by decide +kernel
theorem dH_isKeySize_8 : decode cH_isKeySize 8 = .ok (.if_icmp .gt 7, 3) := by decide +kernel
theorem dH_isKeySize_11 : decode cH_isKeySize 11 = .ok (.iconst 1, 1) := by decide +kernel
theorem dH_isKeySize_12 : decode cH_isKeySize 12 = .ok (.goto 4, 3) := by decide +kernel
theorem dH_isKeySize_15 : decode cH_isKeySize 15 = .ok (.iconst 0, 1) := by decide +kernel
theorem dH_isKeySize_16 : decode cH_isKeySize 16 = .ok (.ireturn, 1) := by decide +kernel
def wp_isKeySize (post : Int32 → Sg → Prop) (σ : Sg) (a0 : Int32) : Prop := (((a0 < 1) → post 0 σ) ∧ (¬ (a0 < 1) → (((32 < a0) → post 0 σ) ∧ (¬ (32 < a0) → post 1 σ))))
set_option maxHeartbeats 4000000 in
set_option maxRecDepth 100000 in
theorem c_isKeySize (l : Launch) (D : va_G) (ca : Nat → ClassId) (ad : Nat → Nat → Nat) (σ : Sg) (a0 : Int32) (sz : Nat) (post : Int32 → Sg → Prop) (hw : wp_isKeySize post σ a0) : Met l yH_isKeySize wsH_isKeySize ({ frames := 0, cells := 0, slots := 0, locals := 0 }) (va_Pc [.int a0] (preX D ca ad σ sz)) (va_Qi post (atX D ca ad (va_A (wX ca ad σ) sz)) (va_A (wX ca ad σ) sz)) 0 0 (va_A (wX ca ad σ) sz) := by
  refine Met.ofW (cc := cH_isKeySize) (maxL := 1) (ret := (some .boolean)) (by decide) rfl ?_
  intro p e s m args below meth c s₁ B hml hv
  obtain ⟨rfl, hsz, hP, hK, hD0, hE⟩ := hv
  have hx := B.exec
  have hb := B.bytes
  have hr := B.returns
  have hts : ∀ w ∈ tbG, w.before _ s = true := fun w h => atoms_spec (ws := wsH_isKeySize) B.pre w (List.mem_cons_of_mem _ h)
  have hown : s.vm.findClass RH = some m.cls := findClass_of_methodNamed B.named
  have hlocks := B.notSynchronized
  subst hsz
  have hD := hD0.self (sz := s.heap.size)
  generalize hAe : va_A (wX ca ad σ) s.heap.size = A at hD hE ⊢
  have hA : ∀ q : Nat, s.heap.size ≤ q → A q := fun q h => by rw [← hAe]; exact Or.inr h
  clear hAe
  have hS : va_S A s.heap s.heap [] := va_S.rf
  have hl := lv_entry ([.int a0]) (n := 1) (Nat.le_of_ble_eq_true rfl)
  rw [lg_entry_eq]
  generalize (lg_sl ([.int a0]) ++ List.replicate (1 - (lg_sl ([.int a0])).length) Slot.unset).toArray = ls at hl ⊢
  have hl : lv_has ls 1 [(0, .int a0)] := hl
  unfold wp_isKeySize at hw
  have hP : va_P D clX (wX ca ad σ) s.heap := hP
  refine lv_iload_n hx hb dH_isKeySize_0 rfl (lv_at hl 0 rfl) ?_
  refine lv_iconst (v := 1) hx hb dH_isKeySize_1 (by decide) ?_
  refine lv_icmp_lt (tgt := 15) hx hb dH_isKeySize_2 (by decide) (fun c1 => ?_) (fun c1 => ?_)
  · have hw := hw.1 c1
    refine lv_iconst (v := 0) hx hb dH_isKeySize_15 (by decide) ?_
    exact W.zret (ty := .boolean) (v := 0) hx hb hr (by decide) (fun t ht hW => ⟨⟨0, σ, rfl, hw, by rw [ht]; exact hP, va_K.moved hW.alike hK, hD⟩, hS.F ht⟩) hS.2.2 dH_isKeySize_16
  · have hw := hw.2 c1
    refine lv_iload_n hx hb dH_isKeySize_5 rfl (lv_at hl 0 rfl) ?_
    refine lv_bipush (v := 32) hx hb dH_isKeySize_6 (by decide) ?_
    refine lv_icmp_gt (tgt := 15) hx hb dH_isKeySize_8 (by decide) (fun c2 => ?_) (fun c2 => ?_)
    · have hw := hw.1 c2
      refine lv_iconst (v := 0) hx hb dH_isKeySize_15 (by decide) ?_
      exact W.zret (ty := .boolean) (v := 0) hx hb hr (by decide) (fun t ht hW => ⟨⟨0, σ, rfl, hw, by rw [ht]; exact hP, va_K.moved hW.alike hK, hD⟩, hS.F ht⟩) hS.2.2 dH_isKeySize_16
    · have hw := hw.2 c2
      refine lv_iconst (v := 1) hx hb dH_isKeySize_11 (by decide) ?_
      refine lv_goto (tgt := 16) hx hb dH_isKeySize_12 (by decide) ?_
      exact W.zret (ty := .boolean) (v := 1) hx hb hr (by decide) (fun t ht hW => ⟨⟨1, σ, rfl, hw, by rw [ht]; exact hP, va_K.moved hW.alike hK, hD⟩, hS.F ht⟩) hS.2.2 dH_isKeySize_16
theorem dH_isValueSize_0 : decode cH_isValueSize 0 = .ok (.iload_n 0, 1) := by decide +kernel
theorem dH_isValueSize_1 : decode cH_isValueSize 1 = .ok (.ifCond .lt 13, 3) := by decide +kernel
theorem dH_isValueSize_4 : decode cH_isValueSize 4 = .ok (.iload_n 0, 1) := by decide +kernel
theorem dH_isValueSize_5 : decode cH_isValueSize 5 = .ok (.bipush 100, 2) := by decide +kernel
theorem dH_isValueSize_7 : decode cH_isValueSize 7 = .ok (.if_icmp .gt 7, 3) := by decide +kernel
theorem dH_isValueSize_10 : decode cH_isValueSize 10 = .ok (.iconst 1, 1) := by decide +kernel
theorem dH_isValueSize_11 : decode cH_isValueSize 11 = .ok (.goto 4, 3) := by decide +kernel
theorem dH_isValueSize_14 : decode cH_isValueSize 14 = .ok (.iconst 0, 1) := by decide +kernel
theorem dH_isValueSize_15 : decode cH_isValueSize 15 = .ok (.ireturn, 1) := by decide +kernel
def wp_isValueSize (post : Int32 → Sg → Prop) (σ : Sg) (a0 : Int32) : Prop := (((a0 < 0) → post 0 σ) ∧ (¬ (a0 < 0) → (((100 < a0) → post 0 σ) ∧ (¬ (100 < a0) → post 1 σ))))
set_option maxHeartbeats 4000000 in
set_option maxRecDepth 100000 in
theorem c_isValueSize (l : Launch) (D : va_G) (ca : Nat → ClassId) (ad : Nat → Nat → Nat) (σ : Sg) (a0 : Int32) (sz : Nat) (post : Int32 → Sg → Prop) (hw : wp_isValueSize post σ a0) : Met l yH_isValueSize wsH_isValueSize ({ frames := 0, cells := 0, slots := 0, locals := 0 }) (va_Pc [.int a0] (preX D ca ad σ sz)) (va_Qi post (atX D ca ad (va_A (wX ca ad σ) sz)) (va_A (wX ca ad σ) sz)) 0 0 (va_A (wX ca ad σ) sz) := by
  refine Met.ofW (cc := cH_isValueSize) (maxL := 1) (ret := (some .boolean)) (by decide) rfl ?_
  intro p e s m args below meth c s₁ B hml hv
  obtain ⟨rfl, hsz, hP, hK, hD0, hE⟩ := hv
  have hx := B.exec
  have hb := B.bytes
  have hr := B.returns
  have hts : ∀ w ∈ tbG, w.before _ s = true := fun w h => atoms_spec (ws := wsH_isValueSize) B.pre w (List.mem_cons_of_mem _ h)
  have hown : s.vm.findClass RH = some m.cls := findClass_of_methodNamed B.named
  have hlocks := B.notSynchronized
  subst hsz
  have hD := hD0.self (sz := s.heap.size)
  generalize hAe : va_A (wX ca ad σ) s.heap.size = A at hD hE ⊢
  have hA : ∀ q : Nat, s.heap.size ≤ q → A q := fun q h => by rw [← hAe]; exact Or.inr h
  clear hAe
  have hS : va_S A s.heap s.heap [] := va_S.rf
  have hl := lv_entry ([.int a0]) (n := 1) (Nat.le_of_ble_eq_true rfl)
  rw [lg_entry_eq]
  generalize (lg_sl ([.int a0]) ++ List.replicate (1 - (lg_sl ([.int a0])).length) Slot.unset).toArray = ls at hl ⊢
  have hl : lv_has ls 1 [(0, .int a0)] := hl
  unfold wp_isValueSize at hw
  have hP : va_P D clX (wX ca ad σ) s.heap := hP
  refine lv_iload_n hx hb dH_isValueSize_0 rfl (lv_at hl 0 rfl) ?_
  refine lv_if_lt (tgt := 14) hx hb dH_isValueSize_1 (by decide) (fun c1 => ?_) (fun c1 => ?_)
  · have hw := hw.1 c1
    refine lv_iconst (v := 0) hx hb dH_isValueSize_14 (by decide) ?_
    exact W.zret (ty := .boolean) (v := 0) hx hb hr (by decide) (fun t ht hW => ⟨⟨0, σ, rfl, hw, by rw [ht]; exact hP, va_K.moved hW.alike hK, hD⟩, hS.F ht⟩) hS.2.2 dH_isValueSize_15
  · have hw := hw.2 c1
    refine lv_iload_n hx hb dH_isValueSize_4 rfl (lv_at hl 0 rfl) ?_
    refine lv_bipush (v := 100) hx hb dH_isValueSize_5 (by decide) ?_
    refine lv_icmp_gt (tgt := 14) hx hb dH_isValueSize_7 (by decide) (fun c2 => ?_) (fun c2 => ?_)
    · have hw := hw.1 c2
      refine lv_iconst (v := 0) hx hb dH_isValueSize_14 (by decide) ?_
      exact W.zret (ty := .boolean) (v := 0) hx hb hr (by decide) (fun t ht hW => ⟨⟨0, σ, rfl, hw, by rw [ht]; exact hP, va_K.moved hW.alike hK, hD⟩, hS.F ht⟩) hS.2.2 dH_isValueSize_15
    · have hw := hw.2 c2
      refine lv_iconst (v := 1) hx hb dH_isValueSize_10 (by decide) ?_
      refine lv_goto (tgt := 15) hx hb dH_isValueSize_11 (by decide) ?_
      exact W.zret (ty := .boolean) (v := 1) hx hb hr (by decide) (fun t ht hW => ⟨⟨1, σ, rfl, hw, by rw [ht]; exact hP, va_K.moved hW.alike hK, hD⟩, hS.F ht⟩) hS.2.2 dH_isValueSize_15
theorem dH_canBeAsked_0 : decode cH_canBeAsked 0 = .ok (.iload_n 1, 1) := by decide +kernel
theorem dH_canBeAsked_1 : decode cH_canBeAsked 1 = .ok (.invokestatic 258, 3) := by decide +kernel
theorem dH_canBeAsked_4 : decode cH_canBeAsked 4 = .ok (.ifCond .eq 19, 3) := by decide +kernel
theorem dH_canBeAsked_7 : decode cH_canBeAsked 7 = .ok (.iload_n 2, 1) := by decide +kernel
theorem dH_canBeAsked_8 : decode cH_canBeAsked 8 = .ok (.invokestatic 261, 3) := by decide +kernel
theorem dH_canBeAsked_11 : decode cH_canBeAsked 11 = .ok (.ifCond .eq 12, 3) := by decide +kernel
theorem dH_canBeAsked_14 : decode cH_canBeAsked 14 = .ok (.iload_n 2, 1) := by decide +kernel
theorem dH_canBeAsked_15 : decode cH_canBeAsked 15 = .ok (.ifCond .eq 10, 3) := by decide +kernel
theorem dH_canBeAsked_18 : decode cH_canBeAsked 18 = .ok (.iload_n 0, 1) := by decide +kernel
theorem dH_canBeAsked_19 : decode cH_canBeAsked 19 = .ok (.iconst 1, 1) := by decide +kernel
theorem dH_canBeAsked_20 : decode cH_canBeAsked 20 = .ok (.if_icmp .eq 5, 3) := by decide +kernel
theorem dH_canBeAsked_23 : decode cH_canBeAsked 23 = .ok (.iconst 0, 1) := by decide +kernel
theorem dH_canBeAsked_24 : decode cH_canBeAsked 24 = .ok (.ireturn, 1) := by decide +kernel
theorem dH_canBeAsked_25 : decode cH_canBeAsked 25 = .ok (.iload_n 3, 1) := by decide +kernel
theorem dH_canBeAsked_26 : decode cH_canBeAsked 26 = .ok (.iload_n 1, 1) := by decide +kernel
theorem dH_canBeAsked_27 : decode cH_canBeAsked 27 = .ok (.isub, 1) := by decide +kernel
theorem dH_canBeAsked_28 : decode cH_canBeAsked 28 = .ok (.iload_n 2, 1) := by decide +kernel
theorem dH_canBeAsked_29 : decode cH_canBeAsked 29 = .ok (.isub, 1) := by decide +kernel
theorem dH_canBeAsked_30 : decode cH_canBeAsked 30 = .ok (.istore 4, 2) := by decide +kernel
theorem dH_canBeAsked_32 : decode cH_canBeAsked 32 = .ok (.iload_n 0, 1) := by decide +kernel
theorem dH_canBeAsked_33 : decode cH_canBeAsked 33 = .ok (.tableswitch 62 0 5 #[39, 39, 45, 45, 56, 45], 39) := by decide +kernel
theorem dH_canBeAsked_72 : decode cH_canBeAsked 72 = .ok (.iload 4, 2) := by decide +kernel
theorem dH_canBeAsked_74 : decode cH_canBeAsked 74 = .ok (.invokestatic 261, 3) := by decide +kernel
theorem dH_canBeAsked_77 : decode cH_canBeAsked 77 = .ok (.ireturn, 1) := by decide +kernel
theorem dH_canBeAsked_78 : decode cH_canBeAsked 78 = .ok (.iload 4, 2) := by decide +kernel
theorem dH_canBeAsked_80 : decode cH_canBeAsked 80 = .ok (.ifCond .ne 7, 3) := by decide +kernel
theorem dH_canBeAsked_83 : decode cH_canBeAsked 83 = .ok (.iconst 1, 1) := by decide +kernel
theorem dH_canBeAsked_84 : decode cH_canBeAsked 84 = .ok (.goto 4, 3) := by decide +kernel
theorem dH_canBeAsked_87 : decode cH_canBeAsked 87 = .ok (.iconst 0, 1) := by decide +kernel
theorem dH_canBeAsked_88 : decode cH_canBeAsked 88 = .ok (.ireturn, 1) := by decide +kernel
theorem dH_canBeAsked_89 : decode cH_canBeAsked 89 = .ok (.iload 4, 2) := by decide +kernel
theorem dH_canBeAsked_91 : decode cH_canBeAsked 91 = .ok (.invokestatic 258, 3) := by decide +kernel
theorem dH_canBeAsked_94 : decode cH_canBeAsked 94 = .ok (.ireturn, 1) := by decide +kernel
theorem dH_canBeAsked_95 : decode cH_canBeAsked 95 = .ok (.iconst 0, 1) := by decide +kernel
theorem dH_canBeAsked_96 : decode cH_canBeAsked 96 = .ok (.ireturn, 1) := by decide +kernel
def wp_canBeAsked (post : Int32 → Sg → Prop) (σ : Sg) (a0 : Int32) (a1 : Int32) (a2 : Int32) (a3 : Int32) : Prop := wp_isKeySize (fun r2 s1 => (((r2 = 0) → post 0 s1) ∧ (¬ (r2 = 0) → wp_isValueSize (fun r5 s4 => (((r5 = 0) → post 0 s4) ∧ (¬ (r5 = 0) → (((a2 = 0) → ((a0 = 0 → wp_isValueSize (fun r10 s9 => (narrow .boolean (.int r10) = .int r10 ∧ post r10 s9)) s4 ((a3 - a1) - a2)) ∧ (¬ (a0 = 0) → ((a0 = 1 → wp_isValueSize (fun r13 s12 => (narrow .boolean (.int r13) = .int r13 ∧ post r13 s12)) s4 ((a3 - a1) - a2)) ∧ (¬ (a0 = 1) → ((a0 = 2 → ((¬ (((a3 - a1) - a2) = 0) → post 0 s4) ∧ ((((a3 - a1) - a2) = 0) → post 1 s4))) ∧ (¬ (a0 = 2) → ((a0 = 3 → ((¬ (((a3 - a1) - a2) = 0) → post 0 s4) ∧ ((((a3 - a1) - a2) = 0) → post 1 s4))) ∧ (¬ (a0 = 3) → ((a0 = 4 → wp_isKeySize (fun r20 s19 => (narrow .boolean (.int r20) = .int r20 ∧ post r20 s19)) s4 ((a3 - a1) - a2)) ∧ (¬ (a0 = 4) → ((a0 = 5 → ((¬ (((a3 - a1) - a2) = 0) → post 0 s4) ∧ ((((a3 - a1) - a2) = 0) → post 1 s4))) ∧ (¬ (a0 = 5) → post 0 s4))))))))))))) ∧ (¬ (a2 = 0) → (((a0 = 1) → ((a0 = 0 → wp_isValueSize (fun r26 s25 => (narrow .boolean (.int r26) = .int r26 ∧ post r26 s25)) s4 ((a3 - a1) - a2)) ∧ (¬ (a0 = 0) → ((a0 = 1 → wp_isValueSize (fun r29 s28 => (narrow .boolean (.int r29) = .int r29 ∧ post r29 s28)) s4 ((a3 - a1) - a2)) ∧ (¬ (a0 = 1) → ((a0 = 2 → ((¬ (((a3 - a1) - a2) = 0) → post 0 s4) ∧ ((((a3 - a1) - a2) = 0) → post 1 s4))) ∧ (¬ (a0 = 2) → ((a0 = 3 → ((¬ (((a3 - a1) - a2) = 0) → post 0 s4) ∧ ((((a3 - a1) - a2) = 0) → post 1 s4))) ∧ (¬ (a0 = 3) → ((a0 = 4 → wp_isKeySize (fun r36 s35 => (narrow .boolean (.int r36) = .int r36 ∧ post r36 s35)) s4 ((a3 - a1) - a2)) ∧ (¬ (a0 = 4) → ((a0 = 5 → ((¬ (((a3 - a1) - a2) = 0) → post 0 s4) ∧ ((((a3 - a1) - a2) = 0) → post 1 s4))) ∧ (¬ (a0 = 5) → post 0 s4))))))))))))) ∧ (¬ (a0 = 1) → post 0 s4))))))) s1 a2))) σ a1
set_option maxHeartbeats 4000000 in
set_option maxRecDepth 100000 in
theorem c_canBeAsked (l : Launch) (D : va_G) (ca : Nat → ClassId) (ad : Nat → Nat → Nat) (σ : Sg) (a0 : Int32) (a1 : Int32) (a2 : Int32) (a3 : Int32) (sz : Nat) (post : Int32 → Sg → Prop) (hw : wp_canBeAsked post σ a0 a1 a2 a3) : Met l yH_canBeAsked wsH_canBeAsked ({ frames := 1, cells := 0, slots := 0, locals := 20 }) (va_Pc [.int a0, .int a1, .int a2, .int a3] (preX D ca ad σ sz)) (va_Qi post (atX D ca ad (va_A (wX ca ad σ) sz)) (va_A (wX ca ad σ) sz)) 0 0 (va_A (wX ca ad σ) sz) := by
  refine Met.ofW (cc := cH_canBeAsked) (maxL := 5) (ret := (some .boolean)) (by decide) rfl ?_
  intro p e s m args below meth c s₁ B hml hv
  obtain ⟨rfl, hsz, hP, hK, hD0, hE⟩ := hv
  have hx := B.exec
  have hb := B.bytes
  have hr := B.returns
  have hts : ∀ w ∈ tbG, w.before _ s = true := fun w h => atoms_spec (ws := wsH_canBeAsked) B.pre w (List.mem_cons_of_mem _ h)
  have hown : s.vm.findClass RH = some m.cls := findClass_of_methodNamed B.named
  have hlocks := B.notSynchronized
  subst hsz
  have hD := hD0.self (sz := s.heap.size)
  generalize hAe : va_A (wX ca ad σ) s.heap.size = A at hD hE ⊢
  have hA : ∀ q : Nat, s.heap.size ≤ q → A q := fun q h => by rw [← hAe]; exact Or.inr h
  clear hAe
  have hS : va_S A s.heap s.heap [] := va_S.rf
  have hl := lv_entry ([.int a0, .int a1, .int a2, .int a3]) (n := 5) (Nat.le_of_ble_eq_true rfl)
  rw [lg_entry_eq]
  generalize (lg_sl ([.int a0, .int a1, .int a2, .int a3]) ++ List.replicate (5 - (lg_sl ([.int a0, .int a1, .int a2, .int a3])).length) Slot.unset).toArray = ls at hl ⊢
  have hl : lv_has ls 5 [(0, .int a0), (1, .int a1), (2, .int a2), (3, .int a3)] := hl
  unfold wp_canBeAsked at hw
  have hP : va_P D clX (wX ca ad σ) s.heap := hP
  refine lv_iload_n hx hb dH_canBeAsked_0 rfl (lv_at hl 1 rfl) ?_
  have hFc := px_free hD hS hA
  refine va_calli (va_runS (As := [.int a1]) (rest := []) ⟨hx, hb, hml, hown, hts⟩ (c_isKeySize l D ca ad σ a1 _ _ hw) (va_cwS 1 hts (gS tw_332 tw_333 tw_1 tw_334) rfl rfl rfl (by decide +kernel) ⟨Nat.le_of_ble_eq_true rfl, Nat.le_of_ble_eq_true rfl⟩) ⟨px_blind, fun U hU hW => px_pre hP hK hD hE hS hFc hU hW⟩ rfl rfl hl.1 rfl (lv_room (Nat.le_of_ble_eq_true rfl)) dH_canBeAsked_1 ⟨Nat.le_of_ble_eq_true rfl, Nat.le_of_ble_eq_true rfl⟩) hS (fun q _ h => hFc q h) hFc (fun r2 s1 t H locs ht hvm hw hB _ _ hS => ?_)
  obtain ⟨hP, -, hD⟩ := hB
  rw [ht] at hP
  have hD := hD.weaken (fun _ _ _ h9 => hFc _ h9)
  refine lv_if_eq (tgt := 23) hx hb dH_canBeAsked_4 (by decide) (fun c3 => ?_) (fun c3 => ?_)
  · have hw := hw.1 c3
    refine lv_iconst (v := 0) hx hb dH_canBeAsked_23 (by decide) ?_
    exact W.zret (ty := .boolean) (v := 0) hx hb hr (by decide) (fun t ht hW => ⟨⟨0, s1, rfl, hw, by rw [ht]; exact hP, va_K.moved hW.alike hK, hD⟩, hS.F ht⟩) hS.2.2 dH_canBeAsked_24
  · have hw := hw.2 c3
    refine lv_iload_n hx hb dH_canBeAsked_7 rfl (lv_at hl 2 rfl) ?_
    have hFc := px_free hD hS hA
    refine va_calli (va_runS (As := [.int a2]) (rest := []) ⟨hx, hb, hml, hown, hts⟩ (c_isValueSize l D ca ad s1 a2 _ _ hw) (va_cwS 1 hts (gS tw_335 tw_336 tw_1 tw_337) rfl rfl rfl (by decide +kernel) ⟨Nat.le_of_ble_eq_true rfl, Nat.le_of_ble_eq_true rfl⟩) ⟨px_blind, fun U hU hW => px_pre hP hK hD hE hS hFc hU hW⟩ rfl rfl hl.1 rfl (lv_room (Nat.le_of_ble_eq_true rfl)) dH_canBeAsked_8 ⟨Nat.le_of_ble_eq_true rfl, Nat.le_of_ble_eq_true rfl⟩) hS (fun q _ h => hFc q h) hFc (fun r5 s4 t H locs ht hvm hw hB _ _ hS => ?_)
    obtain ⟨hP, -, hD⟩ := hB
    rw [ht] at hP
    have hD := hD.weaken (fun _ _ _ h9 => hFc _ h9)
    refine lv_if_eq (tgt := 23) hx hb dH_canBeAsked_11 (by decide) (fun c6 => ?_) (fun c6 => ?_)
    · have hw := hw.1 c6
      refine lv_iconst (v := 0) hx hb dH_canBeAsked_23 (by decide) ?_
      exact W.zret (ty := .boolean) (v := 0) hx hb hr (by decide) (fun t ht hW => ⟨⟨0, s4, rfl, hw, by rw [ht]; exact hP, va_K.moved hW.alike hK, hD⟩, hS.F ht⟩) hS.2.2 dH_canBeAsked_24
    · have hw := hw.2 c6
      refine lv_iload_n hx hb dH_canBeAsked_14 rfl (lv_at hl 2 rfl) ?_
      refine lv_if_eq (tgt := 25) hx hb dH_canBeAsked_15 (by decide) (fun c7 => ?_) (fun c7 => ?_)
      · have hw := hw.1 c7
        refine lv_iload_n hx hb dH_canBeAsked_25 rfl (lv_at hl 3 rfl) ?_
        refine lv_iload_n hx hb dH_canBeAsked_26 rfl (lv_at hl 1 rfl) ?_
        refine lv_isub hx hb dH_canBeAsked_27 ?_
        refine lv_iload_n hx hb dH_canBeAsked_28 rfl (lv_at hl 2 rfl) ?_
        refine lv_isub hx hb dH_canBeAsked_29 ?_
        refine lv_istore (lv' := [(4, .int ((a3 - a1) - a2)), (0, .int a0), (1, .int a1), (2, .int a2), (3, .int a3)]) hx hb dH_canBeAsked_30 hl (by decide) rfl (fun ls hl => ?_)
        refine lv_iload_n hx hb dH_canBeAsked_32 rfl (lv_at hl 1 rfl) ?_
        by_cases c8 : a0 = 0
        · have hw := hw.1 c8
          refine lv_tableIn (tgt := 72) hx hb dH_canBeAsked_33 (by rw [c8]; decide) (by rw [c8]; decide) (by rw [c8]; rfl) (by decide) ?_
          refine lv_iload hx hb dH_canBeAsked_72 (lv_at hl 0 rfl) ?_
          have hFc := px_free hD hS hA
          refine va_calli (va_runS (As := [.int ((a3 - a1) - a2)]) (rest := []) ⟨hx, hb, hml, hown, hts⟩ (c_isValueSize l D ca ad s4 ((a3 - a1) - a2) _ _ hw) (va_cwS 1 hts (gS tw_335 tw_336 tw_1 tw_337) rfl rfl rfl (by decide +kernel) ⟨Nat.le_of_ble_eq_true rfl, Nat.le_of_ble_eq_true rfl⟩) ⟨px_blind, fun U hU hW => px_pre hP hK hD hE hS hFc hU hW⟩ rfl rfl hl.1 rfl (lv_room (Nat.le_of_ble_eq_true rfl)) dH_canBeAsked_74 ⟨Nat.le_of_ble_eq_true rfl, Nat.le_of_ble_eq_true rfl⟩) hS (fun q _ h => hFc q h) hFc (fun r10 s9 t H locs ht hvm hw hB _ _ hS => ?_)
          obtain ⟨hP, -, hD⟩ := hB
          rw [ht] at hP
          have hD := hD.weaken (fun _ _ _ h9 => hFc _ h9)
          obtain ⟨hz, hw⟩ := hw
          exact W.zret (ty := .boolean) (v := r10) hx hb hr hz (fun t ht hW => ⟨⟨r10, s9, rfl, hw, by rw [ht]; exact hP, va_K.moved hW.alike hK, hD⟩, hS.F ht⟩) hS.2.2 dH_canBeAsked_77
        · have hw := hw.2 c8
          by_cases c11 : a0 = 1
          · have hw := hw.1 c11
            refine lv_tableIn (tgt := 72) hx hb dH_canBeAsked_33 (by rw [c11]; decide) (by rw [c11]; decide) (by rw [c11]; rfl) (by decide) ?_
            refine lv_iload hx hb dH_canBeAsked_72 (lv_at hl 0 rfl) ?_
            have hFc := px_free hD hS hA
            refine va_calli (va_runS (As := [.int ((a3 - a1) - a2)]) (rest := []) ⟨hx, hb, hml, hown, hts⟩ (c_isValueSize l D ca ad s4 ((a3 - a1) - a2) _ _ hw) (va_cwS 1 hts (gS tw_335 tw_336 tw_1 tw_337) rfl rfl rfl (by decide +kernel) ⟨Nat.le_of_ble_eq_true rfl, Nat.le_of_ble_eq_true rfl⟩) ⟨px_blind, fun U hU hW => px_pre hP hK hD hE hS hFc hU hW⟩ rfl rfl hl.1 rfl (lv_room (Nat.le_of_ble_eq_true rfl)) dH_canBeAsked_74 ⟨Nat.le_of_ble_eq_true rfl, Nat.le_of_ble_eq_true rfl⟩) hS (fun q _ h => hFc q h) hFc (fun r13 s12 t H locs ht hvm hw hB _ _ hS => ?_)
            obtain ⟨hP, -, hD⟩ := hB
            rw [ht] at hP
            have hD := hD.weaken (fun _ _ _ h9 => hFc _ h9)
            obtain ⟨hz, hw⟩ := hw
            exact W.zret (ty := .boolean) (v := r13) hx hb hr hz (fun t ht hW => ⟨⟨r13, s12, rfl, hw, by rw [ht]; exact hP, va_K.moved hW.alike hK, hD⟩, hS.F ht⟩) hS.2.2 dH_canBeAsked_77
          · have hw := hw.2 c11
            by_cases c14 : a0 = 2
            · have hw := hw.1 c14
              refine lv_tableIn (tgt := 78) hx hb dH_canBeAsked_33 (by rw [c14]; decide) (by rw [c14]; decide) (by rw [c14]; rfl) (by decide) ?_
              refine lv_iload hx hb dH_canBeAsked_78 (lv_at hl 0 rfl) ?_
              refine lv_if_ne (tgt := 87) hx hb dH_canBeAsked_80 (by decide) (fun c15 => ?_) (fun c15 => ?_)
              · have hw := hw.1 c15
                refine lv_iconst (v := 0) hx hb dH_canBeAsked_87 (by decide) ?_
                exact W.zret (ty := .boolean) (v := 0) hx hb hr (by decide) (fun t ht hW => ⟨⟨0, s4, rfl, hw, by rw [ht]; exact hP, va_K.moved hW.alike hK, hD⟩, hS.F ht⟩) hS.2.2 dH_canBeAsked_88
              · have hw := hw.2 c15
                refine lv_iconst (v := 1) hx hb dH_canBeAsked_83 (by decide) ?_
                refine lv_goto (tgt := 88) hx hb dH_canBeAsked_84 (by decide) ?_
                exact W.zret (ty := .boolean) (v := 1) hx hb hr (by decide) (fun t ht hW => ⟨⟨1, s4, rfl, hw, by rw [ht]; exact hP, va_K.moved hW.alike hK, hD⟩, hS.F ht⟩) hS.2.2 dH_canBeAsked_88
            · have hw := hw.2 c14
              by_cases c16 : a0 = 3
              · have hw := hw.1 c16
                refine lv_tableIn (tgt := 78) hx hb dH_canBeAsked_33 (by rw [c16]; decide) (by rw [c16]; decide) (by rw [c16]; rfl) (by decide) ?_
                refine lv_iload hx hb dH_canBeAsked_78 (lv_at hl 0 rfl) ?_
                refine lv_if_ne (tgt := 87) hx hb dH_canBeAsked_80 (by decide) (fun c17 => ?_) (fun c17 => ?_)
                · have hw := hw.1 c17
                  refine lv_iconst (v := 0) hx hb dH_canBeAsked_87 (by decide) ?_
                  exact W.zret (ty := .boolean) (v := 0) hx hb hr (by decide) (fun t ht hW => ⟨⟨0, s4, rfl, hw, by rw [ht]; exact hP, va_K.moved hW.alike hK, hD⟩, hS.F ht⟩) hS.2.2 dH_canBeAsked_88
                · have hw := hw.2 c17
                  refine lv_iconst (v := 1) hx hb dH_canBeAsked_83 (by decide) ?_
                  refine lv_goto (tgt := 88) hx hb dH_canBeAsked_84 (by decide) ?_
                  exact W.zret (ty := .boolean) (v := 1) hx hb hr (by decide) (fun t ht hW => ⟨⟨1, s4, rfl, hw, by rw [ht]; exact hP, va_K.moved hW.alike hK, hD⟩, hS.F ht⟩) hS.2.2 dH_canBeAsked_88
              · have hw := hw.2 c16
                by_cases c18 : a0 = 4
                · have hw := hw.1 c18
                  refine lv_tableIn (tgt := 89) hx hb dH_canBeAsked_33 (by rw [c18]; decide) (by rw [c18]; decide) (by rw [c18]; rfl) (by decide) ?_
                  refine lv_iload hx hb dH_canBeAsked_89 (lv_at hl 0 rfl) ?_
                  have hFc := px_free hD hS hA
                  refine va_calli (va_runS (As := [.int ((a3 - a1) - a2)]) (rest := []) ⟨hx, hb, hml, hown, hts⟩ (c_isKeySize l D ca ad s4 ((a3 - a1) - a2) _ _ hw) (va_cwS 1 hts (gS tw_332 tw_333 tw_1 tw_334) rfl rfl rfl (by decide +kernel) ⟨Nat.le_of_ble_eq_true rfl, Nat.le_of_ble_eq_true rfl⟩) ⟨px_blind, fun U hU hW => px_pre hP hK hD hE hS hFc hU hW⟩ rfl rfl hl.1 rfl (lv_room (Nat.le_of_ble_eq_true rfl)) dH_canBeAsked_91 ⟨Nat.le_of_ble_eq_true rfl, Nat.le_of_ble_eq_true rfl⟩) hS (fun q _ h => hFc q h) hFc (fun r20 s19 t H locs ht hvm hw hB _ _ hS => ?_)
                  obtain ⟨hP, -, hD⟩ := hB
                  rw [ht] at hP
                  have hD := hD.weaken (fun _ _ _ h9 => hFc _ h9)
                  obtain ⟨hz, hw⟩ := hw
                  exact W.zret (ty := .boolean) (v := r20) hx hb hr hz (fun t ht hW => ⟨⟨r20, s19, rfl, hw, by rw [ht]; exact hP, va_K.moved hW.alike hK, hD⟩, hS.F ht⟩) hS.2.2 dH_canBeAsked_94
                · have hw := hw.2 c18
                  by_cases c21 : a0 = 5
                  · have hw := hw.1 c21
                    refine lv_tableIn (tgt := 78) hx hb dH_canBeAsked_33 (by rw [c21]; decide) (by rw [c21]; decide) (by rw [c21]; rfl) (by decide) ?_
                    refine lv_iload hx hb dH_canBeAsked_78 (lv_at hl 0 rfl) ?_
                    refine lv_if_ne (tgt := 87) hx hb dH_canBeAsked_80 (by decide) (fun c22 => ?_) (fun c22 => ?_)
                    · have hw := hw.1 c22
                      refine lv_iconst (v := 0) hx hb dH_canBeAsked_87 (by decide) ?_
                      exact W.zret (ty := .boolean) (v := 0) hx hb hr (by decide) (fun t ht hW => ⟨⟨0, s4, rfl, hw, by rw [ht]; exact hP, va_K.moved hW.alike hK, hD⟩, hS.F ht⟩) hS.2.2 dH_canBeAsked_88
                    · have hw := hw.2 c22
                      refine lv_iconst (v := 1) hx hb dH_canBeAsked_83 (by decide) ?_
                      refine lv_goto (tgt := 88) hx hb dH_canBeAsked_84 (by decide) ?_
                      exact W.zret (ty := .boolean) (v := 1) hx hb hr (by decide) (fun t ht hW => ⟨⟨1, s4, rfl, hw, by rw [ht]; exact hP, va_K.moved hW.alike hK, hD⟩, hS.F ht⟩) hS.2.2 dH_canBeAsked_88
                  · have hw := hw.2 c21
                    refine lv_tableOut (tgt := 95) hx hb dH_canBeAsked_33 (by first | exact px_out6 c8 c11 c14 c16 c18 c21) (by decide) ?_
                    refine lv_iconst (v := 0) hx hb dH_canBeAsked_95 (by decide) ?_
                    exact W.zret (ty := .boolean) (v := 0) hx hb hr (by decide) (fun t ht hW => ⟨⟨0, s4, rfl, hw, by rw [ht]; exact hP, va_K.moved hW.alike hK, hD⟩, hS.F ht⟩) hS.2.2 dH_canBeAsked_96
      · have hw := hw.2 c7
        refine lv_iload_n hx hb dH_canBeAsked_18 rfl (lv_at hl 0 rfl) ?_
        refine lv_iconst (v := 1) hx hb dH_canBeAsked_19 (by decide) ?_
        refine lv_icmp_eq (tgt := 25) hx hb dH_canBeAsked_20 (by decide) (fun c23 => ?_) (fun c23 => ?_)
        · have hw := hw.1 c23
          refine lv_iload_n hx hb dH_canBeAsked_25 rfl (lv_at hl 3 rfl) ?_
          refine lv_iload_n hx hb dH_canBeAsked_26 rfl (lv_at hl 1 rfl) ?_
          refine lv_isub hx hb dH_canBeAsked_27 ?_
          refine lv_iload_n hx hb dH_canBeAsked_28 rfl (lv_at hl 2 rfl) ?_
          refine lv_isub hx hb dH_canBeAsked_29 ?_
          refine lv_istore (lv' := [(4, .int ((a3 - a1) - a2)), (0, .int a0), (1, .int a1), (2, .int a2), (3, .int a3)]) hx hb dH_canBeAsked_30 hl (by decide) rfl (fun ls hl => ?_)
          refine lv_iload_n hx hb dH_canBeAsked_32 rfl (lv_at hl 1 rfl) ?_
          by_cases c24 : a0 = 0
          · have hw := hw.1 c24
            refine lv_tableIn (tgt := 72) hx hb dH_canBeAsked_33 (by rw [c24]; decide) (by rw [c24]; decide) (by rw [c24]; rfl) (by decide) ?_
            refine lv_iload hx hb dH_canBeAsked_72 (lv_at hl 0 rfl) ?_
            have hFc := px_free hD hS hA
            refine va_calli (va_runS (As := [.int ((a3 - a1) - a2)]) (rest := []) ⟨hx, hb, hml, hown, hts⟩ (c_isValueSize l D ca ad s4 ((a3 - a1) - a2) _ _ hw) (va_cwS 1 hts (gS tw_335 tw_336 tw_1 tw_337) rfl rfl rfl (by decide +kernel) ⟨Nat.le_of_ble_eq_true rfl, Nat.le_of_ble_eq_true rfl⟩) ⟨px_blind, fun U hU hW => px_pre hP hK hD hE hS hFc hU hW⟩ rfl rfl hl.1 rfl (lv_room (Nat.le_of_ble_eq_true rfl)) dH_canBeAsked_74 ⟨Nat.le_of_ble_eq_true rfl, Nat.le_of_ble_eq_true rfl⟩) hS (fun q _ h => hFc q h) hFc (fun r26 s25 t H locs ht hvm hw hB _ _ hS => ?_)
            obtain ⟨hP, -, hD⟩ := hB
            rw [ht] at hP
            have hD := hD.weaken (fun _ _ _ h9 => hFc _ h9)
            obtain ⟨hz, hw⟩ := hw
            exact W.zret (ty := .boolean) (v := r26) hx hb hr hz (fun t ht hW => ⟨⟨r26, s25, rfl, hw, by rw [ht]; exact hP, va_K.moved hW.alike hK, hD⟩, hS.F ht⟩) hS.2.2 dH_canBeAsked_77
          · have hw := hw.2 c24
            by_cases c27 : a0 = 1
            · have hw := hw.1 c27
              refine lv_tableIn (tgt := 72) hx hb dH_canBeAsked_33 (by rw [c27]; decide) (by rw [c27]; decide) (by rw [c27]; rfl) (by decide) ?_
              refine lv_iload hx hb dH_canBeAsked_72 (lv_at hl 0 rfl) ?_
              have hFc := px_free hD hS hA
              refine va_calli (va_runS (As := [.int ((a3 - a1) - a2)]) (rest := []) ⟨hx, hb, hml, hown, hts⟩ (c_isValueSize l D ca ad s4 ((a3 - a1) - a2) _ _ hw) (va_cwS 1 hts (gS tw_335 tw_336 tw_1 tw_337) rfl rfl rfl (by decide +kernel) ⟨Nat.le_of_ble_eq_true rfl, Nat.le_of_ble_eq_true rfl⟩) ⟨px_blind, fun U hU hW => px_pre hP hK hD hE hS hFc hU hW⟩ rfl rfl hl.1 rfl (lv_room (Nat.le_of_ble_eq_true rfl)) dH_canBeAsked_74 ⟨Nat.le_of_ble_eq_true rfl, Nat.le_of_ble_eq_true rfl⟩) hS (fun q _ h => hFc q h) hFc (fun r29 s28 t H locs ht hvm hw hB _ _ hS => ?_)
              obtain ⟨hP, -, hD⟩ := hB
              rw [ht] at hP
              have hD := hD.weaken (fun _ _ _ h9 => hFc _ h9)
              obtain ⟨hz, hw⟩ := hw
              exact W.zret (ty := .boolean) (v := r29) hx hb hr hz (fun t ht hW => ⟨⟨r29, s28, rfl, hw, by rw [ht]; exact hP, va_K.moved hW.alike hK, hD⟩, hS.F ht⟩) hS.2.2 dH_canBeAsked_77
            · have hw := hw.2 c27
              by_cases c30 : a0 = 2
              · have hw := hw.1 c30
                refine lv_tableIn (tgt := 78) hx hb dH_canBeAsked_33 (by rw [c30]; decide) (by rw [c30]; decide) (by rw [c30]; rfl) (by decide) ?_
                refine lv_iload hx hb dH_canBeAsked_78 (lv_at hl 0 rfl) ?_
                refine lv_if_ne (tgt := 87) hx hb dH_canBeAsked_80 (by decide) (fun c31 => ?_) (fun c31 => ?_)
                · have hw := hw.1 c31
                  refine lv_iconst (v := 0) hx hb dH_canBeAsked_87 (by decide) ?_
                  exact W.zret (ty := .boolean) (v := 0) hx hb hr (by decide) (fun t ht hW => ⟨⟨0, s4, rfl, hw, by rw [ht]; exact hP, va_K.moved hW.alike hK, hD⟩, hS.F ht⟩) hS.2.2 dH_canBeAsked_88
                · have hw := hw.2 c31
                  refine lv_iconst (v := 1) hx hb dH_canBeAsked_83 (by decide) ?_
                  refine lv_goto (tgt := 88) hx hb dH_canBeAsked_84 (by decide) ?_
                  exact W.zret (ty := .boolean) (v := 1) hx hb hr (by decide) (fun t ht hW => ⟨⟨1, s4, rfl, hw, by rw [ht]; exact hP, va_K.moved hW.alike hK, hD⟩, hS.F ht⟩) hS.2.2 dH_canBeAsked_88
              · have hw := hw.2 c30
                by_cases c32 : a0 = 3
                · have hw := hw.1 c32
                  refine lv_tableIn (tgt := 78) hx hb dH_canBeAsked_33 (by rw [c32]; decide) (by rw [c32]; decide) (by rw [c32]; rfl) (by decide) ?_
                  refine lv_iload hx hb dH_canBeAsked_78 (lv_at hl 0 rfl) ?_
                  refine lv_if_ne (tgt := 87) hx hb dH_canBeAsked_80 (by decide) (fun c33 => ?_) (fun c33 => ?_)
                  · have hw := hw.1 c33
                    refine lv_iconst (v := 0) hx hb dH_canBeAsked_87 (by decide) ?_
                    exact W.zret (ty := .boolean) (v := 0) hx hb hr (by decide) (fun t ht hW => ⟨⟨0, s4, rfl, hw, by rw [ht]; exact hP, va_K.moved hW.alike hK, hD⟩, hS.F ht⟩) hS.2.2 dH_canBeAsked_88
                  · have hw := hw.2 c33
                    refine lv_iconst (v := 1) hx hb dH_canBeAsked_83 (by decide) ?_
                    refine lv_goto (tgt := 88) hx hb dH_canBeAsked_84 (by decide) ?_
                    exact W.zret (ty := .boolean) (v := 1) hx hb hr (by decide) (fun t ht hW => ⟨⟨1, s4, rfl, hw, by rw [ht]; exact hP, va_K.moved hW.alike hK, hD⟩, hS.F ht⟩) hS.2.2 dH_canBeAsked_88
                · have hw := hw.2 c32
                  by_cases c34 : a0 = 4
                  · have hw := hw.1 c34
                    refine lv_tableIn (tgt := 89) hx hb dH_canBeAsked_33 (by rw [c34]; decide) (by rw [c34]; decide) (by rw [c34]; rfl) (by decide) ?_
                    refine lv_iload hx hb dH_canBeAsked_89 (lv_at hl 0 rfl) ?_
                    have hFc := px_free hD hS hA
                    refine va_calli (va_runS (As := [.int ((a3 - a1) - a2)]) (rest := []) ⟨hx, hb, hml, hown, hts⟩ (c_isKeySize l D ca ad s4 ((a3 - a1) - a2) _ _ hw) (va_cwS 1 hts (gS tw_332 tw_333 tw_1 tw_334) rfl rfl rfl (by decide +kernel) ⟨Nat.le_of_ble_eq_true rfl, Nat.le_of_ble_eq_true rfl⟩) ⟨px_blind, fun U hU hW => px_pre hP hK hD hE hS hFc hU hW⟩ rfl rfl hl.1 rfl (lv_room (Nat.le_of_ble_eq_true rfl)) dH_canBeAsked_91 ⟨Nat.le_of_ble_eq_true rfl, Nat.le_of_ble_eq_true rfl⟩) hS (fun q _ h => hFc q h) hFc (fun r36 s35 t H locs ht hvm hw hB _ _ hS => ?_)
                    obtain ⟨hP, -, hD⟩ := hB
                    rw [ht] at hP
                    have hD := hD.weaken (fun _ _ _ h9 => hFc _ h9)
                    obtain ⟨hz, hw⟩ := hw
                    exact W.zret (ty := .boolean) (v := r36) hx hb hr hz (fun t ht hW => ⟨⟨r36, s35, rfl, hw, by rw [ht]; exact hP, va_K.moved hW.alike hK, hD⟩, hS.F ht⟩) hS.2.2 dH_canBeAsked_94
                  · have hw := hw.2 c34
                    by_cases c37 : a0 = 5
                    · have hw := hw.1 c37
                      refine lv_tableIn (tgt := 78) hx hb dH_canBeAsked_33 (by rw [c37]; decide) (by rw [c37]; decide) (by rw [c37]; rfl) (by decide) ?_
                      refine lv_iload hx hb dH_canBeAsked_78 (lv_at hl 0 rfl) ?_
                      refine lv_if_ne (tgt := 87) hx hb dH_canBeAsked_80 (by decide) (fun c38 => ?_) (fun c38 => ?_)
                      · have hw := hw.1 c38
                        refine lv_iconst (v := 0) hx hb dH_canBeAsked_87 (by decide) ?_
                        exact W.zret (ty := .boolean) (v := 0) hx hb hr (by decide) (fun t ht hW => ⟨⟨0, s4, rfl, hw, by rw [ht]; exact hP, va_K.moved hW.alike hK, hD⟩, hS.F ht⟩) hS.2.2 dH_canBeAsked_88
                      · have hw := hw.2 c38
                        refine lv_iconst (v := 1) hx hb dH_canBeAsked_83 (by decide) ?_
                        refine lv_goto (tgt := 88) hx hb dH_canBeAsked_84 (by decide) ?_
                        exact W.zret (ty := .boolean) (v := 1) hx hb hr (by decide) (fun t ht hW => ⟨⟨1, s4, rfl, hw, by rw [ht]; exact hP, va_K.moved hW.alike hK, hD⟩, hS.F ht⟩) hS.2.2 dH_canBeAsked_88
                    · have hw := hw.2 c37
                      refine lv_tableOut (tgt := 95) hx hb dH_canBeAsked_33 (by first | exact px_out6 c24 c27 c30 c32 c34 c37) (by decide) ?_
                      refine lv_iconst (v := 0) hx hb dH_canBeAsked_95 (by decide) ?_
                      exact W.zret (ty := .boolean) (v := 0) hx hb hr (by decide) (fun t ht hW => ⟨⟨0, s4, rfl, hw, by rw [ht]; exact hP, va_K.moved hW.alike hK, hD⟩, hS.F ht⟩) hS.2.2 dH_canBeAsked_96
        · have hw := hw.2 c23
          refine lv_iconst (v := 0) hx hb dH_canBeAsked_23 (by decide) ?_
          exact W.zret (ty := .boolean) (v := 0) hx hb hr (by decide) (fun t ht hW => ⟨⟨0, s4, rfl, hw, by rw [ht]; exact hP, va_K.moved hW.alike hK, hD⟩, hS.F ht⟩) hS.2.2 dH_canBeAsked_24
theorem dH_canBeReplied_0 : decode cH_canBeReplied 0 = .ok (.iload_n 0, 1) := by decide +kernel
theorem dH_canBeReplied_1 : decode cH_canBeReplied 1 = .ok (.tableswitch 95 0 3 #[31, 56, 81, 81], 31) := by decide +kernel
theorem dH_canBeReplied_32 : decode cH_canBeReplied 32 = .ok (.iload_n 1, 1) := by decide +kernel
theorem dH_canBeReplied_33 : decode cH_canBeReplied 33 = .ok (.iconst 1, 1) := by decide +kernel
theorem dH_canBeReplied_34 : decode cH_canBeReplied 34 = .ok (.if_icmp .lt 21, 3) := by decide +kernel
theorem dH_canBeReplied_37 : decode cH_canBeReplied 37 = .ok (.iload_n 1, 1) := by decide +kernel
theorem dH_canBeReplied_38 : decode cH_canBeReplied 38 = .ok (.ldc_w 264, 3) := by decide +kernel
theorem dH_canBeReplied_41 : decode cH_canBeReplied 41 = .ok (.if_icmp .gt 14, 3) := by decide +kernel
theorem dH_canBeReplied_44 : decode cH_canBeReplied 44 = .ok (.iload_n 2, 1) := by decide +kernel
theorem dH_canBeReplied_45 : decode cH_canBeReplied 45 = .ok (.sipush 134, 3) := by decide +kernel
theorem dH_canBeReplied_48 : decode cH_canBeReplied 48 = .ok (.if_icmp .gt 7, 3) := by decide +kernel
theorem dH_canBeReplied_51 : decode cH_canBeReplied 51 = .ok (.iconst 1, 1) := by decide +kernel
theorem dH_canBeReplied_52 : decode cH_canBeReplied 52 = .ok (.goto 4, 3) := by decide +kernel
theorem dH_canBeReplied_55 : decode cH_canBeReplied 55 = .ok (.iconst 0, 1) := by decide +kernel
theorem dH_canBeReplied_56 : decode cH_canBeReplied 56 = .ok (.ireturn, 1) := by decide +kernel
theorem dH_canBeReplied_57 : decode cH_canBeReplied 57 = .ok (.iload_n 1, 1) := by decide +kernel
theorem dH_canBeReplied_58 : decode cH_canBeReplied 58 = .ok (.iconst (-1), 1) := by decide +kernel
theorem dH_canBeReplied_59 : decode cH_canBeReplied 59 = .ok (.if_icmp .eq 13, 3) := by decide +kernel
theorem dH_canBeReplied_62 : decode cH_canBeReplied 62 = .ok (.iload_n 1, 1) := by decide +kernel
theorem dH_canBeReplied_63 : decode cH_canBeReplied 63 = .ok (.ifCond .lt 17, 3) := by decide +kernel
theorem dH_canBeReplied_66 : decode cH_canBeReplied 66 = .ok (.iload_n 1, 1) := by decide +kernel
theorem dH_canBeReplied_67 : decode cH_canBeReplied 67 = .ok (.bipush 7, 2) := by decide +kernel
theorem dH_canBeReplied_69 : decode cH_canBeReplied 69 = .ok (.if_icmp .ge 11, 3) := by decide +kernel
theorem dH_canBeReplied_72 : decode cH_canBeReplied 72 = .ok (.iload_n 2, 1) := by decide +kernel
theorem dH_canBeReplied_73 : decode cH_canBeReplied 73 = .ok (.ifCond .ne 7, 3) := by decide +kernel
theorem dH_canBeReplied_76 : decode cH_canBeReplied 76 = .ok (.iconst 1, 1) := by decide +kernel
theorem dH_canBeReplied_77 : decode cH_canBeReplied 77 = .ok (.goto 4, 3) := by decide +kernel
theorem dH_canBeReplied_80 : decode cH_canBeReplied 80 = .ok (.iconst 0, 1) := by decide +kernel
theorem dH_canBeReplied_81 : decode cH_canBeReplied 81 = .ok (.ireturn, 1) := by decide +kernel
theorem dH_canBeReplied_82 : decode cH_canBeReplied 82 = .ok (.iload_n 1, 1) := by decide +kernel
theorem dH_canBeReplied_83 : decode cH_canBeReplied 83 = .ok (.ifCond .ne 11, 3) := by decide +kernel
theorem dH_canBeReplied_86 : decode cH_canBeReplied 86 = .ok (.iload_n 2, 1) := by decide +kernel
theorem dH_canBeReplied_87 : decode cH_canBeReplied 87 = .ok (.ifCond .ne 7, 3) := by decide +kernel
theorem dH_canBeReplied_90 : decode cH_canBeReplied 90 = .ok (.iconst 1, 1) := by decide +kernel
theorem dH_canBeReplied_91 : decode cH_canBeReplied 91 = .ok (.goto 4, 3) := by decide +kernel
theorem dH_canBeReplied_94 : decode cH_canBeReplied 94 = .ok (.iconst 0, 1) := by decide +kernel
theorem dH_canBeReplied_95 : decode cH_canBeReplied 95 = .ok (.ireturn, 1) := by decide +kernel
theorem dH_canBeReplied_96 : decode cH_canBeReplied 96 = .ok (.iconst 0, 1) := by decide +kernel
theorem dH_canBeReplied_97 : decode cH_canBeReplied 97 = .ok (.ireturn, 1) := by decide +kernel
def wp_canBeReplied (post : Int32 → Sg → Prop) (σ : Sg) (a0 : Int32) (a1 : Int32) (a2 : Int32) : Prop := ((a0 = 0 → (((a1 < 1) → post 0 σ) ∧ (¬ (a1 < 1) → (((1000000 < a1) → post 0 σ) ∧ (¬ (1000000 < a1) → (((134 < a2) → post 0 σ) ∧ (¬ (134 < a2) → post 1 σ))))))) ∧ (¬ (a0 = 0) → ((a0 = 1 → (((a1 = (-1)) → ((¬ (a2 = 0) → post 0 σ) ∧ ((a2 = 0) → post 1 σ))) ∧ (¬ (a1 = (-1)) → (((a1 < 0) → post 0 σ) ∧ (¬ (a1 < 0) → (((7 ≤ a1) → post 0 σ) ∧ (¬ (7 ≤ a1) → ((¬ (a2 = 0) → post 0 σ) ∧ ((a2 = 0) → post 1 σ))))))))) ∧ (¬ (a0 = 1) → ((a0 = 2 → ((¬ (a1 = 0) → post 0 σ) ∧ ((a1 = 0) → ((¬ (a2 = 0) → post 0 σ) ∧ ((a2 = 0) → post 1 σ))))) ∧ (¬ (a0 = 2) → ((a0 = 3 → ((¬ (a1 = 0) → post 0 σ) ∧ ((a1 = 0) → ((¬ (a2 = 0) → post 0 σ) ∧ ((a2 = 0) → post 1 σ))))) ∧ (¬ (a0 = 3) → post 0 σ))))))))
set_option maxHeartbeats 4000000 in
set_option maxRecDepth 100000 in
theorem c_canBeReplied (l : Launch) (D : va_G) (ca : Nat → ClassId) (ad : Nat → Nat → Nat) (σ : Sg) (a0 : Int32) (a1 : Int32) (a2 : Int32) (sz : Nat) (post : Int32 → Sg → Prop) (hw : wp_canBeReplied post σ a0 a1 a2) : Met l yH_canBeReplied wsH_canBeReplied ({ frames := 0, cells := 0, slots := 0, locals := 0 }) (va_Pc [.int a0, .int a1, .int a2] (preX D ca ad σ sz)) (va_Qi post (atX D ca ad (va_A (wX ca ad σ) sz)) (va_A (wX ca ad σ) sz)) 0 0 (va_A (wX ca ad σ) sz) := by
  refine Met.ofW (cc := cH_canBeReplied) (maxL := 3) (ret := (some .boolean)) (by decide) rfl ?_
  intro p e s m args below meth c s₁ B hml hv
  obtain ⟨rfl, hsz, hP, hK, hD0, hE⟩ := hv
  have hx := B.exec
  have hb := B.bytes
  have hr := B.returns
  have hts : ∀ w ∈ tbG, w.before _ s = true := fun w h => atoms_spec (ws := wsH_canBeReplied) B.pre w (List.mem_cons_of_mem _ h)
  have hown : s.vm.findClass RH = some m.cls := findClass_of_methodNamed B.named
  have hlocks := B.notSynchronized
  subst hsz
  have hD := hD0.self (sz := s.heap.size)
  generalize hAe : va_A (wX ca ad σ) s.heap.size = A at hD hE ⊢
  have hA : ∀ q : Nat, s.heap.size ≤ q → A q := fun q h => by rw [← hAe]; exact Or.inr h
  clear hAe
  have hS : va_S A s.heap s.heap [] := va_S.rf
  have hl := lv_entry ([.int a0, .int a1, .int a2]) (n := 3) (Nat.le_of_ble_eq_true rfl)
  rw [lg_entry_eq]
  generalize (lg_sl ([.int a0, .int a1, .int a2]) ++ List.replicate (3 - (lg_sl ([.int a0, .int a1, .int a2])).length) Slot.unset).toArray = ls at hl ⊢
  have hl : lv_has ls 3 [(0, .int a0), (1, .int a1), (2, .int a2)] := hl
  unfold wp_canBeReplied at hw
  have hP : va_P D clX (wX ca ad σ) s.heap := hP
  refine lv_iload_n hx hb dH_canBeReplied_0 rfl (lv_at hl 0 rfl) ?_
  by_cases c1 : a0 = 0
  · have hw := hw.1 c1
    refine lv_tableIn (tgt := 32) hx hb dH_canBeReplied_1 (by rw [c1]; decide) (by rw [c1]; decide) (by rw [c1]; rfl) (by decide) ?_
    refine lv_iload_n hx hb dH_canBeReplied_32 rfl (lv_at hl 1 rfl) ?_
    refine lv_iconst (v := 1) hx hb dH_canBeReplied_33 (by decide) ?_
    refine lv_icmp_lt (tgt := 55) hx hb dH_canBeReplied_34 (by decide) (fun c2 => ?_) (fun c2 => ?_)
    · have hw := hw.1 c2
      refine lv_iconst (v := 0) hx hb dH_canBeReplied_55 (by decide) ?_
      exact W.zret (ty := .boolean) (v := 0) hx hb hr (by decide) (fun t ht hW => ⟨⟨0, σ, rfl, hw, by rw [ht]; exact hP, va_K.moved hW.alike hK, hD⟩, hS.F ht⟩) hS.2.2 dH_canBeReplied_56
    · have hw := hw.2 c2
      refine lv_iload_n hx hb dH_canBeReplied_37 rfl (lv_at hl 1 rfl) ?_
      refine lv_ldcw (own := RH) (index := 264) (v := 1000000) hx hb hown (hts _ tw_493) dH_canBeReplied_38 ?_
      refine lv_icmp_gt (tgt := 55) hx hb dH_canBeReplied_41 (by decide) (fun c3 => ?_) (fun c3 => ?_)
      · have hw := hw.1 c3
        refine lv_iconst (v := 0) hx hb dH_canBeReplied_55 (by decide) ?_
        exact W.zret (ty := .boolean) (v := 0) hx hb hr (by decide) (fun t ht hW => ⟨⟨0, σ, rfl, hw, by rw [ht]; exact hP, va_K.moved hW.alike hK, hD⟩, hS.F ht⟩) hS.2.2 dH_canBeReplied_56
      · have hw := hw.2 c3
        refine lv_iload_n hx hb dH_canBeReplied_44 rfl (lv_at hl 2 rfl) ?_
        refine lv_sipush (v := 134) hx hb dH_canBeReplied_45 (by decide) ?_
        refine lv_icmp_gt (tgt := 55) hx hb dH_canBeReplied_48 (by decide) (fun c4 => ?_) (fun c4 => ?_)
        · have hw := hw.1 c4
          refine lv_iconst (v := 0) hx hb dH_canBeReplied_55 (by decide) ?_
          exact W.zret (ty := .boolean) (v := 0) hx hb hr (by decide) (fun t ht hW => ⟨⟨0, σ, rfl, hw, by rw [ht]; exact hP, va_K.moved hW.alike hK, hD⟩, hS.F ht⟩) hS.2.2 dH_canBeReplied_56
        · have hw := hw.2 c4
          refine lv_iconst (v := 1) hx hb dH_canBeReplied_51 (by decide) ?_
          refine lv_goto (tgt := 56) hx hb dH_canBeReplied_52 (by decide) ?_
          exact W.zret (ty := .boolean) (v := 1) hx hb hr (by decide) (fun t ht hW => ⟨⟨1, σ, rfl, hw, by rw [ht]; exact hP, va_K.moved hW.alike hK, hD⟩, hS.F ht⟩) hS.2.2 dH_canBeReplied_56
  · have hw := hw.2 c1
    by_cases c5 : a0 = 1
    · have hw := hw.1 c5
      refine lv_tableIn (tgt := 57) hx hb dH_canBeReplied_1 (by rw [c5]; decide) (by rw [c5]; decide) (by rw [c5]; rfl) (by decide) ?_
      refine lv_iload_n hx hb dH_canBeReplied_57 rfl (lv_at hl 1 rfl) ?_
      refine lv_iconst (v := (-1)) hx hb dH_canBeReplied_58 (by decide) ?_
      refine lv_icmp_eq (tgt := 72) hx hb dH_canBeReplied_59 (by decide) (fun c6 => ?_) (fun c6 => ?_)
      · have hw := hw.1 c6
        refine lv_iload_n hx hb dH_canBeReplied_72 rfl (lv_at hl 2 rfl) ?_
        refine lv_if_ne (tgt := 80) hx hb dH_canBeReplied_73 (by decide) (fun c7 => ?_) (fun c7 => ?_)
        · have hw := hw.1 c7
          refine lv_iconst (v := 0) hx hb dH_canBeReplied_80 (by decide) ?_
          exact W.zret (ty := .boolean) (v := 0) hx hb hr (by decide) (fun t ht hW => ⟨⟨0, σ, rfl, hw, by rw [ht]; exact hP, va_K.moved hW.alike hK, hD⟩, hS.F ht⟩) hS.2.2 dH_canBeReplied_81
        · have hw := hw.2 c7
          refine lv_iconst (v := 1) hx hb dH_canBeReplied_76 (by decide) ?_
          refine lv_goto (tgt := 81) hx hb dH_canBeReplied_77 (by decide) ?_
          exact W.zret (ty := .boolean) (v := 1) hx hb hr (by decide) (fun t ht hW => ⟨⟨1, σ, rfl, hw, by rw [ht]; exact hP, va_K.moved hW.alike hK, hD⟩, hS.F ht⟩) hS.2.2 dH_canBeReplied_81
      · have hw := hw.2 c6
        refine lv_iload_n hx hb dH_canBeReplied_62 rfl (lv_at hl 1 rfl) ?_
        refine lv_if_lt (tgt := 80) hx hb dH_canBeReplied_63 (by decide) (fun c8 => ?_) (fun c8 => ?_)
        · have hw := hw.1 c8
          refine lv_iconst (v := 0) hx hb dH_canBeReplied_80 (by decide) ?_
          exact W.zret (ty := .boolean) (v := 0) hx hb hr (by decide) (fun t ht hW => ⟨⟨0, σ, rfl, hw, by rw [ht]; exact hP, va_K.moved hW.alike hK, hD⟩, hS.F ht⟩) hS.2.2 dH_canBeReplied_81
        · have hw := hw.2 c8
          refine lv_iload_n hx hb dH_canBeReplied_66 rfl (lv_at hl 1 rfl) ?_
          refine lv_bipush (v := 7) hx hb dH_canBeReplied_67 (by decide) ?_
          refine lv_icmp_ge (tgt := 80) hx hb dH_canBeReplied_69 (by decide) (fun c9 => ?_) (fun c9 => ?_)
          · have hw := hw.1 c9
            refine lv_iconst (v := 0) hx hb dH_canBeReplied_80 (by decide) ?_
            exact W.zret (ty := .boolean) (v := 0) hx hb hr (by decide) (fun t ht hW => ⟨⟨0, σ, rfl, hw, by rw [ht]; exact hP, va_K.moved hW.alike hK, hD⟩, hS.F ht⟩) hS.2.2 dH_canBeReplied_81
          · have hw := hw.2 c9
            refine lv_iload_n hx hb dH_canBeReplied_72 rfl (lv_at hl 2 rfl) ?_
            refine lv_if_ne (tgt := 80) hx hb dH_canBeReplied_73 (by decide) (fun c10 => ?_) (fun c10 => ?_)
            · have hw := hw.1 c10
              refine lv_iconst (v := 0) hx hb dH_canBeReplied_80 (by decide) ?_
              exact W.zret (ty := .boolean) (v := 0) hx hb hr (by decide) (fun t ht hW => ⟨⟨0, σ, rfl, hw, by rw [ht]; exact hP, va_K.moved hW.alike hK, hD⟩, hS.F ht⟩) hS.2.2 dH_canBeReplied_81
            · have hw := hw.2 c10
              refine lv_iconst (v := 1) hx hb dH_canBeReplied_76 (by decide) ?_
              refine lv_goto (tgt := 81) hx hb dH_canBeReplied_77 (by decide) ?_
              exact W.zret (ty := .boolean) (v := 1) hx hb hr (by decide) (fun t ht hW => ⟨⟨1, σ, rfl, hw, by rw [ht]; exact hP, va_K.moved hW.alike hK, hD⟩, hS.F ht⟩) hS.2.2 dH_canBeReplied_81
    · have hw := hw.2 c5
      by_cases c11 : a0 = 2
      · have hw := hw.1 c11
        refine lv_tableIn (tgt := 82) hx hb dH_canBeReplied_1 (by rw [c11]; decide) (by rw [c11]; decide) (by rw [c11]; rfl) (by decide) ?_
        refine lv_iload_n hx hb dH_canBeReplied_82 rfl (lv_at hl 1 rfl) ?_
        refine lv_if_ne (tgt := 94) hx hb dH_canBeReplied_83 (by decide) (fun c12 => ?_) (fun c12 => ?_)
        · have hw := hw.1 c12
          refine lv_iconst (v := 0) hx hb dH_canBeReplied_94 (by decide) ?_
          exact W.zret (ty := .boolean) (v := 0) hx hb hr (by decide) (fun t ht hW => ⟨⟨0, σ, rfl, hw, by rw [ht]; exact hP, va_K.moved hW.alike hK, hD⟩, hS.F ht⟩) hS.2.2 dH_canBeReplied_95
        · have hw := hw.2 c12
          refine lv_iload_n hx hb dH_canBeReplied_86 rfl (lv_at hl 2 rfl) ?_
          refine lv_if_ne (tgt := 94) hx hb dH_canBeReplied_87 (by decide) (fun c13 => ?_) (fun c13 => ?_)
          · have hw := hw.1 c13
            refine lv_iconst (v := 0) hx hb dH_canBeReplied_94 (by decide) ?_
            exact W.zret (ty := .boolean) (v := 0) hx hb hr (by decide) (fun t ht hW => ⟨⟨0, σ, rfl, hw, by rw [ht]; exact hP, va_K.moved hW.alike hK, hD⟩, hS.F ht⟩) hS.2.2 dH_canBeReplied_95
          · have hw := hw.2 c13
            refine lv_iconst (v := 1) hx hb dH_canBeReplied_90 (by decide) ?_
            refine lv_goto (tgt := 95) hx hb dH_canBeReplied_91 (by decide) ?_
            exact W.zret (ty := .boolean) (v := 1) hx hb hr (by decide) (fun t ht hW => ⟨⟨1, σ, rfl, hw, by rw [ht]; exact hP, va_K.moved hW.alike hK, hD⟩, hS.F ht⟩) hS.2.2 dH_canBeReplied_95
      · have hw := hw.2 c11
        by_cases c14 : a0 = 3
        · have hw := hw.1 c14
          refine lv_tableIn (tgt := 82) hx hb dH_canBeReplied_1 (by rw [c14]; decide) (by rw [c14]; decide) (by rw [c14]; rfl) (by decide) ?_
          refine lv_iload_n hx hb dH_canBeReplied_82 rfl (lv_at hl 1 rfl) ?_
          refine lv_if_ne (tgt := 94) hx hb dH_canBeReplied_83 (by decide) (fun c15 => ?_) (fun c15 => ?_)
          · have hw := hw.1 c15
            refine lv_iconst (v := 0) hx hb dH_canBeReplied_94 (by decide) ?_
            exact W.zret (ty := .boolean) (v := 0) hx hb hr (by decide) (fun t ht hW => ⟨⟨0, σ, rfl, hw, by rw [ht]; exact hP, va_K.moved hW.alike hK, hD⟩, hS.F ht⟩) hS.2.2 dH_canBeReplied_95
          · have hw := hw.2 c15
            refine lv_iload_n hx hb dH_canBeReplied_86 rfl (lv_at hl 2 rfl) ?_
            refine lv_if_ne (tgt := 94) hx hb dH_canBeReplied_87 (by decide) (fun c16 => ?_) (fun c16 => ?_)
            · have hw := hw.1 c16
              refine lv_iconst (v := 0) hx hb dH_canBeReplied_94 (by decide) ?_
              exact W.zret (ty := .boolean) (v := 0) hx hb hr (by decide) (fun t ht hW => ⟨⟨0, σ, rfl, hw, by rw [ht]; exact hP, va_K.moved hW.alike hK, hD⟩, hS.F ht⟩) hS.2.2 dH_canBeReplied_95
            · have hw := hw.2 c16
              refine lv_iconst (v := 1) hx hb dH_canBeReplied_90 (by decide) ?_
              refine lv_goto (tgt := 95) hx hb dH_canBeReplied_91 (by decide) ?_
              exact W.zret (ty := .boolean) (v := 1) hx hb hr (by decide) (fun t ht hW => ⟨⟨1, σ, rfl, hw, by rw [ht]; exact hP, va_K.moved hW.alike hK, hD⟩, hS.F ht⟩) hS.2.2 dH_canBeReplied_95
        · have hw := hw.2 c14
          refine lv_tableOut (tgt := 96) hx hb dH_canBeReplied_1 (by first | exact px_out4 c1 c5 c11 c14) (by decide) ?_
          refine lv_iconst (v := 0) hx hb dH_canBeReplied_96 (by decide) ?_
          exact W.zret (ty := .boolean) (v := 0) hx hb hr (by decide) (fun t ht hW => ⟨⟨0, σ, rfl, hw, by rw [ht]; exact hP, va_K.moved hW.alike hK, hD⟩, hS.F ht⟩) hS.2.2 dH_canBeReplied_97
theorem dP_ringsBefore_0 : decode cP_ringsBefore 0 = .ok (.aload_n 0, 1) := by decide +kernel
theorem dP_ringsBefore_1 : decode cP_ringsBefore 1 = .ok (.getfield 51, 3) := by decide +kernel
theorem dP_ringsBefore_4 : decode cP_ringsBefore 4 = .ok (.aload_n 1, 1) := by decide +kernel
theorem dP_ringsBefore_5 : decode cP_ringsBefore 5 = .ok (.getfield 51, 3) := by decide +kernel
theorem dP_ringsBefore_8 : decode cP_ringsBefore 8 = .ok (.if_icmp .lt 25, 3) := by decide +kernel
theorem dP_ringsBefore_11 : decode cP_ringsBefore 11 = .ok (.aload_n 0, 1) := by decide +kernel
theorem dP_ringsBefore_12 : decode cP_ringsBefore 12 = .ok (.getfield 51, 3) := by decide +kernel
theorem dP_ringsBefore_15 : decode cP_ringsBefore 15 = .ok (.aload_n 1, 1) := by decide +kernel
theorem dP_ringsBefore_16 : decode cP_ringsBefore 16 = .ok (.getfield 51, 3) := by decide +kernel
theorem dP_ringsBefore_19 : decode cP_ringsBefore 19 = .ok (.if_icmp .ne 18, 3) := by decide +kernel
theorem dP_ringsBefore_22 : decode cP_ringsBefore 22 = .ok (.aload_n 0, 1) := by decide +kernel
theorem dP_ringsBefore_23 : decode cP_ringsBefore 23 = .ok (.getfield 54, 3) := by decide +kernel
theorem dP_ringsBefore_26 : decode cP_ringsBefore 26 = .ok (.aload_n 1, 1) := by decide +kernel
theorem dP_ringsBefore_27 : decode cP_ringsBefore 27 = .ok (.getfield 54, 3) := by decide +kernel
theorem dP_ringsBefore_30 : decode cP_ringsBefore 30 = .ok (.if_icmp .ge 7, 3) := by decide +kernel
theorem dP_ringsBefore_33 : decode cP_ringsBefore 33 = .ok (.iconst 1, 1) := by decide +kernel
theorem dP_ringsBefore_34 : decode cP_ringsBefore 34 = .ok (.goto 4, 3) := by decide +kernel
theorem dP_ringsBefore_37 : decode cP_ringsBefore 37 = .ok (.iconst 0, 1) := by decide +kernel
theorem dP_ringsBefore_38 : decode cP_ringsBefore 38 = .ok (.ireturn, 1) := by decide +kernel
def wp_ringsBefore (post : Int32 → Sg → Prop) (σ : Sg) (i : Nat) (k0 : Nat) : Prop := ((((sF σ 13 i) < (sF σ 13 k0)) → post 1 σ) ∧ (¬ ((sF σ 13 i) < (sF σ 13 k0)) → ((¬ ((sF σ 13 i) = (sF σ 13 k0)) → post 0 σ) ∧ (((sF σ 13 i) = (sF σ 13 k0)) → ((((sF σ 14 k0) ≤ (sF σ 14 i)) → post 0 σ) ∧ (¬ ((sF σ 14 k0) ≤ (sF σ 14 i)) → post 1 σ))))))
set_option maxHeartbeats 4000000 in
set_option maxRecDepth 100000 in
theorem c_ringsBefore (l : Launch) (D : va_G) (ca : Nat → ClassId) (ad : Nat → Nat → Nat) (σ : Sg) (i : Nat) (hi : i < 8) (k0 : Nat) (hk0 : k0 < 8) (sz : Nat) (post : Int32 → Sg → Prop) (hw : wp_ringsBefore post σ i k0) : Met l yP_ringsBefore wsP_ringsBefore ({ frames := 0, cells := 0, slots := 0, locals := 0 }) (va_Pc [.ref (ad 6 i), .ref (ad 6 k0)] (preX D ca ad σ sz)) (va_Qi post (atX D ca ad (va_A (wX ca ad σ) sz)) (va_A (wX ca ad σ) sz)) 0 0 (va_A (wX ca ad σ) sz) := by
  refine Met.ofW (cc := cP_ringsBefore) (maxL := 2) (ret := (some .boolean)) (by decide) rfl ?_
  intro p e s m args below meth c s₁ B hml hv
  obtain ⟨rfl, hsz, hP, hK, hD0, hE⟩ := hv
  have hx := B.exec
  have hb := B.bytes
  have hr := B.returns
  have hts : ∀ w ∈ tbG, w.before _ s = true := fun w h => atoms_spec (ws := wsP_ringsBefore) B.pre w (List.mem_cons_of_mem _ h)
  have hown : s.vm.findClass RP = some m.cls := findClass_of_methodNamed B.named
  have hlocks := B.notSynchronized
  subst hsz
  have hD := hD0.self (sz := s.heap.size)
  generalize hAe : va_A (wX ca ad σ) s.heap.size = A at hD hE ⊢
  have hA : ∀ q : Nat, s.heap.size ≤ q → A q := fun q h => by rw [← hAe]; exact Or.inr h
  clear hAe
  have hS : va_S A s.heap s.heap [] := va_S.rf
  have hl := lv_entry ([.ref (ad 6 i), .ref (ad 6 k0)]) (n := 2) (Nat.le_of_ble_eq_true rfl)
  rw [lg_entry_eq]
  generalize (lg_sl ([.ref (ad 6 i), .ref (ad 6 k0)]) ++ List.replicate (2 - (lg_sl ([.ref (ad 6 i), .ref (ad 6 k0)])).length) Slot.unset).toArray = ls at hl ⊢
  have hl : lv_has ls 2 [(0, .ref (ad 6 i)), (1, .ref (ad 6 k0))] := hl
  unfold wp_ringsBefore at hw
  have hP : va_P D clX (wX ca ad σ) s.heap := hP
  refine lv_aload_n hx hb dP_ringsBefore_0 rfl (lv_at hl 0 rfl) ?_
  refine va_get (D := D) (ci := 1) (v := .int (sF σ 13 i)) (C := RP) (T := TP) (N := 16) hx hb hts inP hown hK hP (6 + i) (gX_6 hi) rfl 13 (by decide) (hts _ tw_110) (fun _ h9 => h9) rfl dP_ringsBefore_1 ?_
  refine lv_aload_n hx hb dP_ringsBefore_4 rfl (lv_at hl 1 rfl) ?_
  refine va_get (D := D) (ci := 1) (v := .int (sF σ 13 k0)) (C := RP) (T := TP) (N := 16) hx hb hts inP hown hK hP (6 + k0) (gX_6 hk0) rfl 13 (by decide) (hts _ tw_110) (fun _ h9 => h9) rfl dP_ringsBefore_5 ?_
  refine lv_icmp_lt (tgt := 33) hx hb dP_ringsBefore_8 (by decide) (fun c1 => ?_) (fun c1 => ?_)
  · have hw := hw.1 c1
    refine lv_iconst (v := 1) hx hb dP_ringsBefore_33 (by decide) ?_
    refine lv_goto (tgt := 38) hx hb dP_ringsBefore_34 (by decide) ?_
    exact W.zret (ty := .boolean) (v := 1) hx hb hr (by decide) (fun t ht hW => ⟨⟨1, σ, rfl, hw, by rw [ht]; exact hP, va_K.moved hW.alike hK, hD⟩, hS.F ht⟩) hS.2.2 dP_ringsBefore_38
  · have hw := hw.2 c1
    refine lv_aload_n hx hb dP_ringsBefore_11 rfl (lv_at hl 0 rfl) ?_
    refine va_get (D := D) (ci := 1) (v := .int (sF σ 13 i)) (C := RP) (T := TP) (N := 16) hx hb hts inP hown hK hP (6 + i) (gX_6 hi) rfl 13 (by decide) (hts _ tw_110) (fun _ h9 => h9) rfl dP_ringsBefore_12 ?_
    refine lv_aload_n hx hb dP_ringsBefore_15 rfl (lv_at hl 1 rfl) ?_
    refine va_get (D := D) (ci := 1) (v := .int (sF σ 13 k0)) (C := RP) (T := TP) (N := 16) hx hb hts inP hown hK hP (6 + k0) (gX_6 hk0) rfl 13 (by decide) (hts _ tw_110) (fun _ h9 => h9) rfl dP_ringsBefore_16 ?_
    refine lv_icmp_ne (tgt := 37) hx hb dP_ringsBefore_19 (by decide) (fun c2 => ?_) (fun c2 => ?_)
    · have hw := hw.1 c2
      refine lv_iconst (v := 0) hx hb dP_ringsBefore_37 (by decide) ?_
      exact W.zret (ty := .boolean) (v := 0) hx hb hr (by decide) (fun t ht hW => ⟨⟨0, σ, rfl, hw, by rw [ht]; exact hP, va_K.moved hW.alike hK, hD⟩, hS.F ht⟩) hS.2.2 dP_ringsBefore_38
    · have hw := hw.2 c2
      refine lv_aload_n hx hb dP_ringsBefore_22 rfl (lv_at hl 0 rfl) ?_
      refine va_get (D := D) (ci := 1) (v := .int (sF σ 14 i)) (C := RP) (T := TP) (N := 16) hx hb hts inP hown hK hP (6 + i) (gX_6 hi) rfl 14 (by decide) (hts _ tw_112) (fun _ h9 => h9) rfl dP_ringsBefore_23 ?_
      refine lv_aload_n hx hb dP_ringsBefore_26 rfl (lv_at hl 1 rfl) ?_
      refine va_get (D := D) (ci := 1) (v := .int (sF σ 14 k0)) (C := RP) (T := TP) (N := 16) hx hb hts inP hown hK hP (6 + k0) (gX_6 hk0) rfl 14 (by decide) (hts _ tw_112) (fun _ h9 => h9) rfl dP_ringsBefore_27 ?_
      refine lv_icmp_ge (tgt := 37) hx hb dP_ringsBefore_30 (by decide) (fun c3 => ?_) (fun c3 => ?_)
      · have hw := hw.1 c3
        refine lv_iconst (v := 0) hx hb dP_ringsBefore_37 (by decide) ?_
        exact W.zret (ty := .boolean) (v := 0) hx hb hr (by decide) (fun t ht hW => ⟨⟨0, σ, rfl, hw, by rw [ht]; exact hP, va_K.moved hW.alike hK, hD⟩, hS.F ht⟩) hS.2.2 dP_ringsBefore_38
      · have hw := hw.2 c3
        refine lv_iconst (v := 1) hx hb dP_ringsBefore_33 (by decide) ?_
        refine lv_goto (tgt := 38) hx hb dP_ringsBefore_34 (by decide) ?_
        exact W.zret (ty := .boolean) (v := 1) hx hb hr (by decide) (fun t ht hW => ⟨⟨1, σ, rfl, hw, by rw [ht]; exact hP, va_K.moved hW.alike hK, hD⟩, hS.F ht⟩) hS.2.2 dP_ringsBefore_38
theorem dP_copyInto_0 : decode cP_copyInto 0 = .ok (.iload_n 2, 1) := by decide +kernel
theorem dP_copyInto_1 : decode cP_copyInto 1 = .ok (.aload_n 0, 1) := by decide +kernel
theorem dP_copyInto_2 : decode cP_copyInto 2 = .ok (.arraylength, 1) := by decide +kernel
theorem dP_copyInto_3 : decode cP_copyInto 3 = .ok (.aload_n 1, 1) := by decide +kernel
theorem dP_copyInto_4 : decode cP_copyInto 4 = .ok (.arraylength, 1) := by decide +kernel
theorem dP_copyInto_5 : decode cP_copyInto 5 = .ok (.invokestatic 70, 3) := by decide +kernel
theorem dP_copyInto_8 : decode cP_copyInto 8 = .ok (.invokestatic 70, 3) := by decide +kernel
theorem dP_copyInto_11 : decode cP_copyInto 11 = .ok (.istore_n 3, 1) := by decide +kernel
theorem dP_copyInto_12 : decode cP_copyInto 12 = .ok (.iconst 0, 1) := by decide +kernel
theorem dP_copyInto_13 : decode cP_copyInto 13 = .ok (.istore 4, 2) := by decide +kernel
theorem dP_copyInto_15 : decode cP_copyInto 15 = .ok (.iload 4, 2) := by decide +kernel
theorem dP_copyInto_17 : decode cP_copyInto 17 = .ok (.iload_n 3, 1) := by decide +kernel
theorem dP_copyInto_18 : decode cP_copyInto 18 = .ok (.if_icmp .ge 17, 3) := by decide +kernel
theorem dP_copyInto_21 : decode cP_copyInto 21 = .ok (.aload_n 0, 1) := by decide +kernel
theorem dP_copyInto_22 : decode cP_copyInto 22 = .ok (.iload 4, 2) := by decide +kernel
theorem dP_copyInto_24 : decode cP_copyInto 24 = .ok (.aload_n 1, 1) := by decide +kernel
theorem dP_copyInto_25 : decode cP_copyInto 25 = .ok (.iload 4, 2) := by decide +kernel
theorem dP_copyInto_27 : decode cP_copyInto 27 = .ok (.baload, 1) := by decide +kernel
theorem dP_copyInto_28 : decode cP_copyInto 28 = .ok (.bastore, 1) := by decide +kernel
theorem dP_copyInto_29 : decode cP_copyInto 29 = .ok (.iinc 4 1, 3) := by decide +kernel
theorem dP_copyInto_32 : decode cP_copyInto 32 = .ok (.goto (-17), 3) := by decide +kernel
theorem dP_copyInto_35 : decode cP_copyInto 35 = .ok (.iload_n 3, 1) := by decide +kernel
theorem dP_copyInto_36 : decode cP_copyInto 36 = .ok (.ireturn, 1) := by decide +kernel
def wpl_copyD_L15 : Nat → (Int32 → Sg → Prop) → Sg → Nat → Int32 → Int32 → Int32 → Prop
  | 0, _, _, _, _, _, _ => False
  | n + 1, post, σ, k0, x2, x3, x4 => (((x3 ≤ x4) → post x3 σ) ∧ (¬ (x3 ≤ x4) → (vp_in x4 240 ∧ (vp_in x4 232 ∧ wpl_copyD_L15 n post (uB 0 k0 (upd (sB σ 0 k0) (x4).toNatClampNeg (vp_nar .byte ((sA σ 0) (x4).toNatClampNeg))) σ) k0 x2 x3 (x4 + 1)))))
set_option maxHeartbeats 4000000 in
set_option maxRecDepth 100000 in
theorem l_copyD_L15 {p : Program} {l : Launch} {e : Env} {s : State} {m : MethodId} {args : Array Value} {below : List Frame} {meth : Method} {c : Code} {D : va_G} {ca : Nat → ClassId} {ad : Nat → Nat → Nat} {A : Nat → Prop} (k0 : Nat) (hk0 : k0 < 8) {post : Int32 → Sg → Prop} (hx : p.tables.exec = Jvm.exec) (hb : c.code = cP_copyInto) (hr : meth.sig.returnType = (some .int)) (hml : c.maxLocals = 5) (hts : ∀ w ∈ tbG, w.before args s = true) (hown : s.vm.findClass RP = some m.cls) (hlocks : meth.locks = false) (hA : ∀ q : Nat, s.heap.size ≤ q → A q) (hK : va_K D clX (tyA ca) s) (hE : eX A s) : ∀ (n : Nat) (σ : Sg) (x2 : Int32) (x3 : Int32) (x4 : Int32), wpl_copyD_L15 n post σ k0 x2 x3 x4 → ∀ (H : Heap) (locs : List Loc), va_P D clX (wX ca ad σ) H → va_D A (wX ca ad σ) → va_S A s.heap H locs → ∀ ls : Array Slot, lv_has ls 5 [(0, .ref (ad 7 k0)), (1, .ref (ad 4 0)), (2, .int x2), (3, .int x3), (4, .int x4)] → W p l e (headSpec wsP_copyInto ({ frames := 1, cells := 0, slots := 0, locals := 21 })).room s m args below meth c H locs 0 0 (MQ below (va_Qi post (atX D ca ad A) A) args s 0 0 A) (F0 m 15 ls []) := by
  intro n
  induction n with
  | zero => intro σ x2 x3 x4 hw; exact hw.elim
  | succ n ih =>
    intro σ x2 x3 x4 hw H locs hP hD hS ls hl
    refine lv_iload hx hb dP_copyInto_15 (lv_at hl 4 rfl) ?_
    refine lv_iload_n hx hb dP_copyInto_17 rfl (lv_at hl 3 rfl) ?_
    refine lv_icmp_ge (tgt := 35) hx hb dP_copyInto_18 (by decide) (fun c1 => ?_) (fun c1 => ?_)
    · have hw := hw.1 c1
      refine lv_iload_n hx hb dP_copyInto_35 rfl (lv_at hl 3 rfl) ?_
      exact W.iret (v := x3) hx hb hr (fun t ht hW => ⟨⟨x3, σ, rfl, hw, by rw [ht]; exact hP, va_K.moved hW.alike hK, hD⟩, hS.F ht⟩) hS.2.2 dP_copyInto_36
    · have hw := hw.2 c1
      refine lv_aload_n hx hb dP_copyInto_21 rfl (lv_at hl 0 rfl) ?_
      refine lv_iload hx hb dP_copyInto_22 (lv_at hl 4 rfl) ?_
      refine lv_aload_n hx hb dP_copyInto_24 rfl (lv_at hl 1 rfl) ?_
      refine lv_iload hx hb dP_copyInto_25 (lv_at hl 4 rfl) ?_
      obtain ⟨hin2, hw⟩ := hw
      refine va_bald hx hb hK hP 4 1 gX_4 rfl hin2 dP_copyInto_27 ?_
      obtain ⟨hin3, hw⟩ := hw
      refine va_bast hx hb hK hP hD hS (6 + (8 + k0)) 1 (gX_7 hk0) rfl hin3 dP_copyInto_28 (fun H locs hP hD hS => ?_)
      rw [sX_7 hk0] at hP hD
      refine lv_iinc (v := x4 + 1) (lv' := [(4, .int (x4 + 1)), (0, .ref (ad 7 k0)), (1, .ref (ad 4 0)), (2, .int x2), (3, .int x3)]) hx hb dP_copyInto_29 hl (k := 4) rfl rfl (by decide) rfl (fun ls hl => ?_)
      refine lv_goto (tgt := 15) hx hb dP_copyInto_32 (by decide) ?_
      exact ih (uB 0 k0 (upd (sB σ 0 k0) (x4).toNatClampNeg (vp_nar .byte ((sA σ 0) (x4).toNatClampNeg))) σ) x2 x3 (x4 + 1) hw _ _ hP hD hS ls (lv_sub hl [1, 2, 3, 4, 0] rfl)
def wp_copyD (post : Int32 → Sg → Prop) (σ : Sg) (k0 : Nat) (a2 : Int32) : Prop := (∃ n : Nat, wpl_copyD_L15 n post σ k0 a2 (if (if 240 < 232 then 240 else 232) < a2 then (if 240 < 232 then 240 else 232) else a2) 0)
set_option maxHeartbeats 4000000 in
set_option maxRecDepth 100000 in
theorem c_copyD (l : Launch) (D : va_G) (ca : Nat → ClassId) (ad : Nat → Nat → Nat) (σ : Sg) (k0 : Nat) (hk0 : k0 < 8) (a2 : Int32) (sz : Nat) (post : Int32 → Sg → Prop) (hw : wp_copyD post σ k0 a2) : Met l yP_copyInto wsP_copyInto ({ frames := 1, cells := 0, slots := 0, locals := 21 }) (va_Pc [.ref (ad 7 k0), .ref (ad 4 0), .int a2] (preX D ca ad σ sz)) (va_Qi post (atX D ca ad (va_A (wX ca ad σ) sz)) (va_A (wX ca ad σ) sz)) 0 0 (va_A (wX ca ad σ) sz) := by
  refine Met.ofW (cc := cP_copyInto) (maxL := 5) (ret := (some .int)) (by decide) rfl ?_
  intro p e s m args below meth c s₁ B hml hv
  obtain ⟨rfl, hsz, hP, hK, hD0, hE⟩ := hv
  have hx := B.exec
  have hb := B.bytes
  have hr := B.returns
  have hts : ∀ w ∈ tbG, w.before _ s = true := fun w h => atoms_spec (ws := wsP_copyInto) B.pre w (List.mem_cons_of_mem _ h)
  have hown : s.vm.findClass RP = some m.cls := findClass_of_methodNamed B.named
  have hlocks := B.notSynchronized
  subst hsz
  have hD := hD0.self (sz := s.heap.size)
  generalize hAe : va_A (wX ca ad σ) s.heap.size = A at hD hE ⊢
  have hA : ∀ q : Nat, s.heap.size ≤ q → A q := fun q h => by rw [← hAe]; exact Or.inr h
  clear hAe
  have hS : va_S A s.heap s.heap [] := va_S.rf
  have hl := lv_entry ([.ref (ad 7 k0), .ref (ad 4 0), .int a2]) (n := 5) (Nat.le_of_ble_eq_true rfl)
  rw [lg_entry_eq]
  generalize (lg_sl ([.ref (ad 7 k0), .ref (ad 4 0), .int a2]) ++ List.replicate (5 - (lg_sl ([.ref (ad 7 k0), .ref (ad 4 0), .int a2])).length) Slot.unset).toArray = ls at hl ⊢
  have hl : lv_has ls 5 [(0, .ref (ad 7 k0)), (1, .ref (ad 4 0)), (2, .int a2)] := hl
  unfold wp_copyD at hw
  have hP : va_P D clX (wX ca ad σ) s.heap := hP
  refine lv_iload_n hx hb dP_copyInto_0 rfl (lv_at hl 2 rfl) ?_
  refine lv_aload_n hx hb dP_copyInto_1 rfl (lv_at hl 0 rfl) ?_
  refine va_alen (v := 232) hx hb hK hP (6 + (8 + k0)) 1 (gX_7 hk0) rfl (show Int32.ofNat 232 = (232 : Int32) from by decide) dP_copyInto_2 ?_
  refine lv_aload_n hx hb dP_copyInto_3 rfl (lv_at hl 1 rfl) ?_
  refine va_alen (v := 240) hx hb hK hP 4 1 gX_4 rfl (show Int32.ofNat 240 = (240 : Int32) from by decide) dP_copyInto_4 ?_
  refine va_mmin hx hb (hml.trans hl.1.symm) hown (hts _ tw_439) (hts _ tw_425) (hts _ tw_16) (hts _ tw_426) (by decide) (Nat.le_of_ble_eq_true rfl) (by decide) (by decide) dP_copyInto_5 ?_
  refine va_mmin hx hb (hml.trans hl.1.symm) hown (hts _ tw_439) (hts _ tw_425) (hts _ tw_16) (hts _ tw_426) (by decide) (Nat.le_of_ble_eq_true rfl) (by decide) (by decide) dP_copyInto_8 ?_
  refine lv_istore_n (lv' := [(3, .int (if (if 240 < 232 then 240 else 232) < a2 then (if 240 < 232 then 240 else 232) else a2)), (0, .ref (ad 7 k0)), (1, .ref (ad 4 0)), (2, .int a2)]) hx hb dP_copyInto_11 rfl hl (by decide) rfl (fun ls hl => ?_)
  refine lv_iconst (v := 0) hx hb dP_copyInto_12 (by decide) ?_
  refine lv_istore (lv' := [(4, .int 0), (3, .int (if (if 240 < 232 then 240 else 232) < a2 then (if 240 < 232 then 240 else 232) else a2)), (0, .ref (ad 7 k0)), (1, .ref (ad 4 0)), (2, .int a2)]) hx hb dP_copyInto_13 hl (by decide) rfl (fun ls hl => ?_)
  obtain ⟨n, hw⟩ := hw
  exact l_copyD_L15 (D := D) (ca := ca) (ad := ad) k0 hk0 hx hb hr hml hts hown hlocks hA hK hE n σ a2 (if (if 240 < 232 then 240 else 232) < a2 then (if 240 < 232 then 240 else 232) else a2) 0 hw _ _ hP hD hS ls (lv_sub hl [2, 3, 4, 1, 0] rfl)
def wpl_copyA_L15 : Nat → (Int32 → Sg → Prop) → Sg → Nat → Int32 → Int32 → Int32 → Prop
  | 0, _, _, _, _, _, _ => False
  | n + 1, post, σ, k0, x2, x3, x4 => (((x3 ≤ x4) → post x3 σ) ∧ (¬ (x3 ≤ x4) → (vp_in x4 240 ∧ (vp_in x4 134 ∧ wpl_copyA_L15 n post (uB 1 k0 (upd (sB σ 1 k0) (x4).toNatClampNeg (vp_nar .byte ((sA σ 0) (x4).toNatClampNeg))) σ) k0 x2 x3 (x4 + 1)))))
set_option maxHeartbeats 4000000 in
set_option maxRecDepth 100000 in
theorem l_copyA_L15 {p : Program} {l : Launch} {e : Env} {s : State} {m : MethodId} {args : Array Value} {below : List Frame} {meth : Method} {c : Code} {D : va_G} {ca : Nat → ClassId} {ad : Nat → Nat → Nat} {A : Nat → Prop} (k0 : Nat) (hk0 : k0 < 8) {post : Int32 → Sg → Prop} (hx : p.tables.exec = Jvm.exec) (hb : c.code = cP_copyInto) (hr : meth.sig.returnType = (some .int)) (hml : c.maxLocals = 5) (hts : ∀ w ∈ tbG, w.before args s = true) (hown : s.vm.findClass RP = some m.cls) (hlocks : meth.locks = false) (hA : ∀ q : Nat, s.heap.size ≤ q → A q) (hK : va_K D clX (tyA ca) s) (hE : eX A s) : ∀ (n : Nat) (σ : Sg) (x2 : Int32) (x3 : Int32) (x4 : Int32), wpl_copyA_L15 n post σ k0 x2 x3 x4 → ∀ (H : Heap) (locs : List Loc), va_P D clX (wX ca ad σ) H → va_D A (wX ca ad σ) → va_S A s.heap H locs → ∀ ls : Array Slot, lv_has ls 5 [(0, .ref (ad 8 k0)), (1, .ref (ad 4 0)), (2, .int x2), (3, .int x3), (4, .int x4)] → W p l e (headSpec wsP_copyInto ({ frames := 1, cells := 0, slots := 0, locals := 21 })).room s m args below meth c H locs 0 0 (MQ below (va_Qi post (atX D ca ad A) A) args s 0 0 A) (F0 m 15 ls []) := by
  intro n
  induction n with
  | zero => intro σ x2 x3 x4 hw; exact hw.elim
  | succ n ih =>
    intro σ x2 x3 x4 hw H locs hP hD hS ls hl
    refine lv_iload hx hb dP_copyInto_15 (lv_at hl 4 rfl) ?_
    refine lv_iload_n hx hb dP_copyInto_17 rfl (lv_at hl 3 rfl) ?_
    refine lv_icmp_ge (tgt := 35) hx hb dP_copyInto_18 (by decide) (fun c1 => ?_) (fun c1 => ?_)
    · have hw := hw.1 c1
      refine lv_iload_n hx hb dP_copyInto_35 rfl (lv_at hl 3 rfl) ?_
      exact W.iret (v := x3) hx hb hr (fun t ht hW => ⟨⟨x3, σ, rfl, hw, by rw [ht]; exact hP, va_K.moved hW.alike hK, hD⟩, hS.F ht⟩) hS.2.2 dP_copyInto_36
    · have hw := hw.2 c1
      refine lv_aload_n hx hb dP_copyInto_21 rfl (lv_at hl 0 rfl) ?_
      refine lv_iload hx hb dP_copyInto_22 (lv_at hl 4 rfl) ?_
      refine lv_aload_n hx hb dP_copyInto_24 rfl (lv_at hl 1 rfl) ?_
      refine lv_iload hx hb dP_copyInto_25 (lv_at hl 4 rfl) ?_
      obtain ⟨hin2, hw⟩ := hw
      refine va_bald hx hb hK hP 4 1 gX_4 rfl hin2 dP_copyInto_27 ?_
      obtain ⟨hin3, hw⟩ := hw
      refine va_bast hx hb hK hP hD hS (6 + (8 + (8 + k0))) 1 (gX_8 hk0) rfl hin3 dP_copyInto_28 (fun H locs hP hD hS => ?_)
      rw [sX_8 hk0] at hP hD
      refine lv_iinc (v := x4 + 1) (lv' := [(4, .int (x4 + 1)), (0, .ref (ad 8 k0)), (1, .ref (ad 4 0)), (2, .int x2), (3, .int x3)]) hx hb dP_copyInto_29 hl (k := 4) rfl rfl (by decide) rfl (fun ls hl => ?_)
      refine lv_goto (tgt := 15) hx hb dP_copyInto_32 (by decide) ?_
      exact ih (uB 1 k0 (upd (sB σ 1 k0) (x4).toNatClampNeg (vp_nar .byte ((sA σ 0) (x4).toNatClampNeg))) σ) x2 x3 (x4 + 1) hw _ _ hP hD hS ls (lv_sub hl [1, 2, 3, 4, 0] rfl)
def wp_copyA (post : Int32 → Sg → Prop) (σ : Sg) (k0 : Nat) (a2 : Int32) : Prop := (∃ n : Nat, wpl_copyA_L15 n post σ k0 a2 (if (if 240 < 134 then 240 else 134) < a2 then (if 240 < 134 then 240 else 134) else a2) 0)
set_option maxHeartbeats 4000000 in
set_option maxRecDepth 100000 in
theorem c_copyA (l : Launch) (D : va_G) (ca : Nat → ClassId) (ad : Nat → Nat → Nat) (σ : Sg) (k0 : Nat) (hk0 : k0 < 8) (a2 : Int32) (sz : Nat) (post : Int32 → Sg → Prop) (hw : wp_copyA post σ k0 a2) : Met l yP_copyInto wsP_copyInto ({ frames := 1, cells := 0, slots := 0, locals := 21 }) (va_Pc [.ref (ad 8 k0), .ref (ad 4 0), .int a2] (preX D ca ad σ sz)) (va_Qi post (atX D ca ad (va_A (wX ca ad σ) sz)) (va_A (wX ca ad σ) sz)) 0 0 (va_A (wX ca ad σ) sz) := by
  refine Met.ofW (cc := cP_copyInto) (maxL := 5) (ret := (some .int)) (by decide) rfl ?_
  intro p e s m args below meth c s₁ B hml hv
  obtain ⟨rfl, hsz, hP, hK, hD0, hE⟩ := hv
  have hx := B.exec
  have hb := B.bytes
  have hr := B.returns
  have hts : ∀ w ∈ tbG, w.before _ s = true := fun w h => atoms_spec (ws := wsP_copyInto) B.pre w (List.mem_cons_of_mem _ h)
  have hown : s.vm.findClass RP = some m.cls := findClass_of_methodNamed B.named
  have hlocks := B.notSynchronized
  subst hsz
  have hD := hD0.self (sz := s.heap.size)
  generalize hAe : va_A (wX ca ad σ) s.heap.size = A at hD hE ⊢
  have hA : ∀ q : Nat, s.heap.size ≤ q → A q := fun q h => by rw [← hAe]; exact Or.inr h
  clear hAe
  have hS : va_S A s.heap s.heap [] := va_S.rf
  have hl := lv_entry ([.ref (ad 8 k0), .ref (ad 4 0), .int a2]) (n := 5) (Nat.le_of_ble_eq_true rfl)
  rw [lg_entry_eq]
  generalize (lg_sl ([.ref (ad 8 k0), .ref (ad 4 0), .int a2]) ++ List.replicate (5 - (lg_sl ([.ref (ad 8 k0), .ref (ad 4 0), .int a2])).length) Slot.unset).toArray = ls at hl ⊢
  have hl : lv_has ls 5 [(0, .ref (ad 8 k0)), (1, .ref (ad 4 0)), (2, .int a2)] := hl
  unfold wp_copyA at hw
  have hP : va_P D clX (wX ca ad σ) s.heap := hP
  refine lv_iload_n hx hb dP_copyInto_0 rfl (lv_at hl 2 rfl) ?_
  refine lv_aload_n hx hb dP_copyInto_1 rfl (lv_at hl 0 rfl) ?_
  refine va_alen (v := 134) hx hb hK hP (6 + (8 + (8 + k0))) 1 (gX_8 hk0) rfl (show Int32.ofNat 134 = (134 : Int32) from by decide) dP_copyInto_2 ?_
  refine lv_aload_n hx hb dP_copyInto_3 rfl (lv_at hl 1 rfl) ?_
  refine va_alen (v := 240) hx hb hK hP 4 1 gX_4 rfl (show Int32.ofNat 240 = (240 : Int32) from by decide) dP_copyInto_4 ?_
  refine va_mmin hx hb (hml.trans hl.1.symm) hown (hts _ tw_439) (hts _ tw_425) (hts _ tw_16) (hts _ tw_426) (by decide) (Nat.le_of_ble_eq_true rfl) (by decide) (by decide) dP_copyInto_5 ?_
  refine va_mmin hx hb (hml.trans hl.1.symm) hown (hts _ tw_439) (hts _ tw_425) (hts _ tw_16) (hts _ tw_426) (by decide) (Nat.le_of_ble_eq_true rfl) (by decide) (by decide) dP_copyInto_8 ?_
  refine lv_istore_n (lv' := [(3, .int (if (if 240 < 134 then 240 else 134) < a2 then (if 240 < 134 then 240 else 134) else a2)), (0, .ref (ad 8 k0)), (1, .ref (ad 4 0)), (2, .int a2)]) hx hb dP_copyInto_11 rfl hl (by decide) rfl (fun ls hl => ?_)
  refine lv_iconst (v := 0) hx hb dP_copyInto_12 (by decide) ?_
  refine lv_istore (lv' := [(4, .int 0), (3, .int (if (if 240 < 134 then 240 else 134) < a2 then (if 240 < 134 then 240 else 134) else a2)), (0, .ref (ad 8 k0)), (1, .ref (ad 4 0)), (2, .int a2)]) hx hb dP_copyInto_13 hl (by decide) rfl (fun ls hl => ?_)
  obtain ⟨n, hw⟩ := hw
  exact l_copyA_L15 (D := D) (ca := ca) (ad := ad) k0 hk0 hx hb hr hml hts hown hlocks hA hK hE n σ a2 (if (if 240 < 134 then 240 else 134) < a2 then (if 240 < 134 then 240 else 134) else a2) 0 hw _ _ hP hD hS ls (lv_sub hl [2, 3, 4, 1, 0] rfl)
theorem dP_begin_0 : decode cP_begin 0 = .ok (.aload_n 0, 1) := by decide +kernel
theorem dP_begin_1 : decode cP_begin 1 = .ok (.aload_n 1, 1) := by decide +kernel
theorem dP_begin_2 : decode cP_begin 2 = .ok (.putfield 25, 3) := by decide +kernel
theorem dP_begin_5 : decode cP_begin 5 = .ok (.aload_n 0, 1) := by decide +kernel
theorem dP_begin_6 : decode cP_begin 6 = .ok (.aload_n 1, 1) := by decide +kernel
theorem dP_begin_7 : decode cP_begin 7 = .ok (.getfield 63, 3) := by decide +kernel
theorem dP_begin_10 : decode cP_begin 10 = .ok (.putfield 29, 3) := by decide +kernel
theorem dP_begin_13 : decode cP_begin 13 = .ok (.aload_n 0, 1) := by decide +kernel
theorem dP_begin_14 : decode cP_begin 14 = .ok (.iconst 0, 1) := by decide +kernel
theorem dP_begin_15 : decode cP_begin 15 = .ok (.putfield 44, 3) := by decide +kernel
theorem dP_begin_18 : decode cP_begin 18 = .ok (.aload_n 0, 1) := by decide +kernel
theorem dP_begin_19 : decode cP_begin 19 = .ok (.aload_n 0, 1) := by decide +kernel
theorem dP_begin_20 : decode cP_begin 20 = .ok (.getfield 9, 3) := by decide +kernel
theorem dP_begin_23 : decode cP_begin 23 = .ok (.aload_n 2, 1) := by decide +kernel
theorem dP_begin_24 : decode cP_begin 24 = .ok (.iload_n 3, 1) := by decide +kernel
theorem dP_begin_25 : decode cP_begin 25 = .ok (.invokestatic 66, 3) := by decide +kernel
theorem dP_begin_28 : decode cP_begin 28 = .ok (.putfield 18, 3) := by decide +kernel
theorem dP_begin_31 : decode cP_begin 31 = .ok (.return_, 1) := by decide +kernel
def wp_begin (post : Sg → Prop) (σ : Sg) (i : Nat) (k0 : Nat) (a2 : Int32) : Prop := (i < 8 ∧ wp_copyD (fun r3 s2 => post (uF 3 i r3 s2)) (uF 11 i 0 (uF 6 i (sH σ 1 k0) (uR i (some k0) σ))) i a2)
set_option maxHeartbeats 4000000 in
set_option maxRecDepth 100000 in
theorem c_begin (l : Launch) (D : va_G) (ca : Nat → ClassId) (ad : Nat → Nat → Nat) (σ : Sg) (i : Nat) (hi : i < 8) (k0 : Nat) (hk0 : k0 < sN σ) (a2 : Int32) (sz : Nat) (post : Sg → Prop) (hw : wp_begin post σ i k0 a2) : Met l yP_begin wsP_begin ({ frames := 2, cells := 0, slots := 0, locals := 45 }) (va_Pc [.ref (ad 6 i), .ref (ad 10 k0), .ref (ad 4 0), .int a2] (preX D ca ad σ sz)) (va_Qv post (atX D ca ad (va_A (wX ca ad σ) sz)) (va_A (wX ca ad σ) sz)) 0 0 (va_A (wX ca ad σ) sz) := by
  refine Met.ofW (cc := cP_begin) (maxL := 4) (ret := none) (by decide) rfl ?_
  intro p e s m args below meth c s₁ B hml hv
  obtain ⟨rfl, hsz, hP, hK, hD0, hE⟩ := hv
  have hx := B.exec
  have hb := B.bytes
  have hr := B.returns
  have hts : ∀ w ∈ tbG, w.before _ s = true := fun w h => atoms_spec (ws := wsP_begin) B.pre w (List.mem_cons_of_mem _ h)
  have hown : s.vm.findClass RP = some m.cls := findClass_of_methodNamed B.named
  have hlocks := B.notSynchronized
  subst hsz
  have hD := hD0.self (sz := s.heap.size)
  generalize hAe : va_A (wX ca ad σ) s.heap.size = A at hD hE ⊢
  have hA : ∀ q : Nat, s.heap.size ≤ q → A q := fun q h => by rw [← hAe]; exact Or.inr h
  clear hAe
  have hS : va_S A s.heap s.heap [] := va_S.rf
  have hl := lv_entry ([.ref (ad 6 i), .ref (ad 10 k0), .ref (ad 4 0), .int a2]) (n := 4) (Nat.le_of_ble_eq_true rfl)
  rw [lg_entry_eq]
  generalize (lg_sl ([.ref (ad 6 i), .ref (ad 10 k0), .ref (ad 4 0), .int a2]) ++ List.replicate (4 - (lg_sl ([.ref (ad 6 i), .ref (ad 10 k0), .ref (ad 4 0), .int a2])).length) Slot.unset).toArray = ls at hl ⊢
  have hl : lv_has ls 4 [(0, .ref (ad 6 i)), (1, .ref (ad 10 k0)), (2, .ref (ad 4 0)), (3, .int a2)] := hl
  unfold wp_begin at hw
  have hP : va_P D clX (wX ca ad σ) s.heap := hP
  refine lv_aload_n hx hb dP_begin_0 rfl (lv_at hl 0 rfl) ?_
  refine lv_aload_n hx hb dP_begin_1 rfl (lv_at hl 1 rfl) ?_
  refine va_put (D := D) (ci := 1) (v := .ref (ad 10 k0)) (ty := (.object "PatronHall$Asking")) (C := RP) (T := TP) (N := 16) hx hb hts inP tyP tyP_ok nmP hown hK hP hD hS (6 + i) (gX_6 hi) rfl 5 (by decide) (hts _ tw_88) (fun _ h9 => h9) rfl (by decide +kernel) rfl rfl (Nat.le_of_ble_eq_true rfl) dP_begin_2 (fun H locs hP hD hS => ?_)
  rw [sX_6_ask hi] at hP hD
  refine lv_aload_n hx hb dP_begin_5 rfl (lv_at hl 0 rfl) ?_
  refine lv_aload_n hx hb dP_begin_6 rfl (lv_at hl 1 rfl) ?_
  refine va_get (D := D) (ci := 2) (v := .int (sH σ 1 k0)) (C := RQ) (T := TQ) (N := 6) hx hb hts inQ hown hK hP (6 + (8 + (8 + (8 + k0)))) (gX_10 hk0) rfl 1 (by decide) (hts _ tw_353) (fun _ h9 => h9) rfl dP_begin_7 ?_
  refine va_put (D := D) (ci := 1) (v := .int (sH σ 1 k0)) (ty := .int) (C := RP) (T := TP) (N := 16) hx hb hts inP tyP tyP_ok nmP hown hK hP hD hS (6 + i) (gX_6 hi) rfl 6 (by decide) (hts _ tw_90) (fun _ h9 => h9) rfl (by decide +kernel) rfl rfl (Nat.le_of_ble_eq_true rfl) dP_begin_10 (fun H locs hP hD hS => ?_)
  rw [sX_6_6 hi] at hP hD
  refine lv_aload_n hx hb dP_begin_13 rfl (lv_at hl 0 rfl) ?_
  refine lv_iconst (v := 0) hx hb dP_begin_14 (by decide) ?_
  refine va_put (D := D) (ci := 1) (v := .int 0) (ty := .int) (C := RP) (T := TP) (N := 16) hx hb hts inP tyP tyP_ok nmP hown hK hP hD hS (6 + i) (gX_6 hi) rfl 11 (by decide) (hts _ tw_105) (fun _ h9 => h9) rfl (by decide +kernel) rfl rfl (Nat.le_of_ble_eq_true rfl) dP_begin_15 (fun H locs hP hD hS => ?_)
  rw [sX_6_11 hi] at hP hD
  refine lv_aload_n hx hb dP_begin_18 rfl (lv_at hl 0 rfl) ?_
  refine lv_aload_n hx hb dP_begin_19 rfl (lv_at hl 0 rfl) ?_
  refine va_get (D := D) (ci := 1) (v := .ref (ad 7 i)) (C := RP) (T := TP) (N := 16) hx hb hts inP hown hK hP (6 + i) (gX_6 hi) rfl 1 (by decide) (hts _ tw_79) (fun _ h9 => h9) rfl dP_begin_20 ?_
  refine lv_aload_n hx hb dP_begin_23 rfl (lv_at hl 2 rfl) ?_
  refine lv_iload_n hx hb dP_begin_24 rfl (lv_at hl 3 rfl) ?_
  obtain ⟨hb1, hw⟩ := hw
  have hFc := px_free hD hS hA
  refine va_calli (va_runS (As := [.ref (ad 7 i), .ref (ad 4 0), .int a2]) (rest := [.ref (ad 6 i)]) ⟨hx, hb, hml, hown, hts⟩ (c_copyD l D ca ad (uF 11 i 0 (uF 6 i (sH σ 1 k0) (uR i (some k0) σ))) i hb1 a2 _ _ hw) (va_cwS 3 hts (gS tw_436 tw_437 tw_6 tw_438) rfl rfl rfl (by decide +kernel) ⟨Nat.le_of_ble_eq_true rfl, Nat.le_of_ble_eq_true rfl⟩) ⟨px_blind, fun U hU hW => px_pre hP hK hD hE hS hFc hU hW⟩ rfl rfl hl.1 rfl (lv_room (Nat.le_of_ble_eq_true rfl)) dP_begin_25 ⟨Nat.le_of_ble_eq_true rfl, Nat.le_of_ble_eq_true rfl⟩) hS (fun q _ h => hFc q h) hFc (fun r3 s2 t H locs ht hvm hw hB _ _ hS => ?_)
  obtain ⟨hP, -, hD⟩ := hB
  rw [ht] at hP
  have hD := hD.weaken (fun _ _ _ h9 => hFc _ h9)
  refine va_put (D := D) (ci := 1) (v := .int r3) (ty := .int) (C := RP) (T := TP) (N := 16) hx hb hts inP tyP tyP_ok nmP hown hK hP hD hS (6 + i) (gX_6 hi) rfl 3 (by decide) (hts _ tw_83) (fun _ h9 => h9) rfl (by decide +kernel) rfl rfl (Nat.le_of_ble_eq_true rfl) dP_begin_28 (fun H locs hP hD hS => ?_)
  rw [sX_6_3 hi] at hP hD
  exact W.vret hx hb hr (fun t ht hW => ⟨⟨(uF 3 i r3 s2), rfl, hw, by rw [ht]; exact hP, va_K.moved hW.alike hK, hD⟩, hS.F ht⟩) hS.2.2 dP_begin_31
theorem dP_keepAnswer_0 : decode cP_keepAnswer 0 = .ok (.aload_n 0, 1) := by decide +kernel
theorem dP_keepAnswer_1 : decode cP_keepAnswer 1 = .ok (.aload_n 0, 1) := by decide +kernel
theorem dP_keepAnswer_2 : decode cP_keepAnswer 2 = .ok (.getfield 15, 3) := by decide +kernel
theorem dP_keepAnswer_5 : decode cP_keepAnswer 5 = .ok (.aload_n 1, 1) := by decide +kernel
theorem dP_keepAnswer_6 : decode cP_keepAnswer 6 = .ok (.iload_n 2, 1) := by decide +kernel
theorem dP_keepAnswer_7 : decode cP_keepAnswer 7 = .ok (.invokestatic 66, 3) := by decide +kernel
theorem dP_keepAnswer_10 : decode cP_keepAnswer 10 = .ok (.putfield 22, 3) := by decide +kernel
theorem dP_keepAnswer_13 : decode cP_keepAnswer 13 = .ok (.return_, 1) := by decide +kernel
def wp_keepAnswer (post : Sg → Prop) (σ : Sg) (i : Nat) (a1 : Int32) : Prop := (i < 8 ∧ wp_copyA (fun r3 s2 => post (uF 4 i r3 s2)) σ i a1)
set_option maxHeartbeats 4000000 in
set_option maxRecDepth 100000 in
theorem c_keepAnswer (l : Launch) (D : va_G) (ca : Nat → ClassId) (ad : Nat → Nat → Nat) (σ : Sg) (i : Nat) (hi : i < 8) (a1 : Int32) (sz : Nat) (post : Sg → Prop) (hw : wp_keepAnswer post σ i a1) : Met l yP_keepAnswer wsP_keepAnswer ({ frames := 2, cells := 0, slots := 0, locals := 45 }) (va_Pc [.ref (ad 6 i), .ref (ad 4 0), .int a1] (preX D ca ad σ sz)) (va_Qv post (atX D ca ad (va_A (wX ca ad σ) sz)) (va_A (wX ca ad σ) sz)) 0 0 (va_A (wX ca ad σ) sz) := by
  refine Met.ofW (cc := cP_keepAnswer) (maxL := 3) (ret := none) (by decide) rfl ?_
  intro p e s m args below meth c s₁ B hml hv
  obtain ⟨rfl, hsz, hP, hK, hD0, hE⟩ := hv
  have hx := B.exec
  have hb := B.bytes
  have hr := B.returns
  have hts : ∀ w ∈ tbG, w.before _ s = true := fun w h => atoms_spec (ws := wsP_keepAnswer) B.pre w (List.mem_cons_of_mem _ h)
  have hown : s.vm.findClass RP = some m.cls := findClass_of_methodNamed B.named
  have hlocks := B.notSynchronized
  subst hsz
  have hD := hD0.self (sz := s.heap.size)
  generalize hAe : va_A (wX ca ad σ) s.heap.size = A at hD hE ⊢
  have hA : ∀ q : Nat, s.heap.size ≤ q → A q := fun q h => by rw [← hAe]; exact Or.inr h
  clear hAe
  have hS : va_S A s.heap s.heap [] := va_S.rf
  have hl := lv_entry ([.ref (ad 6 i), .ref (ad 4 0), .int a1]) (n := 3) (Nat.le_of_ble_eq_true rfl)
  rw [lg_entry_eq]
  generalize (lg_sl ([.ref (ad 6 i), .ref (ad 4 0), .int a1]) ++ List.replicate (3 - (lg_sl ([.ref (ad 6 i), .ref (ad 4 0), .int a1])).length) Slot.unset).toArray = ls at hl ⊢
  have hl : lv_has ls 3 [(0, .ref (ad 6 i)), (1, .ref (ad 4 0)), (2, .int a1)] := hl
  unfold wp_keepAnswer at hw
  have hP : va_P D clX (wX ca ad σ) s.heap := hP
  refine lv_aload_n hx hb dP_keepAnswer_0 rfl (lv_at hl 0 rfl) ?_
  refine lv_aload_n hx hb dP_keepAnswer_1 rfl (lv_at hl 0 rfl) ?_
  refine va_get (D := D) (ci := 1) (v := .ref (ad 8 i)) (C := RP) (T := TP) (N := 16) hx hb hts inP hown hK hP (6 + i) (gX_6 hi) rfl 2 (by decide) (hts _ tw_81) (fun _ h9 => h9) rfl dP_keepAnswer_2 ?_
  refine lv_aload_n hx hb dP_keepAnswer_5 rfl (lv_at hl 1 rfl) ?_
  refine lv_iload_n hx hb dP_keepAnswer_6 rfl (lv_at hl 2 rfl) ?_
  obtain ⟨hb1, hw⟩ := hw
  have hFc := px_free hD hS hA
  refine va_calli (va_runS (As := [.ref (ad 8 i), .ref (ad 4 0), .int a1]) (rest := [.ref (ad 6 i)]) ⟨hx, hb, hml, hown, hts⟩ (c_copyA l D ca ad σ i hb1 a1 _ _ hw) (va_cwS 3 hts (gS tw_436 tw_437 tw_6 tw_438) rfl rfl rfl (by decide +kernel) ⟨Nat.le_of_ble_eq_true rfl, Nat.le_of_ble_eq_true rfl⟩) ⟨px_blind, fun U hU hW => px_pre hP hK hD hE hS hFc hU hW⟩ rfl rfl hl.1 rfl (lv_room (Nat.le_of_ble_eq_true rfl)) dP_keepAnswer_7 ⟨Nat.le_of_ble_eq_true rfl, Nat.le_of_ble_eq_true rfl⟩) hS (fun q _ h => hFc q h) hFc (fun r3 s2 t H locs ht hvm hw hB _ _ hS => ?_)
  obtain ⟨hP, -, hD⟩ := hB
  rw [ht] at hP
  have hD := hD.weaken (fun _ _ _ h9 => hFc _ h9)
  refine va_put (D := D) (ci := 1) (v := .int r3) (ty := .int) (C := RP) (T := TP) (N := 16) hx hb hts inP tyP tyP_ok nmP hown hK hP hD hS (6 + i) (gX_6 hi) rfl 4 (by decide) (hts _ tw_86) (fun _ h9 => h9) rfl (by decide +kernel) rfl rfl (Nat.le_of_ble_eq_true rfl) dP_keepAnswer_10 (fun H locs hP hD hS => ?_)
  rw [sX_6_4 hi] at hP hD
  exact W.vret hx hb hr (fun t ht hW => ⟨⟨(uF 4 i r3 s2), rfl, hw, by rw [ht]; exact hP, va_K.moved hW.alike hK, hD⟩, hS.F ht⟩) hS.2.2 dP_keepAnswer_13
theorem dG_cell_0 : decode cG_cell 0 = .ok (.iload_n 1, 1) := by decide +kernel
theorem dG_cell_1 : decode cG_cell 1 = .ok (.ifCond .lt 27, 3) := by decide +kernel
theorem dG_cell_4 : decode cG_cell 4 = .ok (.iload_n 1, 1) := by decide +kernel
theorem dG_cell_5 : decode cG_cell 5 = .ok (.bipush 64, 2) := by decide +kernel
theorem dG_cell_7 : decode cG_cell 7 = .ok (.if_icmp .ge 21, 3) := by decide +kernel
theorem dG_cell_10 : decode cG_cell 10 = .ok (.iload_n 1, 1) := by decide +kernel
theorem dG_cell_11 : decode cG_cell 11 = .ok (.aload_n 0, 1) := by decide +kernel
theorem dG_cell_12 : decode cG_cell 12 = .ok (.getfield 15, 3) := by decide +kernel
theorem dG_cell_15 : decode cG_cell 15 = .ok (.if_icmp .ge 13, 3) := by decide +kernel
theorem dG_cell_18 : decode cG_cell 18 = .ok (.iload_n 2, 1) := by decide +kernel
theorem dG_cell_19 : decode cG_cell 19 = .ok (.ifCond .lt 9, 3) := by decide +kernel
theorem dG_cell_22 : decode cG_cell 22 = .ok (.iload_n 2, 1) := by decide +kernel
theorem dG_cell_23 : decode cG_cell 23 = .ok (.bipush 8, 2) := by decide +kernel
theorem dG_cell_25 : decode cG_cell 25 = .ok (.if_icmp .lt 5, 3) := by decide +kernel
theorem dG_cell_28 : decode cG_cell 28 = .ok (.iconst (-1), 1) := by decide +kernel
theorem dG_cell_29 : decode cG_cell 29 = .ok (.ireturn, 1) := by decide +kernel
theorem dG_cell_30 : decode cG_cell 30 = .ok (.aload_n 0, 1) := by decide +kernel
theorem dG_cell_31 : decode cG_cell 31 = .ok (.getfield 11, 3) := by decide +kernel
theorem dG_cell_34 : decode cG_cell 34 = .ok (.aload_n 0, 1) := by decide +kernel
theorem dG_cell_35 : decode cG_cell 35 = .ok (.getfield 15, 3) := by decide +kernel
theorem dG_cell_38 : decode cG_cell 38 = .ok (.iconst 1, 1) := by decide +kernel
theorem dG_cell_39 : decode cG_cell 39 = .ok (.isub, 1) := by decide +kernel
theorem dG_cell_40 : decode cG_cell 40 = .ok (.iload_n 1, 1) := by decide +kernel
theorem dG_cell_41 : decode cG_cell 41 = .ok (.isub, 1) := by decide +kernel
theorem dG_cell_42 : decode cG_cell 42 = .ok (.invokestatic 32, 3) := by decide +kernel
theorem dG_cell_45 : decode cG_cell 45 = .ok (.iload_n 2, 1) := by decide +kernel
theorem dG_cell_46 : decode cG_cell 46 = .ok (.iadd, 1) := by decide +kernel
theorem dG_cell_47 : decode cG_cell 47 = .ok (.iaload, 1) := by decide +kernel
theorem dG_cell_48 : decode cG_cell 48 = .ok (.ireturn, 1) := by decide +kernel
def wp_cell (post : Int32 → Sg → Prop) (σ : Sg) (a0 : Int32) (a1 : Int32) : Prop := (((a0 < 0) → post (-1) σ) ∧ (¬ (a0 < 0) → (((64 ≤ a0) → post (-1) σ) ∧ (¬ (64 ≤ a0) → ((((sG σ 4) ≤ a0) → post (-1) σ) ∧ (¬ ((sG σ 4) ≤ a0) → (((a1 < 0) → post (-1) σ) ∧ (¬ (a1 < 0) → (((a1 < 8) → wp_firstCell (fun r7 s6 => (vp_in (r7 + a1) 512 ∧ post ((sA s6 1) (r7 + a1).toNatClampNeg) s6)) σ (((sG σ 4) - 1) - a0)) ∧ (¬ (a1 < 8) → post (-1) σ))))))))))
set_option maxHeartbeats 4000000 in
set_option maxRecDepth 100000 in
theorem c_cell (l : Launch) (D : va_G) (ca : Nat → ClassId) (ad : Nat → Nat → Nat) (σ : Sg) (a0 : Int32) (a1 : Int32) (sz : Nat) (post : Int32 → Sg → Prop) (hw : wp_cell post σ a0 a1) : Met l yG_cell wsG_cell ({ frames := 1, cells := 0, slots := 0, locals := 20 }) (va_Pc [.ref (ad 3 0), .int a0, .int a1] (preX D ca ad σ sz)) (va_Qi post (atX D ca ad (va_A (wX ca ad σ) sz)) (va_A (wX ca ad σ) sz)) 0 0 (va_A (wX ca ad σ) sz) := by
  refine Met.ofW (cc := cG_cell) (maxL := 3) (ret := (some .int)) (by decide) rfl ?_
  intro p e s m args below meth c s₁ B hml hv
  obtain ⟨rfl, hsz, hP, hK, hD0, hE⟩ := hv
  have hx := B.exec
  have hb := B.bytes
  have hr := B.returns
  have hts : ∀ w ∈ tbG, w.before _ s = true := fun w h => atoms_spec (ws := wsG_cell) B.pre w (List.mem_cons_of_mem _ h)
  have hown : s.vm.findClass RG = some m.cls := findClass_of_methodNamed B.named
  have hlocks := B.notSynchronized
  subst hsz
  have hD := hD0.self (sz := s.heap.size)
  generalize hAe : va_A (wX ca ad σ) s.heap.size = A at hD hE ⊢
  have hA : ∀ q : Nat, s.heap.size ≤ q → A q := fun q h => by rw [← hAe]; exact Or.inr h
  clear hAe
  have hS : va_S A s.heap s.heap [] := va_S.rf
  have hl := lv_entry ([.ref (ad 3 0), .int a0, .int a1]) (n := 3) (Nat.le_of_ble_eq_true rfl)
  rw [lg_entry_eq]
  generalize (lg_sl ([.ref (ad 3 0), .int a0, .int a1]) ++ List.replicate (3 - (lg_sl ([.ref (ad 3 0), .int a0, .int a1])).length) Slot.unset).toArray = ls at hl ⊢
  have hl : lv_has ls 3 [(0, .ref (ad 3 0)), (1, .int a0), (2, .int a1)] := hl
  unfold wp_cell at hw
  have hP : va_P D clX (wX ca ad σ) s.heap := hP
  refine lv_iload_n hx hb dG_cell_0 rfl (lv_at hl 1 rfl) ?_
  refine lv_if_lt (tgt := 28) hx hb dG_cell_1 (by decide) (fun c1 => ?_) (fun c1 => ?_)
  · have hw := hw.1 c1
    refine lv_iconst (v := (-1)) hx hb dG_cell_28 (by decide) ?_
    exact W.iret (v := (-1)) hx hb hr (fun t ht hW => ⟨⟨(-1), σ, rfl, hw, by rw [ht]; exact hP, va_K.moved hW.alike hK, hD⟩, hS.F ht⟩) hS.2.2 dG_cell_29
  · have hw := hw.2 c1
    refine lv_iload_n hx hb dG_cell_4 rfl (lv_at hl 1 rfl) ?_
    refine lv_bipush (v := 64) hx hb dG_cell_5 (by decide) ?_
    refine lv_icmp_ge (tgt := 28) hx hb dG_cell_7 (by decide) (fun c2 => ?_) (fun c2 => ?_)
    · have hw := hw.1 c2
      refine lv_iconst (v := (-1)) hx hb dG_cell_28 (by decide) ?_
      exact W.iret (v := (-1)) hx hb hr (fun t ht hW => ⟨⟨(-1), σ, rfl, hw, by rw [ht]; exact hP, va_K.moved hW.alike hK, hD⟩, hS.F ht⟩) hS.2.2 dG_cell_29
    · have hw := hw.2 c2
      refine lv_iload_n hx hb dG_cell_10 rfl (lv_at hl 1 rfl) ?_
      refine lv_aload_n hx hb dG_cell_11 rfl (lv_at hl 0 rfl) ?_
      refine va_get (D := D) (ci := 3) (v := .int (sG σ 4)) (C := RG) (T := TG) (N := 2) hx hb hts inG hown hK hP 3 gX_3 rfl 1 (by decide) (hts _ tw_64) (fun _ h9 => h9) rfl dG_cell_12 ?_
      refine lv_icmp_ge (tgt := 28) hx hb dG_cell_15 (by decide) (fun c3 => ?_) (fun c3 => ?_)
      · have hw := hw.1 c3
        refine lv_iconst (v := (-1)) hx hb dG_cell_28 (by decide) ?_
        exact W.iret (v := (-1)) hx hb hr (fun t ht hW => ⟨⟨(-1), σ, rfl, hw, by rw [ht]; exact hP, va_K.moved hW.alike hK, hD⟩, hS.F ht⟩) hS.2.2 dG_cell_29
      · have hw := hw.2 c3
        refine lv_iload_n hx hb dG_cell_18 rfl (lv_at hl 2 rfl) ?_
        refine lv_if_lt (tgt := 28) hx hb dG_cell_19 (by decide) (fun c4 => ?_) (fun c4 => ?_)
        · have hw := hw.1 c4
          refine lv_iconst (v := (-1)) hx hb dG_cell_28 (by decide) ?_
          exact W.iret (v := (-1)) hx hb hr (fun t ht hW => ⟨⟨(-1), σ, rfl, hw, by rw [ht]; exact hP, va_K.moved hW.alike hK, hD⟩, hS.F ht⟩) hS.2.2 dG_cell_29
        · have hw := hw.2 c4
          refine lv_iload_n hx hb dG_cell_22 rfl (lv_at hl 2 rfl) ?_
          refine lv_bipush (v := 8) hx hb dG_cell_23 (by decide) ?_
          refine lv_icmp_lt (tgt := 30) hx hb dG_cell_25 (by decide) (fun c5 => ?_) (fun c5 => ?_)
          · have hw := hw.1 c5
            refine lv_aload_n hx hb dG_cell_30 rfl (lv_at hl 0 rfl) ?_
            refine va_get (D := D) (ci := 3) (v := .ref (ad 5 0)) (C := RG) (T := TG) (N := 2) hx hb hts inG hown hK hP 3 gX_3 rfl 0 (by decide) (hts _ tw_63) (fun _ h9 => h9) rfl dG_cell_31 ?_
            refine lv_aload_n hx hb dG_cell_34 rfl (lv_at hl 0 rfl) ?_
            refine va_get (D := D) (ci := 3) (v := .int (sG σ 4)) (C := RG) (T := TG) (N := 2) hx hb hts inG hown hK hP 3 gX_3 rfl 1 (by decide) (hts _ tw_64) (fun _ h9 => h9) rfl dG_cell_35 ?_
            refine lv_iconst (v := 1) hx hb dG_cell_38 (by decide) ?_
            refine lv_isub hx hb dG_cell_39 ?_
            refine lv_iload_n hx hb dG_cell_40 rfl (lv_at hl 1 rfl) ?_
            refine lv_isub hx hb dG_cell_41 ?_
            have hFc := px_free hD hS hA
            refine va_calli (va_runS (As := [.int (((sG σ 4) - 1) - a0)]) (rest := [.ref (ad 5 0)]) ⟨hx, hb, hml, hown, hts⟩ (c_firstCell l D ca ad σ (((sG σ 4) - 1) - a0) _ _ hw) (va_cwS 1 hts (gS tw_183 tw_184 tw_5 tw_185) rfl rfl rfl (by decide +kernel) ⟨Nat.le_of_ble_eq_true rfl, Nat.le_of_ble_eq_true rfl⟩) ⟨px_blind, fun U hU hW => px_pre hP hK hD hE hS hFc hU hW⟩ rfl rfl hl.1 rfl (lv_room (Nat.le_of_ble_eq_true rfl)) dG_cell_42 ⟨Nat.le_of_ble_eq_true rfl, Nat.le_of_ble_eq_true rfl⟩) hS (fun q _ h => hFc q h) hFc (fun r7 s6 t H locs ht hvm hw hB _ _ hS => ?_)
            obtain ⟨hP, -, hD⟩ := hB
            rw [ht] at hP
            have hD := hD.weaken (fun _ _ _ h9 => hFc _ h9)
            refine lv_iload_n hx hb dG_cell_45 rfl (lv_at hl 2 rfl) ?_
            refine lv_iadd hx hb dG_cell_46 ?_
            obtain ⟨hin8, hw⟩ := hw
            refine va_iald hx hb hK hP 5 0 gX_5 rfl hin8 dG_cell_47 ?_
            exact W.iret (v := ((sA s6 1) (r7 + a1).toNatClampNeg)) hx hb hr (fun t ht hW => ⟨⟨((sA s6 1) (r7 + a1).toNatClampNeg), s6, rfl, hw, by rw [ht]; exact hP, va_K.moved hW.alike hK, hD⟩, hS.F ht⟩) hS.2.2 dG_cell_48
          · have hw := hw.2 c5
            refine lv_iconst (v := (-1)) hx hb dG_cell_28 (by decide) ?_
            exact W.iret (v := (-1)) hx hb hr (fun t ht hW => ⟨⟨(-1), σ, rfl, hw, by rw [ht]; exact hP, va_K.moved hW.alike hK, hD⟩, hS.F ht⟩) hS.2.2 dG_cell_29
theorem dH_makeAlarm_0 : decode cH_makeAlarm 0 = .ok (.aload_n 1, 1) := by decide +kernel
theorem dH_makeAlarm_1 : decode cH_makeAlarm 1 = .ok (.aload_n 0, 1) := by decide +kernel
theorem dH_makeAlarm_2 : decode cH_makeAlarm 2 = .ok (.getfield 37, 3) := by decide +kernel
theorem dH_makeAlarm_5 : decode cH_makeAlarm 5 = .ok (.iload_n 2, 1) := by decide +kernel
theorem dH_makeAlarm_6 : decode cH_makeAlarm 6 = .ok (.iadd, 1) := by decide +kernel
theorem dH_makeAlarm_7 : decode cH_makeAlarm 7 = .ok (.putfield 146, 3) := by decide +kernel
theorem dH_makeAlarm_10 : decode cH_makeAlarm 10 = .ok (.aload_n 1, 1) := by decide +kernel
theorem dH_makeAlarm_11 : decode cH_makeAlarm 11 = .ok (.aload_n 0, 1) := by decide +kernel
theorem dH_makeAlarm_12 : decode cH_makeAlarm 12 = .ok (.getfield 43, 3) := by decide +kernel
theorem dH_makeAlarm_15 : decode cH_makeAlarm 15 = .ok (.putfield 237, 3) := by decide +kernel
theorem dH_makeAlarm_18 : decode cH_makeAlarm 18 = .ok (.aload_n 1, 1) := by decide +kernel
theorem dH_makeAlarm_19 : decode cH_makeAlarm 19 = .ok (.iload_n 3, 1) := by decide +kernel
theorem dH_makeAlarm_20 : decode cH_makeAlarm 20 = .ok (.putfield 165, 3) := by decide +kernel
theorem dH_makeAlarm_23 : decode cH_makeAlarm 23 = .ok (.aload_n 0, 1) := by decide +kernel
theorem dH_makeAlarm_24 : decode cH_makeAlarm 24 = .ok (.dup, 1) := by decide +kernel
theorem dH_makeAlarm_25 : decode cH_makeAlarm 25 = .ok (.getfield 43, 3) := by decide +kernel
theorem dH_makeAlarm_28 : decode cH_makeAlarm 28 = .ok (.iconst 1, 1) := by decide +kernel
theorem dH_makeAlarm_29 : decode cH_makeAlarm 29 = .ok (.iadd, 1) := by decide +kernel
theorem dH_makeAlarm_30 : decode cH_makeAlarm 30 = .ok (.putfield 43, 3) := by decide +kernel
theorem dH_makeAlarm_33 : decode cH_makeAlarm 33 = .ok (.return_, 1) := by decide +kernel
def wp_makeAlarm (post : Sg → Prop) (σ : Sg) (k0 : Nat) (a1 : Int32) (a2 : Int32) : Prop := ((narrow .boolean (.int a2) = .int a2 ∧ fits .boolean (.int a2) = true) ∧ post (uG 3 ((sG σ 3) + 1) (uF 15 k0 a2 (uF 14 k0 (sG σ 3) (uF 13 k0 ((sG σ 1) + a1) σ)))))
set_option maxHeartbeats 4000000 in
set_option maxRecDepth 100000 in
theorem c_makeAlarm (l : Launch) (D : va_G) (ca : Nat → ClassId) (ad : Nat → Nat → Nat) (σ : Sg) (k0 : Nat) (hk0 : k0 < 8) (a1 : Int32) (a2 : Int32) (sz : Nat) (post : Sg → Prop) (hw : wp_makeAlarm post σ k0 a1 a2) : Met l yH_makeAlarm wsH_makeAlarm ({ frames := 0, cells := 0, slots := 0, locals := 0 }) (va_Pc [.ref (ad 0 0), .ref (ad 6 k0), .int a1, .int a2] (preX D ca ad σ sz)) (va_Qv post (atX D ca ad (va_A (wX ca ad σ) sz)) (va_A (wX ca ad σ) sz)) 0 0 (va_A (wX ca ad σ) sz) := by
  refine Met.ofW (cc := cH_makeAlarm) (maxL := 4) (ret := none) (by decide) rfl ?_
  intro p e s m args below meth c s₁ B hml hv
  obtain ⟨rfl, hsz, hP, hK, hD0, hE⟩ := hv
  have hx := B.exec
  have hb := B.bytes
  have hr := B.returns
  have hts : ∀ w ∈ tbG, w.before _ s = true := fun w h => atoms_spec (ws := wsH_makeAlarm) B.pre w (List.mem_cons_of_mem _ h)
  have hown : s.vm.findClass RH = some m.cls := findClass_of_methodNamed B.named
  have hlocks := B.notSynchronized
  subst hsz
  have hD := hD0.self (sz := s.heap.size)
  generalize hAe : va_A (wX ca ad σ) s.heap.size = A at hD hE ⊢
  have hA : ∀ q : Nat, s.heap.size ≤ q → A q := fun q h => by rw [← hAe]; exact Or.inr h
  clear hAe
  have hS : va_S A s.heap s.heap [] := va_S.rf
  have hl := lv_entry ([.ref (ad 0 0), .ref (ad 6 k0), .int a1, .int a2]) (n := 4) (Nat.le_of_ble_eq_true rfl)
  rw [lg_entry_eq]
  generalize (lg_sl ([.ref (ad 0 0), .ref (ad 6 k0), .int a1, .int a2]) ++ List.replicate (4 - (lg_sl ([.ref (ad 0 0), .ref (ad 6 k0), .int a1, .int a2])).length) Slot.unset).toArray = ls at hl ⊢
  have hl : lv_has ls 4 [(0, .ref (ad 0 0)), (1, .ref (ad 6 k0)), (2, .int a1), (3, .int a2)] := hl
  unfold wp_makeAlarm at hw
  have hP : va_P D clX (wX ca ad σ) s.heap := hP
  refine lv_aload_n hx hb dH_makeAlarm_0 rfl (lv_at hl 1 rfl) ?_
  refine lv_aload_n hx hb dH_makeAlarm_1 rfl (lv_at hl 0 rfl) ?_
  refine va_get (D := D) (ci := 0) (v := .int (sG σ 1)) (C := RH) (T := TH) (N := 8) hx hb hts inH hown hK hP 0 gX_0 rfl 5 (by decide) (hts _ tw_155) (fun _ h9 => h9) rfl dH_makeAlarm_2 ?_
  refine lv_iload_n hx hb dH_makeAlarm_5 rfl (lv_at hl 2 rfl) ?_
  refine lv_iadd hx hb dH_makeAlarm_6 ?_
  refine va_put (D := D) (ci := 1) (v := .int ((sG σ 1) + a1)) (ty := .int) (C := RP) (T := TP) (N := 16) hx hb hts inP tyP tyP_ok nmP hown hK hP hD hS (6 + k0) (gX_6 hk0) rfl 13 (by decide) (hts _ tw_111) (fun _ h9 => h9) rfl (by decide +kernel) rfl rfl (Nat.le_of_ble_eq_true rfl) dH_makeAlarm_7 (fun H locs hP hD hS => ?_)
  rw [sX_6_13 hk0] at hP hD
  refine lv_aload_n hx hb dH_makeAlarm_10 rfl (lv_at hl 1 rfl) ?_
  refine lv_aload_n hx hb dH_makeAlarm_11 rfl (lv_at hl 0 rfl) ?_
  refine va_get (D := D) (ci := 0) (v := .int (sG σ 3)) (C := RH) (T := TH) (N := 8) hx hb hts inH hown hK hP 0 gX_0 rfl 7 (by decide) (hts _ tw_157) (fun _ h9 => h9) rfl dH_makeAlarm_12 ?_
  refine va_put (D := D) (ci := 1) (v := .int (sG σ 3)) (ty := .int) (C := RP) (T := TP) (N := 16) hx hb hts inP tyP tyP_ok nmP hown hK hP hD hS (6 + k0) (gX_6 hk0) rfl 14 (by decide) (hts _ tw_113) (fun _ h9 => h9) rfl (by decide +kernel) rfl rfl (Nat.le_of_ble_eq_true rfl) dH_makeAlarm_15 (fun H locs hP hD hS => ?_)
  rw [sX_6_14 hk0] at hP hD
  refine lv_aload_n hx hb dH_makeAlarm_18 rfl (lv_at hl 1 rfl) ?_
  refine lv_iload_n hx hb dH_makeAlarm_19 rfl (lv_at hl 3 rfl) ?_
  obtain ⟨hz, hw⟩ := hw
  refine va_put (D := D) (ci := 1) (v := .int a2) (ty := .boolean) (C := RP) (T := TP) (N := 16) hx hb hts inP tyP tyP_ok nmP hown hK hP hD hS (6 + k0) (gX_6 hk0) rfl 15 (by decide) (hts _ tw_115) (fun _ h9 => h9) rfl (by decide +kernel) hz.1 hz.2 (Nat.le_of_ble_eq_true rfl) dH_makeAlarm_20 (fun H locs hP hD hS => ?_)
  rw [sX_6_15 hk0] at hP hD
  refine lv_aload_n hx hb dH_makeAlarm_23 rfl (lv_at hl 0 rfl) ?_
  refine lv_dup hx hb dH_makeAlarm_24 rfl ?_
  refine va_get (D := D) (ci := 0) (v := .int (sG σ 3)) (C := RH) (T := TH) (N := 8) hx hb hts inH hown hK hP 0 gX_0 rfl 7 (by decide) (hts _ tw_157) (fun _ h9 => h9) rfl dH_makeAlarm_25 ?_
  refine lv_iconst (v := 1) hx hb dH_makeAlarm_28 (by decide) ?_
  refine lv_iadd hx hb dH_makeAlarm_29 ?_
  refine va_put (D := D) (ci := 0) (v := .int ((sG σ 3) + 1)) (ty := .int) (C := RH) (T := TH) (N := 8) hx hb hts inH tyH tyH_ok nmH hown hK hP hD hS 0 gX_0 rfl 7 (by decide) (hts _ tw_157) (fun _ h9 => h9) rfl (by decide +kernel) rfl rfl (Nat.le_of_ble_eq_true rfl) dH_makeAlarm_30 (fun H locs hP hD hS => ?_)
  rw [sX_0_7] at hP hD
  exact W.vret hx hb hr (fun t ht hW => ⟨⟨(uG 3 ((sG σ 3) + 1) (uF 15 k0 a2 (uF 14 k0 (sG σ 3) (uF 13 k0 ((sG σ 1) + a1) σ)))), rfl, hw, by rw [ht]; exact hP, va_K.moved hW.alike hK, hD⟩, hS.F ht⟩) hS.2.2 dH_makeAlarm_33
