theorem dH_asInt_0 : decode cH_asInt 0 = .ok (.iload_n 0, 1) := by decide +kernel
theorem dH_asInt_1 : decode cH_asInt 1 = .ok (.ifCond .eq 7, 3) := by decide +kernel
theorem dH_asInt_4 : decode cH_asInt 4 = .ok (.iconst 1, 1) := by decide +kernel
theorem dH_asInt_5 : decode cH_asInt 5 = .ok (.goto 4, 3) := by decide +kernel
theorem dH_asInt_8 : decode cH_asInt 8 = .ok (.iconst 0, 1) := by decide +kernel
theorem dH_asInt_9 : decode cH_asInt 9 = .ok (.ireturn, 1) := by decide +kernel
def wp_asInt (post : Int32 → Sg → Prop) (σ : Sg) (a0 : Int32) : Prop := (((a0 = 0) → post 0 σ) ∧ (¬ (a0 = 0) → post 1 σ))
set_option maxHeartbeats 4000000 in
set_option maxRecDepth 100000 in
theorem c_asInt (l : Launch) (D : va_G) (ca : Nat → ClassId) (ad : Nat → Nat → Nat) (σ : Sg) (a0 : Int32) (sz : Nat) (post : Int32 → Sg → Prop) (hw : wp_asInt post σ a0) : Met l yH_asInt wsH_asInt ({ frames := 0, cells := 0, slots := 0, locals := 0 }) (va_Pc [.int a0] (preX D ca ad σ sz)) (va_Qi post (atX D ca ad (va_A (wX ca ad σ) sz)) (va_A (wX ca ad σ) sz)) 0 0 (va_A (wX ca ad σ) sz) := by
  refine Met.ofW (cc := cH_asInt) (maxL := 1) (ret := (some .int)) (by decide) rfl ?_
  intro p e s m args below meth c s₁ B hml hv
  obtain ⟨rfl, hsz, hP, hK, hD0, hE⟩ := hv
  have hx := B.exec
  have hb := B.bytes
  have hr := B.returns
  have hts : ∀ w ∈ tbG, w.before _ s = true := fun w h => atoms_spec (ws := wsH_asInt) B.pre w (List.mem_cons_of_mem _ h)
  have hown : s.vm.findClass RH = some m.cls := findClass_of_methodNamed B.named
  have hlocks := B.notSynchronized
  subst hsz
  have hD := hD0.self (sz := s.heap.size)
  generalize hAe : va_A (wX ca ad σ) s.heap.size = A at hD hE ⊢
  have hA : ∀ q : Nat, s.heap.size ≤ q → A q := fun q h => by rw [← hAe]; exact Or.inr h
  clear hAe
  have hS : va_S A s.heap s.heap [] := va_S.rf
  have hl := lv_entry ([.int a0]) (n := 1) (Nat.le_of_ble_eq_true rfl)
  rw [lg_entry_eq]
  generalize (lg_sl ([.int a0]) ++ List.replicate (1 - (lg_sl ([.int a0])).length) Slot.unset).toArray = ls at hl ⊢
  have hl : lv_has ls 1 [(0, .int a0)] := hl
  unfold wp_asInt at hw
  have hP : va_P D clX (wX ca ad σ) s.heap := hP
  refine lv_iload_n hx hb dH_asInt_0 rfl (lv_at hl 0 rfl) ?_
  refine lv_if_eq (tgt := 8) hx hb dH_asInt_1 (by decide) (fun c1 => ?_) (fun c1 => ?_)
  · have hw := hw.1 c1
    refine lv_iconst (v := 0) hx hb dH_asInt_8 (by decide) ?_
    exact W.iret (v := 0) hx hb hr (fun t ht hW => ⟨⟨0, σ, rfl, hw, by rw [ht]; exact hP, va_K.moved hW.alike hK, hD⟩, hS.F ht⟩) hS.2.2 dH_asInt_9
  · have hw := hw.2 c1
    refine lv_iconst (v := 1) hx hb dH_asInt_4 (by decide) ?_
    refine lv_goto (tgt := 9) hx hb dH_asInt_5 (by decide) ?_
    exact W.iret (v := 1) hx hb hr (fun t ht hW => ⟨⟨1, σ, rfl, hw, by rw [ht]; exact hP, va_K.moved hW.alike hK, hD⟩, hS.F ht⟩) hS.2.2 dH_asInt_9
theorem dH_isCommand_0 : decode cH_isCommand 0 = .ok (.iload_n 0, 1) := by decide +kernel
theorem dH_isCommand_1 : decode cH_isCommand 1 = .ok (.ifCond .eq 13, 3) := by decide +kernel
theorem dH_isCommand_4 : decode cH_isCommand 4 = .ok (.iload_n 0, 1) := by decide +kernel
theorem dH_isCommand_5 : decode cH_isCommand 5 = .ok (.iconst 1, 1) := by decide +kernel
theorem dH_isCommand_6 : decode cH_isCommand 6 = .ok (.if_icmp .eq 8, 3) := by decide +kernel
theorem dH_isCommand_9 : decode cH_isCommand 9 = .ok (.iload_n 0, 1) := by decide +kernel
theorem dH_isCommand_10 : decode cH_isCommand 10 = .ok (.iconst 2, 1) := by decide +kernel
theorem dH_isCommand_11 : decode cH_isCommand 11 = .ok (.if_icmp .ne 7, 3) := by decide +kernel
theorem dH_isCommand_14 : decode cH_isCommand 14 = .ok (.iconst 1, 1) := by decide +kernel
theorem dH_isCommand_15 : decode cH_isCommand 15 = .ok (.goto 4, 3) := by decide +kernel
theorem dH_isCommand_18 : decode cH_isCommand 18 = .ok (.iconst 0, 1) := by decide +kernel
theorem dH_isCommand_19 : decode cH_isCommand 19 = .ok (.ireturn, 1) := by decide +kernel
def wp_isCommand (post : Int32 → Sg → Prop) (σ : Sg) (a0 : Int32) : Prop := (((a0 = 0) → post 1 σ) ∧ (¬ (a0 = 0) → (((a0 = 1) → post 1 σ) ∧ (¬ (a0 = 1) → ((¬ (a0 = 2) → post 0 σ) ∧ ((a0 = 2) → post 1 σ))))))
set_option maxHeartbeats 4000000 in
set_option maxRecDepth 100000 in
theorem c_isCommand (l : Launch) (D : va_G) (ca : Nat → ClassId) (ad : Nat → Nat → Nat) (σ : Sg) (a0 : Int32) (sz : Nat) (post : Int32 → Sg → Prop) (hw : wp_isCommand post σ a0) : Met l yH_isCommand wsH_isCommand ({ frames := 0, cells := 0, slots := 0, locals := 0 }) (va_Pc [.int a0] (preX D ca ad σ sz)) (va_Qi post (atX D ca ad (va_A (wX ca ad σ) sz)) (va_A (wX ca ad σ) sz)) 0 0 (va_A (wX ca ad σ) sz) := by
  refine Met.ofW (cc := cH_isCommand) (maxL := 1) (ret := (some .boolean)) (by decide) rfl ?_
  intro p e s m args below meth c s₁ B hml hv
  obtain ⟨rfl, hsz, hP, hK, hD0, hE⟩ := hv
  have hx := B.exec
  have hb := B.bytes
  have hr := B.returns
  have hts : ∀ w ∈ tbG, w.before _ s = true := fun w h => atoms_spec (ws := wsH_isCommand) B.pre w (List.mem_cons_of_mem _ h)
  have hown : s.vm.findClass RH = some m.cls := findClass_of_methodNamed B.named
  have hlocks := B.notSynchronized
  subst hsz
  have hD := hD0.self (sz := s.heap.size)
  generalize hAe : va_A (wX ca ad σ) s.heap.size = A at hD hE ⊢
  have hA : ∀ q : Nat, s.heap.size ≤ q → A q := fun q h => by rw [← hAe]; exact Or.inr h
  clear hAe
  have hS : va_S A s.heap s.heap [] := va_S.rf
  have hl := lv_entry ([.int a0]) (n := 1) (Nat.le_of_ble_eq_true rfl)
  rw [lg_entry_eq]
  generalize (lg_sl ([.int a0]) ++ List.replicate (1 - (lg_sl ([.int a0])).length) Slot.unset).toArray = ls at hl ⊢
  have hl : lv_has ls 1 [(0, .int a0)] := hl
  unfold wp_isCommand at hw
  have hP : va_P D clX (wX ca ad σ) s.heap := hP
  refine lv_iload_n hx hb dH_isCommand_0 rfl (lv_at hl 0 rfl) ?_
  refine lv_if_eq (tgt := 14) hx hb dH_isCommand_1 (by decide) (fun c1 => ?_) (fun c1 => ?_)
  · have hw := hw.1 c1
    refine lv_iconst (v := 1) hx hb dH_isCommand_14 (by decide) ?_
    refine lv_goto (tgt := 19) hx hb dH_isCommand_15 (by decide) ?_
    exact W.zret (ty := .boolean) (v := 1) hx hb hr (by decide) (fun t ht hW => ⟨⟨1, σ, rfl, hw, by rw [ht]; exact hP, va_K.moved hW.alike hK, hD⟩, hS.F ht⟩) hS.2.2 dH_isCommand_19
  · have hw := hw.2 c1
    refine lv_iload_n hx hb dH_isCommand_4 rfl (lv_at hl 0 rfl) ?_
    refine lv_iconst (v := 1) hx hb dH_isCommand_5 (by decide) ?_
    refine lv_icmp_eq (tgt := 14) hx hb dH_isCommand_6 (by decide) (fun c2 => ?_) (fun c2 => ?_)
    · have hw := hw.1 c2
      refine lv_iconst (v := 1) hx hb dH_isCommand_14 (by decide) ?_
      refine lv_goto (tgt := 19) hx hb dH_isCommand_15 (by decide) ?_
      exact W.zret (ty := .boolean) (v := 1) hx hb hr (by decide) (fun t ht hW => ⟨⟨1, σ, rfl, hw, by rw [ht]; exact hP, va_K.moved hW.alike hK, hD⟩, hS.F ht⟩) hS.2.2 dH_isCommand_19
    · have hw := hw.2 c2
      refine lv_iload_n hx hb dH_isCommand_9 rfl (lv_at hl 0 rfl) ?_
      refine lv_iconst (v := 2) hx hb dH_isCommand_10 (by decide) ?_
      refine lv_icmp_ne (tgt := 18) hx hb dH_isCommand_11 (by decide) (fun c3 => ?_) (fun c3 => ?_)
      · have hw := hw.1 c3
        refine lv_iconst (v := 0) hx hb dH_isCommand_18 (by decide) ?_
        exact W.zret (ty := .boolean) (v := 0) hx hb hr (by decide) (fun t ht hW => ⟨⟨0, σ, rfl, hw, by rw [ht]; exact hP, va_K.moved hW.alike hK, hD⟩, hS.F ht⟩) hS.2.2 dH_isCommand_19
      · have hw := hw.2 c3
        refine lv_iconst (v := 1) hx hb dH_isCommand_14 (by decide) ?_
        refine lv_goto (tgt := 19) hx hb dH_isCommand_15 (by decide) ?_
        exact W.zret (ty := .boolean) (v := 1) hx hb hr (by decide) (fun t ht hW => ⟨⟨1, σ, rfl, hw, by rw [ht]; exact hP, va_K.moved hW.alike hK, hD⟩, hS.F ht⟩) hS.2.2 dH_isCommand_19
theorem dP_waits_0 : decode cP_waits 0 = .ok (.aload_n 0, 1) := by decide +kernel
theorem dP_waits_1 : decode cP_waits 1 = .ok (.getfield 25, 3) := by decide +kernel
theorem dP_waits_4 : decode cP_waits 4 = .ok (.ifnull 7, 3) := by decide +kernel
theorem dP_waits_7 : decode cP_waits 7 = .ok (.iconst 1, 1) := by decide +kernel
theorem dP_waits_8 : decode cP_waits 8 = .ok (.goto 4, 3) := by decide +kernel
theorem dP_waits_11 : decode cP_waits 11 = .ok (.iconst 0, 1) := by decide +kernel
theorem dP_waits_12 : decode cP_waits 12 = .ok (.ireturn, 1) := by decide +kernel
def wp_waits (post : Int32 → Sg → Prop) (σ : Sg) (i : Nat) : Prop := (((sR σ i) = none → post 0 σ) ∧ (∀ j1 : Nat, (sR σ i) = some j1 → (j1 < sN σ ∧ post 1 σ)))
set_option maxHeartbeats 4000000 in
set_option maxRecDepth 100000 in
theorem c_waits (l : Launch) (D : va_G) (ca : Nat → ClassId) (ad : Nat → Nat → Nat) (σ : Sg) (i : Nat) (hi : i < 8) (sz : Nat) (post : Int32 → Sg → Prop) (hw : wp_waits post σ i) : Met l yP_waits wsP_waits ({ frames := 0, cells := 0, slots := 0, locals := 0 }) (va_Pc [.ref (ad 6 i)] (preX D ca ad σ sz)) (va_Qi post (atX D ca ad (va_A (wX ca ad σ) sz)) (va_A (wX ca ad σ) sz)) 0 0 (va_A (wX ca ad σ) sz) := by
  refine Met.ofW (cc := cP_waits) (maxL := 1) (ret := (some .boolean)) (by decide) rfl ?_
  intro p e s m args below meth c s₁ B hml hv
  obtain ⟨rfl, hsz, hP, hK, hD0, hE⟩ := hv
  have hx := B.exec
  have hb := B.bytes
  have hr := B.returns
  have hts : ∀ w ∈ tbG, w.before _ s = true := fun w h => atoms_spec (ws := wsP_waits) B.pre w (List.mem_cons_of_mem _ h)
  have hown : s.vm.findClass RP = some m.cls := findClass_of_methodNamed B.named
  have hlocks := B.notSynchronized
  subst hsz
  have hD := hD0.self (sz := s.heap.size)
  generalize hAe : va_A (wX ca ad σ) s.heap.size = A at hD hE ⊢
  have hA : ∀ q : Nat, s.heap.size ≤ q → A q := fun q h => by rw [← hAe]; exact Or.inr h
  clear hAe
  have hS : va_S A s.heap s.heap [] := va_S.rf
  have hl := lv_entry ([.ref (ad 6 i)]) (n := 1) (Nat.le_of_ble_eq_true rfl)
  rw [lg_entry_eq]
  generalize (lg_sl ([.ref (ad 6 i)]) ++ List.replicate (1 - (lg_sl ([.ref (ad 6 i)])).length) Slot.unset).toArray = ls at hl ⊢
  have hl : lv_has ls 1 [(0, .ref (ad 6 i))] := hl
  unfold wp_waits at hw
  have hP : va_P D clX (wX ca ad σ) s.heap := hP
  refine lv_aload_n hx hb dP_waits_0 rfl (lv_at hl 0 rfl) ?_
  refine va_get (D := D) (ci := 1) (v := va_re (ad 10) (sR σ i)) (C := RP) (T := TP) (N := 16) hx hb hts inP hown hK hP (6 + i) (gX_6 hi) rfl 5 (by decide) (hts _ tw_88) (fun _ h9 => h9) rfl dP_waits_1 ?_
  cases e2 : sR σ i with
  | none =>
    have hw := hw.1 e2
    try rw [e2]
    refine lv_ifnullN (tgt := 11) hx hb dP_waits_4 (by decide) ?_
    refine lv_iconst (v := 0) hx hb dP_waits_11 (by decide) ?_
    exact W.zret (ty := .boolean) (v := 0) hx hb hr (by decide) (fun t ht hW => ⟨⟨0, σ, rfl, hw, by rw [ht]; exact hP, va_K.moved hW.alike hK, hD⟩, hS.F ht⟩) hS.2.2 dP_waits_12
  | some j1 =>
    obtain ⟨hj3, hw⟩ := hw.2 j1 e2
    try rw [e2]
    refine lv_ifnull hx hb dP_waits_4 ?_
    refine lv_iconst (v := 1) hx hb dP_waits_7 (by decide) ?_
    refine lv_goto (tgt := 12) hx hb dP_waits_8 (by decide) ?_
    exact W.zret (ty := .boolean) (v := 1) hx hb hr (by decide) (fun t ht hW => ⟨⟨1, σ, rfl, hw, by rw [ht]; exact hP, va_K.moved hW.alike hK, hD⟩, hS.F ht⟩) hS.2.2 dP_waits_12
theorem dP_becomeIdle_0 : decode cP_becomeIdle 0 = .ok (.aload_n 0, 1) := by decide +kernel
theorem dP_becomeIdle_1 : decode cP_becomeIdle 1 = .ok (.aconst_null, 1) := by decide +kernel
theorem dP_becomeIdle_2 : decode cP_becomeIdle 2 = .ok (.putfield 25, 3) := by decide +kernel
theorem dP_becomeIdle_5 : decode cP_becomeIdle 5 = .ok (.aload_n 0, 1) := by decide +kernel
theorem dP_becomeIdle_6 : decode cP_becomeIdle 6 = .ok (.iconst 0, 1) := by decide +kernel
theorem dP_becomeIdle_7 : decode cP_becomeIdle 7 = .ok (.putfield 47, 3) := by decide +kernel
theorem dP_becomeIdle_10 : decode cP_becomeIdle 10 = .ok (.aload_n 0, 1) := by decide +kernel
theorem dP_becomeIdle_11 : decode cP_becomeIdle 11 = .ok (.iconst (-1), 1) := by decide +kernel
theorem dP_becomeIdle_12 : decode cP_becomeIdle 12 = .ok (.putfield 51, 3) := by decide +kernel
theorem dP_becomeIdle_15 : decode cP_becomeIdle 15 = .ok (.aload_n 0, 1) := by decide +kernel
theorem dP_becomeIdle_16 : decode cP_becomeIdle 16 = .ok (.iconst 0, 1) := by decide +kernel
theorem dP_becomeIdle_17 : decode cP_becomeIdle 17 = .ok (.putfield 57, 3) := by decide +kernel
theorem dP_becomeIdle_20 : decode cP_becomeIdle 20 = .ok (.return_, 1) := by decide +kernel
def wp_becomeIdle (post : Sg → Prop) (σ : Sg) (i : Nat) : Prop := post (uF 15 i 0 (uF 13 i (-1) (uF 12 i 0 (uR i none σ))))
set_option maxHeartbeats 4000000 in
set_option maxRecDepth 100000 in
theorem c_becomeIdle (l : Launch) (D : va_G) (ca : Nat → ClassId) (ad : Nat → Nat → Nat) (σ : Sg) (i : Nat) (hi : i < 8) (sz : Nat) (post : Sg → Prop) (hw : wp_becomeIdle post σ i) : Met l yP_becomeIdle wsP_becomeIdle ({ frames := 0, cells := 0, slots := 0, locals := 0 }) (va_Pc [.ref (ad 6 i)] (preX D ca ad σ sz)) (va_Qv post (atX D ca ad (va_A (wX ca ad σ) sz)) (va_A (wX ca ad σ) sz)) 0 0 (va_A (wX ca ad σ) sz) := by
  refine Met.ofW (cc := cP_becomeIdle) (maxL := 1) (ret := none) (by decide) rfl ?_
  intro p e s m args below meth c s₁ B hml hv
  obtain ⟨rfl, hsz, hP, hK, hD0, hE⟩ := hv
  have hx := B.exec
  have hb := B.bytes
  have hr := B.returns
  have hts : ∀ w ∈ tbG, w.before _ s = true := fun w h => atoms_spec (ws := wsP_becomeIdle) B.pre w (List.mem_cons_of_mem _ h)
  have hown : s.vm.findClass RP = some m.cls := findClass_of_methodNamed B.named
  have hlocks := B.notSynchronized
  subst hsz
  have hD := hD0.self (sz := s.heap.size)
  generalize hAe : va_A (wX ca ad σ) s.heap.size = A at hD hE ⊢
  have hA : ∀ q : Nat, s.heap.size ≤ q → A q := fun q h => by rw [← hAe]; exact Or.inr h
  clear hAe
  have hS : va_S A s.heap s.heap [] := va_S.rf
  have hl := lv_entry ([.ref (ad 6 i)]) (n := 1) (Nat.le_of_ble_eq_true rfl)
  rw [lg_entry_eq]
  generalize (lg_sl ([.ref (ad 6 i)]) ++ List.replicate (1 - (lg_sl ([.ref (ad 6 i)])).length) Slot.unset).toArray = ls at hl ⊢
  have hl : lv_has ls 1 [(0, .ref (ad 6 i))] := hl
  unfold wp_becomeIdle at hw
  have hP : va_P D clX (wX ca ad σ) s.heap := hP
  refine lv_aload_n hx hb dP_becomeIdle_0 rfl (lv_at hl 0 rfl) ?_
  refine lv_null hx hb dP_becomeIdle_1 ?_
  refine va_put (D := D) (ci := 1) (v := .null) (ty := (.object "PatronHall$Asking")) (C := RP) (T := TP) (N := 16) hx hb hts inP tyP tyP_ok nmP hown hK hP hD hS (6 + i) (gX_6 hi) rfl 5 (by decide) (hts _ tw_88) (fun _ h9 => h9) rfl (by decide +kernel) rfl rfl (Nat.le_of_ble_eq_true rfl) dP_becomeIdle_2 (fun H locs hP hD hS => ?_)
  rw [sX_6_askN hi] at hP hD
  refine lv_aload_n hx hb dP_becomeIdle_5 rfl (lv_at hl 0 rfl) ?_
  refine lv_iconst (v := 0) hx hb dP_becomeIdle_6 (by decide) ?_
  refine va_put (D := D) (ci := 1) (v := .int 0) (ty := .boolean) (C := RP) (T := TP) (N := 16) hx hb hts inP tyP tyP_ok nmP hown hK hP hD hS (6 + i) (gX_6 hi) rfl 12 (by decide) (hts _ tw_107) (fun _ h9 => h9) rfl (by decide +kernel) (by decide) (by decide) (Nat.le_of_ble_eq_true rfl) dP_becomeIdle_7 (fun H locs hP hD hS => ?_)
  rw [sX_6_12 hi] at hP hD
  refine lv_aload_n hx hb dP_becomeIdle_10 rfl (lv_at hl 0 rfl) ?_
  refine lv_iconst (v := (-1)) hx hb dP_becomeIdle_11 (by decide) ?_
  refine va_put (D := D) (ci := 1) (v := .int (-1)) (ty := .int) (C := RP) (T := TP) (N := 16) hx hb hts inP tyP tyP_ok nmP hown hK hP hD hS (6 + i) (gX_6 hi) rfl 13 (by decide) (hts _ tw_110) (fun _ h9 => h9) rfl (by decide +kernel) rfl rfl (Nat.le_of_ble_eq_true rfl) dP_becomeIdle_12 (fun H locs hP hD hS => ?_)
  rw [sX_6_13 hi] at hP hD
  refine lv_aload_n hx hb dP_becomeIdle_15 rfl (lv_at hl 0 rfl) ?_
  refine lv_iconst (v := 0) hx hb dP_becomeIdle_16 (by decide) ?_
  refine va_put (D := D) (ci := 1) (v := .int 0) (ty := .boolean) (C := RP) (T := TP) (N := 16) hx hb hts inP tyP tyP_ok nmP hown hK hP hD hS (6 + i) (gX_6 hi) rfl 15 (by decide) (hts _ tw_114) (fun _ h9 => h9) rfl (by decide +kernel) (by decide) (by decide) (Nat.le_of_ble_eq_true rfl) dP_becomeIdle_17 (fun H locs hP hD hS => ?_)
  rw [sX_6_15 hi] at hP hD
  exact W.vret hx hb hr (fun t ht hW => ⟨⟨(uF 15 i 0 (uF 13 i (-1) (uF 12 i 0 (uR i none σ)))), rfl, hw, by rw [ht]; exact hP, va_K.moved hW.alike hK, hD⟩, hS.F ht⟩) hS.2.2 dP_becomeIdle_20
theorem dP_turnToNextServer_0 : decode cP_turnToNextServer 0 = .ok (.aload_n 0, 1) := by decide +kernel
theorem dP_turnToNextServer_1 : decode cP_turnToNextServer 1 = .ok (.aload_n 0, 1) := by decide +kernel
theorem dP_turnToNextServer_2 : decode cP_turnToNextServer 2 = .ok (.getfield 32, 3) := by decide +kernel
theorem dP_turnToNextServer_5 : decode cP_turnToNextServer 5 = .ok (.iconst 1, 1) := by decide +kernel
theorem dP_turnToNextServer_6 : decode cP_turnToNextServer 6 = .ok (.iadd, 1) := by decide +kernel
theorem dP_turnToNextServer_7 : decode cP_turnToNextServer 7 = .ok (.bipush 7, 2) := by decide +kernel
theorem dP_turnToNextServer_9 : decode cP_turnToNextServer 9 = .ok (.if_icmp .ge 12, 3) := by decide +kernel
theorem dP_turnToNextServer_12 : decode cP_turnToNextServer 12 = .ok (.aload_n 0, 1) := by decide +kernel
theorem dP_turnToNextServer_13 : decode cP_turnToNextServer 13 = .ok (.getfield 32, 3) := by decide +kernel
theorem dP_turnToNextServer_16 : decode cP_turnToNextServer 16 = .ok (.iconst 1, 1) := by decide +kernel
theorem dP_turnToNextServer_17 : decode cP_turnToNextServer 17 = .ok (.iadd, 1) := by decide +kernel
theorem dP_turnToNextServer_18 : decode cP_turnToNextServer 18 = .ok (.goto 4, 3) := by decide +kernel
theorem dP_turnToNextServer_21 : decode cP_turnToNextServer 21 = .ok (.iconst 0, 1) := by decide +kernel
theorem dP_turnToNextServer_22 : decode cP_turnToNextServer 22 = .ok (.putfield 32, 3) := by decide +kernel
theorem dP_turnToNextServer_25 : decode cP_turnToNextServer 25 = .ok (.return_, 1) := by decide +kernel
def wp_turnToNextServer (post : Sg → Prop) (σ : Sg) (i : Nat) : Prop := (((7 ≤ ((sF σ 7 i) + 1)) → post (uF 7 i 0 σ)) ∧ (¬ (7 ≤ ((sF σ 7 i) + 1)) → post (uF 7 i ((sF σ 7 i) + 1) σ)))
set_option maxHeartbeats 4000000 in
set_option maxRecDepth 100000 in
theorem c_turnToNextServer (l : Launch) (D : va_G) (ca : Nat → ClassId) (ad : Nat → Nat → Nat) (σ : Sg) (i : Nat) (hi : i < 8) (sz : Nat) (post : Sg → Prop) (hw : wp_turnToNextServer post σ i) : Met l yP_turnToNextServer wsP_turnToNextServer ({ frames := 0, cells := 0, slots := 0, locals := 0 }) (va_Pc [.ref (ad 6 i)] (preX D ca ad σ sz)) (va_Qv post (atX D ca ad (va_A (wX ca ad σ) sz)) (va_A (wX ca ad σ) sz)) 0 0 (va_A (wX ca ad σ) sz) := by
  refine Met.ofW (cc := cP_turnToNextServer) (maxL := 1) (ret := none) (by decide) rfl ?_
  intro p e s m args below meth c s₁ B hml hv
  obtain ⟨rfl, hsz, hP, hK, hD0, hE⟩ := hv
  have hx := B.exec
  have hb := B.bytes
  have hr := B.returns
  have hts : ∀ w ∈ tbG, w.before _ s = true := fun w h => atoms_spec (ws := wsP_turnToNextServer) B.pre w (List.mem_cons_of_mem _ h)
  have hown : s.vm.findClass RP = some m.cls := findClass_of_methodNamed B.named
  have hlocks := B.notSynchronized
  subst hsz
  have hD := hD0.self (sz := s.heap.size)
  generalize hAe : va_A (wX ca ad σ) s.heap.size = A at hD hE ⊢
  have hA : ∀ q : Nat, s.heap.size ≤ q → A q := fun q h => by rw [← hAe]; exact Or.inr h
  clear hAe
  have hS : va_S A s.heap s.heap [] := va_S.rf
  have hl := lv_entry ([.ref (ad 6 i)]) (n := 1) (Nat.le_of_ble_eq_true rfl)
  rw [lg_entry_eq]
  generalize (lg_sl ([.ref (ad 6 i)]) ++ List.replicate (1 - (lg_sl ([.ref (ad 6 i)])).length) Slot.unset).toArray = ls at hl ⊢
  have hl : lv_has ls 1 [(0, .ref (ad 6 i))] := hl
  unfold wp_turnToNextServer at hw
  have hP : va_P D clX (wX ca ad σ) s.heap := hP
  refine lv_aload_n hx hb dP_turnToNextServer_0 rfl (lv_at hl 0 rfl) ?_
  refine lv_aload_n hx hb dP_turnToNextServer_1 rfl (lv_at hl 0 rfl) ?_
  refine va_get (D := D) (ci := 1) (v := .int (sF σ 7 i)) (C := RP) (T := TP) (N := 16) hx hb hts inP hown hK hP (6 + i) (gX_6 hi) rfl 7 (by decide) (hts _ tw_93) (fun _ h9 => h9) rfl dP_turnToNextServer_2 ?_
  refine lv_iconst (v := 1) hx hb dP_turnToNextServer_5 (by decide) ?_
  refine lv_iadd hx hb dP_turnToNextServer_6 ?_
  refine lv_bipush (v := 7) hx hb dP_turnToNextServer_7 (by decide) ?_
  refine lv_icmp_ge (tgt := 21) hx hb dP_turnToNextServer_9 (by decide) (fun c1 => ?_) (fun c1 => ?_)
  · have hw := hw.1 c1
    refine lv_iconst (v := 0) hx hb dP_turnToNextServer_21 (by decide) ?_
    refine va_put (D := D) (ci := 1) (v := .int 0) (ty := .int) (C := RP) (T := TP) (N := 16) hx hb hts inP tyP tyP_ok nmP hown hK hP hD hS (6 + i) (gX_6 hi) rfl 7 (by decide) (hts _ tw_93) (fun _ h9 => h9) rfl (by decide +kernel) rfl rfl (Nat.le_of_ble_eq_true rfl) dP_turnToNextServer_22 (fun H locs hP hD hS => ?_)
    rw [sX_6_7 hi] at hP hD
    exact W.vret hx hb hr (fun t ht hW => ⟨⟨(uF 7 i 0 σ), rfl, hw, by rw [ht]; exact hP, va_K.moved hW.alike hK, hD⟩, hS.F ht⟩) hS.2.2 dP_turnToNextServer_25
  · have hw := hw.2 c1
    refine lv_aload_n hx hb dP_turnToNextServer_12 rfl (lv_at hl 0 rfl) ?_
    refine va_get (D := D) (ci := 1) (v := .int (sF σ 7 i)) (C := RP) (T := TP) (N := 16) hx hb hts inP hown hK hP (6 + i) (gX_6 hi) rfl 7 (by decide) (hts _ tw_93) (fun _ h9 => h9) rfl dP_turnToNextServer_13 ?_
    refine lv_iconst (v := 1) hx hb dP_turnToNextServer_16 (by decide) ?_
    refine lv_iadd hx hb dP_turnToNextServer_17 ?_
    refine lv_goto (tgt := 22) hx hb dP_turnToNextServer_18 (by decide) ?_
    refine va_put (D := D) (ci := 1) (v := .int ((sF σ 7 i) + 1)) (ty := .int) (C := RP) (T := TP) (N := 16) hx hb hts inP tyP tyP_ok nmP hown hK hP hD hS (6 + i) (gX_6 hi) rfl 7 (by decide) (hts _ tw_93) (fun _ h9 => h9) rfl (by decide +kernel) rfl rfl (Nat.le_of_ble_eq_true rfl) dP_turnToNextServer_22 (fun H locs hP hD hS => ?_)
    rw [sX_6_7 hi] at hP hD
    exact W.vret hx hb hr (fun t ht hW => ⟨⟨(uF 7 i ((sF σ 7 i) + 1) σ), rfl, hw, by rw [ht]; exact hP, va_K.moved hW.alike hK, hD⟩, hS.F ht⟩) hS.2.2 dP_turnToNextServer_25
theorem dH_nextMoment_0 : decode cH_nextMoment 0 = .ok (.aload_n 0, 1) := by decide +kernel
theorem dH_nextMoment_1 : decode cH_nextMoment 1 = .ok (.getfield 40, 3) := by decide +kernel
theorem dH_nextMoment_4 : decode cH_nextMoment 4 = .ok (.istore_n 1, 1) := by decide +kernel
theorem dH_nextMoment_5 : decode cH_nextMoment 5 = .ok (.aload_n 0, 1) := by decide +kernel
theorem dH_nextMoment_6 : decode cH_nextMoment 6 = .ok (.dup, 1) := by decide +kernel
theorem dH_nextMoment_7 : decode cH_nextMoment 7 = .ok (.getfield 40, 3) := by decide +kernel
theorem dH_nextMoment_10 : decode cH_nextMoment 10 = .ok (.iconst 1, 1) := by decide +kernel
theorem dH_nextMoment_11 : decode cH_nextMoment 11 = .ok (.iadd, 1) := by decide +kernel
theorem dH_nextMoment_12 : decode cH_nextMoment 12 = .ok (.putfield 40, 3) := by decide +kernel
theorem dH_nextMoment_15 : decode cH_nextMoment 15 = .ok (.iload_n 1, 1) := by decide +kernel
theorem dH_nextMoment_16 : decode cH_nextMoment 16 = .ok (.ireturn, 1) := by decide +kernel
def wp_nextMoment (post : Int32 → Sg → Prop) (σ : Sg)  : Prop := post (sG σ 2) (uG 2 ((sG σ 2) + 1) σ)
set_option maxHeartbeats 4000000 in
set_option maxRecDepth 100000 in
theorem c_nextMoment (l : Launch) (D : va_G) (ca : Nat → ClassId) (ad : Nat → Nat → Nat) (σ : Sg)  (sz : Nat) (post : Int32 → Sg → Prop) (hw : wp_nextMoment post σ ) : Met l yH_nextMoment wsH_nextMoment ({ frames := 0, cells := 0, slots := 0, locals := 0 }) (va_Pc [.ref (ad 0 0)] (preX D ca ad σ sz)) (va_Qi post (atX D ca ad (va_A (wX ca ad σ) sz)) (va_A (wX ca ad σ) sz)) 0 0 (va_A (wX ca ad σ) sz) := by
  refine Met.ofW (cc := cH_nextMoment) (maxL := 2) (ret := (some .int)) (by decide) rfl ?_
  intro p e s m args below meth c s₁ B hml hv
  obtain ⟨rfl, hsz, hP, hK, hD0, hE⟩ := hv
  have hx := B.exec
  have hb := B.bytes
  have hr := B.returns
  have hts : ∀ w ∈ tbG, w.before _ s = true := fun w h => atoms_spec (ws := wsH_nextMoment) B.pre w (List.mem_cons_of_mem _ h)
  have hown : s.vm.findClass RH = some m.cls := findClass_of_methodNamed B.named
  have hlocks := B.notSynchronized
  subst hsz
  have hD := hD0.self (sz := s.heap.size)
  generalize hAe : va_A (wX ca ad σ) s.heap.size = A at hD hE ⊢
  have hA : ∀ q : Nat, s.heap.size ≤ q → A q := fun q h => by rw [← hAe]; exact Or.inr h
  clear hAe
  have hS : va_S A s.heap s.heap [] := va_S.rf
  have hl := lv_entry ([.ref (ad 0 0)]) (n := 2) (Nat.le_of_ble_eq_true rfl)
  rw [lg_entry_eq]
  generalize (lg_sl ([.ref (ad 0 0)]) ++ List.replicate (2 - (lg_sl ([.ref (ad 0 0)])).length) Slot.unset).toArray = ls at hl ⊢
  have hl : lv_has ls 2 [(0, .ref (ad 0 0))] := hl
  unfold wp_nextMoment at hw
  have hP : va_P D clX (wX ca ad σ) s.heap := hP
  refine lv_aload_n hx hb dH_nextMoment_0 rfl (lv_at hl 0 rfl) ?_
  refine va_get (D := D) (ci := 0) (v := .int (sG σ 2)) (C := RH) (T := TH) (N := 8) hx hb hts inH hown hK hP 0 gX_0 rfl 6 (by decide) (hts _ tw_156) (fun _ h9 => h9) rfl dH_nextMoment_1 ?_
  refine lv_istore_n (lv' := [(1, .int (sG σ 2)), (0, .ref (ad 0 0))]) hx hb dH_nextMoment_4 rfl hl (by decide) rfl (fun ls hl => ?_)
  refine lv_aload_n hx hb dH_nextMoment_5 rfl (lv_at hl 1 rfl) ?_
  refine lv_dup hx hb dH_nextMoment_6 rfl ?_
  refine va_get (D := D) (ci := 0) (v := .int (sG σ 2)) (C := RH) (T := TH) (N := 8) hx hb hts inH hown hK hP 0 gX_0 rfl 6 (by decide) (hts _ tw_156) (fun _ h9 => h9) rfl dH_nextMoment_7 ?_
  refine lv_iconst (v := 1) hx hb dH_nextMoment_10 (by decide) ?_
  refine lv_iadd hx hb dH_nextMoment_11 ?_
  refine va_put (D := D) (ci := 0) (v := .int ((sG σ 2) + 1)) (ty := .int) (C := RH) (T := TH) (N := 8) hx hb hts inH tyH tyH_ok nmH hown hK hP hD hS 0 gX_0 rfl 6 (by decide) (hts _ tw_156) (fun _ h9 => h9) rfl (by decide +kernel) rfl rfl (Nat.le_of_ble_eq_true rfl) dH_nextMoment_12 (fun H locs hP hD hS => ?_)
  rw [sX_0_6] at hP hD
  refine lv_iload_n hx hb dH_nextMoment_15 rfl (lv_at hl 0 rfl) ?_
  exact W.iret (v := (sG σ 2)) hx hb hr (fun t ht hW => ⟨⟨(sG σ 2), (uG 2 ((sG σ 2) + 1) σ), rfl, hw, by rw [ht]; exact hP, va_K.moved hW.alike hK, hD⟩, hS.F ht⟩) hS.2.2 dH_nextMoment_16
theorem dH_takeTape_0 : decode cH_takeTape 0 = .ok (.aload_n 0, 1) := by decide +kernel
theorem dH_takeTape_1 : decode cH_takeTape 1 = .ok (.getfield 33, 3) := by decide +kernel
theorem dH_takeTape_4 : decode cH_takeTape 4 = .ok (.istore_n 1, 1) := by decide +kernel
theorem dH_takeTape_5 : decode cH_takeTape 5 = .ok (.aload_n 0, 1) := by decide +kernel
theorem dH_takeTape_6 : decode cH_takeTape 6 = .ok (.iconst 0, 1) := by decide +kernel
theorem dH_takeTape_7 : decode cH_takeTape 7 = .ok (.putfield 33, 3) := by decide +kernel
theorem dH_takeTape_10 : decode cH_takeTape 10 = .ok (.iload_n 1, 1) := by decide +kernel
theorem dH_takeTape_11 : decode cH_takeTape 11 = .ok (.ireturn, 1) := by decide +kernel
def wp_takeTape (post : Int32 → Sg → Prop) (σ : Sg)  : Prop := post (sG σ 0) (uG 0 0 σ)
set_option maxHeartbeats 4000000 in
set_option maxRecDepth 100000 in
theorem c_takeTape (l : Launch) (D : va_G) (ca : Nat → ClassId) (ad : Nat → Nat → Nat) (σ : Sg)  (sz : Nat) (post : Int32 → Sg → Prop) (hw : wp_takeTape post σ ) : Met l yH_takeTape wsH_takeTape ({ frames := 0, cells := 0, slots := 0, locals := 0 }) (va_Pc [.ref (ad 0 0)] (preX D ca ad σ sz)) (va_Qi post (atX D ca ad (va_A (wX ca ad σ) sz)) (va_A (wX ca ad σ) sz)) 0 0 (va_A (wX ca ad σ) sz) := by
  refine Met.ofW (cc := cH_takeTape) (maxL := 2) (ret := (some .int)) (by decide) rfl ?_
  intro p e s m args below meth c s₁ B hml hv
  obtain ⟨rfl, hsz, hP, hK, hD0, hE⟩ := hv
  have hx := B.exec
  have hb := B.bytes
  have hr := B.returns
  have hts : ∀ w ∈ tbG, w.before _ s = true := fun w h => atoms_spec (ws := wsH_takeTape) B.pre w (List.mem_cons_of_mem _ h)
  have hown : s.vm.findClass RH = some m.cls := findClass_of_methodNamed B.named
  have hlocks := B.notSynchronized
  subst hsz
  have hD := hD0.self (sz := s.heap.size)
  generalize hAe : va_A (wX ca ad σ) s.heap.size = A at hD hE ⊢
  have hA : ∀ q : Nat, s.heap.size ≤ q → A q := fun q h => by rw [← hAe]; exact Or.inr h
  clear hAe
  have hS : va_S A s.heap s.heap [] := va_S.rf
  have hl := lv_entry ([.ref (ad 0 0)]) (n := 2) (Nat.le_of_ble_eq_true rfl)
  rw [lg_entry_eq]
  generalize (lg_sl ([.ref (ad 0 0)]) ++ List.replicate (2 - (lg_sl ([.ref (ad 0 0)])).length) Slot.unset).toArray = ls at hl ⊢
  have hl : lv_has ls 2 [(0, .ref (ad 0 0))] := hl
  unfold wp_takeTape at hw
  have hP : va_P D clX (wX ca ad σ) s.heap := hP
  refine lv_aload_n hx hb dH_takeTape_0 rfl (lv_at hl 0 rfl) ?_
  refine va_get (D := D) (ci := 0) (v := .int (sG σ 0)) (C := RH) (T := TH) (N := 8) hx hb hts inH hown hK hP 0 gX_0 rfl 4 (by decide) (hts _ tw_154) (fun _ h9 => h9) rfl dH_takeTape_1 ?_
  refine lv_istore_n (lv' := [(1, .int (sG σ 0)), (0, .ref (ad 0 0))]) hx hb dH_takeTape_4 rfl hl (by decide) rfl (fun ls hl => ?_)
  refine lv_aload_n hx hb dH_takeTape_5 rfl (lv_at hl 1 rfl) ?_
  refine lv_iconst (v := 0) hx hb dH_takeTape_6 (by decide) ?_
  refine va_put (D := D) (ci := 0) (v := .int 0) (ty := .int) (C := RH) (T := TH) (N := 8) hx hb hts inH tyH tyH_ok nmH hown hK hP hD hS 0 gX_0 rfl 4 (by decide) (hts _ tw_154) (fun _ h9 => h9) rfl (by decide +kernel) rfl rfl (Nat.le_of_ble_eq_true rfl) dH_takeTape_7 (fun H locs hP hD hS => ?_)
  rw [sX_0_4] at hP hD
  refine lv_iload_n hx hb dH_takeTape_10 rfl (lv_at hl 0 rfl) ?_
  exact W.iret (v := (sG σ 0)) hx hb hr (fun t ht hW => ⟨⟨(sG σ 0), (uG 0 0 σ), rfl, hw, by rw [ht]; exact hP, va_K.moved hW.alike hK, hD⟩, hS.F ht⟩) hS.2.2 dH_takeTape_11
theorem dG_firstCell_0 : decode cG_firstCell 0 = .ok (.iload_n 0, 1) := by decide +kernel
theorem dG_firstCell_1 : decode cG_firstCell 1 = .ok (.bipush 63, 2) := by decide +kernel
theorem dG_firstCell_3 : decode cG_firstCell 3 = .ok (.iand, 1) := by decide +kernel
theorem dG_firstCell_4 : decode cG_firstCell 4 = .ok (.bipush 8, 2) := by decide +kernel
theorem dG_firstCell_6 : decode cG_firstCell 6 = .ok (.imul, 1) := by decide +kernel
theorem dG_firstCell_7 : decode cG_firstCell 7 = .ok (.ireturn, 1) := by decide +kernel
def wp_firstCell (post : Int32 → Sg → Prop) (σ : Sg) (a0 : Int32) : Prop := post ((a0 &&& 63) * 8) σ
set_option maxHeartbeats 4000000 in
set_option maxRecDepth 100000 in
theorem c_firstCell (l : Launch) (D : va_G) (ca : Nat → ClassId) (ad : Nat → Nat → Nat) (σ : Sg) (a0 : Int32) (sz : Nat) (post : Int32 → Sg → Prop) (hw : wp_firstCell post σ a0) : Met l yG_firstCell wsG_firstCell ({ frames := 0, cells := 0, slots := 0, locals := 0 }) (va_Pc [.int a0] (preX D ca ad σ sz)) (va_Qi post (atX D ca ad (va_A (wX ca ad σ) sz)) (va_A (wX ca ad σ) sz)) 0 0 (va_A (wX ca ad σ) sz) := by
  refine Met.ofW (cc := cG_firstCell) (maxL := 1) (ret := (some .int)) (by decide) rfl ?_
  intro p e s m args below meth c s₁ B hml hv
  obtain ⟨rfl, hsz, hP, hK, hD0, hE⟩ := hv
  have hx := B.exec
  have hb := B.bytes
  have hr := B.returns
  have hts : ∀ w ∈ tbG, w.before _ s = true := fun w h => atoms_spec (ws := wsG_firstCell) B.pre w (List.mem_cons_of_mem _ h)
  have hown : s.vm.findClass RG = some m.cls := findClass_of_methodNamed B.named
  have hlocks := B.notSynchronized
  subst hsz
  have hD := hD0.self (sz := s.heap.size)
  generalize hAe : va_A (wX ca ad σ) s.heap.size = A at hD hE ⊢
  have hA : ∀ q : Nat, s.heap.size ≤ q → A q := fun q h => by rw [← hAe]; exact Or.inr h
  clear hAe
  have hS : va_S A s.heap s.heap [] := va_S.rf
  have hl := lv_entry ([.int a0]) (n := 1) (Nat.le_of_ble_eq_true rfl)
  rw [lg_entry_eq]
  generalize (lg_sl ([.int a0]) ++ List.replicate (1 - (lg_sl ([.int a0])).length) Slot.unset).toArray = ls at hl ⊢
  have hl : lv_has ls 1 [(0, .int a0)] := hl
  unfold wp_firstCell at hw
  have hP : va_P D clX (wX ca ad σ) s.heap := hP
  refine lv_iload_n hx hb dG_firstCell_0 rfl (lv_at hl 0 rfl) ?_
  refine lv_bipush (v := 63) hx hb dG_firstCell_1 (by decide) ?_
  refine lv_iand hx hb dG_firstCell_3 ?_
  refine lv_bipush (v := 8) hx hb dG_firstCell_4 (by decide) ?_
  refine lv_imul hx hb dG_firstCell_6 ?_
  exact W.iret (v := ((a0 &&& 63) * 8)) hx hb hr (fun t ht hW => ⟨⟨((a0 &&& 63) * 8), σ, rfl, hw, by rw [ht]; exact hP, va_K.moved hW.alike hK, hD⟩, hS.F ht⟩) hS.2.2 dG_firstCell_7
theorem dH_patronOf_0 : decode cH_patronOf 0 = .ok (.iload_n 1, 1) := by decide +kernel
theorem dH_patronOf_1 : decode cH_patronOf 1 = .ok (.ifCond .lt 9, 3) := by decide +kernel
theorem dH_patronOf_4 : decode cH_patronOf 4 = .ok (.iload_n 1, 1) := by decide +kernel
theorem dH_patronOf_5 : decode cH_patronOf 5 = .ok (.bipush 8, 2) := by decide +kernel
theorem dH_patronOf_7 : decode cH_patronOf 7 = .ok (.if_icmp .lt 13, 3) := by decide +kernel
theorem dH_patronOf_10 : decode cH_patronOf 10 = .ok (.new 172, 3) := by decide +kernel
theorem dH_patronOf_13 : decode cH_patronOf 13 = .ok (.dup, 1) := by decide +kernel
theorem dH_patronOf_14 : decode cH_patronOf 14 = .ok (.ldc 229, 2) := by decide +kernel
theorem dH_patronOf_16 : decode cH_patronOf 16 = .ok (.invokespecial 176, 3) := by decide +kernel
theorem dH_patronOf_19 : decode cH_patronOf 19 = .ok (.athrow, 1) := by decide +kernel
theorem dH_patronOf_20 : decode cH_patronOf 20 = .ok (.aload_n 0, 1) := by decide +kernel
theorem dH_patronOf_21 : decode cH_patronOf 21 = .ok (.getfield 11, 3) := by decide +kernel
theorem dH_patronOf_24 : decode cH_patronOf 24 = .ok (.iload_n 1, 1) := by decide +kernel
theorem dH_patronOf_25 : decode cH_patronOf 25 = .ok (.aaload, 1) := by decide +kernel
theorem dH_patronOf_26 : decode cH_patronOf 26 = .ok (.areturn, 1) := by decide +kernel
def wp_patronOf (post : Option Nat → Sg → Prop) (px : String → Sg → Prop) (σ : Sg) (a0 : Int32) : Prop := (((a0 < 0) → px "java/lang/IndexOutOfBoundsException" σ) ∧ (¬ (a0 < 0) → (((a0 < 8) → (vp_in a0 8 ∧ post (some ((a0).toNatClampNeg)) σ)) ∧ (¬ (a0 < 8) → px "java/lang/IndexOutOfBoundsException" σ))))
set_option maxHeartbeats 4000000 in
set_option maxRecDepth 100000 in
theorem c_patronOf (l : Launch) (D : va_G) (ca : Nat → ClassId) (ad : Nat → Nat → Nat) (σ : Sg) (a0 : Int32) (sz : Nat) (post : Option Nat → Sg → Prop) (px : String → Sg → Prop) (hl0 : l.stackTraces = false) (hw : wp_patronOf post px σ a0) : vx_Met l yH_patronOf wsH_patronOf ({ frames := 8, cells := 1, slots := 6, locals := 120 }) (va_Pc [.ref (ad 0 0), .int a0] (preX D ca ad σ sz)) (va_Qe (ad 6) post (atX D ca ad (va_A (wX ca ad σ) sz)) (va_A (wX ca ad σ) sz)) (vx_X (fun u : String × Sg => px u.1 u.2) (atXx D ca ad (va_A (wX ca ad σ) sz)) (va_A (wX ca ad σ) sz)) 1 6 (va_A (wX ca ad σ) sz) := by
  refine vx_ofW (cc := cH_patronOf) (maxL := 2) (ret := (some (.object "PatronHall$Patron"))) (by decide) rfl ?_
  intro p e s m args below meth c s₁ B hml hexc hv
  obtain ⟨rfl, hsz, hP, hK, hD0, hE⟩ := hv
  have hx := B.exec
  have hb := B.bytes
  have hr := B.returns
  have hts : ∀ w ∈ tbG, w.before _ s = true := fun w h => atoms_spec (ws := wsH_patronOf) B.pre w (List.mem_cons_of_mem _ h)
  have hown : s.vm.findClass RH = some m.cls := findClass_of_methodNamed B.named
  have hlocks := B.notSynchronized
  subst hsz
  have hD := hD0.self (sz := s.heap.size)
  generalize hAe : va_A (wX ca ad σ) s.heap.size = A at hD hE ⊢
  have hA : ∀ q : Nat, s.heap.size ≤ q → A q := fun q h => by rw [← hAe]; exact Or.inr h
  clear hAe
  have hS : va_S A s.heap s.heap [] := va_S.rf
  have hl := lv_entry ([.ref (ad 0 0), .int a0]) (n := 2) (Nat.le_of_ble_eq_true rfl)
  rw [lg_entry_eq]
  generalize (lg_sl ([.ref (ad 0 0), .int a0]) ++ List.replicate (2 - (lg_sl ([.ref (ad 0 0), .int a0])).length) Slot.unset).toArray = ls at hl ⊢
  have hl : lv_has ls 2 [(0, .ref (ad 0 0)), (1, .int a0)] := hl
  unfold wp_patronOf at hw
  have hP : va_P D clX (wX ca ad σ) s.heap := hP
  refine lv_iload_n hx hb dH_patronOf_0 rfl (lv_at hl 1 rfl) ?_
  refine lv_if_lt (tgt := 10) hx hb dH_patronOf_1 (by decide) (fun c1 => ?_) (fun c1 => ?_)
  · have hw := hw.1 c1
    obtain ⟨sa9, hstr⟩ := hE.str 2 _ rfl
    exact vx_throwS (names := ["java/lang/RuntimeException", "java/lang/Exception"]) hx hb hl0 hown (by decide +kernel) (by decide +kernel) (hts _ tw_313) (hts _ tw_13) hstr (hE.hat176 hts) gd_176 hE.1 hE.2.1 hS (hl.1.trans hml.symm) dH_patronOf_10 dH_patronOf_13 dH_patronOf_14 dH_patronOf_16 dH_patronOf_19 (fun x9 h9 => (hexc x9 h9).elim) (by decide) (by decide) (by decide) (by decide) hlocks (fun t hv hz hk => ⟨(_, σ), hw, ⟨rfl, hP.kept (fun k9 q9 h9 => hk _ (va_at.lt (hP k9 q9 h9))), va_K.moved hv hK, hD⟩, va_S.F2 hS hz hk⟩) hS.2.2 (by decide) (by decide)
  · have hw := hw.2 c1
    refine lv_iload_n hx hb dH_patronOf_4 rfl (lv_at hl 1 rfl) ?_
    refine lv_bipush (v := 8) hx hb dH_patronOf_5 (by decide) ?_
    refine lv_icmp_lt (tgt := 20) hx hb dH_patronOf_7 (by decide) (fun c2 => ?_) (fun c2 => ?_)
    · have hw := hw.1 c2
      refine lv_aload_n hx hb dH_patronOf_20 rfl (lv_at hl 0 rfl) ?_
      refine va_get (D := D) (ci := 0) (v := .ref (ad 1 0)) (C := RH) (T := TH) (N := 8) hx hb hts inH hown hK hP 0 gX_0 rfl 0 (by decide) (hts _ tw_150) (fun _ h9 => h9) rfl dH_patronOf_21 ?_
      refine lv_iload_n hx hb dH_patronOf_24 rfl (lv_at hl 1 rfl) ?_
      obtain ⟨hin3, hw⟩ := hw
      have hj4 := px_lt hin3
      refine va_aldq hx hb hK hP 1 2 gX_1 rfl hin3 dH_patronOf_25 ?_
      refine W.eq (g2 := F0 m 26 ls [.ref (ad 6 ((a0).toNatClampNeg))]) rfl ?_
      refine W.widen (k := 1) (n := 6) (by decide) (by decide) ?_
      exact vx_ret (W.aret (v := va_re (ad 6) (some ((a0).toNatClampNeg))) (rt := .object "PatronHall$Patron") hx hb hr (Or.inl ⟨_, rfl⟩) (va_re_or _ _) (fun t ht hW => ⟨⟨(some ((a0).toNatClampNeg)), σ, rfl, hw, by rw [ht]; exact hP, va_K.moved hW.alike hK, hD⟩, hS.F ht⟩) hS.2.2 dH_patronOf_26)
    · have hw := hw.2 c2
      obtain ⟨sa9, hstr⟩ := hE.str 2 _ rfl
      exact vx_throwS (names := ["java/lang/RuntimeException", "java/lang/Exception"]) hx hb hl0 hown (by decide +kernel) (by decide +kernel) (hts _ tw_313) (hts _ tw_13) hstr (hE.hat176 hts) gd_176 hE.1 hE.2.1 hS (hl.1.trans hml.symm) dH_patronOf_10 dH_patronOf_13 dH_patronOf_14 dH_patronOf_16 dH_patronOf_19 (fun x9 h9 => (hexc x9 h9).elim) (by decide) (by decide) (by decide) (by decide) hlocks (fun t hv hz hk => ⟨(_, σ), hw, ⟨rfl, hP.kept (fun k9 q9 h9 => hk _ (va_at.lt (hP k9 q9 h9))), va_K.moved hv hK, hD⟩, va_S.F2 hS hz hk⟩) hS.2.2 (by decide) (by decide)
theorem dH_tell_0 : decode cH_tell 0 = .ok (.aload_n 1, 1) := by decide +kernel
theorem dH_tell_1 : decode cH_tell 1 = .ok (.getfield 251, 3) := by decide +kernel
theorem dH_tell_4 : decode cH_tell 4 = .ok (.astore 4, 2) := by decide +kernel
theorem dH_tell_6 : decode cH_tell 6 = .ok (.aload 4, 2) := by decide +kernel
theorem dH_tell_8 : decode cH_tell 8 = .ok (.ifnonnull 4, 3) := by decide +kernel
theorem dH_tell_11 : decode cH_tell 11 = .ok (.return_, 1) := by decide +kernel
theorem dH_tell_12 : decode cH_tell 12 = .ok (.aload 4, 2) := by decide +kernel
theorem dH_tell_14 : decode cH_tell 14 = .ok (.iload_n 2, 1) := by decide +kernel
theorem dH_tell_15 : decode cH_tell 15 = .ok (.putfield 215, 3) := by decide +kernel
theorem dH_tell_18 : decode cH_tell 18 = .ok (.aload 4, 2) := by decide +kernel
theorem dH_tell_20 : decode cH_tell 20 = .ok (.iload_n 3, 1) := by decide +kernel
theorem dH_tell_21 : decode cH_tell 21 = .ok (.putfield 218, 3) := by decide +kernel
theorem dH_tell_24 : decode cH_tell 24 = .ok (.aload 4, 2) := by decide +kernel
theorem dH_tell_26 : decode cH_tell 26 = .ok (.aload_n 0, 1) := by decide +kernel
theorem dH_tell_27 : decode cH_tell 27 = .ok (.invokevirtual 86, 3) := by decide +kernel
theorem dH_tell_30 : decode cH_tell 30 = .ok (.putfield 212, 3) := by decide +kernel
theorem dH_tell_33 : decode cH_tell 33 = .ok (.aload_n 1, 1) := by decide +kernel
theorem dH_tell_34 : decode cH_tell 34 = .ok (.invokevirtual 255, 3) := by decide +kernel
theorem dH_tell_37 : decode cH_tell 37 = .ok (.return_, 1) := by decide +kernel
def wp_tell (post : Sg → Prop) (σ : Sg) (k0 : Nat) (a1 : Int32) (a2 : Int32) : Prop := (((sR σ k0) = none → post σ) ∧ (∀ j1 : Nat, (sR σ k0) = some j1 → (j1 < sN σ ∧ wp_nextMoment (fun r5 s4 => (j1 < sN s4 ∧ wp_becomeIdle (fun s7 => post s7) (uH 3 j1 r5 s4) k0)) (uH 5 j1 a2 (uH 4 j1 a1 σ)))))
set_option maxHeartbeats 4000000 in
set_option maxRecDepth 100000 in
theorem c_tell (l : Launch) (D : va_G) (ca : Nat → ClassId) (ad : Nat → Nat → Nat) (σ : Sg) (k0 : Nat) (hk0 : k0 < 8) (a1 : Int32) (a2 : Int32) (sz : Nat) (post : Sg → Prop) (hw : wp_tell post σ k0 a1 a2) : Met l yH_tell wsH_tell ({ frames := 1, cells := 0, slots := 0, locals := 21 }) (va_Pc [.ref (ad 0 0), .ref (ad 6 k0), .int a1, .int a2] (preX D ca ad σ sz)) (va_Qv post (atX D ca ad (va_A (wX ca ad σ) sz)) (va_A (wX ca ad σ) sz)) 0 0 (va_A (wX ca ad σ) sz) := by
  refine Met.ofW (cc := cH_tell) (maxL := 5) (ret := none) (by decide) rfl ?_
  intro p e s m args below meth c s₁ B hml hv
  obtain ⟨rfl, hsz, hP, hK, hD0, hE⟩ := hv
  have hx := B.exec
  have hb := B.bytes
  have hr := B.returns
  have hts : ∀ w ∈ tbG, w.before _ s = true := fun w h => atoms_spec (ws := wsH_tell) B.pre w (List.mem_cons_of_mem _ h)
  have hown : s.vm.findClass RH = some m.cls := findClass_of_methodNamed B.named
  have hlocks := B.notSynchronized
  subst hsz
  have hD := hD0.self (sz := s.heap.size)
  generalize hAe : va_A (wX ca ad σ) s.heap.size = A at hD hE ⊢
  have hA : ∀ q : Nat, s.heap.size ≤ q → A q := fun q h => by rw [← hAe]; exact Or.inr h
  clear hAe
  have hS : va_S A s.heap s.heap [] := va_S.rf
  have hl := lv_entry ([.ref (ad 0 0), .ref (ad 6 k0), .int a1, .int a2]) (n := 5) (Nat.le_of_ble_eq_true rfl)
  rw [lg_entry_eq]
  generalize (lg_sl ([.ref (ad 0 0), .ref (ad 6 k0), .int a1, .int a2]) ++ List.replicate (5 - (lg_sl ([.ref (ad 0 0), .ref (ad 6 k0), .int a1, .int a2])).length) Slot.unset).toArray = ls at hl ⊢
  have hl : lv_has ls 5 [(0, .ref (ad 0 0)), (1, .ref (ad 6 k0)), (2, .int a1), (3, .int a2)] := hl
  unfold wp_tell at hw
  have hP : va_P D clX (wX ca ad σ) s.heap := hP
  refine lv_aload_n hx hb dH_tell_0 rfl (lv_at hl 1 rfl) ?_
  refine va_get (D := D) (ci := 1) (v := va_re (ad 10) (sR σ k0)) (C := RP) (T := TP) (N := 16) hx hb hts inP hown hK hP (6 + k0) (gX_6 hk0) rfl 5 (by decide) (hts _ tw_89) (fun _ h9 => h9) rfl dH_tell_1 ?_
  cases e2 : sR σ k0 with
  | none =>
    have hw := hw.1 e2
    try rw [e2]
    refine lv_astoreN (lv' := [(4, .null), (0, .ref (ad 0 0)), (1, .ref (ad 6 k0)), (2, .int a1), (3, .int a2)]) hx hb dH_tell_4 hl (by decide) rfl (fun ls hl => ?_)
    refine lv_aloadN hx hb dH_tell_6 (lv_at hl 0 rfl) ?_
    refine lv_ifnonnullN hx hb dH_tell_8 ?_
    exact W.vret hx hb hr (fun t ht hW => ⟨⟨σ, rfl, hw, by rw [ht]; exact hP, va_K.moved hW.alike hK, hD⟩, hS.F ht⟩) hS.2.2 dH_tell_11
  | some j1 =>
    obtain ⟨hj3, hw⟩ := hw.2 j1 e2
    try rw [e2]
    refine lv_astore (lv' := [(4, .ref (ad 10 j1)), (0, .ref (ad 0 0)), (1, .ref (ad 6 k0)), (2, .int a1), (3, .int a2)]) hx hb dH_tell_4 hl (by decide) rfl (fun ls hl => ?_)
    refine lv_aload hx hb dH_tell_6 (lv_at hl 0 rfl) ?_
    refine lv_ifnonnull (tgt := 12) hx hb dH_tell_8 (by decide) ?_
    refine lv_aload hx hb dH_tell_12 (lv_at hl 0 rfl) ?_
    refine lv_iload_n hx hb dH_tell_14 rfl (lv_at hl 3 rfl) ?_
    refine va_put (D := D) (ci := 2) (v := .int a1) (ty := .int) (C := RQ) (T := TQ) (N := 6) hx hb hts inQ tyQ tyQ_ok nmQ hown hK hP hD hS (6 + (8 + (8 + (8 + j1)))) (gX_10 hj3) rfl 4 (by decide) (hts _ tw_360) (fun _ h9 => h9) rfl (by decide +kernel) rfl rfl (Nat.le_of_ble_eq_true rfl) dH_tell_15 (fun H locs hP hD hS => ?_)
    rw [sX_10_4 (σ := σ) hj3] at hP hD
    refine lv_aload hx hb dH_tell_18 (lv_at hl 0 rfl) ?_
    refine lv_iload_n hx hb dH_tell_20 rfl (lv_at hl 4 rfl) ?_
    refine va_put (D := D) (ci := 2) (v := .int a2) (ty := .int) (C := RQ) (T := TQ) (N := 6) hx hb hts inQ tyQ tyQ_ok nmQ hown hK hP hD hS (6 + (8 + (8 + (8 + j1)))) (gX_10 hj3) rfl 5 (by decide) (hts _ tw_362) (fun _ h9 => h9) rfl (by decide +kernel) rfl rfl (Nat.le_of_ble_eq_true rfl) dH_tell_21 (fun H locs hP hD hS => ?_)
    rw [sX_10_5 (σ := (uH 4 j1 a1 σ)) hj3] at hP hD
    refine lv_aload hx hb dH_tell_24 (lv_at hl 0 rfl) ?_
    refine lv_aload_n hx hb dH_tell_26 rfl (lv_at hl 1 rfl) ?_
    have hFc := px_free hD hS hA
    refine va_calli (va_runV (As := []) (rest := [.ref (ad 10 j1)]) ⟨hx, hb, hml, hown, hts⟩ (c_nextMoment l D ca ad (uH 5 j1 a2 (uH 4 j1 a1 σ))  _ _ hw) (cwV 0 hts (gV tw_342 tw_344 tp_4 tw_1 tw_345) rfl rfl rfl (by decide +kernel) ⟨Nat.le_of_ble_eq_true rfl, Nat.le_of_ble_eq_true rfl⟩) ⟨px_blind, (px_recv hK hP gX_0 rfl), fun U hU hW => px_pre hP hK hD hE hS hFc hU hW⟩ rfl rfl hl.1 rfl (lv_room (Nat.le_of_ble_eq_true rfl)) dH_tell_27 ⟨Nat.le_of_ble_eq_true rfl, Nat.le_of_ble_eq_true rfl⟩) hS (fun q _ h => hFc q h) hFc (fun r5 s4 t H locs ht hvm hw hB _ _ hS => ?_)
    obtain ⟨hP, -, hD⟩ := hB
    rw [ht] at hP
    have hD := hD.weaken (fun _ _ _ h9 => hFc _ h9)
    obtain ⟨hb6, hw⟩ := hw
    refine va_put (D := D) (ci := 2) (v := .int r5) (ty := .int) (C := RQ) (T := TQ) (N := 6) hx hb hts inQ tyQ tyQ_ok nmQ hown hK hP hD hS (6 + (8 + (8 + (8 + j1)))) (gX_10 hb6) rfl 3 (by decide) (hts _ tw_358) (fun _ h9 => h9) rfl (by decide +kernel) rfl rfl (Nat.le_of_ble_eq_true rfl) dH_tell_30 (fun H locs hP hD hS => ?_)
    rw [sX_10_3 (σ := s4) hb6] at hP hD
    refine lv_aload_n hx hb dH_tell_33 rfl (lv_at hl 2 rfl) ?_
    have hFc := px_free hD hS hA
    refine va_callv (va_runV (As := []) (rest := []) ⟨hx, hb, hml, hown, hts⟩ (c_becomeIdle l D ca ad (uH 3 j1 r5 s4) k0 hk0 _ _ hw) (cwV 0 hts (gV tw_459 tw_460 tw_461 tw_6 tw_462) rfl rfl rfl (by decide +kernel) ⟨Nat.le_of_ble_eq_true rfl, Nat.le_of_ble_eq_true rfl⟩) ⟨px_blind, (px_recv hK hP (gX_6 hk0) rfl), fun U hU hW => px_pre hP hK hD hE hS hFc hU hW⟩ rfl rfl hl.1 rfl (lv_room (Nat.le_of_ble_eq_true rfl)) dH_tell_34 ⟨Nat.le_of_ble_eq_true rfl, Nat.le_of_ble_eq_true rfl⟩) hS (fun q _ h => hFc q h) hFc (fun s7 t H locs ht hvm hw hB _ _ hS => ?_)
    obtain ⟨hP, -, hD⟩ := hB
    rw [ht] at hP
    have hD := hD.weaken (fun _ _ _ h9 => hFc _ h9)
    exact W.vret hx hb hr (fun t ht hW => ⟨⟨s7, rfl, hw, by rw [ht]; exact hP, va_K.moved hW.alike hK, hD⟩, hS.F ht⟩) hS.2.2 dH_tell_37
